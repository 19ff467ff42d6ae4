section
-- ===== PART A: goes FIRST, ahead of the names: the tables' words, and 'selects' of the private methods out of them =====
/-- a private method of a class that the tables say can be made, by its rows of tables_1 -/
def lw_okq (q : MethodName × Nat) : Prop := (q.1.cls ≠ "java/lang/invoke/MethodHandle" ∧ q.1.cls ≠ "java/lang/invoke/VarHandle") ∧ Cond.instantiable q.1.cls q.2 ∈ tables_1 ∧ Cond.privateMethod q.1 ∈ tables_1 ∧ Cond.instanceMethod q.1 ∈ tables_1
theorem lw_p0 : lw_okq (⟨"DawnCoin$Reader", "takes", "(LDawnCoin$Town;I)Z"⟩, 6) := ⟨⟨by decide +kernel, by decide +kernel⟩, List.mem_of_getElem? (i := 21) (by decide +kernel), List.mem_of_getElem? (i := 250) (by decide +kernel), List.mem_of_getElem? (i := 251) (by decide +kernel)⟩
theorem lw_p1 : lw_okq (⟨"DawnCoin$Reader", "opensPart", "(LDawnCoin$Town;I)Z"⟩, 6) := ⟨⟨by decide +kernel, by decide +kernel⟩, List.mem_of_getElem? (i := 21) (by decide +kernel), List.mem_of_getElem? (i := 254) (by decide +kernel), List.mem_of_getElem? (i := 255) (by decide +kernel)⟩
theorem lw_p2 : lw_okq (⟨"DawnCoin$Reader", "takesOfRumour", "(LDawnCoin$Town;I)Z"⟩, 6) := ⟨⟨by decide +kernel, by decide +kernel⟩, List.mem_of_getElem? (i := 21) (by decide +kernel), List.mem_of_getElem? (i := 278) (by decide +kernel), List.mem_of_getElem? (i := 279) (by decide +kernel)⟩
theorem lw_p3 : lw_okq (⟨"DawnCoin$Reader", "endsRumour", "(LDawnCoin$Town;I)Z"⟩, 6) := ⟨⟨by decide +kernel, by decide +kernel⟩, List.mem_of_getElem? (i := 21) (by decide +kernel), List.mem_of_getElem? (i := 283) (by decide +kernel), List.mem_of_getElem? (i := 284) (by decide +kernel)⟩
theorem lw_p4 : lw_okq (⟨"DawnCoin$Reader", "takesOfRivals", "(LDawnCoin$Town;I)Z"⟩, 6) := ⟨⟨by decide +kernel, by decide +kernel⟩, List.mem_of_getElem? (i := 21) (by decide +kernel), List.mem_of_getElem? (i := 292) (by decide +kernel), List.mem_of_getElem? (i := 293) (by decide +kernel)⟩
theorem lw_p5 : lw_okq (⟨"DawnCoin$Reader", "takesOfPerson", "(LDawnCoin$Town;I)Z"⟩, 6) := ⟨⟨by decide +kernel, by decide +kernel⟩, List.mem_of_getElem? (i := 21) (by decide +kernel), List.mem_of_getElem? (i := 304) (by decide +kernel), List.mem_of_getElem? (i := 305) (by decide +kernel)⟩
theorem lw_p6 : lw_okq (⟨"DawnCoin$Reader", "takesOfOpening", "(LDawnCoin$Town;I)Z"⟩, 6) := ⟨⟨by decide +kernel, by decide +kernel⟩, List.mem_of_getElem? (i := 21) (by decide +kernel), List.mem_of_getElem? (i := 315) (by decide +kernel), List.mem_of_getElem? (i := 316) (by decide +kernel)⟩
theorem lw_p7 : lw_okq (⟨"DawnCoin$Standing", "strike", "(LDawnCoin$Town;I)I"⟩, 4) := ⟨⟨by decide +kernel, by decide +kernel⟩, List.mem_of_getElem? (i := 92) (by decide +kernel), List.mem_of_getElem? (i := 397) (by decide +kernel), List.mem_of_getElem? (i := 398) (by decide +kernel)⟩
theorem lw_p8 : lw_okq (⟨"DawnCoin$Standing", "hasRivalCoin", "(LDawnCoin$Town;II)Z"⟩, 4) := ⟨⟨by decide +kernel, by decide +kernel⟩, List.mem_of_getElem? (i := 92) (by decide +kernel), List.mem_of_getElem? (i := 477) (by decide +kernel), List.mem_of_getElem? (i := 478) (by decide +kernel)⟩
theorem lw_p9 : lw_okq (⟨"DawnCoin", "valueIn", "(III)I"⟩, 15) := ⟨⟨by decide +kernel, by decide +kernel⟩, List.mem_of_getElem? (i := 13) (by decide +kernel), List.mem_of_getElem? (i := 495) (by decide +kernel), List.mem_of_getElem? (i := 496) (by decide +kernel)⟩
theorem lw_p10 : lw_okq (⟨"DawnCoin", "saidIn", "(III)I"⟩, 15) := ⟨⟨by decide +kernel, by decide +kernel⟩, List.mem_of_getElem? (i := 13) (by decide +kernel), List.mem_of_getElem? (i := 499) (by decide +kernel), List.mem_of_getElem? (i := 500) (by decide +kernel)⟩
theorem lw_p11 : lw_okq (⟨"DawnCoin", "purseIn", "(II)I"⟩, 15) := ⟨⟨by decide +kernel, by decide +kernel⟩, List.mem_of_getElem? (i := 13) (by decide +kernel), List.mem_of_getElem? (i := 509) (by decide +kernel), List.mem_of_getElem? (i := 510) (by decide +kernel)⟩
theorem lw_p12 : lw_okq (⟨"DawnCoin", "coinValueIn", "(IIII)I"⟩, 15) := ⟨⟨by decide +kernel, by decide +kernel⟩, List.mem_of_getElem? (i := 13) (by decide +kernel), List.mem_of_getElem? (i := 513) (by decide +kernel), List.mem_of_getElem? (i := 514) (by decide +kernel)⟩
theorem lw_p13 : lw_okq (⟨"DawnCoin", "canSayThing", "(I)Z"⟩, 15) := ⟨⟨by decide +kernel, by decide +kernel⟩, List.mem_of_getElem? (i := 13) (by decide +kernel), List.mem_of_getElem? (i := 540) (by decide +kernel), List.mem_of_getElem? (i := 541) (by decide +kernel)⟩
theorem lw_p14 : lw_okq (⟨"DawnCoin", "gainOf", "(IIII)I"⟩, 15) := ⟨⟨by decide +kernel, by decide +kernel⟩, List.mem_of_getElem? (i := 13) (by decide +kernel), List.mem_of_getElem? (i := 547) (by decide +kernel), List.mem_of_getElem? (i := 548) (by decide +kernel)⟩
theorem lw_p15 : lw_okq (⟨"DawnCoin", "offerOneThing", "()V"⟩, 15) := ⟨⟨by decide +kernel, by decide +kernel⟩, List.mem_of_getElem? (i := 13) (by decide +kernel), List.mem_of_getElem? (i := 551) (by decide +kernel), List.mem_of_getElem? (i := 552) (by decide +kernel)⟩
def lw_privs_1 : List (MethodName × Nat) := [(⟨"DawnCoin$Reader", "takes", "(LDawnCoin$Town;I)Z"⟩, 6), (⟨"DawnCoin$Reader", "opensPart", "(LDawnCoin$Town;I)Z"⟩, 6), (⟨"DawnCoin$Reader", "takesOfRumour", "(LDawnCoin$Town;I)Z"⟩, 6), (⟨"DawnCoin$Reader", "endsRumour", "(LDawnCoin$Town;I)Z"⟩, 6), (⟨"DawnCoin$Reader", "takesOfRivals", "(LDawnCoin$Town;I)Z"⟩, 6), (⟨"DawnCoin$Reader", "takesOfPerson", "(LDawnCoin$Town;I)Z"⟩, 6), (⟨"DawnCoin$Reader", "takesOfOpening", "(LDawnCoin$Town;I)Z"⟩, 6), (⟨"DawnCoin$Standing", "strike", "(LDawnCoin$Town;I)I"⟩, 4), (⟨"DawnCoin$Standing", "hasRivalCoin", "(LDawnCoin$Town;II)Z"⟩, 4), (⟨"DawnCoin", "valueIn", "(III)I"⟩, 15), (⟨"DawnCoin", "saidIn", "(III)I"⟩, 15), (⟨"DawnCoin", "purseIn", "(II)I"⟩, 15), (⟨"DawnCoin", "coinValueIn", "(IIII)I"⟩, 15), (⟨"DawnCoin", "canSayThing", "(I)Z"⟩, 15), (⟨"DawnCoin", "gainOf", "(IIII)I"⟩, 15), (⟨"DawnCoin", "offerOneThing", "()V"⟩, 15)]
theorem lw_r1 : ∀ q ∈ lw_privs_1, lw_okq q := List.forall_mem_cons.mpr ⟨lw_p0, List.forall_mem_cons.mpr ⟨lw_p1, List.forall_mem_cons.mpr ⟨lw_p2, List.forall_mem_cons.mpr ⟨lw_p3, List.forall_mem_cons.mpr ⟨lw_p4, List.forall_mem_cons.mpr ⟨lw_p5, List.forall_mem_cons.mpr ⟨lw_p6, List.forall_mem_cons.mpr ⟨lw_p7, List.forall_mem_cons.mpr ⟨lw_p8, List.forall_mem_cons.mpr ⟨lw_p9, List.forall_mem_cons.mpr ⟨lw_p10, List.forall_mem_cons.mpr ⟨lw_p11, List.forall_mem_cons.mpr ⟨lw_p12, List.forall_mem_cons.mpr ⟨lw_p13, List.forall_mem_cons.mpr ⟨lw_p14, List.forall_mem_cons.mpr ⟨lw_p15, fun _ h => absurd h List.not_mem_nil⟩⟩⟩⟩⟩⟩⟩⟩⟩⟩⟩⟩⟩⟩⟩⟩
theorem lw_p16 : lw_okq (⟨"DawnCoin", "offerTwoThings", "(II)V"⟩, 15) := ⟨⟨by decide +kernel, by decide +kernel⟩, List.mem_of_getElem? (i := 13) (by decide +kernel), List.mem_of_getElem? (i := 559) (by decide +kernel), List.mem_of_getElem? (i := 560) (by decide +kernel)⟩
theorem lw_p17 : lw_okq (⟨"DawnCoin", "tryThing", "(I)Z"⟩, 15) := ⟨⟨by decide +kernel, by decide +kernel⟩, List.mem_of_getElem? (i := 13) (by decide +kernel), List.mem_of_getElem? (i := 586) (by decide +kernel), List.mem_of_getElem? (i := 587) (by decide +kernel)⟩
theorem lw_p18 : lw_okq (⟨"DawnCoin", "trySaying", "(II)Z"⟩, 15) := ⟨⟨by decide +kernel, by decide +kernel⟩, List.mem_of_getElem? (i := 13) (by decide +kernel), List.mem_of_getElem? (i := 590) (by decide +kernel), List.mem_of_getElem? (i := 591) (by decide +kernel)⟩
theorem lw_p19 : lw_okq (⟨"DawnCoin", "tryDenying", "(II)Z"⟩, 15) := ⟨⟨by decide +kernel, by decide +kernel⟩, List.mem_of_getElem? (i := 13) (by decide +kernel), List.mem_of_getElem? (i := 594) (by decide +kernel), List.mem_of_getElem? (i := 595) (by decide +kernel)⟩
theorem lw_p20 : lw_okq (⟨"DawnCoin", "agreesWithHeard", "(II)Z"⟩, 15) := ⟨⟨by decide +kernel, by decide +kernel⟩, List.mem_of_getElem? (i := 13) (by decide +kernel), List.mem_of_getElem? (i := 615) (by decide +kernel), List.mem_of_getElem? (i := 616) (by decide +kernel)⟩
theorem lw_p21 : lw_okq (⟨"DawnCoin", "weighChoices", "(III)V"⟩, 15) := ⟨⟨by decide +kernel, by decide +kernel⟩, List.mem_of_getElem? (i := 13) (by decide +kernel), List.mem_of_getElem? (i := 639) (by decide +kernel), List.mem_of_getElem? (i := 640) (by decide +kernel)⟩
theorem lw_p22 : lw_okq (⟨"DawnCoin", "canChoose", "(II)Z"⟩, 15) := ⟨⟨by decide +kernel, by decide +kernel⟩, List.mem_of_getElem? (i := 13) (by decide +kernel), List.mem_of_getElem? (i := 643) (by decide +kernel), List.mem_of_getElem? (i := 644) (by decide +kernel)⟩
theorem lw_p23 : lw_okq (⟨"DawnCoin", "isAtRest", "(IIII)Z"⟩, 15) := ⟨⟨by decide +kernel, by decide +kernel⟩, List.mem_of_getElem? (i := 13) (by decide +kernel), List.mem_of_getElem? (i := 647) (by decide +kernel), List.mem_of_getElem? (i := 648) (by decide +kernel)⟩
theorem lw_p24 : lw_okq (⟨"DawnCoin", "valueAfterDenials", "(II)I"⟩, 15) := ⟨⟨by decide +kernel, by decide +kernel⟩, List.mem_of_getElem? (i := 13) (by decide +kernel), List.mem_of_getElem? (i := 659) (by decide +kernel), List.mem_of_getElem? (i := 660) (by decide +kernel)⟩
theorem lw_p25 : lw_okq (⟨"DawnCoin", "slotAt", "(I)LDawnCoin$Standing;"⟩, 15) := ⟨⟨by decide +kernel, by decide +kernel⟩, List.mem_of_getElem? (i := 13) (by decide +kernel), List.mem_of_getElem? (i := 685) (by decide +kernel), List.mem_of_getElem? (i := 686) (by decide +kernel)⟩
theorem lw_p26 : lw_okq (⟨"DawnCoinModel", "readText", "()I"⟩, 33) := ⟨⟨by decide +kernel, by decide +kernel⟩, List.mem_of_getElem? (i := 706) (by decide +kernel), List.mem_of_getElem? (i := 828) (by decide +kernel), List.mem_of_getElem? (i := 829) (by decide +kernel)⟩
theorem lw_p27 : lw_okq (⟨"DawnCoinModel", "readPart", "(I)V"⟩, 33) := ⟨⟨by decide +kernel, by decide +kernel⟩, List.mem_of_getElem? (i := 706) (by decide +kernel), List.mem_of_getElem? (i := 832) (by decide +kernel), List.mem_of_getElem? (i := 833) (by decide +kernel)⟩
theorem lw_p28 : lw_okq (⟨"DawnCoinModel", "figureOf", "(I)I"⟩, 33) := ⟨⟨by decide +kernel, by decide +kernel⟩, List.mem_of_getElem? (i := 706) (by decide +kernel), List.mem_of_getElem? (i := 836) (by decide +kernel), List.mem_of_getElem? (i := 837) (by decide +kernel)⟩
theorem lw_p29 : lw_okq (⟨"DawnCoinModel", "firstsLeft", "()I"⟩, 33) := ⟨⟨by decide +kernel, by decide +kernel⟩, List.mem_of_getElem? (i := 706) (by decide +kernel), List.mem_of_getElem? (i := 844) (by decide +kernel), List.mem_of_getElem? (i := 845) (by decide +kernel)⟩
theorem lw_p30 : lw_okq (⟨"DawnCoinModel", "pairsLeft", "(I)I"⟩, 33) := ⟨⟨by decide +kernel, by decide +kernel⟩, List.mem_of_getElem? (i := 706) (by decide +kernel), List.mem_of_getElem? (i := 848) (by decide +kernel), List.mem_of_getElem? (i := 849) (by decide +kernel)⟩
theorem lw_p31 : lw_okq (⟨"DawnCoinModel", "saidLeft", "()I"⟩, 33) := ⟨⟨by decide +kernel, by decide +kernel⟩, List.mem_of_getElem? (i := 706) (by decide +kernel), List.mem_of_getElem? (i := 852) (by decide +kernel), List.mem_of_getElem? (i := 853) (by decide +kernel)⟩
def lw_privs_2 : List (MethodName × Nat) := [(⟨"DawnCoin", "offerTwoThings", "(II)V"⟩, 15), (⟨"DawnCoin", "tryThing", "(I)Z"⟩, 15), (⟨"DawnCoin", "trySaying", "(II)Z"⟩, 15), (⟨"DawnCoin", "tryDenying", "(II)Z"⟩, 15), (⟨"DawnCoin", "agreesWithHeard", "(II)Z"⟩, 15), (⟨"DawnCoin", "weighChoices", "(III)V"⟩, 15), (⟨"DawnCoin", "canChoose", "(II)Z"⟩, 15), (⟨"DawnCoin", "isAtRest", "(IIII)Z"⟩, 15), (⟨"DawnCoin", "valueAfterDenials", "(II)I"⟩, 15), (⟨"DawnCoin", "slotAt", "(I)LDawnCoin$Standing;"⟩, 15), (⟨"DawnCoinModel", "readText", "()I"⟩, 33), (⟨"DawnCoinModel", "readPart", "(I)V"⟩, 33), (⟨"DawnCoinModel", "figureOf", "(I)I"⟩, 33), (⟨"DawnCoinModel", "firstsLeft", "()I"⟩, 33), (⟨"DawnCoinModel", "pairsLeft", "(I)I"⟩, 33), (⟨"DawnCoinModel", "saidLeft", "()I"⟩, 33)]
theorem lw_r2 : ∀ q ∈ lw_privs_2, lw_okq q := List.forall_mem_cons.mpr ⟨lw_p16, List.forall_mem_cons.mpr ⟨lw_p17, List.forall_mem_cons.mpr ⟨lw_p18, List.forall_mem_cons.mpr ⟨lw_p19, List.forall_mem_cons.mpr ⟨lw_p20, List.forall_mem_cons.mpr ⟨lw_p21, List.forall_mem_cons.mpr ⟨lw_p22, List.forall_mem_cons.mpr ⟨lw_p23, List.forall_mem_cons.mpr ⟨lw_p24, List.forall_mem_cons.mpr ⟨lw_p25, List.forall_mem_cons.mpr ⟨lw_p26, List.forall_mem_cons.mpr ⟨lw_p27, List.forall_mem_cons.mpr ⟨lw_p28, List.forall_mem_cons.mpr ⟨lw_p29, List.forall_mem_cons.mpr ⟨lw_p30, List.forall_mem_cons.mpr ⟨lw_p31, fun _ h => absurd h List.not_mem_nil⟩⟩⟩⟩⟩⟩⟩⟩⟩⟩⟩⟩⟩⟩⟩⟩
theorem lw_p32 : lw_okq (⟨"DawnCoinModel", "isRumour", "(I)Z"⟩, 33) := ⟨⟨by decide +kernel, by decide +kernel⟩, List.mem_of_getElem? (i := 706) (by decide +kernel), List.mem_of_getElem? (i := 864) (by decide +kernel), List.mem_of_getElem? (i := 865) (by decide +kernel)⟩
theorem lw_p33 : lw_okq (⟨"DawnCoinModel", "isProved", "(II)Z"⟩, 33) := ⟨⟨by decide +kernel, by decide +kernel⟩, List.mem_of_getElem? (i := 706) (by decide +kernel), List.mem_of_getElem? (i := 868) (by decide +kernel), List.mem_of_getElem? (i := 869) (by decide +kernel)⟩
theorem lw_p34 : lw_okq (⟨"DawnCoinModel", "isPerson", "(I)Z"⟩, 33) := ⟨⟨by decide +kernel, by decide +kernel⟩, List.mem_of_getElem? (i := 706) (by decide +kernel), List.mem_of_getElem? (i := 876) (by decide +kernel), List.mem_of_getElem? (i := 877) (by decide +kernel)⟩
theorem lw_p35 : lw_okq (⟨"DawnCoinModel", "coinAt", "(III)I"⟩, 33) := ⟨⟨by decide +kernel, by decide +kernel⟩, List.mem_of_getElem? (i := 706) (by decide +kernel), List.mem_of_getElem? (i := 884) (by decide +kernel), List.mem_of_getElem? (i := 885) (by decide +kernel)⟩
theorem lw_p36 : lw_okq (⟨"DawnCoinModel", "keepAct", "()V"⟩, 33) := ⟨⟨by decide +kernel, by decide +kernel⟩, List.mem_of_getElem? (i := 706) (by decide +kernel), List.mem_of_getElem? (i := 892) (by decide +kernel), List.mem_of_getElem? (i := 893) (by decide +kernel)⟩
theorem lw_p37 : lw_okq (⟨"DawnCoinModel", "dawnOn", "(I)I"⟩, 33) := ⟨⟨by decide +kernel, by decide +kernel⟩, List.mem_of_getElem? (i := 706) (by decide +kernel), List.mem_of_getElem? (i := 896) (by decide +kernel), List.mem_of_getElem? (i := 897) (by decide +kernel)⟩
theorem lw_p38 : lw_okq (⟨"DawnCoinModel", "canSay", "(III)Z"⟩, 33) := ⟨⟨by decide +kernel, by decide +kernel⟩, List.mem_of_getElem? (i := 706) (by decide +kernel), List.mem_of_getElem? (i := 908) (by decide +kernel), List.mem_of_getElem? (i := 909) (by decide +kernel)⟩
theorem lw_p39 : lw_okq (⟨"DawnCoinModel", "canDeny", "(III)Z"⟩, 33) := ⟨⟨by decide +kernel, by decide +kernel⟩, List.mem_of_getElem? (i := 706) (by decide +kernel), List.mem_of_getElem? (i := 919) (by decide +kernel), List.mem_of_getElem? (i := 920) (by decide +kernel)⟩
theorem lw_p40 : lw_okq (⟨"DawnCoinModel", "denyOn", "(III)V"⟩, 33) := ⟨⟨by decide +kernel, by decide +kernel⟩, List.mem_of_getElem? (i := 706) (by decide +kernel), List.mem_of_getElem? (i := 923) (by decide +kernel), List.mem_of_getElem? (i := 924) (by decide +kernel)⟩
theorem lw_p41 : lw_okq (⟨"DawnCoinModel", "takes", "(II)Z"⟩, 33) := ⟨⟨by decide +kernel, by decide +kernel⟩, List.mem_of_getElem? (i := 706) (by decide +kernel), List.mem_of_getElem? (i := 931) (by decide +kernel), List.mem_of_getElem? (i := 932) (by decide +kernel)⟩
theorem lw_p42 : lw_okq (⟨"DawnCoinModel", "worthOf", "(II)I"⟩, 33) := ⟨⟨by decide +kernel, by decide +kernel⟩, List.mem_of_getElem? (i := 706) (by decide +kernel), List.mem_of_getElem? (i := 935) (by decide +kernel), List.mem_of_getElem? (i := 936) (by decide +kernel)⟩
theorem lw_p43 : lw_okq (⟨"DawnCoinModel", "layTrial", "()V"⟩, 33) := ⟨⟨by decide +kernel, by decide +kernel⟩, List.mem_of_getElem? (i := 706) (by decide +kernel), List.mem_of_getElem? (i := 948) (by decide +kernel), List.mem_of_getElem? (i := 949) (by decide +kernel)⟩
theorem lw_p44 : lw_okq (⟨"DawnCoinModel", "dawnTrial", "(I)V"⟩, 33) := ⟨⟨by decide +kernel, by decide +kernel⟩, List.mem_of_getElem? (i := 706) (by decide +kernel), List.mem_of_getElem? (i := 952) (by decide +kernel), List.mem_of_getElem? (i := 953) (by decide +kernel)⟩
theorem lw_p45 : lw_okq (⟨"DawnCoinModel", "purseOf", "(II)I"⟩, 33) := ⟨⟨by decide +kernel, by decide +kernel⟩, List.mem_of_getElem? (i := 706) (by decide +kernel), List.mem_of_getElem? (i := 960) (by decide +kernel), List.mem_of_getElem? (i := 961) (by decide +kernel)⟩
theorem lw_p46 : lw_okq (⟨"DawnCoinModel", "planned", "(III)I"⟩, 33) := ⟨⟨by decide +kernel, by decide +kernel⟩, List.mem_of_getElem? (i := 706) (by decide +kernel), List.mem_of_getElem? (i := 976) (by decide +kernel), List.mem_of_getElem? (i := 977) (by decide +kernel)⟩
theorem lw_p47 : lw_okq (⟨"DawnCoinModel", "sayTrial", "(II)Z"⟩, 33) := ⟨⟨by decide +kernel, by decide +kernel⟩, List.mem_of_getElem? (i := 706) (by decide +kernel), List.mem_of_getElem? (i := 980) (by decide +kernel), List.mem_of_getElem? (i := 981) (by decide +kernel)⟩
def lw_privs_3 : List (MethodName × Nat) := [(⟨"DawnCoinModel", "isRumour", "(I)Z"⟩, 33), (⟨"DawnCoinModel", "isProved", "(II)Z"⟩, 33), (⟨"DawnCoinModel", "isPerson", "(I)Z"⟩, 33), (⟨"DawnCoinModel", "coinAt", "(III)I"⟩, 33), (⟨"DawnCoinModel", "keepAct", "()V"⟩, 33), (⟨"DawnCoinModel", "dawnOn", "(I)I"⟩, 33), (⟨"DawnCoinModel", "canSay", "(III)Z"⟩, 33), (⟨"DawnCoinModel", "canDeny", "(III)Z"⟩, 33), (⟨"DawnCoinModel", "denyOn", "(III)V"⟩, 33), (⟨"DawnCoinModel", "takes", "(II)Z"⟩, 33), (⟨"DawnCoinModel", "worthOf", "(II)I"⟩, 33), (⟨"DawnCoinModel", "layTrial", "()V"⟩, 33), (⟨"DawnCoinModel", "dawnTrial", "(I)V"⟩, 33), (⟨"DawnCoinModel", "purseOf", "(II)I"⟩, 33), (⟨"DawnCoinModel", "planned", "(III)I"⟩, 33), (⟨"DawnCoinModel", "sayTrial", "(II)Z"⟩, 33)]
theorem lw_r3 : ∀ q ∈ lw_privs_3, lw_okq q := List.forall_mem_cons.mpr ⟨lw_p32, List.forall_mem_cons.mpr ⟨lw_p33, List.forall_mem_cons.mpr ⟨lw_p34, List.forall_mem_cons.mpr ⟨lw_p35, List.forall_mem_cons.mpr ⟨lw_p36, List.forall_mem_cons.mpr ⟨lw_p37, List.forall_mem_cons.mpr ⟨lw_p38, List.forall_mem_cons.mpr ⟨lw_p39, List.forall_mem_cons.mpr ⟨lw_p40, List.forall_mem_cons.mpr ⟨lw_p41, List.forall_mem_cons.mpr ⟨lw_p42, List.forall_mem_cons.mpr ⟨lw_p43, List.forall_mem_cons.mpr ⟨lw_p44, List.forall_mem_cons.mpr ⟨lw_p45, List.forall_mem_cons.mpr ⟨lw_p46, List.forall_mem_cons.mpr ⟨lw_p47, fun _ h => absurd h List.not_mem_nil⟩⟩⟩⟩⟩⟩⟩⟩⟩⟩⟩⟩⟩⟩⟩⟩
theorem lw_p48 : lw_okq (⟨"DawnCoinModel", "canBe", "(I)Z"⟩, 33) := ⟨⟨by decide +kernel, by decide +kernel⟩, List.mem_of_getElem? (i := 706) (by decide +kernel), List.mem_of_getElem? (i := 988) (by decide +kernel), List.mem_of_getElem? (i := 989) (by decide +kernel)⟩
theorem lw_p49 : lw_okq (⟨"DawnCoinModel", "allWorth", "(I)I"⟩, 33) := ⟨⟨by decide +kernel, by decide +kernel⟩, List.mem_of_getElem? (i := 706) (by decide +kernel), List.mem_of_getElem? (i := 1001) (by decide +kernel), List.mem_of_getElem? (i := 1002) (by decide +kernel)⟩
theorem lw_p50 : lw_okq (⟨"DawnCoinModel", "tryThing", "(I)Z"⟩, 33) := ⟨⟨by decide +kernel, by decide +kernel⟩, List.mem_of_getElem? (i := 706) (by decide +kernel), List.mem_of_getElem? (i := 1006) (by decide +kernel), List.mem_of_getElem? (i := 1007) (by decide +kernel)⟩
theorem lw_p51 : lw_okq (⟨"DawnCoinModel", "isHeard", "(II)Z"⟩, 33) := ⟨⟨by decide +kernel, by decide +kernel⟩, List.mem_of_getElem? (i := 706) (by decide +kernel), List.mem_of_getElem? (i := 1023) (by decide +kernel), List.mem_of_getElem? (i := 1024) (by decide +kernel)⟩
theorem lw_p52 : lw_okq (⟨"DawnCoinModel", "worthBy", "(III)I"⟩, 33) := ⟨⟨by decide +kernel, by decide +kernel⟩, List.mem_of_getElem? (i := 706) (by decide +kernel), List.mem_of_getElem? (i := 1034) (by decide +kernel), List.mem_of_getElem? (i := 1035) (by decide +kernel)⟩
theorem lw_p53 : lw_okq (⟨"DawnCoinModel", "layPairs", "(III)V"⟩, 33) := ⟨⟨by decide +kernel, by decide +kernel⟩, List.mem_of_getElem? (i := 706) (by decide +kernel), List.mem_of_getElem? (i := 1045) (by decide +kernel), List.mem_of_getElem? (i := 1046) (by decide +kernel)⟩
theorem lw_p54 : lw_okq (⟨"DawnCoinModel", "isChoice", "(II)Z"⟩, 33) := ⟨⟨by decide +kernel, by decide +kernel⟩, List.mem_of_getElem? (i := 706) (by decide +kernel), List.mem_of_getElem? (i := 1049) (by decide +kernel), List.mem_of_getElem? (i := 1050) (by decide +kernel)⟩
theorem lw_p55 : lw_okq (⟨"DawnCoinModel", "isRest", "(III)Z"⟩, 33) := ⟨⟨by decide +kernel, by decide +kernel⟩, List.mem_of_getElem? (i := 706) (by decide +kernel), List.mem_of_getElem? (i := 1053) (by decide +kernel), List.mem_of_getElem? (i := 1054) (by decide +kernel)⟩
theorem lw_p56 : lw_okq (⟨"DawnCoinModel", "allPurses", "(I)I"⟩, 33) := ⟨⟨by decide +kernel, by decide +kernel⟩, List.mem_of_getElem? (i := 706) (by decide +kernel), List.mem_of_getElem? (i := 1073) (by decide +kernel), List.mem_of_getElem? (i := 1074) (by decide +kernel)⟩
def lw_privs_4 : List (MethodName × Nat) := [(⟨"DawnCoinModel", "canBe", "(I)Z"⟩, 33), (⟨"DawnCoinModel", "allWorth", "(I)I"⟩, 33), (⟨"DawnCoinModel", "tryThing", "(I)Z"⟩, 33), (⟨"DawnCoinModel", "isHeard", "(II)Z"⟩, 33), (⟨"DawnCoinModel", "worthBy", "(III)I"⟩, 33), (⟨"DawnCoinModel", "layPairs", "(III)V"⟩, 33), (⟨"DawnCoinModel", "isChoice", "(II)Z"⟩, 33), (⟨"DawnCoinModel", "isRest", "(III)Z"⟩, 33), (⟨"DawnCoinModel", "allPurses", "(I)I"⟩, 33)]
theorem lw_r4 : ∀ q ∈ lw_privs_4, lw_okq q := List.forall_mem_cons.mpr ⟨lw_p48, List.forall_mem_cons.mpr ⟨lw_p49, List.forall_mem_cons.mpr ⟨lw_p50, List.forall_mem_cons.mpr ⟨lw_p51, List.forall_mem_cons.mpr ⟨lw_p52, List.forall_mem_cons.mpr ⟨lw_p53, List.forall_mem_cons.mpr ⟨lw_p54, List.forall_mem_cons.mpr ⟨lw_p55, List.forall_mem_cons.mpr ⟨lw_p56, fun _ h => absurd h List.not_mem_nil⟩⟩⟩⟩⟩⟩⟩⟩⟩
def lw_privs : List (MethodName × Nat) := lw_privs_1 ++ (lw_privs_2 ++ (lw_privs_3 ++ (lw_privs_4)))
def lw_tbl : List Cond := k2_sels lw_privs ++ tables_1
theorem lw_privs_ok : ∀ q ∈ lw_privs, lw_okq q := by
  show ∀ q ∈ lw_privs_1 ++ (lw_privs_2 ++ (lw_privs_3 ++ (lw_privs_4))), lw_okq q
  exact List.forall_mem_append.mpr ⟨lw_r1, List.forall_mem_append.mpr ⟨lw_r2, List.forall_mem_append.mpr ⟨lw_r3, lw_r4⟩⟩⟩
-- ===== end of PART A; then your names; then what follows =====
end
section
/-! ===== BEGIN words of one list among another's, by their places ===== -/
theorem goodIn_r {big : List Cond} (ws : List Cond) (ps : List Nat) (hp : ws = ps.filterMap (fun i => big[i]?)) (h : ws.all goodWord = true) : GoodIn big ws := by
  intro w hw
  have h1 := List.all_eq_true.mp h w hw
  rw [hp] at hw
  obtain ⟨i, -, hi⟩ := List.mem_filterMap.mp hw
  have hm : w ∈ big := by first | exact List.mem_of_getElem? hi | exact List.getElem?_mem hi
  exact ⟨hm, good_of_word h1⟩
theorem goodIn_app {big a b : List Cond} (ha : GoodIn big a) (hb : GoodIn big b) : GoodIn big (a ++ b) := fun w h => (List.mem_append.mp h).elim (ha w) (hb w)
theorem goodIn_ca {big a b : List Cond} {c : Cond} (ha : GoodIn big (c :: a)) (hb : GoodIn big b) : GoodIn big (c :: (a ++ b)) := fun w h => (List.mem_cons.mp h).elim (fun e => ha w (List.mem_cons.mpr (Or.inl e))) (fun h => (List.mem_append.mp h).elim (fun h => ha w (List.mem_cons.mpr (Or.inr h))) (hb w))
theorem goodIn_sub {big ws : List Cond} (hm : ∀ w ∈ ws, w ∈ big) (h : ws.all goodWord = true) : GoodIn big ws := fun w hw => ⟨hm w hw, good_of_word (List.all_eq_true.mp h w hw)⟩
/-! ===== END ===== -/

/-! ===== BEGIN printed: names, fields, word lists, decode rows ===== -/
def RX0 : String := "DawnCoin$ActRow"
def TX0 : u_T := fun k => match k with
  | 0 => ("DawnCoin$ActRow", "ahead", "[LDawnCoin$Standing;", true)
  | 1 => ("DawnCoin$ActRow", "next", "I", false)
  | _ => ("DawnCoin$ActRow", "held", "I", false)
def tyX0 : Nat → FieldType := fun k => match k with
  | 0 => .array (.object "DawnCoin$Standing")
  | 1 => .int
  | _ => .int
abbrev wsX00 : List Cond := u_ws RX0 TX0 3
theorem nmX0 : ∀ a, a < 3 → ∀ b, b < 3 → a ≠ b → (TX0 a).2.1 ≠ (TX0 b).2.1 := by decide +kernel
theorem tyX0_ok : ∀ k, k < 3 → parseFieldDescriptor (TX0 k).2.2.1 = some (tyX0 k) := by decide +kernel
abbrev cX0_init : ByteArray := prog_2_method_1_code
def yX0_init : MethodName := ⟨RX0, "<init>", "()V"⟩
abbrev cX0_remember : ByteArray := prog_2_method_2_code
def yX0_remember : MethodName := ⟨RX0, "remember", "(LDawnCoin$Standing;)V"⟩
abbrev cX0_takeBack : ByteArray := prog_2_method_3_code
def yX0_takeBack : MethodName := ⟨RX0, "takeBack", "(LDawnCoin$Standing;)Z"⟩
def RX1 : String := "DawnCoin$Best"
def TX1 : u_T := fun k => match k with
  | 0 => ("DawnCoin$Best", "most", "I", false)
  | _ => ("DawnCoin$Best", "which", "I", false)
def tyX1 : Nat → FieldType := fun k => match k with
  | 0 => .int
  | _ => .int
abbrev wsX10 : List Cond := u_ws RX1 TX1 2
theorem nmX1 : ∀ a, a < 2 → ∀ b, b < 2 → a ≠ b → (TX1 a).2.1 ≠ (TX1 b).2.1 := by decide +kernel
theorem tyX1_ok : ∀ k, k < 2 → parseFieldDescriptor (TX1 k).2.2.1 = some (tyX1 k) := by decide +kernel
abbrev cX1_init : ByteArray := prog_3_method_1_code
def yX1_init : MethodName := ⟨RX1, "<init>", "()V"⟩
abbrev cX1_start : ByteArray := prog_3_method_2_code
def yX1_start : MethodName := ⟨RX1, "start", "(II)V"⟩
abbrev cX1_offer : ByteArray := prog_3_method_3_code
def yX1_offer : MethodName := ⟨RX1, "offer", "(II)V"⟩
def RX2 : String := "DawnCoin$Hearsay"
def TX2 : u_T := fun k => match k with
  | 0 => ("DawnCoin$Hearsay", "rumour", "[I", true)
  | 1 => ("DawnCoin$Hearsay", "place", "[I", true)
  | 2 => ("DawnCoin$Hearsay", "days", "[I", true)
  | 3 => ("DawnCoin$Hearsay", "said", "[Z", true)
  | _ => ("DawnCoin$Hearsay", "held", "I", false)
def tyX2 : Nat → FieldType := fun k => match k with
  | 0 => .array .int
  | 1 => .array .int
  | 2 => .array .int
  | 3 => .array .boolean
  | _ => .int
abbrev wsX20 : List Cond := u_ws RX2 TX2 5
theorem nmX2 : ∀ a, a < 5 → ∀ b, b < 5 → a ≠ b → (TX2 a).2.1 ≠ (TX2 b).2.1 := by decide +kernel
theorem tyX2_ok : ∀ k, k < 5 → parseFieldDescriptor (TX2 k).2.2.1 = some (tyX2 k) := by decide +kernel
abbrev cX2_init : ByteArray := prog_4_method_1_code
def yX2_init : MethodName := ⟨RX2, "<init>", "()V"⟩
abbrev cX2_append : ByteArray := prog_4_method_2_code
def yX2_append : MethodName := ⟨RX2, "append", "(IIIZ)I"⟩
def RX3 : String := "DawnCoin$Reader"
def TX3 : u_T := fun k => match k with
  | 0 => ("DawnCoin$Reader", "letters", "[I", true)
  | 1 => ("DawnCoin$Reader", "part", "I", false)
  | 2 => ("DawnCoin$Reader", "figures", "I", false)
  | 3 => ("DawnCoin$Reader", "first", "I", false)
  | 4 => ("DawnCoin$Reader", "second", "I", false)
  | _ => ("DawnCoin$Reader", "length", "I", false)
def tyX3 : Nat → FieldType := fun k => match k with
  | 0 => .array .int
  | 1 => .int
  | 2 => .int
  | 3 => .int
  | 4 => .int
  | _ => .int
abbrev wsX30 : List Cond := u_ws RX3 TX3 6
theorem nmX3 : ∀ a, a < 6 → ∀ b, b < 6 → a ≠ b → (TX3 a).2.1 ≠ (TX3 b).2.1 := by decide +kernel
theorem tyX3_ok : ∀ k, k < 6 → parseFieldDescriptor (TX3 k).2.2.1 = some (tyX3 k) := by decide +kernel
abbrev cX3_init : ByteArray := prog_5_method_1_code
def yX3_init : MethodName := ⟨RX3, "<init>", "()V"⟩
abbrev cX3_append : ByteArray := prog_5_method_2_code
def yX3_append : MethodName := ⟨RX3, "append", "(I)I"⟩
abbrev cX3_readInto : ByteArray := prog_5_method_3_code
def yX3_readInto : MethodName := ⟨RX3, "readInto", "(LDawnCoin$Town;)I"⟩
abbrev cX3_takes : ByteArray := prog_5_method_4_code
def yX3_takes : MethodName := ⟨RX3, "takes", "(LDawnCoin$Town;I)Z"⟩
abbrev cX3_opensPart : ByteArray := prog_5_method_5_code
def yX3_opensPart : MethodName := ⟨RX3, "opensPart", "(LDawnCoin$Town;I)Z"⟩
abbrev cX3_takesOfRumour : ByteArray := prog_5_method_6_code
def yX3_takesOfRumour : MethodName := ⟨RX3, "takesOfRumour", "(LDawnCoin$Town;I)Z"⟩
abbrev cX3_endsRumour : ByteArray := prog_5_method_7_code
def yX3_endsRumour : MethodName := ⟨RX3, "endsRumour", "(LDawnCoin$Town;I)Z"⟩
abbrev cX3_takesOfRivals : ByteArray := prog_5_method_8_code
def yX3_takesOfRivals : MethodName := ⟨RX3, "takesOfRivals", "(LDawnCoin$Town;I)Z"⟩
abbrev cX3_takesOfPerson : ByteArray := prog_5_method_9_code
def yX3_takesOfPerson : MethodName := ⟨RX3, "takesOfPerson", "(LDawnCoin$Town;I)Z"⟩
abbrev cX3_takesOfOpening : ByteArray := prog_5_method_10_code
def yX3_takesOfOpening : MethodName := ⟨RX3, "takesOfOpening", "(LDawnCoin$Town;I)Z"⟩
def RX4 : String := "DawnCoin$Standing"
def TX4 : u_T := fun k => match k with
  | 0 => ("DawnCoin$Standing", "said", "[I", true)
  | 1 => ("DawnCoin$Standing", "denied", "[I", true)
  | 2 => ("DawnCoin$Standing", "coin", "[I", true)
  | _ => ("DawnCoin$Standing", "day", "I", false)
def tyX4 : Nat → FieldType := fun k => match k with
  | 0 => .array .int
  | 1 => .array .int
  | 2 => .array .int
  | _ => .int
abbrev wsX40 : List Cond := u_ws RX4 TX4 4
theorem nmX4 : ∀ a, a < 4 → ∀ b, b < 4 → a ≠ b → (TX4 a).2.1 ≠ (TX4 b).2.1 := by decide +kernel
theorem tyX4_ok : ∀ k, k < 4 → parseFieldDescriptor (TX4 k).2.2.1 = some (tyX4 k) := by decide +kernel
abbrev cX4_init : ByteArray := prog_6_method_1_code
def yX4_init : MethodName := ⟨RX4, "<init>", "()V"⟩
abbrev cX4_open : ByteArray := prog_6_method_2_code
def yX4_open : MethodName := ⟨RX4, "open", "(LDawnCoin$Town;)V"⟩
abbrev cX4_copyFrom : ByteArray := prog_6_method_3_code
def yX4_copyFrom : MethodName := ⟨RX4, "copyFrom", "(LDawnCoin$Standing;)V"⟩
abbrev cX4_saidOf : ByteArray := prog_6_method_4_code
def yX4_saidOf : MethodName := ⟨RX4, "saidOf", "(I)I"⟩
abbrev cX4_deniedOf : ByteArray := prog_6_method_5_code
def yX4_deniedOf : MethodName := ⟨RX4, "deniedOf", "(I)I"⟩
abbrev cX4_coinsOf : ByteArray := prog_6_method_6_code
def yX4_coinsOf : MethodName := ⟨RX4, "coinsOf", "(II)I"⟩
abbrev cX4_addCoins : ByteArray := prog_6_method_7_code
def yX4_addCoins : MethodName := ⟨RX4, "addCoins", "(III)V"⟩
abbrev cX4_canBeSaid : ByteArray := prog_6_method_8_code
def yX4_canBeSaid : MethodName := ⟨RX4, "canBeSaid", "(LDawnCoin$Town;II)Z"⟩
abbrev cX4_putSaid : ByteArray := prog_6_method_9_code
def yX4_putSaid : MethodName := ⟨RX4, "putSaid", "(II)V"⟩
abbrev cX4_canBeDenied : ByteArray := prog_6_method_10_code
def yX4_canBeDenied : MethodName := ⟨RX4, "canBeDenied", "(LDawnCoin$Town;II)Z"⟩
abbrev cX4_putDenied : ByteArray := prog_6_method_11_code
def yX4_putDenied : MethodName := ⟨RX4, "putDenied", "(II)V"⟩
abbrev cX4_isTakenBy : ByteArray := prog_6_method_12_code
def yX4_isTakenBy : MethodName := ⟨RX4, "isTakenBy", "(LDawnCoin$Town;II)Z"⟩
abbrev cX4_hasRivalCoin : ByteArray := prog_6_method_13_code
def yX4_hasRivalCoin : MethodName := ⟨RX4, "hasRivalCoin", "(LDawnCoin$Town;II)Z"⟩
abbrev cX4_passDawn : ByteArray := prog_6_method_14_code
def yX4_passDawn : MethodName := ⟨RX4, "passDawn", "(LDawnCoin$Town;)I"⟩
abbrev cX4_strike : ByteArray := prog_6_method_15_code
def yX4_strike : MethodName := ⟨RX4, "strike", "(LDawnCoin$Town;I)I"⟩
abbrev cX4_valueOf : ByteArray := prog_6_method_16_code
def yX4_valueOf : MethodName := ⟨RX4, "valueOf", "(LDawnCoin$Town;I)I"⟩
abbrev cX4_valueOfAll : ByteArray := prog_6_method_17_code
def yX4_valueOfAll : MethodName := ⟨RX4, "valueOfAll", "(LDawnCoin$Town;)I"⟩
abbrev cX4_valueOfSet : ByteArray := prog_6_method_18_code
def yX4_valueOfSet : MethodName := ⟨RX4, "valueOfSet", "(LDawnCoin$Town;II)I"⟩
abbrev cX4_valueOfPurses : ByteArray := prog_6_method_19_code
def yX4_valueOfPurses : MethodName := ⟨RX4, "valueOfPurses", "(LDawnCoin$Town;)I"⟩
abbrev cX4_allCoins : ByteArray := prog_6_method_20_code
def yX4_allCoins : MethodName := ⟨RX4, "allCoins", "()I"⟩
abbrev cX4_rumoursSaid : ByteArray := prog_6_method_21_code
def yX4_rumoursSaid : MethodName := ⟨RX4, "rumoursSaid", "()I"⟩
def RX5 : String := "DawnCoin$Town"
def TX5 : u_T := fun k => match k with
  | 0 => ("DawnCoin$Town", "word", "[I", true)
  | 1 => ("DawnCoin$Town", "lie", "[Z", true)
  | 2 => ("DawnCoin$Town", "proof", "[I", true)
  | 3 => ("DawnCoin$Town", "rivals", "[I", true)
  | 4 => ("DawnCoin$Town", "opening", "[I", true)
  | 5 => ("DawnCoin$Town", "seat", "[I", true)
  | 6 => ("DawnCoin$Town", "rumours", "I", false)
  | _ => ("DawnCoin$Town", "people", "I", false)
def tyX5 : Nat → FieldType := fun k => match k with
  | 0 => .array .int
  | 1 => .array .boolean
  | 2 => .array .int
  | 3 => .array .int
  | 4 => .array .int
  | 5 => .array .int
  | 6 => .int
  | _ => .int
abbrev wsX50 : List Cond := u_ws RX5 TX5 8
theorem nmX5 : ∀ a, a < 8 → ∀ b, b < 8 → a ≠ b → (TX5 a).2.1 ≠ (TX5 b).2.1 := by decide +kernel
theorem tyX5_ok : ∀ k, k < 8 → parseFieldDescriptor (TX5 k).2.2.1 = some (tyX5 k) := by decide +kernel
abbrev cX5_init : ByteArray := prog_7_method_1_code
def yX5_init : MethodName := ⟨RX5, "<init>", "()V"⟩
abbrev cX5_clear : ByteArray := prog_7_method_2_code
def yX5_clear : MethodName := ⟨RX5, "clear", "()V"⟩
abbrev cX5_hasRumour : ByteArray := prog_7_method_3_code
def yX5_hasRumour : MethodName := ⟨RX5, "hasRumour", "(I)Z"⟩
abbrev cX5_hasPerson : ByteArray := prog_7_method_4_code
def yX5_hasPerson : MethodName := ⟨RX5, "hasPerson", "(I)Z"⟩
abbrev cX5_seatOf : ByteArray := prog_7_method_5_code
def yX5_seatOf : MethodName := ⟨RX5, "seatOf", "(I)I"⟩
abbrev cX5_isLie : ByteArray := prog_7_method_6_code
def yX5_isLie : MethodName := ⟨RX5, "isLie", "(I)Z"⟩
abbrev cX5_isProved : ByteArray := prog_7_method_7_code
def yX5_isProved : MethodName := ⟨RX5, "isProved", "(II)Z"⟩
abbrev cX5_isProvedTrue : ByteArray := prog_7_method_8_code
def yX5_isProvedTrue : MethodName := ⟨RX5, "isProvedTrue", "(II)Z"⟩
abbrev cX5_valueOn : ByteArray := prog_7_method_9_code
def yX5_valueOn : MethodName := ⟨RX5, "valueOn", "(IIII)I"⟩
abbrev cX5_saidAfterDawn : ByteArray := prog_7_method_10_code
def yX5_saidAfterDawn : MethodName := ⟨RX5, "saidAfterDawn", "(IIII)I"⟩
abbrev cX5_isFreeOfRivals : ByteArray := prog_7_method_11_code
def yX5_isFreeOfRivals : MethodName := ⟨RX5, "isFreeOfRivals", "(I)Z"⟩
abbrev cX5_addRumour : ByteArray := prog_7_method_12_code
def yX5_addRumour : MethodName := ⟨RX5, "addRumour", "(IZI)V"⟩
abbrev cX5_addPerson : ByteArray := prog_7_method_13_code
def yX5_addPerson : MethodName := ⟨RX5, "addPerson", "(I)V"⟩
abbrev cX5_addRivals : ByteArray := prog_7_method_14_code
def yX5_addRivals : MethodName := ⟨RX5, "addRivals", "(II)V"⟩
abbrev cX5_addOpening : ByteArray := prog_7_method_15_code
def yX5_addOpening : MethodName := ⟨RX5, "addOpening", "(II)V"⟩
abbrev cX5_freePartners : ByteArray := prog_7_method_16_code
def yX5_freePartners : MethodName := ⟨RX5, "freePartners", "(I)I"⟩
abbrev cX5_freeTables : ByteArray := prog_7_method_17_code
def yX5_freeTables : MethodName := ⟨RX5, "freeTables", "(I)I"⟩
abbrev cX5_hasFreePair : ByteArray := prog_7_method_18_code
def yX5_hasFreePair : MethodName := ⟨RX5, "hasFreePair", "()Z"⟩
abbrev cX5_hasFreeTable : ByteArray := prog_7_method_19_code
def yX5_hasFreeTable : MethodName := ⟨RX5, "hasFreeTable", "()Z"⟩
def RX6 : String := "DawnCoin"
def TX6 : u_T := fun k => match k with
  | 0 => ("DawnCoin", "reader", "LDawnCoin$Reader;", true)
  | 1 => ("DawnCoin", "told", "LDawnCoin$Town;", true)
  | 2 => ("DawnCoin", "draft", "LDawnCoin$Town;", true)
  | 3 => ("DawnCoin", "now", "LDawnCoin$Standing;", true)
  | 4 => ("DawnCoin", "trial", "LDawnCoin$Standing;", true)
  | 5 => ("DawnCoin", "acts", "LDawnCoin$ActRow;", true)
  | 6 => ("DawnCoin", "hearsay", "LDawnCoin$Hearsay;", true)
  | 7 => ("DawnCoin", "slots", "[LDawnCoin$Standing;", true)
  | 8 => ("DawnCoin", "filled", "[Z", true)
  | 9 => ("DawnCoin", "best", "LDawnCoin$Best;", true)
  | 10 => ("DawnCoin", "gains", "[I", true)
  | 11 => ("DawnCoin", "things", "[I", true)
  | 12 => ("DawnCoin", "mine", "[I", true)
  | 13 => ("DawnCoin", "theirs", "[I", true)
  | _ => ("DawnCoin", "chain", "J", false)
def tyX6 : Nat → FieldType := fun k => match k with
  | 0 => .object "DawnCoin$Reader"
  | 1 => .object "DawnCoin$Town"
  | 2 => .object "DawnCoin$Town"
  | 3 => .object "DawnCoin$Standing"
  | 4 => .object "DawnCoin$Standing"
  | 5 => .object "DawnCoin$ActRow"
  | 6 => .object "DawnCoin$Hearsay"
  | 7 => .array (.object "DawnCoin$Standing")
  | 8 => .array .boolean
  | 9 => .object "DawnCoin$Best"
  | 10 => .array .int
  | 11 => .array .int
  | 12 => .array .int
  | 13 => .array .int
  | _ => .long
abbrev wsX60 : List Cond := u_ws RX6 TX6 15
theorem nmX6 : ∀ a, a < 15 → ∀ b, b < 15 → a ≠ b → (TX6 a).2.1 ≠ (TX6 b).2.1 := by decide +kernel
theorem tyX6_ok : ∀ k, k < 15 → parseFieldDescriptor (TX6 k).2.2.1 = some (tyX6 k) := by decide +kernel
abbrev cX6_init : ByteArray := prog_1_method_1_code
def yX6_init : MethodName := ⟨RX6, "<init>", "()V"⟩
abbrev cX6_write : ByteArray := prog_1_method_2_code
def yX6_write : MethodName := ⟨RX6, "write", "(I)I"⟩
abbrev cX6_wipe : ByteArray := prog_1_method_3_code
def yX6_wipe : MethodName := ⟨RX6, "wipe", "()I"⟩
abbrev cX6_fault : ByteArray := prog_1_method_4_code
def yX6_fault : MethodName := ⟨RX6, "fault", "()I"⟩
abbrev cX6_town : ByteArray := prog_1_method_5_code
def yX6_town : MethodName := ⟨RX6, "town", "()I"⟩
abbrev cX6_rumour : ByteArray := prog_1_method_6_code
def yX6_rumour : MethodName := ⟨RX6, "rumour", "(II)I"⟩
abbrev cX6_table : ByteArray := prog_1_method_7_code
def yX6_table : MethodName := ⟨RX6, "table", "(I)I"⟩
abbrev cX6_coins : ByteArray := prog_1_method_8_code
def yX6_coins : MethodName := ⟨RX6, "coins", "(II)I"⟩
abbrev cX6_dawn : ByteArray := prog_1_method_9_code
def yX6_dawn : MethodName := ⟨RX6, "dawn", "()I"⟩
abbrev cX6_say : ByteArray := prog_1_method_10_code
def yX6_say : MethodName := ⟨RX6, "say", "(II)I"⟩
abbrev cX6_deny : ByteArray := prog_1_method_11_code
def yX6_deny : MethodName := ⟨RX6, "deny", "(II)I"⟩
abbrev cX6_pay : ByteArray := prog_1_method_12_code
def yX6_pay : MethodName := ⟨RX6, "pay", "(III)I"⟩
abbrev cX6_undo : ByteArray := prog_1_method_13_code
def yX6_undo : MethodName := ⟨RX6, "undo", "()I"⟩
abbrev cX6_worth : ByteArray := prog_1_method_14_code
def yX6_worth : MethodName := ⟨RX6, "worth", "(II)I"⟩
abbrev cX6_purse : ByteArray := prog_1_method_15_code
def yX6_purse : MethodName := ⟨RX6, "purse", "(II)I"⟩
abbrev cX6_bestDay : ByteArray := prog_1_method_16_code
def yX6_bestDay : MethodName := ⟨RX6, "bestDay", "(I)I"⟩
abbrev cX6_reach : ByteArray := prog_1_method_17_code
def yX6_reach : MethodName := ⟨RX6, "reach", "(II)I"⟩
abbrev cX6_plan : ByteArray := prog_1_method_18_code
def yX6_plan : MethodName := ⟨RX6, "plan", "(IIZ)I"⟩
abbrev cX6_holds : ByteArray := prog_1_method_19_code
def yX6_holds : MethodName := ⟨RX6, "holds", "(IZ)I"⟩
abbrev cX6_judge : ByteArray := prog_1_method_20_code
def yX6_judge : MethodName := ⟨RX6, "judge", "(IJ)I"⟩
abbrev cX6_hear : ByteArray := prog_1_method_21_code
def yX6_hear : MethodName := ⟨RX6, "hear", "(IIIZ)I"⟩
abbrev cX6_unhear : ByteArray := prog_1_method_22_code
def yX6_unhear : MethodName := ⟨RX6, "unhear", "()I"⟩
abbrev cX6_where : ByteArray := prog_1_method_23_code
def yX6_where : MethodName := ⟨RX6, "where", "(II)I"⟩
abbrev cX6_share : ByteArray := prog_1_method_24_code
def yX6_share : MethodName := ⟨RX6, "share", "(IIIZ)I"⟩
abbrev cX6_rests : ByteArray := prog_1_method_25_code
def yX6_rests : MethodName := ⟨RX6, "rests", "(IIII)I"⟩
abbrev cX6_chance : ByteArray := prog_1_method_26_code
def yX6_chance : MethodName := ⟨RX6, "chance", "(IIIZ)I"⟩
abbrev cX6_seed : ByteArray := prog_1_method_27_code
def yX6_seed : MethodName := ⟨RX6, "seed", "(J)J"⟩
abbrev cX6_weeks : ByteArray := prog_1_method_28_code
def yX6_weeks : MethodName := ⟨RX6, "weeks", "(I)I"⟩
abbrev cX6_keep : ByteArray := prog_1_method_29_code
def yX6_keep : MethodName := ⟨RX6, "keep", "(I)I"⟩
abbrev cX6_again : ByteArray := prog_1_method_30_code
def yX6_again : MethodName := ⟨RX6, "again", "(I)I"⟩
abbrev cX6_count : ByteArray := prog_1_method_31_code
def yX6_count : MethodName := ⟨RX6, "count", "(I)I"⟩
abbrev cX6_saidIn : ByteArray := prog_1_method_32_code
def yX6_saidIn : MethodName := ⟨RX6, "saidIn", "(III)I"⟩
abbrev cX6_valueIn : ByteArray := prog_1_method_33_code
def yX6_valueIn : MethodName := ⟨RX6, "valueIn", "(III)I"⟩
abbrev cX6_coinValueIn : ByteArray := prog_1_method_34_code
def yX6_coinValueIn : MethodName := ⟨RX6, "coinValueIn", "(IIII)I"⟩
abbrev cX6_purseIn : ByteArray := prog_1_method_35_code
def yX6_purseIn : MethodName := ⟨RX6, "purseIn", "(II)I"⟩
abbrev cX6_valueAfterDenials : ByteArray := prog_1_method_36_code
def yX6_valueAfterDenials : MethodName := ⟨RX6, "valueAfterDenials", "(II)I"⟩
abbrev cX6_canSayThing : ByteArray := prog_1_method_37_code
def yX6_canSayThing : MethodName := ⟨RX6, "canSayThing", "(I)Z"⟩
abbrev cX6_thingBit : ByteArray := prog_1_method_38_code
def yX6_thingBit : MethodName := ⟨RX6, "thingBit", "(I)I"⟩
abbrev cX6_thingFigures : ByteArray := prog_1_method_39_code
def yX6_thingFigures : MethodName := ⟨RX6, "thingFigures", "(I)I"⟩
abbrev cX6_gainOf : ByteArray := prog_1_method_40_code
def yX6_gainOf : MethodName := ⟨RX6, "gainOf", "(IIII)I"⟩
abbrev cX6_offerOneThing : ByteArray := prog_1_method_41_code
def yX6_offerOneThing : MethodName := ⟨RX6, "offerOneThing", "()V"⟩
abbrev cX6_offerTwoThings : ByteArray := prog_1_method_42_code
def yX6_offerTwoThings : MethodName := ⟨RX6, "offerTwoThings", "(II)V"⟩
abbrev cX6_trySaying : ByteArray := prog_1_method_43_code
def yX6_trySaying : MethodName := ⟨RX6, "trySaying", "(II)Z"⟩
abbrev cX6_tryDenying : ByteArray := prog_1_method_44_code
def yX6_tryDenying : MethodName := ⟨RX6, "tryDenying", "(II)Z"⟩
abbrev cX6_tryThing : ByteArray := prog_1_method_45_code
def yX6_tryThing : MethodName := ⟨RX6, "tryThing", "(I)Z"⟩
abbrev cX6_agreesWithHeard : ByteArray := prog_1_method_46_code
def yX6_agreesWithHeard : MethodName := ⟨RX6, "agreesWithHeard", "(II)Z"⟩
abbrev cX6_canChoose : ByteArray := prog_1_method_47_code
def yX6_canChoose : MethodName := ⟨RX6, "canChoose", "(II)Z"⟩
abbrev cX6_pairOf : ByteArray := prog_1_method_48_code
def yX6_pairOf : MethodName := ⟨RX6, "pairOf", "(II)I"⟩
abbrev cX6_weighChoices : ByteArray := prog_1_method_49_code
def yX6_weighChoices : MethodName := ⟨RX6, "weighChoices", "(III)V"⟩
abbrev cX6_isAtRest : ByteArray := prog_1_method_50_code
def yX6_isAtRest : MethodName := ⟨RX6, "isAtRest", "(IIII)Z"⟩
abbrev cX6_slotAt : ByteArray := prog_1_method_51_code
def yX6_slotAt : MethodName := ⟨RX6, "slotAt", "(I)LDawnCoin$Standing;"⟩
abbrev cX6_isOutside : ByteArray := prog_1_method_52_code
def yX6_isOutside : MethodName := ⟨RX6, "isOutside", "(III)Z"⟩
abbrev cX6_isTable : ByteArray := prog_1_method_53_code
def yX6_isTable : MethodName := ⟨RX6, "isTable", "(I)Z"⟩
abbrev cX6_isIndex : ByteArray := prog_1_method_54_code
def yX6_isIndex : MethodName := ⟨RX6, "isIndex", "(II)Z"⟩
abbrev cX6_at : ByteArray := prog_1_method_55_code
def yX6_at : MethodName := ⟨RX6, "at", "([II)I"⟩
abbrev cX6_hasBit : ByteArray := prog_1_method_56_code
def yX6_hasBit : MethodName := ⟨RX6, "hasBit", "(II)Z"⟩
abbrev cX6_power : ByteArray := prog_1_method_57_code
def yX6_power : MethodName := ⟨RX6, "power", "(II)I"⟩
abbrev cX6_factorial : ByteArray := prog_1_method_58_code
def yX6_factorial : MethodName := ⟨RX6, "factorial", "(I)I"⟩
abbrev cX6_fraction : ByteArray := prog_1_method_59_code
def yX6_fraction : MethodName := ⟨RX6, "fraction", "(IIZ)I"⟩
abbrev cX6_commonDivisor : ByteArray := prog_1_method_60_code
def yX6_commonDivisor : MethodName := ⟨RX6, "commonDivisor", "(II)I"⟩
def RX7 : String := "DawnCoinModel"
def TX7 : u_T := fun k => match k with
  | 0 => ("DawnCoinModel", "rumours", "I", false)
  | 1 => ("DawnCoinModel", "people", "I", false)
  | 2 => ("DawnCoinModel", "word", "[I", true)
  | 3 => ("DawnCoinModel", "lie", "[I", true)
  | 4 => ("DawnCoinModel", "proved", "[I", true)
  | 5 => ("DawnCoinModel", "beside", "[I", true)
  | 6 => ("DawnCoinModel", "sits", "[I", true)
  | 7 => ("DawnCoinModel", "now", "[I", true)
  | 8 => ("DawnCoinModel", "readWord", "[I", true)
  | 9 => ("DawnCoinModel", "readLie", "[I", true)
  | 10 => ("DawnCoinModel", "readProved", "[I", true)
  | 11 => ("DawnCoinModel", "readBeside", "[I", true)
  | 12 => ("DawnCoinModel", "readSaid", "[I", true)
  | 13 => ("DawnCoinModel", "readSits", "[I", true)
  | 14 => ("DawnCoinModel", "readRumours", "I", false)
  | 15 => ("DawnCoinModel", "readPeople", "I", false)
  | 16 => ("DawnCoinModel", "text", "[I", true)
  | 17 => ("DawnCoinModel", "length", "I", false)
  | 18 => ("DawnCoinModel", "at", "I", false)
  | 19 => ("DawnCoinModel", "faultAt", "I", false)
  | 20 => ("DawnCoinModel", "acts", "I", false)
  | 21 => ("DawnCoinModel", "next", "I", false)
  | 22 => ("DawnCoinModel", "row", "[I", true)
  | 23 => ("DawnCoinModel", "heard", "I", false)
  | 24 => ("DawnCoinModel", "heardOf", "[I", true)
  | 25 => ("DawnCoinModel", "heardAt", "[I", true)
  | 26 => ("DawnCoinModel", "heardIn", "[I", true)
  | 27 => ("DawnCoinModel", "heardSaid", "[Z", true)
  | 28 => ("DawnCoinModel", "ones6", "[I", true)
  | 29 => ("DawnCoinModel", "others6", "[I", true)
  | 30 => ("DawnCoinModel", "seed", "J", false)
  | 31 => ("DawnCoinModel", "isKept", "[Z", true)
  | _ => ("DawnCoinModel", "kept", "[I", true)
def tyX7 : Nat → FieldType := fun k => match k with
  | 0 => .int
  | 1 => .int
  | 2 => .array .int
  | 3 => .array .int
  | 4 => .array .int
  | 5 => .array .int
  | 6 => .array .int
  | 7 => .array .int
  | 8 => .array .int
  | 9 => .array .int
  | 10 => .array .int
  | 11 => .array .int
  | 12 => .array .int
  | 13 => .array .int
  | 14 => .int
  | 15 => .int
  | 16 => .array .int
  | 17 => .int
  | 18 => .int
  | 19 => .int
  | 20 => .int
  | 21 => .int
  | 22 => .array .int
  | 23 => .int
  | 24 => .array .int
  | 25 => .array .int
  | 26 => .array .int
  | 27 => .array .boolean
  | 28 => .array .int
  | 29 => .array .int
  | 30 => .long
  | 31 => .array .boolean
  | _ => .array .int
abbrev wsX70 : List Cond := u_ws RX7 TX7 33
theorem nmX7 : ∀ a, a < 33 → ∀ b, b < 33 → a ≠ b → (TX7 a).2.1 ≠ (TX7 b).2.1 := by decide +kernel
theorem tyX7_ok : ∀ k, k < 33 → parseFieldDescriptor (TX7 k).2.2.1 = some (tyX7 k) := by decide +kernel
abbrev cX7_init : ByteArray := prog_9_method_1_code
def yX7_init : MethodName := ⟨RX7, "<init>", "()V"⟩
abbrev cX7_in : ByteArray := prog_9_method_3_code
def yX7_in : MethodName := ⟨RX7, "in", "(JJJ)Z"⟩
abbrev cX7_has : ByteArray := prog_9_method_4_code
def yX7_has : MethodName := ⟨RX7, "has", "(II)Z"⟩
abbrev cX7_ones : ByteArray := prog_9_method_5_code
def yX7_ones : MethodName := ⟨RX7, "ones", "(I)I"⟩
abbrev cX7_write : ByteArray := prog_9_method_6_code
def yX7_write : MethodName := ⟨RX7, "write", "(I)I"⟩
abbrev cX7_wipe : ByteArray := prog_9_method_7_code
def yX7_wipe : MethodName := ⟨RX7, "wipe", "()I"⟩
abbrev cX7_figureOf : ByteArray := prog_9_method_8_code
def yX7_figureOf : MethodName := ⟨RX7, "figureOf", "(I)I"⟩
abbrev cX7_pairsLeft : ByteArray := prog_9_method_9_code
def yX7_pairsLeft : MethodName := ⟨RX7, "pairsLeft", "(I)I"⟩
abbrev cX7_firstsLeft : ByteArray := prog_9_method_10_code
def yX7_firstsLeft : MethodName := ⟨RX7, "firstsLeft", "()I"⟩
abbrev cX7_saidLeft : ByteArray := prog_9_method_11_code
def yX7_saidLeft : MethodName := ⟨RX7, "saidLeft", "()I"⟩
abbrev cX7_readText : ByteArray := prog_9_method_12_code
def yX7_readText : MethodName := ⟨RX7, "readText", "()I"⟩
abbrev cX7_readPart : ByteArray := prog_9_method_13_code
def yX7_readPart : MethodName := ⟨RX7, "readPart", "(I)V"⟩
abbrev cX7_fault : ByteArray := prog_9_method_14_code
def yX7_fault : MethodName := ⟨RX7, "fault", "()I"⟩
abbrev cX7_town : ByteArray := prog_9_method_15_code
def yX7_town : MethodName := ⟨RX7, "town", "()I"⟩
abbrev cX7_isRumour : ByteArray := prog_9_method_16_code
def yX7_isRumour : MethodName := ⟨RX7, "isRumour", "(I)Z"⟩
abbrev cX7_isPerson : ByteArray := prog_9_method_17_code
def yX7_isPerson : MethodName := ⟨RX7, "isPerson", "(I)Z"⟩
abbrev cX7_isTable : ByteArray := prog_9_method_18_code
def yX7_isTable : MethodName := ⟨RX7, "isTable", "(I)Z"⟩
abbrev cX7_isProved : ByteArray := prog_9_method_19_code
def yX7_isProved : MethodName := ⟨RX7, "isProved", "(II)Z"⟩
abbrev cX7_worthOf : ByteArray := prog_9_method_20_code
def yX7_worthOf : MethodName := ⟨RX7, "worthOf", "(II)I"⟩
abbrev cX7_rumour : ByteArray := prog_9_method_21_code
def yX7_rumour : MethodName := ⟨RX7, "rumour", "(II)I"⟩
abbrev cX7_table : ByteArray := prog_9_method_22_code
def yX7_table : MethodName := ⟨RX7, "table", "(I)I"⟩
abbrev cX7_coinAt : ByteArray := prog_9_method_23_code
def yX7_coinAt : MethodName := ⟨RX7, "coinAt", "(III)I"⟩
abbrev cX7_coins : ByteArray := prog_9_method_24_code
def yX7_coins : MethodName := ⟨RX7, "coins", "(II)I"⟩
abbrev cX7_dawnOn : ByteArray := prog_9_method_25_code
def yX7_dawnOn : MethodName := ⟨RX7, "dawnOn", "(I)I"⟩
abbrev cX7_canSay : ByteArray := prog_9_method_26_code
def yX7_canSay : MethodName := ⟨RX7, "canSay", "(III)Z"⟩
abbrev cX7_canDeny : ByteArray := prog_9_method_27_code
def yX7_canDeny : MethodName := ⟨RX7, "canDeny", "(III)Z"⟩
abbrev cX7_denyOn : ByteArray := prog_9_method_28_code
def yX7_denyOn : MethodName := ⟨RX7, "denyOn", "(III)V"⟩
abbrev cX7_keepAct : ByteArray := prog_9_method_29_code
def yX7_keepAct : MethodName := ⟨RX7, "keepAct", "()V"⟩
abbrev cX7_dawn : ByteArray := prog_9_method_30_code
def yX7_dawn : MethodName := ⟨RX7, "dawn", "()I"⟩
abbrev cX7_say : ByteArray := prog_9_method_31_code
def yX7_say : MethodName := ⟨RX7, "say", "(II)I"⟩
abbrev cX7_deny : ByteArray := prog_9_method_32_code
def yX7_deny : MethodName := ⟨RX7, "deny", "(II)I"⟩
abbrev cX7_takes : ByteArray := prog_9_method_33_code
def yX7_takes : MethodName := ⟨RX7, "takes", "(II)Z"⟩
abbrev cX7_pay : ByteArray := prog_9_method_34_code
def yX7_pay : MethodName := ⟨RX7, "pay", "(III)I"⟩
abbrev cX7_undo : ByteArray := prog_9_method_35_code
def yX7_undo : MethodName := ⟨RX7, "undo", "()I"⟩
abbrev cX7_layTrial : ByteArray := prog_9_method_36_code
def yX7_layTrial : MethodName := ⟨RX7, "layTrial", "()V"⟩
abbrev cX7_dawnTrial : ByteArray := prog_9_method_37_code
def yX7_dawnTrial : MethodName := ⟨RX7, "dawnTrial", "(I)V"⟩
abbrev cX7_purseOf : ByteArray := prog_9_method_38_code
def yX7_purseOf : MethodName := ⟨RX7, "purseOf", "(II)I"⟩
abbrev cX7_worth : ByteArray := prog_9_method_39_code
def yX7_worth : MethodName := ⟨RX7, "worth", "(II)I"⟩
abbrev cX7_purse : ByteArray := prog_9_method_40_code
def yX7_purse : MethodName := ⟨RX7, "purse", "(II)I"⟩
abbrev cX7_bestDay : ByteArray := prog_9_method_41_code
def yX7_bestDay : MethodName := ⟨RX7, "bestDay", "(I)I"⟩
abbrev cX7_reach : ByteArray := prog_9_method_42_code
def yX7_reach : MethodName := ⟨RX7, "reach", "(II)I"⟩
abbrev cX7_sayTrial : ByteArray := prog_9_method_43_code
def yX7_sayTrial : MethodName := ⟨RX7, "sayTrial", "(II)Z"⟩
abbrev cX7_planned : ByteArray := prog_9_method_44_code
def yX7_planned : MethodName := ⟨RX7, "planned", "(III)I"⟩
abbrev cX7_plan : ByteArray := prog_9_method_45_code
def yX7_plan : MethodName := ⟨RX7, "plan", "(IIZ)I"⟩
abbrev cX7_canBe : ByteArray := prog_9_method_46_code
def yX7_canBe : MethodName := ⟨RX7, "canBe", "(I)Z"⟩
abbrev cX7_holds : ByteArray := prog_9_method_47_code
def yX7_holds : MethodName := ⟨RX7, "holds", "(IZ)I"⟩
abbrev cX7_tenTo : ByteArray := prog_9_method_48_code
def yX7_tenTo : MethodName := ⟨RX7, "tenTo", "(I)J"⟩
abbrev cX7_allWorth : ByteArray := prog_9_method_49_code
def yX7_allWorth : MethodName := ⟨RX7, "allWorth", "(I)I"⟩
abbrev cX7_tryThing : ByteArray := prog_9_method_50_code
def yX7_tryThing : MethodName := ⟨RX7, "tryThing", "(I)Z"⟩
abbrev cX7_judge : ByteArray := prog_9_method_51_code
def yX7_judge : MethodName := ⟨RX7, "judge", "(IJ)I"⟩
abbrev cX7_hear : ByteArray := prog_9_method_52_code
def yX7_hear : MethodName := ⟨RX7, "hear", "(IIIZ)I"⟩
abbrev cX7_unhear : ByteArray := prog_9_method_53_code
def yX7_unhear : MethodName := ⟨RX7, "unhear", "()I"⟩
abbrev cX7_isHeard : ByteArray := prog_9_method_54_code
def yX7_isHeard : MethodName := ⟨RX7, "isHeard", "(II)Z"⟩
abbrev cX7_where : ByteArray := prog_9_method_55_code
def yX7_where : MethodName := ⟨RX7, "where", "(II)I"⟩
abbrev cX7_factorial : ByteArray := prog_9_method_56_code
def yX7_factorial : MethodName := ⟨RX7, "factorial", "(I)I"⟩
abbrev cX7_common : ByteArray := prog_9_method_57_code
def yX7_common : MethodName := ⟨RX7, "common", "(II)I"⟩
abbrev cX7_worthBy : ByteArray := prog_9_method_58_code
def yX7_worthBy : MethodName := ⟨RX7, "worthBy", "(III)I"⟩
abbrev cX7_share : ByteArray := prog_9_method_59_code
def yX7_share : MethodName := ⟨RX7, "share", "(IIIZ)I"⟩
abbrev cX7_isChoice : ByteArray := prog_9_method_60_code
def yX7_isChoice : MethodName := ⟨RX7, "isChoice", "(II)Z"⟩
abbrev cX7_layPairs : ByteArray := prog_9_method_61_code
def yX7_layPairs : MethodName := ⟨RX7, "layPairs", "(III)V"⟩
abbrev cX7_isRest : ByteArray := prog_9_method_62_code
def yX7_isRest : MethodName := ⟨RX7, "isRest", "(III)Z"⟩
abbrev cX7_rests : ByteArray := prog_9_method_63_code
def yX7_rests : MethodName := ⟨RX7, "rests", "(IIII)I"⟩
abbrev cX7_chance : ByteArray := prog_9_method_64_code
def yX7_chance : MethodName := ⟨RX7, "chance", "(IIIZ)I"⟩
abbrev cX7_seed : ByteArray := prog_9_method_65_code
def yX7_seed : MethodName := ⟨RX7, "seed", "(J)J"⟩
abbrev cX7_allPurses : ByteArray := prog_9_method_66_code
def yX7_allPurses : MethodName := ⟨RX7, "allPurses", "(I)I"⟩
abbrev cX7_weeks : ByteArray := prog_9_method_67_code
def yX7_weeks : MethodName := ⟨RX7, "weeks", "(I)I"⟩
abbrev cX7_keep : ByteArray := prog_9_method_68_code
def yX7_keep : MethodName := ⟨RX7, "keep", "(I)I"⟩
abbrev cX7_again : ByteArray := prog_9_method_69_code
def yX7_again : MethodName := ⟨RX7, "again", "(I)I"⟩
abbrev cX7_count : ByteArray := prog_9_method_70_code
def yX7_count : MethodName := ⟨RX7, "count", "(I)I"⟩
def RJ6 : String := "java/lang/Integer"
def TJ6 : u_T := fun k => match k with
  | _ => ("", "", "", false)
def tyJ6 : Nat → FieldType := fun k => match k with
  | _ => .int
abbrev wsJ60 : List Cond := u_ws RJ6 TJ6 0
theorem nmJ6 : ∀ a, a < 0 → ∀ b, b < 0 → a ≠ b → (TJ6 a).2.1 ≠ (TJ6 b).2.1 := by decide +kernel
theorem tyJ6_ok : ∀ k, k < 0 → parseFieldDescriptor (TJ6 k).2.2.1 = some (tyJ6 k) := by decide +kernel
abbrev cJ6_bitCount_0f7a4 : ByteArray := prog_10_method_49_code
def yJ6_bitCount_0f7a4 : MethodName := ⟨RJ6, "bitCount", "(I)I"⟩
def RJ9 : String := "java/lang/Math"
def TJ9 : u_T := fun k => match k with
  | _ => ("", "", "", false)
def tyJ9 : Nat → FieldType := fun k => match k with
  | _ => .int
abbrev wsJ90 : List Cond := u_ws RJ9 TJ9 0
theorem nmJ9 : ∀ a, a < 0 → ∀ b, b < 0 → a ≠ b → (TJ9 a).2.1 ≠ (TJ9 b).2.1 := by decide +kernel
theorem tyJ9_ok : ∀ k, k < 0 → parseFieldDescriptor (TJ9 k).2.2.1 = some (tyJ9 k) := by decide +kernel
abbrev cJ9_abs_0f7a4 : ByteArray := prog_11_method_59_code
def yJ9_abs_0f7a4 : MethodName := ⟨RJ9, "abs", "(I)I"⟩
abbrev cJ9_max_7cf53 : ByteArray := prog_11_method_65_code
def yJ9_max_7cf53 : MethodName := ⟨RJ9, "max", "(II)I"⟩
abbrev cJ9_min_7cf53 : ByteArray := prog_11_method_69_code
def yJ9_min_7cf53 : MethodName := ⟨RJ9, "min", "(II)I"⟩
def RJ10 : String := "java/lang/System"
def TJ10 : u_T := fun k => match k with
  | _ => ("", "", "", false)
def tyJ10 : Nat → FieldType := fun k => match k with
  | _ => .int
abbrev wsJ100 : List Cond := u_ws RJ10 TJ10 0
theorem nmJ10 : ∀ a, a < 0 → ∀ b, b < 0 → a ≠ b → (TJ10 a).2.1 ≠ (TJ10 b).2.1 := by decide +kernel
theorem tyJ10_ok : ∀ k, k < 0 → parseFieldDescriptor (TJ10 k).2.2.1 = some (tyJ10 k) := by decide +kernel
def RL : String := "DawnCoinLaw"
abbrev cL_law : ByteArray := code
def yL_law : MethodName := ⟨RL, "law", "([I)Z"⟩
def wsL_law_r1 : List Cond := [Cond.classLink RL 7 RX6, Cond.instantiable RX6 15, Cond.initialized RX6, Cond.classLink RL 10 RX7, Cond.instantiable RX7 33, Cond.initialized RX7, Cond.constantLong RL 91 (4294967295), Cond.methodLink RL 9 yX6_init, Cond.instanceMethod yX6_init, Cond.code yX6_init cX6_init 2 none, Cond.methodLink RX6 3 objectInit, Cond.instanceMethod objectInit, Cond.code objectInit ⟨#[0xb1]⟩ 1 none, Cond.classLink RX6 9 RX3, Cond.instantiable RX3 6, Cond.initialized RX3, Cond.fieldLink RX6 12 "DawnCoin" "reader" "LDawnCoin$Reader;", Cond.classLink RX6 16 RX5, Cond.instantiable RX5 8, Cond.initialized RX5, Cond.fieldLink RX6 19 "DawnCoin" "told" "LDawnCoin$Town;", Cond.fieldLink RX6 23 "DawnCoin" "draft" "LDawnCoin$Town;", Cond.classLink RX6 26 RX4, Cond.instantiable RX4 4]
def wsL_law_r2 : List Cond := [Cond.initialized RX4, Cond.fieldLink RX6 29 "DawnCoin" "now" "LDawnCoin$Standing;", Cond.fieldLink RX6 33 "DawnCoin" "trial" "LDawnCoin$Standing;", Cond.classLink RX6 36 RX0, Cond.instantiable RX0 3, Cond.initialized RX0, Cond.fieldLink RX6 39 "DawnCoin" "acts" "LDawnCoin$ActRow;", Cond.classLink RX6 43 RX2, Cond.instantiable RX2 5, Cond.initialized RX2, Cond.fieldLink RX6 46 "DawnCoin" "hearsay" "LDawnCoin$Hearsay;", Cond.fieldLink RX6 50 "DawnCoin" "slots" "[LDawnCoin$Standing;", Cond.arrayClass .boolean, Cond.fieldLink RX6 54 "DawnCoin" "filled" "[Z", Cond.classLink RX6 58 RX1, Cond.instantiable RX1 2, Cond.initialized RX1, Cond.fieldLink RX6 61 "DawnCoin" "best" "LDawnCoin$Best;", Cond.arrayClass .int, Cond.fieldLink RX6 65 "DawnCoin" "gains" "[I", Cond.fieldLink RX6 69 "DawnCoin" "things" "[I", Cond.fieldLink RX6 72 "DawnCoin" "mine" "[I", Cond.fieldLink RX6 75 "DawnCoin" "theirs" "[I", Cond.instanceMethod yX3_init]
def wsL_law_r3 : List Cond := [Cond.code yX3_init cX3_init 1 none, Cond.methodLink RX3 3 objectInit, Cond.fieldLink RX3 9 "DawnCoin$Reader" "letters" "[I", Cond.instanceMethod yX5_init, Cond.code yX5_init cX5_init 1 none, Cond.methodLink RX5 3 objectInit, Cond.fieldLink RX5 9 "DawnCoin$Town" "word" "[I", Cond.fieldLink RX5 15 "DawnCoin$Town" "lie" "[Z", Cond.fieldLink RX5 19 "DawnCoin$Town" "proof" "[I", Cond.fieldLink RX5 22 "DawnCoin$Town" "rivals" "[I", Cond.fieldLink RX5 25 "DawnCoin$Town" "opening" "[I", Cond.fieldLink RX5 28 "DawnCoin$Town" "seat" "[I", Cond.instanceMethod yX4_init, Cond.code yX4_init cX4_init 1 none, Cond.methodLink RX4 3 objectInit, Cond.fieldLink RX4 9 "DawnCoin$Standing" "said" "[I", Cond.fieldLink RX4 15 "DawnCoin$Standing" "denied" "[I", Cond.fieldLink RX4 18 "DawnCoin$Standing" "coin" "[I", Cond.methodLink RX6 38 yX0_init, Cond.instanceMethod yX0_init, Cond.code yX0_init cX0_init 2 none, Cond.methodLink RX0 3 objectInit, Cond.classLink RX0 9 RX4, Cond.fieldLink RX0 11 "DawnCoin$ActRow" "ahead" "[LDawnCoin$Standing;"]
def wsL_law_r4 : List Cond := [Cond.instanceMethod yX2_init, Cond.code yX2_init cX2_init 1 none, Cond.methodLink RX2 3 objectInit, Cond.fieldLink RX2 9 "DawnCoin$Hearsay" "rumour" "[I", Cond.fieldLink RX2 15 "DawnCoin$Hearsay" "place" "[I", Cond.fieldLink RX2 18 "DawnCoin$Hearsay" "days" "[I", Cond.fieldLink RX2 21 "DawnCoin$Hearsay" "said" "[Z", Cond.instanceMethod yX1_init, Cond.code yX1_init cX1_init 1 none, Cond.methodLink RX1 1 objectInit, Cond.methodLink RL 12 yX7_init, Cond.instanceMethod yX7_init, Cond.code yX7_init cX7_init 1 none, Cond.methodLink RX7 1 objectInit, Cond.fieldLink RX7 7 "DawnCoinModel" "word" "[I", Cond.fieldLink RX7 13 "DawnCoinModel" "lie" "[I", Cond.fieldLink RX7 16 "DawnCoinModel" "proved" "[I", Cond.fieldLink RX7 19 "DawnCoinModel" "beside" "[I", Cond.fieldLink RX7 22 "DawnCoinModel" "sits" "[I", Cond.fieldLink RX7 25 "DawnCoinModel" "now" "[I", Cond.fieldLink RX7 28 "DawnCoinModel" "readWord" "[I", Cond.fieldLink RX7 31 "DawnCoinModel" "readLie" "[I", Cond.fieldLink RX7 34 "DawnCoinModel" "readProved" "[I", Cond.fieldLink RX7 37 "DawnCoinModel" "readBeside" "[I"]
def wsL_law_r5 : List Cond := [Cond.fieldLink RX7 40 "DawnCoinModel" "readSaid" "[I", Cond.fieldLink RX7 43 "DawnCoinModel" "readSits" "[I", Cond.fieldLink RX7 46 "DawnCoinModel" "text" "[I", Cond.fieldLink RX7 49 "DawnCoinModel" "row" "[I", Cond.fieldLink RX7 52 "DawnCoinModel" "heardOf" "[I", Cond.fieldLink RX7 55 "DawnCoinModel" "heardAt" "[I", Cond.fieldLink RX7 58 "DawnCoinModel" "heardIn" "[I", Cond.fieldLink RX7 61 "DawnCoinModel" "heardSaid" "[Z", Cond.fieldLink RX7 65 "DawnCoinModel" "ones6" "[I", Cond.fieldLink RX7 68 "DawnCoinModel" "others6" "[I", Cond.fieldLink RX7 71 "DawnCoinModel" "isKept" "[Z", Cond.fieldLink RX7 74 "DawnCoinModel" "kept" "[I", Cond.fieldLink RX7 77 "DawnCoinModel" "rumours" "I", Cond.methodLink RL 13 yX6_write, Cond.instanceMethod yX6_write, Cond.selects RX6 yX6_write yX6_write, Cond.code yX6_write cX6_write 2 (some .int), Cond.methodLink RX6 78 yX6_isOutside, Cond.static yX6_isOutside, Cond.code yX6_isOutside cX6_isOutside 3 (some .boolean), Cond.methodLink RX6 82 yX3_append, Cond.instanceMethod yX3_append, Cond.selects RX3 yX3_append yX3_append, Cond.code yX3_append cX3_append 2 (some .int)]
def wsL_law_r6 : List Cond := [Cond.fieldLink RX3 15 "DawnCoin$Reader" "length" "I", Cond.static yX6_isIndex, Cond.code yX6_isIndex cX6_isIndex 2 (some .boolean), Cond.methodLink RL 17 yX7_write, Cond.instanceMethod yX7_write, Cond.selects RX7 yX7_write yX7_write, Cond.code yX7_write cX7_write 2 (some .int), Cond.constantLong RX7 81 (255), Cond.fieldLink RX7 87 "DawnCoinModel" "length" "I", Cond.methodLink RX7 83 yX7_in, Cond.static yX7_in, Cond.code yX7_in cX7_in 6 (some .boolean), Cond.methodLink RL 18 yX6_wipe, Cond.instanceMethod yX6_wipe, Cond.selects RX6 yX6_wipe yX6_wipe, Cond.code yX6_wipe cX6_wipe 2 (some .int), Cond.fieldLink RX6 86 "DawnCoin$Reader" "length" "I", Cond.methodLink RL 22 yX7_wipe, Cond.instanceMethod yX7_wipe, Cond.selects RX7 yX7_wipe yX7_wipe, Cond.code yX7_wipe cX7_wipe 2 (some .int), Cond.methodLink RL 23 yX6_fault, Cond.instanceMethod yX6_fault, Cond.selects RX6 yX6_fault yX6_fault]
def wsL_law_r7 : List Cond := [Cond.code yX6_fault cX6_fault 1 (some .int), Cond.methodLink RX6 90 yX3_readInto, Cond.instanceMethod yX3_readInto, Cond.selects RX3 yX3_readInto yX3_readInto, Cond.code yX3_readInto cX3_readInto 3 (some .int), Cond.fieldLink RX3 28 "DawnCoin$Reader" "part" "I", Cond.methodLink RX3 23 yX5_clear, Cond.instanceMethod yX5_clear, Cond.selects RX5 yX5_clear yX5_clear, Cond.code yX5_clear cX5_clear 1 none, Cond.fieldLink RX5 31 "DawnCoin$Town" "rumours" "I", Cond.fieldLink RX5 35 "DawnCoin$Town" "people" "I", Cond.methodLink RX3 31 yX3_takes, Cond.instanceMethod yX3_takes, Cond.selects RX3 yX3_takes yX3_takes, Cond.code yX3_takes cX3_takes 4 (some .boolean), Cond.fieldLink RX3 35 "DawnCoin$Reader" "figures" "I", Cond.methodLink RX3 38 yX3_opensPart, Cond.instanceMethod yX3_opensPart, Cond.selects RX3 yX3_opensPart yX3_opensPart, Cond.code yX3_opensPart cX3_opensPart 3 (some .boolean), Cond.fieldLink RX3 53 "DawnCoin$Town" "rumours" "I", Cond.fieldLink RX3 60 "DawnCoin$Town" "people" "I", Cond.methodLink RX3 56 yX5_hasFreePair]
def wsL_law_r8 : List Cond := [Cond.instanceMethod yX5_hasFreePair, Cond.selects RX5 yX5_hasFreePair yX5_hasFreePair, Cond.code yX5_hasFreePair cX5_hasFreePair 3 (some .boolean), Cond.methodLink RX5 71 yX5_freePartners, Cond.instanceMethod yX5_freePartners, Cond.selects RX5 yX5_freePartners yX5_freePartners, Cond.code yX5_freePartners cX5_freePartners 3 (some .int), Cond.methodLink RX5 42 yX5_hasRumour, Cond.instanceMethod yX5_hasRumour, Cond.selects RX5 yX5_hasRumour yX5_hasRumour, Cond.code yX5_hasRumour cX5_hasRumour 2 (some .boolean), Cond.methodLink RX3 63 yX5_hasFreeTable, Cond.instanceMethod yX5_hasFreeTable, Cond.selects RX5 yX5_hasFreeTable yX5_hasFreeTable, Cond.code yX5_hasFreeTable cX5_hasFreeTable 3 (some .boolean), Cond.methodLink RX5 74 yX5_freeTables, Cond.instanceMethod yX5_freeTables, Cond.selects RX5 yX5_freeTables yX5_freeTables, Cond.code yX5_freeTables cX5_freeTables 2 (some .int), Cond.methodLink RX3 41 yX3_takesOfRumour, Cond.instanceMethod yX3_takesOfRumour, Cond.selects RX3 yX3_takesOfRumour yX3_takesOfRumour, Cond.code yX3_takesOfRumour cX3_takesOfRumour 3 (some .boolean), Cond.fieldLink RX3 66 "DawnCoin$Reader" "first" "I"]
def wsL_law_r9 : List Cond := [Cond.fieldLink RX3 73 "DawnCoin$Reader" "second" "I", Cond.methodLink RX3 76 yX3_endsRumour, Cond.instanceMethod yX3_endsRumour, Cond.selects RX3 yX3_endsRumour yX3_endsRumour, Cond.code yX3_endsRumour cX3_endsRumour 3 (some .boolean), Cond.methodLink RX3 79 yX5_addRumour, Cond.instanceMethod yX5_addRumour, Cond.selects RX5 yX5_addRumour yX5_addRumour, Cond.code yX5_addRumour cX5_addRumour 4 none, Cond.methodLink RX3 44 yX3_takesOfRivals, Cond.instanceMethod yX3_takesOfRivals, Cond.selects RX3 yX3_takesOfRivals yX3_takesOfRivals, Cond.code yX3_takesOfRivals cX3_takesOfRivals 3 (some .boolean), Cond.methodLink RX3 83 yX5_freePartners, Cond.static yX6_hasBit, Cond.code yX6_hasBit cX6_hasBit 2 (some .boolean), Cond.methodLink RX3 90 yX5_addRivals, Cond.instanceMethod yX5_addRivals, Cond.selects RX5 yX5_addRivals yX5_addRivals, Cond.code yX5_addRivals cX5_addRivals 3 none, Cond.methodLink RX3 47 yX3_takesOfPerson, Cond.instanceMethod yX3_takesOfPerson, Cond.selects RX3 yX3_takesOfPerson yX3_takesOfPerson, Cond.code yX3_takesOfPerson cX3_takesOfPerson 3 (some .boolean)]
def wsL_law_r10 : List Cond := [Cond.static yX6_isTable, Cond.code yX6_isTable cX6_isTable 1 (some .boolean), Cond.methodLink RX3 98 yX5_addPerson, Cond.instanceMethod yX5_addPerson, Cond.selects RX5 yX5_addPerson yX5_addPerson, Cond.code yX5_addPerson cX5_addPerson 2 none, Cond.methodLink RX3 50 yX3_takesOfOpening, Cond.instanceMethod yX3_takesOfOpening, Cond.selects RX3 yX3_takesOfOpening yX3_takesOfOpening, Cond.code yX3_takesOfOpening cX3_takesOfOpening 3 (some .boolean), Cond.methodLink RX3 102 yX5_freeTables, Cond.methodLink RX3 105 yX5_addOpening, Cond.instanceMethod yX5_addOpening, Cond.selects RX5 yX5_addOpening yX5_addOpening, Cond.code yX5_addOpening cX5_addOpening 3 none, Cond.methodLink RL 26 yX7_fault, Cond.instanceMethod yX7_fault, Cond.selects RX7 yX7_fault yX7_fault, Cond.code yX7_fault cX7_fault 1 (some .int), Cond.methodLink RX7 126 yX7_readText, Cond.instanceMethod yX7_readText, Cond.selects RX7 yX7_readText yX7_readText, Cond.code yX7_readText cX7_readText 2 (some .int), Cond.fieldLink RX7 93 "DawnCoinModel" "at" "I"]
def wsL_law_r11 : List Cond := [Cond.fieldLink RX7 90 "DawnCoinModel" "faultAt" "I", Cond.fieldLink RX7 102 "DawnCoinModel" "readRumours" "I", Cond.fieldLink RX7 109 "DawnCoinModel" "readPeople" "I", Cond.methodLink RX7 112 yX7_readPart, Cond.instanceMethod yX7_readPart, Cond.selects RX7 yX7_readPart yX7_readPart, Cond.code yX7_readPart cX7_readPart 4 none, Cond.methodLink RX7 116 yX7_figureOf, Cond.instanceMethod yX7_figureOf, Cond.selects RX7 yX7_figureOf yX7_figureOf, Cond.code yX7_figureOf cX7_figureOf 3 (some .int), Cond.constantLong RX7 96 (9), Cond.methodLink RX7 98 yX7_has, Cond.static yX7_has, Cond.code yX7_has cX7_has 2 (some .boolean), Cond.methodLink RX7 119 yX7_firstsLeft, Cond.instanceMethod yX7_firstsLeft, Cond.selects RX7 yX7_firstsLeft yX7_firstsLeft, Cond.code yX7_firstsLeft cX7_firstsLeft 3 (some .int), Cond.methodLink RX7 105 yX7_pairsLeft, Cond.instanceMethod yX7_pairsLeft, Cond.selects RX7 yX7_pairsLeft yX7_pairsLeft, Cond.code yX7_pairsLeft cX7_pairsLeft 4 (some .int), Cond.methodLink RX7 123 yX7_saidLeft]
def wsL_law_r12 : List Cond := [Cond.instanceMethod yX7_saidLeft, Cond.selects RX7 yX7_saidLeft yX7_saidLeft, Cond.code yX7_saidLeft cX7_saidLeft 3 (some .int), Cond.methodLink RL 27 yX6_town, Cond.instanceMethod yX6_town, Cond.selects RX6 yX6_town yX6_town, Cond.code yX6_town cX6_town 2 (some .int), Cond.fieldLink RX6 98 "DawnCoin$ActRow" "held" "I", Cond.fieldLink RX6 101 "DawnCoin$Town" "rumours" "I", Cond.fieldLink RX6 104 "DawnCoin$Town" "people" "I", Cond.methodLink RX6 94 yX4_open, Cond.instanceMethod yX4_open, Cond.selects RX4 yX4_open yX4_open, Cond.code yX4_open cX4_open 3 none, Cond.fieldLink RX4 21 "DawnCoin$Standing" "day" "I", Cond.fieldLink RX4 31 "DawnCoin$Town" "opening" "[I", Cond.methodLink RX4 25 yX5_hasRumour, Cond.methodLink RL 30 yX7_town, Cond.instanceMethod yX7_town, Cond.selects RX7 yX7_town yX7_town, Cond.code yX7_town cX7_town 2 (some .int), Cond.fieldLink RX7 129 "DawnCoinModel" "people" "I", Cond.fieldLink RX7 132 "DawnCoinModel" "acts" "I", Cond.methodLink RL 31 yX6_rumour]
def wsL_law_r13 : List Cond := [Cond.instanceMethod yX6_rumour, Cond.selects RX6 yX6_rumour yX6_rumour, Cond.code yX6_rumour cX6_rumour 3 (some .int), Cond.fieldLink RX6 111 "DawnCoin$Town" "word" "[I", Cond.fieldLink RX6 117 "DawnCoin$Town" "proof" "[I", Cond.fieldLink RX6 126 "DawnCoin$Town" "rivals" "[I", Cond.fieldLink RX6 129 "DawnCoin$Standing" "day" "I", Cond.methodLink RX6 107 yX5_hasRumour, Cond.methodLink RX6 114 yX5_isLie, Cond.instanceMethod yX5_isLie, Cond.selects RX5 yX5_isLie yX5_isLie, Cond.code yX5_isLie cX5_isLie 2 (some .boolean), Cond.methodLink RX6 120 yX4_saidOf, Cond.instanceMethod yX4_saidOf, Cond.selects RX4 yX4_saidOf yX4_saidOf, Cond.code yX4_saidOf cX4_saidOf 2 (some .int), Cond.static yX6_at, Cond.code yX6_at cX6_at 2 (some .int), Cond.methodLink RX6 123 yX4_deniedOf, Cond.instanceMethod yX4_deniedOf, Cond.selects RX4 yX4_deniedOf yX4_deniedOf, Cond.code yX4_deniedOf cX4_deniedOf 2 (some .int), Cond.methodLink RX6 132 yX5_isProved, Cond.instanceMethod yX5_isProved]
def wsL_law_r14 : List Cond := [Cond.selects RX5 yX5_isProved yX5_isProved, Cond.code yX5_isProved cX5_isProved 4 (some .boolean), Cond.methodLink RL 35 yX7_rumour, Cond.instanceMethod yX7_rumour, Cond.selects RX7 yX7_rumour yX7_rumour, Cond.code yX7_rumour cX7_rumour 3 (some .int), Cond.methodLink RX7 143 yX7_isRumour, Cond.instanceMethod yX7_isRumour, Cond.selects RX7 yX7_isRumour yX7_isRumour, Cond.code yX7_isRumour cX7_isRumour 2 (some .boolean), Cond.methodLink RX7 137 yX7_isProved, Cond.instanceMethod yX7_isProved, Cond.selects RX7 yX7_isProved yX7_isProved, Cond.code yX7_isProved cX7_isProved 3 (some .boolean), Cond.methodLink RL 36 yX6_table, Cond.instanceMethod yX6_table, Cond.selects RX6 yX6_table yX6_table, Cond.code yX6_table cX6_table 2 (some .int), Cond.fieldLink RX6 139 "DawnCoin$Town" "seat" "[I", Cond.methodLink RX6 136 yX5_hasPerson, Cond.instanceMethod yX5_hasPerson, Cond.selects RX5 yX5_hasPerson yX5_hasPerson, Cond.code yX5_hasPerson cX5_hasPerson 2 (some .boolean), Cond.methodLink RL 39 yX7_table]
def wsL_law_r15 : List Cond := [Cond.instanceMethod yX7_table, Cond.selects RX7 yX7_table yX7_table, Cond.code yX7_table cX7_table 2 (some .int), Cond.methodLink RX7 147 yX7_isPerson, Cond.instanceMethod yX7_isPerson, Cond.selects RX7 yX7_isPerson yX7_isPerson, Cond.code yX7_isPerson cX7_isPerson 2 (some .boolean), Cond.methodLink RL 40 yX6_coins, Cond.instanceMethod yX6_coins, Cond.selects RX6 yX6_coins yX6_coins, Cond.code yX6_coins cX6_coins 3 (some .int), Cond.methodLink RX6 142 yX4_coinsOf, Cond.instanceMethod yX4_coinsOf, Cond.selects RX4 yX4_coinsOf yX4_coinsOf, Cond.code yX4_coinsOf cX4_coinsOf 3 (some .int), Cond.methodLink RL 43 yX7_coins, Cond.instanceMethod yX7_coins, Cond.selects RX7 yX7_coins yX7_coins, Cond.code yX7_coins cX7_coins 3 (some .int), Cond.methodLink RX7 150 yX7_coinAt, Cond.instanceMethod yX7_coinAt, Cond.selects RX7 yX7_coinAt yX7_coinAt, Cond.code yX7_coinAt cX7_coinAt 4 (some .int), Cond.methodLink RL 44 yX6_dawn]
def wsL_law_r16 : List Cond := [Cond.instanceMethod yX6_dawn, Cond.selects RX6 yX6_dawn yX6_dawn, Cond.code yX6_dawn cX6_dawn 1 (some .int), Cond.methodLink RX6 146 yX0_remember, Cond.instanceMethod yX0_remember, Cond.selects RX0 yX0_remember yX0_remember, Cond.code yX0_remember cX0_remember 3 none, Cond.fieldLink RX0 18 "DawnCoin$ActRow" "next" "I", Cond.fieldLink RX0 30 "DawnCoin$ActRow" "held" "I", Cond.methodLink RX0 33 Lib.Math.min.name, Cond.static Lib.Math.min.name, Cond.initialized "java/lang/Math", Cond.code Lib.Math.min.name Lib.Math.min.code 2 (some .int), Cond.methodLink RX0 26 yX4_copyFrom, Cond.instanceMethod yX4_copyFrom, Cond.selects RX4 yX4_copyFrom yX4_copyFrom, Cond.code yX4_copyFrom cX4_copyFrom 2 none, Cond.methodLink RX4 34 arraycopyName, Cond.native arraycopyName, Cond.static arraycopyName, Cond.initialized "java/lang/System", Cond.methodLink RX6 150 yX4_passDawn, Cond.instanceMethod yX4_passDawn, Cond.selects RX4 yX4_passDawn yX4_passDawn]
def wsL_law_r17 : List Cond := [Cond.code yX4_passDawn cX4_passDawn 4 (some .int), Cond.methodLink RX4 82 yX4_strike, Cond.instanceMethod yX4_strike, Cond.selects RX4 yX4_strike yX4_strike, Cond.code yX4_strike cX4_strike 5 (some .int), Cond.fieldLink RX4 89 "DawnCoin$Town" "people" "I", Cond.methodLink RX4 54 yX4_saidOf, Cond.methodLink RX4 92 yX5_seatOf, Cond.instanceMethod yX5_seatOf, Cond.selects RX5 yX5_seatOf yX5_seatOf, Cond.code yX5_seatOf cX5_seatOf 2 (some .int), Cond.methodLink RX4 71 yX4_coinsOf, Cond.methodLink RX4 95 yX4_addCoins, Cond.instanceMethod yX4_addCoins, Cond.selects RX4 yX4_addCoins yX4_addCoins, Cond.code yX4_addCoins cX4_addCoins 5 none, Cond.methodLink RX4 85 yX5_saidAfterDawn, Cond.instanceMethod yX5_saidAfterDawn, Cond.selects RX5 yX5_saidAfterDawn yX5_saidAfterDawn, Cond.code yX5_saidAfterDawn cX5_saidAfterDawn 5 (some .int), Cond.methodLink RX5 46 yX5_isProved, Cond.methodLink RX5 50 yX5_isLie, Cond.methodLink RL 47 yX7_dawn, Cond.instanceMethod yX7_dawn]
def wsL_law_r18 : List Cond := [Cond.selects RX7 yX7_dawn yX7_dawn, Cond.code yX7_dawn cX7_dawn 1 (some .int), Cond.methodLink RX7 157 yX7_keepAct, Cond.instanceMethod yX7_keepAct, Cond.selects RX7 yX7_keepAct yX7_keepAct, Cond.code yX7_keepAct cX7_keepAct 2 none, Cond.fieldLink RX7 154 "DawnCoinModel" "next" "I", Cond.methodLink RX7 160 yX7_dawnOn, Cond.instanceMethod yX7_dawnOn, Cond.selects RX7 yX7_dawnOn yX7_dawnOn, Cond.code yX7_dawnOn cX7_dawnOn 7 (some .int), Cond.methodLink RL 48 yX6_say, Cond.instanceMethod yX6_say, Cond.selects RX6 yX6_say yX6_say, Cond.code yX6_say cX6_say 3 (some .int), Cond.methodLink RX6 153 yX6_isTable, Cond.methodLink RX6 156 yX4_canBeSaid, Cond.instanceMethod yX4_canBeSaid, Cond.selects RX4 yX4_canBeSaid yX4_canBeSaid, Cond.code yX4_canBeSaid cX4_canBeSaid 4 (some .boolean), Cond.methodLink RX4 51 yX5_isProved, Cond.methodLink RX4 58 yX4_deniedOf, Cond.methodLink RX6 160 yX4_putSaid, Cond.instanceMethod yX4_putSaid]
def wsL_law_r19 : List Cond := [Cond.selects RX4 yX4_putSaid yX4_putSaid, Cond.code yX4_putSaid cX4_putSaid 3 none, Cond.methodLink RX6 164 yJ6_bitCount_0f7a4, Cond.static yJ6_bitCount_0f7a4, Cond.initialized RJ6, Cond.code yJ6_bitCount_0f7a4 cJ6_bitCount_0f7a4 1 (some .int), Cond.constant RJ6 265 (1431655765), Cond.constant RJ6 266 (858993459), Cond.constant RJ6 267 (252645135), Cond.methodLink RL 51 yX7_say, Cond.instanceMethod yX7_say, Cond.selects RX7 yX7_say yX7_say, Cond.code yX7_say cX7_say 3 (some .int), Cond.methodLink RX7 163 yX7_isTable, Cond.static yX7_isTable, Cond.code yX7_isTable cX7_isTable 1 (some .boolean), Cond.constantLong RX7 135 (5), Cond.methodLink RX7 166 yX7_canSay, Cond.instanceMethod yX7_canSay, Cond.selects RX7 yX7_canSay yX7_canSay, Cond.code yX7_canSay cX7_canSay 5 (some .boolean), Cond.methodLink RX7 140 yX7_ones, Cond.static yX7_ones, Cond.code yX7_ones cX7_ones 3 (some .int)]
def wsL_law_r20 : List Cond := [Cond.methodLink RL 52 yX6_deny, Cond.instanceMethod yX6_deny, Cond.selects RX6 yX6_deny yX6_deny, Cond.code yX6_deny cX6_deny 3 (some .int), Cond.methodLink RX6 169 yX4_canBeDenied, Cond.instanceMethod yX4_canBeDenied, Cond.selects RX4 yX4_canBeDenied yX4_canBeDenied, Cond.code yX4_canBeDenied cX4_canBeDenied 4 (some .boolean), Cond.methodLink RX4 64 yX5_isProvedTrue, Cond.instanceMethod yX5_isProvedTrue, Cond.selects RX5 yX5_isProvedTrue yX5_isProvedTrue, Cond.code yX5_isProvedTrue cX5_isProvedTrue 3 (some .boolean), Cond.methodLink RX6 172 yX4_putDenied, Cond.instanceMethod yX4_putDenied, Cond.selects RX4 yX4_putDenied yX4_putDenied, Cond.code yX4_putDenied cX4_putDenied 3 none, Cond.methodLink RL 55 yX7_deny, Cond.instanceMethod yX7_deny, Cond.selects RX7 yX7_deny yX7_deny, Cond.code yX7_deny cX7_deny 3 (some .int), Cond.methodLink RX7 170 yX7_canDeny, Cond.instanceMethod yX7_canDeny, Cond.selects RX7 yX7_canDeny yX7_canDeny, Cond.code yX7_canDeny cX7_canDeny 4 (some .boolean)]
def wsL_law_r21 : List Cond := [Cond.methodLink RX7 173 yX7_denyOn, Cond.instanceMethod yX7_denyOn, Cond.selects RX7 yX7_denyOn yX7_denyOn, Cond.code yX7_denyOn cX7_denyOn 4 none, Cond.methodLink RL 56 yX6_pay, Cond.instanceMethod yX6_pay, Cond.selects RX6 yX6_pay yX6_pay, Cond.code yX6_pay cX6_pay 4 (some .int), Cond.methodLink RX6 175 yX4_isTakenBy, Cond.instanceMethod yX4_isTakenBy, Cond.selects RX4 yX4_isTakenBy yX4_isTakenBy, Cond.code yX4_isTakenBy cX4_isTakenBy 4 (some .boolean), Cond.methodLink RX4 67 yX4_valueOf, Cond.instanceMethod yX4_valueOf, Cond.selects RX4 yX4_valueOf yX4_valueOf, Cond.code yX4_valueOf cX4_valueOf 3 (some .int), Cond.methodLink RX4 99 yX5_valueOn, Cond.instanceMethod yX5_valueOn, Cond.selects RX5 yX5_valueOn yX5_valueOn, Cond.code yX5_valueOn cX5_valueOn 6 (some .int), Cond.methodLink RX5 59 Lib.Math.max.name, Cond.static Lib.Math.max.name, Cond.code Lib.Math.max.name Lib.Math.max.code 2 (some .int), Cond.methodLink RX5 53 yJ6_bitCount_0f7a4]
def wsL_law_r22 : List Cond := [Cond.methodLink RX4 75 yX4_hasRivalCoin, Cond.instanceMethod yX4_hasRivalCoin, Cond.selects RX4 yX4_hasRivalCoin yX4_hasRivalCoin, Cond.code yX4_hasRivalCoin cX4_hasRivalCoin 5 (some .boolean), Cond.fieldLink RX4 79 "DawnCoin$Town" "rivals" "[I", Cond.methodLink RX6 178 yX4_addCoins, Cond.methodLink RX6 182 yX4_valueOf, Cond.methodLink RL 60 yX7_pay, Cond.instanceMethod yX7_pay, Cond.selects RX7 yX7_pay yX7_pay, Cond.code yX7_pay cX7_pay 4 (some .int), Cond.methodLink RX7 181 yX7_takes, Cond.instanceMethod yX7_takes, Cond.selects RX7 yX7_takes yX7_takes, Cond.code yX7_takes cX7_takes 5 (some .boolean), Cond.methodLink RX7 177 yX7_worthOf, Cond.instanceMethod yX7_worthOf, Cond.selects RX7 yX7_worthOf yX7_worthOf, Cond.code yX7_worthOf cX7_worthOf 4 (some .int), Cond.methodLink RL 61 yX6_undo, Cond.instanceMethod yX6_undo, Cond.selects RX6 yX6_undo yX6_undo, Cond.code yX6_undo cX6_undo 1 (some .int), Cond.methodLink RX6 186 yX0_takeBack]
def wsL_law_r23 : List Cond := [Cond.instanceMethod yX0_takeBack, Cond.selects RX0 yX0_takeBack yX0_takeBack, Cond.code yX0_takeBack cX0_takeBack 4 (some .boolean), Cond.methodLink RL 64 yX7_undo, Cond.instanceMethod yX7_undo, Cond.selects RX7 yX7_undo yX7_undo, Cond.code yX7_undo cX7_undo 2 (some .int), Cond.methodLink RL 65 yX6_worth, Cond.instanceMethod yX6_worth, Cond.selects RX6 yX6_worth yX6_worth, Cond.code yX6_worth cX6_worth 3 (some .int), Cond.methodLink RX6 190 yX6_valueIn, Cond.instanceMethod yX6_valueIn, Cond.selects RX6 yX6_valueIn yX6_valueIn, Cond.code yX6_valueIn cX6_valueIn 4 (some .int), Cond.methodLink RX6 206 yX6_saidIn, Cond.instanceMethod yX6_saidIn, Cond.selects RX6 yX6_saidIn yX6_saidIn, Cond.code yX6_saidIn cX6_saidIn 6 (some .int), Cond.methodLink RX6 307 yX5_saidAfterDawn, Cond.methodLink RX6 310 yX5_valueOn, Cond.methodLink RL 68 yX7_worth, Cond.instanceMethod yX7_worth, Cond.selects RX7 yX7_worth yX7_worth]
def wsL_law_r24 : List Cond := [Cond.code yX7_worth cX7_worth 3 (some .int), Cond.constantLong RX7 184 (8), Cond.methodLink RX7 186 yX7_layTrial, Cond.instanceMethod yX7_layTrial, Cond.selects RX7 yX7_layTrial yX7_layTrial, Cond.code yX7_layTrial cX7_layTrial 2 none, Cond.methodLink RX7 189 yX7_dawnTrial, Cond.instanceMethod yX7_dawnTrial, Cond.selects RX7 yX7_dawnTrial yX7_dawnTrial, Cond.code yX7_dawnTrial cX7_dawnTrial 3 none, Cond.methodLink RL 69 yX6_purse, Cond.instanceMethod yX6_purse, Cond.selects RX6 yX6_purse yX6_purse, Cond.code yX6_purse cX6_purse 3 (some .int), Cond.methodLink RX6 194 yX6_purseIn, Cond.instanceMethod yX6_purseIn, Cond.selects RX6 yX6_purseIn yX6_purseIn, Cond.code yX6_purseIn cX6_purseIn 5 (some .int), Cond.methodLink RX6 316 yX6_coinValueIn, Cond.instanceMethod yX6_coinValueIn, Cond.selects RX6 yX6_coinValueIn yX6_coinValueIn, Cond.code yX6_coinValueIn cX6_coinValueIn 10 (some .int), Cond.methodLink RX6 313 yX5_seatOf, Cond.methodLink RX6 209 yX6_hasBit]
def wsL_law_r25 : List Cond := [Cond.methodLink RL 72 yX7_purse, Cond.instanceMethod yX7_purse, Cond.selects RX7 yX7_purse yX7_purse, Cond.code yX7_purse cX7_purse 3 (some .int), Cond.methodLink RX7 192 yX7_purseOf, Cond.instanceMethod yX7_purseOf, Cond.selects RX7 yX7_purseOf yX7_purseOf, Cond.code yX7_purseOf cX7_purseOf 5 (some .int), Cond.methodLink RL 73 yX6_bestDay, Cond.instanceMethod yX6_bestDay, Cond.selects RX6 yX6_bestDay yX6_bestDay, Cond.code yX6_bestDay cX6_bestDay 3 (some .int), Cond.fieldLink RX6 203 "DawnCoin$Best" "which" "I", Cond.methodLink RX6 197 yX1_start, Cond.instanceMethod yX1_start, Cond.selects RX1 yX1_start yX1_start, Cond.code yX1_start cX1_start 3 none, Cond.fieldLink RX1 7 "DawnCoin$Best" "most" "I", Cond.fieldLink RX1 13 "DawnCoin$Best" "which" "I", Cond.methodLink RX6 200 yX1_offer, Cond.instanceMethod yX1_offer, Cond.selects RX1 yX1_offer yX1_offer, Cond.code yX1_offer cX1_offer 3 none, Cond.methodLink RX1 16 yX1_start]
def wsL_law_r26 : List Cond := [Cond.methodLink RL 76 yX7_bestDay, Cond.instanceMethod yX7_bestDay, Cond.selects RX7 yX7_bestDay yX7_bestDay, Cond.code yX7_bestDay cX7_bestDay 5 (some .int), Cond.methodLink RL 77 yX6_reach, Cond.instanceMethod yX6_reach, Cond.selects RX6 yX6_reach yX6_reach, Cond.code yX6_reach cX6_reach 4 (some .int), Cond.methodLink RL 80 yX7_reach, Cond.instanceMethod yX7_reach, Cond.selects RX7 yX7_reach yX7_reach, Cond.code yX7_reach cX7_reach 4 (some .int), Cond.methodLink RL 81 yX6_plan, Cond.instanceMethod yX6_plan, Cond.selects RX6 yX6_plan yX6_plan, Cond.code yX6_plan cX6_plan 5 (some .int), Cond.fieldLink RX6 228 "DawnCoin$Best" "most" "I", Cond.methodLink RX6 212 yX6_canSayThing, Cond.instanceMethod yX6_canSayThing, Cond.selects RX6 yX6_canSayThing yX6_canSayThing, Cond.code yX6_canSayThing cX6_canSayThing 2 (some .boolean), Cond.methodLink RX6 215 yX6_thingBit, Cond.static yX6_thingBit, Cond.code yX6_thingBit cX6_thingBit 1 (some .int)]
def wsL_law_r27 : List Cond := [Cond.methodLink RX6 218 yX6_gainOf, Cond.instanceMethod yX6_gainOf, Cond.selects RX6 yX6_gainOf yX6_gainOf, Cond.code yX6_gainOf cX6_gainOf 6 (some .int), Cond.methodLink RX6 222 yX6_offerOneThing, Cond.instanceMethod yX6_offerOneThing, Cond.selects RX6 yX6_offerOneThing yX6_offerOneThing, Cond.code yX6_offerOneThing cX6_offerOneThing 2 none, Cond.methodLink RX6 319 yX6_at, Cond.methodLink RX6 323 yX6_thingFigures, Cond.static yX6_thingFigures, Cond.code yX6_thingFigures cX6_thingFigures 1 (some .int), Cond.methodLink RX6 225 yX6_offerTwoThings, Cond.instanceMethod yX6_offerTwoThings, Cond.selects RX6 yX6_offerTwoThings yX6_offerTwoThings, Cond.code yX6_offerTwoThings cX6_offerTwoThings 6 none, Cond.methodLink RL 85 yX7_plan, Cond.instanceMethod yX7_plan, Cond.selects RX7 yX7_plan yX7_plan, Cond.code yX7_plan cX7_plan 9 (some .int), Cond.methodLink RX7 198 yX7_planned, Cond.instanceMethod yX7_planned, Cond.selects RX7 yX7_planned yX7_planned, Cond.code yX7_planned cX7_planned 5 (some .int)]
def wsL_law_r28 : List Cond := [Cond.methodLink RX7 195 yX7_sayTrial, Cond.instanceMethod yX7_sayTrial, Cond.selects RX7 yX7_sayTrial yX7_sayTrial, Cond.code yX7_sayTrial cX7_sayTrial 4 (some .boolean), Cond.methodLink RL 86 yX6_holds, Cond.instanceMethod yX6_holds, Cond.selects RX6 yX6_holds yX6_holds, Cond.code yX6_holds cX6_holds 8 (some .int), Cond.methodLink RX6 231 yX4_valueOfSet, Cond.instanceMethod yX4_valueOfSet, Cond.selects RX4 yX4_valueOfSet yX4_valueOfSet, Cond.code yX4_valueOfSet cX4_valueOfSet 6 (some .int), Cond.fieldLink RX4 102 "DawnCoin$Town" "rumours" "I", Cond.methodLink RX6 235 yX5_isFreeOfRivals, Cond.instanceMethod yX5_isFreeOfRivals, Cond.selects RX5 yX5_isFreeOfRivals yX5_isFreeOfRivals, Cond.code yX5_isFreeOfRivals cX5_isFreeOfRivals 3 (some .boolean), Cond.methodLink RL 90 yX7_holds, Cond.instanceMethod yX7_holds, Cond.selects RX7 yX7_holds yX7_holds, Cond.code yX7_holds cX7_holds 8 (some .int), Cond.methodLink RX7 201 yX7_canBe, Cond.instanceMethod yX7_canBe, Cond.selects RX7 yX7_canBe yX7_canBe]
def wsL_law_r29 : List Cond := [Cond.code yX7_canBe cX7_canBe 4 (some .boolean), Cond.methodLink RL 93 yX6_judge, Cond.instanceMethod yX6_judge, Cond.selects RX6 yX6_judge yX6_judge, Cond.code yX6_judge cX6_judge 8 (some .int), Cond.constantLong RX6 238 (1000), Cond.methodLink RX6 240 yX4_copyFrom, Cond.methodLink RX6 243 yX4_valueOfAll, Cond.instanceMethod yX4_valueOfAll, Cond.selects RX4 yX4_valueOfAll yX4_valueOfAll, Cond.code yX4_valueOfAll cX4_valueOfAll 4 (some .int), Cond.methodLink RX6 246 yX6_tryThing, Cond.instanceMethod yX6_tryThing, Cond.selects RX6 yX6_tryThing yX6_tryThing, Cond.code yX6_tryThing cX6_tryThing 4 (some .boolean), Cond.methodLink RX6 290 yX6_trySaying, Cond.instanceMethod yX6_trySaying, Cond.selects RX6 yX6_trySaying yX6_trySaying, Cond.code yX6_trySaying cX6_trySaying 3 (some .boolean), Cond.methodLink RX6 326 yX6_tryDenying, Cond.instanceMethod yX6_tryDenying, Cond.selects RX6 yX6_tryDenying yX6_tryDenying, Cond.code yX6_tryDenying cX6_tryDenying 3 (some .boolean), Cond.methodLink RL 97 yX7_judge]
def wsL_law_r30 : List Cond := [Cond.instanceMethod yX7_judge, Cond.selects RX7 yX7_judge yX7_judge, Cond.code yX7_judge cX7_judge 6 (some .int), Cond.constantLong RX7 206 (4), Cond.constantLong RX7 215 (1000), Cond.methodLink RX7 208 yX7_tenTo, Cond.static yX7_tenTo, Cond.code yX7_tenTo cX7_tenTo 4 (some .long), Cond.constantLong RX7 204 (10), Cond.methodLink RX7 212 yX7_allWorth, Cond.instanceMethod yX7_allWorth, Cond.selects RX7 yX7_allWorth yX7_allWorth, Cond.code yX7_allWorth cX7_allWorth 4 (some .int), Cond.methodLink RX7 217 yX7_tryThing, Cond.instanceMethod yX7_tryThing, Cond.selects RX7 yX7_tryThing yX7_tryThing, Cond.code yX7_tryThing cX7_tryThing 5 (some .boolean), Cond.methodLink RL 98 yX6_hear, Cond.instanceMethod yX6_hear, Cond.selects RX6 yX6_hear yX6_hear, Cond.code yX6_hear cX6_hear 5 (some .int), Cond.methodLink RX6 249 yX2_append, Cond.instanceMethod yX2_append, Cond.selects RX2 yX2_append yX2_append]
def wsL_law_r31 : List Cond := [Cond.code yX2_append cX2_append 5 (some .int), Cond.fieldLink RX2 25 "DawnCoin$Hearsay" "held" "I", Cond.methodLink RL 102 yX7_hear, Cond.instanceMethod yX7_hear, Cond.selects RX7 yX7_hear yX7_hear, Cond.code yX7_hear cX7_hear 5 (some .int), Cond.fieldLink RX7 220 "DawnCoinModel" "heard" "I", Cond.methodLink RL 103 yX6_unhear, Cond.instanceMethod yX6_unhear, Cond.selects RX6 yX6_unhear yX6_unhear, Cond.code yX6_unhear cX6_unhear 2 (some .int), Cond.fieldLink RX6 252 "DawnCoin$Hearsay" "held" "I", Cond.methodLink RL 106 yX7_unhear, Cond.instanceMethod yX7_unhear, Cond.selects RX7 yX7_unhear yX7_unhear, Cond.code yX7_unhear cX7_unhear 2 (some .int), Cond.methodLink RL 107 yX6_where, Cond.instanceMethod yX6_where, Cond.selects RX6 yX6_where yX6_where, Cond.code yX6_where cX6_where 7 (some .int), Cond.methodLink RX6 253 yX6_agreesWithHeard, Cond.instanceMethod yX6_agreesWithHeard, Cond.selects RX6 yX6_agreesWithHeard yX6_agreesWithHeard, Cond.code yX6_agreesWithHeard cX6_agreesWithHeard 5 (some .boolean)]
def wsL_law_r32 : List Cond := [Cond.fieldLink RX6 329 "DawnCoin$Hearsay" "rumour" "[I", Cond.fieldLink RX6 332 "DawnCoin$Hearsay" "days" "[I", Cond.fieldLink RX6 335 "DawnCoin$Hearsay" "place" "[I", Cond.fieldLink RX6 338 "DawnCoin$Hearsay" "said" "[Z", Cond.methodLink RL 110 yX7_where, Cond.instanceMethod yX7_where, Cond.selects RX7 yX7_where yX7_where, Cond.code yX7_where cX7_where 7 (some .int), Cond.constantLong RX7 223 (2), Cond.methodLink RX7 225 yX7_isHeard, Cond.instanceMethod yX7_isHeard, Cond.selects RX7 yX7_isHeard yX7_isHeard, Cond.code yX7_isHeard cX7_isHeard 7 (some .boolean), Cond.methodLink RL 111 yX6_share, Cond.instanceMethod yX6_share, Cond.selects RX6 yX6_share yX6_share, Cond.code yX6_share cX6_share 12 (some .int), Cond.methodLink RX6 256 yX6_fraction, Cond.static yX6_fraction, Cond.code yX6_fraction cX6_fraction 4 (some .int), Cond.methodLink RX6 347 Lib.Math.abs.name, Cond.static Lib.Math.abs.name, Cond.code Lib.Math.abs.name Lib.Math.abs.code 1 (some .int), Cond.methodLink RX6 352 yX6_commonDivisor]
def wsL_law_r33 : List Cond := [Cond.static yX6_commonDivisor, Cond.code yX6_commonDivisor cX6_commonDivisor 6 (some .int), Cond.methodLink RX6 260 yX6_factorial, Cond.static yX6_factorial, Cond.code yX6_factorial cX6_factorial 3 (some .int), Cond.methodLink RL 114 yX7_share, Cond.instanceMethod yX7_share, Cond.selects RX7 yX7_share yX7_share, Cond.code yX7_share cX7_share 10 (some .int), Cond.methodLink RX7 228 yX7_factorial, Cond.static yX7_factorial, Cond.code yX7_factorial cX7_factorial 3 (some .int), Cond.methodLink RX7 231 yX7_worthBy, Cond.instanceMethod yX7_worthBy, Cond.selects RX7 yX7_worthBy yX7_worthBy, Cond.code yX7_worthBy cX7_worthBy 4 (some .int), Cond.methodLink RX7 234 yX7_common, Cond.static yX7_common, Cond.code yX7_common cX7_common 5 (some .int), Cond.methodLink RL 115 yX6_rests, Cond.instanceMethod yX6_rests, Cond.selects RX6 yX6_rests yX6_rests, Cond.code yX6_rests cX6_rests 9 (some .int), Cond.methodLink RX6 263 yX6_weighChoices]
def wsL_law_r34 : List Cond := [Cond.instanceMethod yX6_weighChoices, Cond.selects RX6 yX6_weighChoices yX6_weighChoices, Cond.code yX6_weighChoices cX6_weighChoices 7 none, Cond.methodLink RX6 266 yX6_canChoose, Cond.instanceMethod yX6_canChoose, Cond.selects RX6 yX6_canChoose yX6_canChoose, Cond.code yX6_canChoose cX6_canChoose 3 (some .boolean), Cond.methodLink RX6 269 yX6_isAtRest, Cond.instanceMethod yX6_isAtRest, Cond.selects RX6 yX6_isAtRest yX6_isAtRest, Cond.code yX6_isAtRest cX6_isAtRest 6 (some .boolean), Cond.methodLink RX6 341 yX6_pairOf, Cond.static yX6_pairOf, Cond.code yX6_pairOf cX6_pairOf 2 (some .int), Cond.methodLink RL 119 yX7_rests, Cond.instanceMethod yX7_rests, Cond.selects RX7 yX7_rests yX7_rests, Cond.code yX7_rests cX7_rests 8 (some .int), Cond.methodLink RX7 240 yX7_layPairs, Cond.instanceMethod yX7_layPairs, Cond.selects RX7 yX7_layPairs yX7_layPairs, Cond.code yX7_layPairs cX7_layPairs 5 none, Cond.methodLink RX7 237 yX7_isChoice, Cond.instanceMethod yX7_isChoice]
def wsL_law_r35 : List Cond := [Cond.selects RX7 yX7_isChoice yX7_isChoice, Cond.code yX7_isChoice cX7_isChoice 3 (some .boolean), Cond.methodLink RX7 243 yX7_isRest, Cond.instanceMethod yX7_isRest, Cond.selects RX7 yX7_isRest yX7_isRest, Cond.code yX7_isRest cX7_isRest 6 (some .boolean), Cond.methodLink RL 120 yX6_chance, Cond.instanceMethod yX6_chance, Cond.selects RX6 yX6_chance yX6_chance, Cond.code yX6_chance cX6_chance 10 (some .int), Cond.methodLink RX6 273 yX5_isProvedTrue, Cond.methodLink RX6 276 yX6_valueAfterDenials, Cond.instanceMethod yX6_valueAfterDenials, Cond.selects RX6 yX6_valueAfterDenials yX6_valueAfterDenials, Cond.code yX6_valueAfterDenials cX6_valueAfterDenials 5 (some .int), Cond.methodLink RX6 279 yX6_power, Cond.static yX6_power, Cond.code yX6_power cX6_power 4 (some .int), Cond.methodLink RL 123 yX7_chance, Cond.instanceMethod yX7_chance, Cond.selects RX7 yX7_chance yX7_chance, Cond.code yX7_chance cX7_chance 11 (some .int), Cond.constantLong RX7 246 (20), Cond.methodLink RL 124 yX6_seed]
def wsL_law_r36 : List Cond := [Cond.instanceMethod yX6_seed, Cond.selects RX6 yX6_seed yX6_seed, Cond.code yX6_seed cX6_seed 5 (some .long), Cond.fieldLink RX6 282 "DawnCoin" "chain" "J", Cond.methodLink RL 128 yX7_seed, Cond.instanceMethod yX7_seed, Cond.selects RX7 yX7_seed yX7_seed, Cond.code yX7_seed cX7_seed 5 (some .long), Cond.fieldLink RX7 248 "DawnCoinModel" "seed" "J", Cond.methodLink RL 129 yX6_weeks, Cond.instanceMethod yX6_weeks, Cond.selects RX6 yX6_weeks yX6_weeks, Cond.code yX6_weeks cX6_weeks 4 (some .int), Cond.constantLong RX6 286 (6364136223846793005), Cond.constantLong RX6 288 (1442695040888963407), Cond.methodLink RX6 293 yX4_valueOfPurses, Cond.instanceMethod yX4_valueOfPurses, Cond.selects RX4 yX4_valueOfPurses yX4_valueOfPurses, Cond.code yX4_valueOfPurses cX4_valueOfPurses 4 (some .int), Cond.methodLink RX4 105 yX4_valueOfSet, Cond.methodLink RL 132 yX7_weeks, Cond.instanceMethod yX7_weeks, Cond.selects RX7 yX7_weeks yX7_weeks, Cond.code yX7_weeks cX7_weeks 4 (some .int)]
def wsL_law_r37 : List Cond := [Cond.constantLong RX7 252 (6364136223846793005), Cond.constantLong RX7 254 (1442695040888963407), Cond.constantLong RX7 256 (60), Cond.methodLink RX7 258 yX7_allPurses, Cond.instanceMethod yX7_allPurses, Cond.selects RX7 yX7_allPurses yX7_allPurses, Cond.code yX7_allPurses cX7_allPurses 4 (some .int), Cond.methodLink RL 133 yX6_keep, Cond.instanceMethod yX6_keep, Cond.selects RX6 yX6_keep yX6_keep, Cond.code yX6_keep cX6_keep 3 (some .int), Cond.methodLink RX6 296 yX6_slotAt, Cond.instanceMethod yX6_slotAt, Cond.selects RX6 yX6_slotAt yX6_slotAt, Cond.code yX6_slotAt cX6_slotAt 2 (some (.object "DawnCoin$Standing")), Cond.methodLink RX6 344 yX6_isIndex, Cond.methodLink RL 136 yX7_keep, Cond.instanceMethod yX7_keep, Cond.selects RX7 yX7_keep yX7_keep, Cond.code yX7_keep cX7_keep 3 (some .int), Cond.methodLink RL 137 yX6_again, Cond.instanceMethod yX6_again, Cond.selects RX6 yX6_again yX6_again, Cond.code yX6_again cX6_again 3 (some .int)]
def wsL_law_r38 : List Cond := [Cond.methodLink RL 140 yX7_again, Cond.instanceMethod yX7_again, Cond.selects RX7 yX7_again yX7_again, Cond.code yX7_again cX7_again 3 (some .int), Cond.methodLink RL 141 yX6_count, Cond.instanceMethod yX6_count, Cond.selects RX6 yX6_count yX6_count, Cond.code yX6_count cX6_count 2 (some .int), Cond.methodLink RX6 300 yX4_allCoins, Cond.instanceMethod yX4_allCoins, Cond.selects RX4 yX4_allCoins yX4_allCoins, Cond.code yX4_allCoins cX4_allCoins 3 (some .int), Cond.methodLink RX6 304 yX4_rumoursSaid, Cond.instanceMethod yX4_rumoursSaid, Cond.selects RX4 yX4_rumoursSaid yX4_rumoursSaid, Cond.code yX4_rumoursSaid cX4_rumoursSaid 3 (some .int), Cond.methodLink RL 144 yX7_count, Cond.instanceMethod yX7_count, Cond.selects RX7 yX7_count yX7_count, Cond.code yX7_count cX7_count 6 (some .int)]
def wsL_law : List Cond := (wsL_law_r1 ++ (wsL_law_r2 ++ (wsL_law_r3 ++ (wsL_law_r4 ++ (wsL_law_r5 ++ (wsL_law_r6 ++ (wsL_law_r7 ++ (wsL_law_r8 ++ (wsL_law_r9 ++ (wsL_law_r10 ++ (wsL_law_r11 ++ (wsL_law_r12 ++ (wsL_law_r13 ++ (wsL_law_r14 ++ (wsL_law_r15 ++ (wsL_law_r16 ++ (wsL_law_r17 ++ (wsL_law_r18 ++ (wsL_law_r19 ++ (wsL_law_r20 ++ (wsL_law_r21 ++ (wsL_law_r22 ++ (wsL_law_r23 ++ (wsL_law_r24 ++ (wsL_law_r25 ++ (wsL_law_r26 ++ (wsL_law_r27 ++ (wsL_law_r28 ++ (wsL_law_r29 ++ (wsL_law_r30 ++ (wsL_law_r31 ++ (wsL_law_r32 ++ (wsL_law_r33 ++ (wsL_law_r34 ++ (wsL_law_r35 ++ (wsL_law_r36 ++ (wsL_law_r37 ++ wsL_law_r38))))))))))))))))))))))))))))))))))))) ++ wsX60 ++ wsX70 ++ wsX30 ++ wsX50 ++ wsX40 ++ wsX00 ++ wsX20 ++ wsX10 ++ ([] : List Cond)
theorem inlX0 : ∀ w ∈ wsX00, w ∈ wsL_law := fun _ h => List.mem_append_left _ (List.mem_append_left _ (List.mem_append_left _ (List.mem_append_right _ h)))
theorem inlX1 : ∀ w ∈ wsX10, w ∈ wsL_law := fun _ h => List.mem_append_left _ (List.mem_append_right _ h)
theorem inlX2 : ∀ w ∈ wsX20, w ∈ wsL_law := fun _ h => List.mem_append_left _ (List.mem_append_left _ (List.mem_append_right _ h))
theorem inlX3 : ∀ w ∈ wsX30, w ∈ wsL_law := fun _ h => List.mem_append_left _ (List.mem_append_left _ (List.mem_append_left _ (List.mem_append_left _ (List.mem_append_left _ (List.mem_append_left _ (List.mem_append_right _ h))))))
theorem inlX4 : ∀ w ∈ wsX40, w ∈ wsL_law := fun _ h => List.mem_append_left _ (List.mem_append_left _ (List.mem_append_left _ (List.mem_append_left _ (List.mem_append_right _ h))))
theorem inlX5 : ∀ w ∈ wsX50, w ∈ wsL_law := fun _ h => List.mem_append_left _ (List.mem_append_left _ (List.mem_append_left _ (List.mem_append_left _ (List.mem_append_left _ (List.mem_append_right _ h)))))
theorem inlX6 : ∀ w ∈ wsX60, w ∈ wsL_law := fun _ h => List.mem_append_left _ (List.mem_append_left _ (List.mem_append_left _ (List.mem_append_left _ (List.mem_append_left _ (List.mem_append_left _ (List.mem_append_left _ (List.mem_append_left _ (List.mem_append_right _ h))))))))
theorem inlX7 : ∀ w ∈ wsX70, w ∈ wsL_law := fun _ h => List.mem_append_left _ (List.mem_append_left _ (List.mem_append_left _ (List.mem_append_left _ (List.mem_append_left _ (List.mem_append_left _ (List.mem_append_left _ (List.mem_append_right _ h)))))))
abbrev vwCl : List vw_C := [(RX0, TX0, 3), (RX1, TX1, 2), (RX2, TX2, 5), (RX3, TX3, 6), (RX4, TX4, 4), (RX5, TX5, 8), (RX6, TX6, 15), (RX7, TX7, 33)]
end
section
theorem in_t0 {w : Cond} (h : w ∈ tables_1) : w ∈ lw_tbl := List.mem_append_right _ h
theorem in_sl {w : Cond} (h : w ∈ k2_sels lw_privs) : w ∈ lw_tbl := List.mem_append_left _ h
theorem in_t1 {w : Cond} (h : w ∈ tables_1_1) : w ∈ lw_tbl := in_t0 (List.mem_append_left _ h)
theorem in_t2 {w : Cond} (h : w ∈ tables_1_2) : w ∈ lw_tbl := in_t0 (List.mem_append_right _ (List.mem_append_left _ h))
theorem in_t3 {w : Cond} (h : w ∈ tables_1_3) : w ∈ lw_tbl := in_t0 (List.mem_append_right _ (List.mem_append_right _ (List.mem_append_left _ h)))
theorem in_t4 {w : Cond} (h : w ∈ tables_1_4) : w ∈ lw_tbl := in_t0 (List.mem_append_right _ (List.mem_append_right _ (List.mem_append_right _ (List.mem_append_left _ h))))
theorem in_t5 {w : Cond} (h : w ∈ tables_1_5) : w ∈ lw_tbl := in_t0 (List.mem_append_right _ (List.mem_append_right _ (List.mem_append_right _ (List.mem_append_right _ h))))
set_option maxRecDepth 20000 in
theorem inr1 : ∀ w ∈ wsL_law_r1, w ∈ lw_tbl :=
  List.forall_mem_cons.mpr ⟨in_t1 (List.mem_of_getElem? (i := 12) rfl),
  List.forall_mem_cons.mpr ⟨in_t1 (List.mem_of_getElem? (i := 13) rfl),
  List.forall_mem_cons.mpr ⟨in_t1 (List.mem_of_getElem? (i := 1) rfl),
  List.forall_mem_cons.mpr ⟨in_t3 (List.mem_of_getElem? (i := 225) rfl),
  List.forall_mem_cons.mpr ⟨in_t3 (List.mem_of_getElem? (i := 226) rfl),
  List.forall_mem_cons.mpr ⟨in_t1 (List.mem_of_getElem? (i := 8) rfl),
  List.forall_mem_cons.mpr ⟨in_t5 (List.mem_of_getElem? (i := 128) rfl),
  List.forall_mem_cons.mpr ⟨in_t1 (List.mem_of_getElem? (i := 14) rfl),
  List.forall_mem_cons.mpr ⟨in_t1 (List.mem_of_getElem? (i := 15) rfl),
  List.forall_mem_cons.mpr ⟨in_t1 (List.mem_of_getElem? (i := 16) rfl),
  List.forall_mem_cons.mpr ⟨in_t1 (List.mem_of_getElem? (i := 17) rfl),
  List.forall_mem_cons.mpr ⟨in_t1 (List.mem_of_getElem? (i := 18) rfl),
  List.forall_mem_cons.mpr ⟨in_t1 (List.mem_of_getElem? (i := 19) (by decide +kernel)),
  List.forall_mem_cons.mpr ⟨in_t1 (List.mem_of_getElem? (i := 20) rfl),
  List.forall_mem_cons.mpr ⟨in_t1 (List.mem_of_getElem? (i := 21) rfl),
  List.forall_mem_cons.mpr ⟨in_t1 (List.mem_of_getElem? (i := 2) rfl),
  List.forall_mem_cons.mpr ⟨in_t1 (List.mem_of_getElem? (i := 173) rfl),
  List.forall_mem_cons.mpr ⟨in_t1 (List.mem_of_getElem? (i := 47) rfl),
  List.forall_mem_cons.mpr ⟨in_t1 (List.mem_of_getElem? (i := 48) rfl),
  List.forall_mem_cons.mpr ⟨in_t1 (List.mem_of_getElem? (i := 3) rfl),
  List.forall_mem_cons.mpr ⟨in_t1 (List.mem_of_getElem? (i := 174) rfl),
  List.forall_mem_cons.mpr ⟨in_t1 (List.mem_of_getElem? (i := 175) rfl),
  List.forall_mem_cons.mpr ⟨in_t1 (List.mem_of_getElem? (i := 91) rfl),
  List.forall_mem_cons.mpr ⟨in_t1 (List.mem_of_getElem? (i := 92) rfl),
  fun _ h => absurd h List.not_mem_nil⟩⟩⟩⟩⟩⟩⟩⟩⟩⟩⟩⟩⟩⟩⟩⟩⟩⟩⟩⟩⟩⟩⟩⟩
set_option maxRecDepth 20000 in
theorem inr2 : ∀ w ∈ wsL_law_r2, w ∈ lw_tbl :=
  List.forall_mem_cons.mpr ⟨in_t1 (List.mem_of_getElem? (i := 4) rfl),
  List.forall_mem_cons.mpr ⟨in_t1 (List.mem_of_getElem? (i := 176) rfl),
  List.forall_mem_cons.mpr ⟨in_t1 (List.mem_of_getElem? (i := 177) rfl),
  List.forall_mem_cons.mpr ⟨in_t1 (List.mem_of_getElem? (i := 111) rfl),
  List.forall_mem_cons.mpr ⟨in_t1 (List.mem_of_getElem? (i := 112) rfl),
  List.forall_mem_cons.mpr ⟨in_t1 (List.mem_of_getElem? (i := 5) rfl),
  List.forall_mem_cons.mpr ⟨in_t1 (List.mem_of_getElem? (i := 178) rfl),
  List.forall_mem_cons.mpr ⟨in_t1 (List.mem_of_getElem? (i := 131) rfl),
  List.forall_mem_cons.mpr ⟨in_t1 (List.mem_of_getElem? (i := 132) rfl),
  List.forall_mem_cons.mpr ⟨in_t1 (List.mem_of_getElem? (i := 6) rfl),
  List.forall_mem_cons.mpr ⟨in_t1 (List.mem_of_getElem? (i := 179) rfl),
  List.forall_mem_cons.mpr ⟨in_t1 (List.mem_of_getElem? (i := 180) rfl),
  List.forall_mem_cons.mpr ⟨in_t1 (List.mem_of_getElem? (i := 90) rfl),
  List.forall_mem_cons.mpr ⟨in_t1 (List.mem_of_getElem? (i := 181) rfl),
  List.forall_mem_cons.mpr ⟨in_t1 (List.mem_of_getElem? (i := 158) rfl),
  List.forall_mem_cons.mpr ⟨in_t1 (List.mem_of_getElem? (i := 159) rfl),
  List.forall_mem_cons.mpr ⟨in_t1 (List.mem_of_getElem? (i := 7) rfl),
  List.forall_mem_cons.mpr ⟨in_t1 (List.mem_of_getElem? (i := 182) rfl),
  List.forall_mem_cons.mpr ⟨in_t1 (List.mem_of_getElem? (i := 46) rfl),
  List.forall_mem_cons.mpr ⟨in_t1 (List.mem_of_getElem? (i := 183) rfl),
  List.forall_mem_cons.mpr ⟨in_t1 (List.mem_of_getElem? (i := 184) rfl),
  List.forall_mem_cons.mpr ⟨in_t1 (List.mem_of_getElem? (i := 185) rfl),
  List.forall_mem_cons.mpr ⟨in_t1 (List.mem_of_getElem? (i := 186) rfl),
  List.forall_mem_cons.mpr ⟨in_t1 (List.mem_of_getElem? (i := 23) rfl),
  fun _ h => absurd h List.not_mem_nil⟩⟩⟩⟩⟩⟩⟩⟩⟩⟩⟩⟩⟩⟩⟩⟩⟩⟩⟩⟩⟩⟩⟩⟩
set_option maxRecDepth 20000 in
theorem inr3 : ∀ w ∈ wsL_law_r3, w ∈ lw_tbl :=
  List.forall_mem_cons.mpr ⟨in_t1 (List.mem_of_getElem? (i := 24) rfl),
  List.forall_mem_cons.mpr ⟨in_t1 (List.mem_of_getElem? (i := 25) rfl),
  List.forall_mem_cons.mpr ⟨in_t1 (List.mem_of_getElem? (i := 26) rfl),
  List.forall_mem_cons.mpr ⟨in_t1 (List.mem_of_getElem? (i := 50) rfl),
  List.forall_mem_cons.mpr ⟨in_t1 (List.mem_of_getElem? (i := 51) rfl),
  List.forall_mem_cons.mpr ⟨in_t1 (List.mem_of_getElem? (i := 52) rfl),
  List.forall_mem_cons.mpr ⟨in_t1 (List.mem_of_getElem? (i := 53) rfl),
  List.forall_mem_cons.mpr ⟨in_t1 (List.mem_of_getElem? (i := 55) rfl),
  List.forall_mem_cons.mpr ⟨in_t1 (List.mem_of_getElem? (i := 56) rfl),
  List.forall_mem_cons.mpr ⟨in_t1 (List.mem_of_getElem? (i := 58) rfl),
  List.forall_mem_cons.mpr ⟨in_t1 (List.mem_of_getElem? (i := 61) rfl),
  List.forall_mem_cons.mpr ⟨in_t1 (List.mem_of_getElem? (i := 63) rfl),
  List.forall_mem_cons.mpr ⟨in_t1 (List.mem_of_getElem? (i := 94) rfl),
  List.forall_mem_cons.mpr ⟨in_t1 (List.mem_of_getElem? (i := 95) rfl),
  List.forall_mem_cons.mpr ⟨in_t1 (List.mem_of_getElem? (i := 96) rfl),
  List.forall_mem_cons.mpr ⟨in_t1 (List.mem_of_getElem? (i := 97) rfl),
  List.forall_mem_cons.mpr ⟨in_t1 (List.mem_of_getElem? (i := 98) rfl),
  List.forall_mem_cons.mpr ⟨in_t1 (List.mem_of_getElem? (i := 99) rfl),
  List.forall_mem_cons.mpr ⟨in_t1 (List.mem_of_getElem? (i := 113) rfl),
  List.forall_mem_cons.mpr ⟨in_t1 (List.mem_of_getElem? (i := 114) rfl),
  List.forall_mem_cons.mpr ⟨in_t1 (List.mem_of_getElem? (i := 115) rfl),
  List.forall_mem_cons.mpr ⟨in_t1 (List.mem_of_getElem? (i := 116) rfl),
  List.forall_mem_cons.mpr ⟨in_t1 (List.mem_of_getElem? (i := 117) rfl),
  List.forall_mem_cons.mpr ⟨in_t1 (List.mem_of_getElem? (i := 120) rfl),
  fun _ h => absurd h List.not_mem_nil⟩⟩⟩⟩⟩⟩⟩⟩⟩⟩⟩⟩⟩⟩⟩⟩⟩⟩⟩⟩⟩⟩⟩⟩
set_option maxRecDepth 20000 in
theorem inr4 : ∀ w ∈ wsL_law_r4, w ∈ lw_tbl :=
  List.forall_mem_cons.mpr ⟨in_t1 (List.mem_of_getElem? (i := 134) rfl),
  List.forall_mem_cons.mpr ⟨in_t1 (List.mem_of_getElem? (i := 135) rfl),
  List.forall_mem_cons.mpr ⟨in_t1 (List.mem_of_getElem? (i := 136) rfl),
  List.forall_mem_cons.mpr ⟨in_t1 (List.mem_of_getElem? (i := 137) rfl),
  List.forall_mem_cons.mpr ⟨in_t1 (List.mem_of_getElem? (i := 139) rfl),
  List.forall_mem_cons.mpr ⟨in_t1 (List.mem_of_getElem? (i := 141) rfl),
  List.forall_mem_cons.mpr ⟨in_t1 (List.mem_of_getElem? (i := 143) rfl),
  List.forall_mem_cons.mpr ⟨in_t1 (List.mem_of_getElem? (i := 161) rfl),
  List.forall_mem_cons.mpr ⟨in_t1 (List.mem_of_getElem? (i := 162) rfl),
  List.forall_mem_cons.mpr ⟨in_t1 (List.mem_of_getElem? (i := 163) rfl),
  List.forall_mem_cons.mpr ⟨in_t3 (List.mem_of_getElem? (i := 227) rfl),
  List.forall_mem_cons.mpr ⟨in_t3 (List.mem_of_getElem? (i := 228) rfl),
  List.forall_mem_cons.mpr ⟨in_t3 (List.mem_of_getElem? (i := 229) rfl),
  List.forall_mem_cons.mpr ⟨in_t3 (List.mem_of_getElem? (i := 230) rfl),
  List.forall_mem_cons.mpr ⟨in_t3 (List.mem_of_getElem? (i := 233) rfl),
  List.forall_mem_cons.mpr ⟨in_t3 (List.mem_of_getElem? (i := 234) rfl),
  List.forall_mem_cons.mpr ⟨in_t3 (List.mem_of_getElem? (i := 235) rfl),
  List.forall_mem_cons.mpr ⟨in_t3 (List.mem_of_getElem? (i := 236) rfl),
  List.forall_mem_cons.mpr ⟨in_t3 (List.mem_of_getElem? (i := 237) rfl),
  List.forall_mem_cons.mpr ⟨in_t3 (List.mem_of_getElem? (i := 238) rfl),
  List.forall_mem_cons.mpr ⟨in_t3 (List.mem_of_getElem? (i := 239) rfl),
  List.forall_mem_cons.mpr ⟨in_t4 (List.mem_of_getElem? (i := 0) rfl),
  List.forall_mem_cons.mpr ⟨in_t4 (List.mem_of_getElem? (i := 1) rfl),
  List.forall_mem_cons.mpr ⟨in_t4 (List.mem_of_getElem? (i := 2) rfl),
  fun _ h => absurd h List.not_mem_nil⟩⟩⟩⟩⟩⟩⟩⟩⟩⟩⟩⟩⟩⟩⟩⟩⟩⟩⟩⟩⟩⟩⟩⟩
set_option maxRecDepth 20000 in
theorem inr5 : ∀ w ∈ wsL_law_r5, w ∈ lw_tbl :=
  List.forall_mem_cons.mpr ⟨in_t4 (List.mem_of_getElem? (i := 3) rfl),
  List.forall_mem_cons.mpr ⟨in_t4 (List.mem_of_getElem? (i := 4) rfl),
  List.forall_mem_cons.mpr ⟨in_t4 (List.mem_of_getElem? (i := 7) rfl),
  List.forall_mem_cons.mpr ⟨in_t4 (List.mem_of_getElem? (i := 13) rfl),
  List.forall_mem_cons.mpr ⟨in_t4 (List.mem_of_getElem? (i := 15) rfl),
  List.forall_mem_cons.mpr ⟨in_t4 (List.mem_of_getElem? (i := 16) rfl),
  List.forall_mem_cons.mpr ⟨in_t4 (List.mem_of_getElem? (i := 17) rfl),
  List.forall_mem_cons.mpr ⟨in_t4 (List.mem_of_getElem? (i := 18) rfl),
  List.forall_mem_cons.mpr ⟨in_t4 (List.mem_of_getElem? (i := 19) rfl),
  List.forall_mem_cons.mpr ⟨in_t4 (List.mem_of_getElem? (i := 20) rfl),
  List.forall_mem_cons.mpr ⟨in_t4 (List.mem_of_getElem? (i := 22) rfl),
  List.forall_mem_cons.mpr ⟨in_t4 (List.mem_of_getElem? (i := 23) rfl),
  List.forall_mem_cons.mpr ⟨in_t3 (List.mem_of_getElem? (i := 231) rfl),
  List.forall_mem_cons.mpr ⟨in_t1 (List.mem_of_getElem? (i := 219) rfl),
  List.forall_mem_cons.mpr ⟨in_t1 (List.mem_of_getElem? (i := 220) rfl),
  List.forall_mem_cons.mpr ⟨in_t1 (List.mem_of_getElem? (i := 221) rfl),
  List.forall_mem_cons.mpr ⟨in_t1 (List.mem_of_getElem? (i := 222) rfl),
  List.forall_mem_cons.mpr ⟨in_t1 (List.mem_of_getElem? (i := 223) rfl),
  List.forall_mem_cons.mpr ⟨in_t1 (List.mem_of_getElem? (i := 224) rfl),
  List.forall_mem_cons.mpr ⟨in_t1 (List.mem_of_getElem? (i := 225) rfl),
  List.forall_mem_cons.mpr ⟨in_t1 (List.mem_of_getElem? (i := 226) rfl),
  List.forall_mem_cons.mpr ⟨in_t1 (List.mem_of_getElem? (i := 227) rfl),
  List.forall_mem_cons.mpr ⟨in_t1 (List.mem_of_getElem? (i := 228) rfl),
  List.forall_mem_cons.mpr ⟨in_t1 (List.mem_of_getElem? (i := 229) rfl),
  fun _ h => absurd h List.not_mem_nil⟩⟩⟩⟩⟩⟩⟩⟩⟩⟩⟩⟩⟩⟩⟩⟩⟩⟩⟩⟩⟩⟩⟩⟩
set_option maxRecDepth 20000 in
theorem inr6 : ∀ w ∈ wsL_law_r6, w ∈ lw_tbl :=
  List.forall_mem_cons.mpr ⟨in_t1 (List.mem_of_getElem? (i := 31) rfl),
  List.forall_mem_cons.mpr ⟨in_t1 (List.mem_of_getElem? (i := 231) rfl),
  List.forall_mem_cons.mpr ⟨in_t1 (List.mem_of_getElem? (i := 232) rfl),
  List.forall_mem_cons.mpr ⟨in_t4 (List.mem_of_getElem? (i := 91) rfl),
  List.forall_mem_cons.mpr ⟨in_t4 (List.mem_of_getElem? (i := 92) rfl),
  List.forall_mem_cons.mpr ⟨in_t4 (List.mem_of_getElem? (i := 93) rfl),
  List.forall_mem_cons.mpr ⟨in_t4 (List.mem_of_getElem? (i := 94) rfl),
  List.forall_mem_cons.mpr ⟨in_t4 (List.mem_of_getElem? (i := 95) rfl),
  List.forall_mem_cons.mpr ⟨in_t4 (List.mem_of_getElem? (i := 8) rfl),
  List.forall_mem_cons.mpr ⟨in_t4 (List.mem_of_getElem? (i := 96) rfl),
  List.forall_mem_cons.mpr ⟨in_t4 (List.mem_of_getElem? (i := 97) rfl),
  List.forall_mem_cons.mpr ⟨in_t4 (List.mem_of_getElem? (i := 98) rfl),
  List.forall_mem_cons.mpr ⟨in_t1 (List.mem_of_getElem? (i := 233) rfl),
  List.forall_mem_cons.mpr ⟨in_t1 (List.mem_of_getElem? (i := 234) rfl),
  List.forall_mem_cons.mpr ⟨in_t1 (List.mem_of_getElem? (i := 235) rfl),
  List.forall_mem_cons.mpr ⟨in_t1 (List.mem_of_getElem? (i := 236) rfl),
  List.forall_mem_cons.mpr ⟨in_t1 (List.mem_of_getElem? (i := 32) rfl),
  List.forall_mem_cons.mpr ⟨in_t4 (List.mem_of_getElem? (i := 99) rfl),
  List.forall_mem_cons.mpr ⟨in_t4 (List.mem_of_getElem? (i := 100) rfl),
  List.forall_mem_cons.mpr ⟨in_t4 (List.mem_of_getElem? (i := 101) rfl),
  List.forall_mem_cons.mpr ⟨in_t4 (List.mem_of_getElem? (i := 102) rfl),
  List.forall_mem_cons.mpr ⟨in_t1 (List.mem_of_getElem? (i := 237) rfl),
  List.forall_mem_cons.mpr ⟨in_t1 (List.mem_of_getElem? (i := 238) rfl),
  List.forall_mem_cons.mpr ⟨in_t1 (List.mem_of_getElem? (i := 239) rfl),
  fun _ h => absurd h List.not_mem_nil⟩⟩⟩⟩⟩⟩⟩⟩⟩⟩⟩⟩⟩⟩⟩⟩⟩⟩⟩⟩⟩⟩⟩⟩
set_option maxRecDepth 20000 in
theorem inr7 : ∀ w ∈ wsL_law_r7, w ∈ lw_tbl :=
  List.forall_mem_cons.mpr ⟨in_t2 (List.mem_of_getElem? (i := 0) rfl),
  List.forall_mem_cons.mpr ⟨in_t2 (List.mem_of_getElem? (i := 1) rfl),
  List.forall_mem_cons.mpr ⟨in_t2 (List.mem_of_getElem? (i := 2) rfl),
  List.forall_mem_cons.mpr ⟨in_t2 (List.mem_of_getElem? (i := 3) rfl),
  List.forall_mem_cons.mpr ⟨in_t2 (List.mem_of_getElem? (i := 4) rfl),
  List.forall_mem_cons.mpr ⟨in_t1 (List.mem_of_getElem? (i := 27) rfl),
  List.forall_mem_cons.mpr ⟨in_t2 (List.mem_of_getElem? (i := 5) rfl),
  List.forall_mem_cons.mpr ⟨in_t2 (List.mem_of_getElem? (i := 6) rfl),
  List.forall_mem_cons.mpr ⟨in_t2 (List.mem_of_getElem? (i := 7) rfl),
  List.forall_mem_cons.mpr ⟨in_t2 (List.mem_of_getElem? (i := 8) rfl),
  List.forall_mem_cons.mpr ⟨in_t1 (List.mem_of_getElem? (i := 65) rfl),
  List.forall_mem_cons.mpr ⟨in_t1 (List.mem_of_getElem? (i := 69) rfl),
  List.forall_mem_cons.mpr ⟨in_t2 (List.mem_of_getElem? (i := 9) rfl),
  List.forall_mem_cons.mpr ⟨in_t2 (List.mem_of_getElem? (i := 11) rfl),
  List.forall_mem_cons.mpr ⟨in_sl (List.mem_of_getElem? (i := 0) rfl),
  List.forall_mem_cons.mpr ⟨in_t2 (List.mem_of_getElem? (i := 12) rfl),
  List.forall_mem_cons.mpr ⟨in_t1 (List.mem_of_getElem? (i := 28) rfl),
  List.forall_mem_cons.mpr ⟨in_t2 (List.mem_of_getElem? (i := 13) rfl),
  List.forall_mem_cons.mpr ⟨in_t2 (List.mem_of_getElem? (i := 15) rfl),
  List.forall_mem_cons.mpr ⟨in_sl (List.mem_of_getElem? (i := 1) rfl),
  List.forall_mem_cons.mpr ⟨in_t2 (List.mem_of_getElem? (i := 16) rfl),
  List.forall_mem_cons.mpr ⟨in_t1 (List.mem_of_getElem? (i := 66) rfl),
  List.forall_mem_cons.mpr ⟨in_t1 (List.mem_of_getElem? (i := 70) rfl),
  List.forall_mem_cons.mpr ⟨in_t2 (List.mem_of_getElem? (i := 17) rfl),
  fun _ h => absurd h List.not_mem_nil⟩⟩⟩⟩⟩⟩⟩⟩⟩⟩⟩⟩⟩⟩⟩⟩⟩⟩⟩⟩⟩⟩⟩⟩
set_option maxRecDepth 20000 in
theorem inr8 : ∀ w ∈ wsL_law_r8, w ∈ lw_tbl :=
  List.forall_mem_cons.mpr ⟨in_t2 (List.mem_of_getElem? (i := 18) rfl),
  List.forall_mem_cons.mpr ⟨in_t2 (List.mem_of_getElem? (i := 19) rfl),
  List.forall_mem_cons.mpr ⟨in_t2 (List.mem_of_getElem? (i := 20) rfl),
  List.forall_mem_cons.mpr ⟨in_t2 (List.mem_of_getElem? (i := 21) rfl),
  List.forall_mem_cons.mpr ⟨in_t2 (List.mem_of_getElem? (i := 22) rfl),
  List.forall_mem_cons.mpr ⟨in_t2 (List.mem_of_getElem? (i := 23) rfl),
  List.forall_mem_cons.mpr ⟨in_t2 (List.mem_of_getElem? (i := 24) rfl),
  List.forall_mem_cons.mpr ⟨in_t2 (List.mem_of_getElem? (i := 25) rfl),
  List.forall_mem_cons.mpr ⟨in_t2 (List.mem_of_getElem? (i := 26) rfl),
  List.forall_mem_cons.mpr ⟨in_t2 (List.mem_of_getElem? (i := 27) rfl),
  List.forall_mem_cons.mpr ⟨in_t2 (List.mem_of_getElem? (i := 28) rfl),
  List.forall_mem_cons.mpr ⟨in_t2 (List.mem_of_getElem? (i := 29) rfl),
  List.forall_mem_cons.mpr ⟨in_t2 (List.mem_of_getElem? (i := 30) rfl),
  List.forall_mem_cons.mpr ⟨in_t2 (List.mem_of_getElem? (i := 31) rfl),
  List.forall_mem_cons.mpr ⟨in_t2 (List.mem_of_getElem? (i := 32) rfl),
  List.forall_mem_cons.mpr ⟨in_t2 (List.mem_of_getElem? (i := 33) rfl),
  List.forall_mem_cons.mpr ⟨in_t2 (List.mem_of_getElem? (i := 34) rfl),
  List.forall_mem_cons.mpr ⟨in_t2 (List.mem_of_getElem? (i := 35) rfl),
  List.forall_mem_cons.mpr ⟨in_t2 (List.mem_of_getElem? (i := 36) rfl),
  List.forall_mem_cons.mpr ⟨in_t2 (List.mem_of_getElem? (i := 37) rfl),
  List.forall_mem_cons.mpr ⟨in_t2 (List.mem_of_getElem? (i := 39) rfl),
  List.forall_mem_cons.mpr ⟨in_sl (List.mem_of_getElem? (i := 2) rfl),
  List.forall_mem_cons.mpr ⟨in_t2 (List.mem_of_getElem? (i := 40) rfl),
  List.forall_mem_cons.mpr ⟨in_t1 (List.mem_of_getElem? (i := 29) rfl),
  fun _ h => absurd h List.not_mem_nil⟩⟩⟩⟩⟩⟩⟩⟩⟩⟩⟩⟩⟩⟩⟩⟩⟩⟩⟩⟩⟩⟩⟩⟩
set_option maxRecDepth 20000 in
theorem inr9 : ∀ w ∈ wsL_law_r9, w ∈ lw_tbl :=
  List.forall_mem_cons.mpr ⟨in_t1 (List.mem_of_getElem? (i := 30) rfl),
  List.forall_mem_cons.mpr ⟨in_t2 (List.mem_of_getElem? (i := 42) rfl),
  List.forall_mem_cons.mpr ⟨in_t2 (List.mem_of_getElem? (i := 44) rfl),
  List.forall_mem_cons.mpr ⟨in_sl (List.mem_of_getElem? (i := 3) rfl),
  List.forall_mem_cons.mpr ⟨in_t2 (List.mem_of_getElem? (i := 45) rfl),
  List.forall_mem_cons.mpr ⟨in_t2 (List.mem_of_getElem? (i := 46) rfl),
  List.forall_mem_cons.mpr ⟨in_t2 (List.mem_of_getElem? (i := 47) rfl),
  List.forall_mem_cons.mpr ⟨in_t2 (List.mem_of_getElem? (i := 48) rfl),
  List.forall_mem_cons.mpr ⟨in_t2 (List.mem_of_getElem? (i := 49) rfl),
  List.forall_mem_cons.mpr ⟨in_t2 (List.mem_of_getElem? (i := 51) rfl),
  List.forall_mem_cons.mpr ⟨in_t2 (List.mem_of_getElem? (i := 53) rfl),
  List.forall_mem_cons.mpr ⟨in_sl (List.mem_of_getElem? (i := 4) rfl),
  List.forall_mem_cons.mpr ⟨in_t2 (List.mem_of_getElem? (i := 54) rfl),
  List.forall_mem_cons.mpr ⟨in_t2 (List.mem_of_getElem? (i := 55) rfl),
  List.forall_mem_cons.mpr ⟨in_t2 (List.mem_of_getElem? (i := 57) rfl),
  List.forall_mem_cons.mpr ⟨in_t2 (List.mem_of_getElem? (i := 58) rfl),
  List.forall_mem_cons.mpr ⟨in_t2 (List.mem_of_getElem? (i := 59) rfl),
  List.forall_mem_cons.mpr ⟨in_t2 (List.mem_of_getElem? (i := 60) rfl),
  List.forall_mem_cons.mpr ⟨in_t2 (List.mem_of_getElem? (i := 61) rfl),
  List.forall_mem_cons.mpr ⟨in_t2 (List.mem_of_getElem? (i := 62) rfl),
  List.forall_mem_cons.mpr ⟨in_t2 (List.mem_of_getElem? (i := 63) rfl),
  List.forall_mem_cons.mpr ⟨in_t2 (List.mem_of_getElem? (i := 65) rfl),
  List.forall_mem_cons.mpr ⟨in_sl (List.mem_of_getElem? (i := 5) rfl),
  List.forall_mem_cons.mpr ⟨in_t2 (List.mem_of_getElem? (i := 66) rfl),
  fun _ h => absurd h List.not_mem_nil⟩⟩⟩⟩⟩⟩⟩⟩⟩⟩⟩⟩⟩⟩⟩⟩⟩⟩⟩⟩⟩⟩⟩⟩
set_option maxRecDepth 20000 in
theorem inr10 : ∀ w ∈ wsL_law_r10, w ∈ lw_tbl :=
  List.forall_mem_cons.mpr ⟨in_t2 (List.mem_of_getElem? (i := 68) rfl),
  List.forall_mem_cons.mpr ⟨in_t2 (List.mem_of_getElem? (i := 69) rfl),
  List.forall_mem_cons.mpr ⟨in_t2 (List.mem_of_getElem? (i := 70) rfl),
  List.forall_mem_cons.mpr ⟨in_t2 (List.mem_of_getElem? (i := 71) rfl),
  List.forall_mem_cons.mpr ⟨in_t2 (List.mem_of_getElem? (i := 72) rfl),
  List.forall_mem_cons.mpr ⟨in_t2 (List.mem_of_getElem? (i := 73) rfl),
  List.forall_mem_cons.mpr ⟨in_t2 (List.mem_of_getElem? (i := 74) rfl),
  List.forall_mem_cons.mpr ⟨in_t2 (List.mem_of_getElem? (i := 76) rfl),
  List.forall_mem_cons.mpr ⟨in_sl (List.mem_of_getElem? (i := 6) rfl),
  List.forall_mem_cons.mpr ⟨in_t2 (List.mem_of_getElem? (i := 77) rfl),
  List.forall_mem_cons.mpr ⟨in_t2 (List.mem_of_getElem? (i := 78) rfl),
  List.forall_mem_cons.mpr ⟨in_t2 (List.mem_of_getElem? (i := 79) rfl),
  List.forall_mem_cons.mpr ⟨in_t2 (List.mem_of_getElem? (i := 80) rfl),
  List.forall_mem_cons.mpr ⟨in_t2 (List.mem_of_getElem? (i := 81) rfl),
  List.forall_mem_cons.mpr ⟨in_t2 (List.mem_of_getElem? (i := 82) rfl),
  List.forall_mem_cons.mpr ⟨in_t4 (List.mem_of_getElem? (i := 103) rfl),
  List.forall_mem_cons.mpr ⟨in_t4 (List.mem_of_getElem? (i := 104) rfl),
  List.forall_mem_cons.mpr ⟨in_t4 (List.mem_of_getElem? (i := 105) rfl),
  List.forall_mem_cons.mpr ⟨in_t4 (List.mem_of_getElem? (i := 106) rfl),
  List.forall_mem_cons.mpr ⟨in_t4 (List.mem_of_getElem? (i := 107) rfl),
  List.forall_mem_cons.mpr ⟨in_t4 (List.mem_of_getElem? (i := 109) rfl),
  List.forall_mem_cons.mpr ⟨in_sl (List.mem_of_getElem? (i := 26) rfl),
  List.forall_mem_cons.mpr ⟨in_t4 (List.mem_of_getElem? (i := 110) rfl),
  List.forall_mem_cons.mpr ⟨in_t4 (List.mem_of_getElem? (i := 9) rfl),
  fun _ h => absurd h List.not_mem_nil⟩⟩⟩⟩⟩⟩⟩⟩⟩⟩⟩⟩⟩⟩⟩⟩⟩⟩⟩⟩⟩⟩⟩⟩
set_option maxRecDepth 20000 in
theorem inr11 : ∀ w ∈ wsL_law_r11, w ∈ lw_tbl :=
  List.forall_mem_cons.mpr ⟨in_t4 (List.mem_of_getElem? (i := 10) rfl),
  List.forall_mem_cons.mpr ⟨in_t4 (List.mem_of_getElem? (i := 5) rfl),
  List.forall_mem_cons.mpr ⟨in_t4 (List.mem_of_getElem? (i := 6) rfl),
  List.forall_mem_cons.mpr ⟨in_t4 (List.mem_of_getElem? (i := 111) rfl),
  List.forall_mem_cons.mpr ⟨in_t4 (List.mem_of_getElem? (i := 113) rfl),
  List.forall_mem_cons.mpr ⟨in_sl (List.mem_of_getElem? (i := 27) rfl),
  List.forall_mem_cons.mpr ⟨in_t4 (List.mem_of_getElem? (i := 114) rfl),
  List.forall_mem_cons.mpr ⟨in_t4 (List.mem_of_getElem? (i := 115) rfl),
  List.forall_mem_cons.mpr ⟨in_t4 (List.mem_of_getElem? (i := 117) rfl),
  List.forall_mem_cons.mpr ⟨in_sl (List.mem_of_getElem? (i := 28) rfl),
  List.forall_mem_cons.mpr ⟨in_t4 (List.mem_of_getElem? (i := 118) rfl),
  List.forall_mem_cons.mpr ⟨in_t4 (List.mem_of_getElem? (i := 119) rfl),
  List.forall_mem_cons.mpr ⟨in_t4 (List.mem_of_getElem? (i := 120) rfl),
  List.forall_mem_cons.mpr ⟨in_t4 (List.mem_of_getElem? (i := 121) rfl),
  List.forall_mem_cons.mpr ⟨in_t4 (List.mem_of_getElem? (i := 122) rfl),
  List.forall_mem_cons.mpr ⟨in_t4 (List.mem_of_getElem? (i := 123) rfl),
  List.forall_mem_cons.mpr ⟨in_t4 (List.mem_of_getElem? (i := 125) rfl),
  List.forall_mem_cons.mpr ⟨in_sl (List.mem_of_getElem? (i := 29) rfl),
  List.forall_mem_cons.mpr ⟨in_t4 (List.mem_of_getElem? (i := 126) rfl),
  List.forall_mem_cons.mpr ⟨in_t4 (List.mem_of_getElem? (i := 127) rfl),
  List.forall_mem_cons.mpr ⟨in_t4 (List.mem_of_getElem? (i := 129) rfl),
  List.forall_mem_cons.mpr ⟨in_sl (List.mem_of_getElem? (i := 30) rfl),
  List.forall_mem_cons.mpr ⟨in_t4 (List.mem_of_getElem? (i := 130) rfl),
  List.forall_mem_cons.mpr ⟨in_t4 (List.mem_of_getElem? (i := 131) rfl),
  fun _ h => absurd h List.not_mem_nil⟩⟩⟩⟩⟩⟩⟩⟩⟩⟩⟩⟩⟩⟩⟩⟩⟩⟩⟩⟩⟩⟩⟩⟩
set_option maxRecDepth 20000 in
theorem inr12 : ∀ w ∈ wsL_law_r12, w ∈ lw_tbl :=
  List.forall_mem_cons.mpr ⟨in_t4 (List.mem_of_getElem? (i := 133) rfl),
  List.forall_mem_cons.mpr ⟨in_sl (List.mem_of_getElem? (i := 31) rfl),
  List.forall_mem_cons.mpr ⟨in_t4 (List.mem_of_getElem? (i := 134) rfl),
  List.forall_mem_cons.mpr ⟨in_t2 (List.mem_of_getElem? (i := 83) rfl),
  List.forall_mem_cons.mpr ⟨in_t2 (List.mem_of_getElem? (i := 84) rfl),
  List.forall_mem_cons.mpr ⟨in_t2 (List.mem_of_getElem? (i := 85) rfl),
  List.forall_mem_cons.mpr ⟨in_t2 (List.mem_of_getElem? (i := 86) rfl),
  List.forall_mem_cons.mpr ⟨in_t1 (List.mem_of_getElem? (i := 123) rfl),
  List.forall_mem_cons.mpr ⟨in_t1 (List.mem_of_getElem? (i := 67) rfl),
  List.forall_mem_cons.mpr ⟨in_t1 (List.mem_of_getElem? (i := 71) rfl),
  List.forall_mem_cons.mpr ⟨in_t2 (List.mem_of_getElem? (i := 87) rfl),
  List.forall_mem_cons.mpr ⟨in_t2 (List.mem_of_getElem? (i := 88) rfl),
  List.forall_mem_cons.mpr ⟨in_t2 (List.mem_of_getElem? (i := 89) rfl),
  List.forall_mem_cons.mpr ⟨in_t2 (List.mem_of_getElem? (i := 90) rfl),
  List.forall_mem_cons.mpr ⟨in_t1 (List.mem_of_getElem? (i := 100) rfl),
  List.forall_mem_cons.mpr ⟨in_t1 (List.mem_of_getElem? (i := 62) rfl),
  List.forall_mem_cons.mpr ⟨in_t2 (List.mem_of_getElem? (i := 91) rfl),
  List.forall_mem_cons.mpr ⟨in_t4 (List.mem_of_getElem? (i := 135) rfl),
  List.forall_mem_cons.mpr ⟨in_t4 (List.mem_of_getElem? (i := 136) rfl),
  List.forall_mem_cons.mpr ⟨in_t4 (List.mem_of_getElem? (i := 137) rfl),
  List.forall_mem_cons.mpr ⟨in_t4 (List.mem_of_getElem? (i := 138) rfl),
  List.forall_mem_cons.mpr ⟨in_t3 (List.mem_of_getElem? (i := 232) rfl),
  List.forall_mem_cons.mpr ⟨in_t4 (List.mem_of_getElem? (i := 11) rfl),
  List.forall_mem_cons.mpr ⟨in_t2 (List.mem_of_getElem? (i := 92) rfl),
  fun _ h => absurd h List.not_mem_nil⟩⟩⟩⟩⟩⟩⟩⟩⟩⟩⟩⟩⟩⟩⟩⟩⟩⟩⟩⟩⟩⟩⟩⟩
set_option maxRecDepth 20000 in
theorem inr13 : ∀ w ∈ wsL_law_r13, w ∈ lw_tbl :=
  List.forall_mem_cons.mpr ⟨in_t2 (List.mem_of_getElem? (i := 93) rfl),
  List.forall_mem_cons.mpr ⟨in_t2 (List.mem_of_getElem? (i := 94) rfl),
  List.forall_mem_cons.mpr ⟨in_t2 (List.mem_of_getElem? (i := 95) rfl),
  List.forall_mem_cons.mpr ⟨in_t1 (List.mem_of_getElem? (i := 54) rfl),
  List.forall_mem_cons.mpr ⟨in_t1 (List.mem_of_getElem? (i := 57) rfl),
  List.forall_mem_cons.mpr ⟨in_t1 (List.mem_of_getElem? (i := 59) rfl),
  List.forall_mem_cons.mpr ⟨in_t1 (List.mem_of_getElem? (i := 101) rfl),
  List.forall_mem_cons.mpr ⟨in_t2 (List.mem_of_getElem? (i := 96) rfl),
  List.forall_mem_cons.mpr ⟨in_t2 (List.mem_of_getElem? (i := 97) rfl),
  List.forall_mem_cons.mpr ⟨in_t2 (List.mem_of_getElem? (i := 98) rfl),
  List.forall_mem_cons.mpr ⟨in_t2 (List.mem_of_getElem? (i := 99) rfl),
  List.forall_mem_cons.mpr ⟨in_t2 (List.mem_of_getElem? (i := 100) rfl),
  List.forall_mem_cons.mpr ⟨in_t2 (List.mem_of_getElem? (i := 101) rfl),
  List.forall_mem_cons.mpr ⟨in_t2 (List.mem_of_getElem? (i := 102) rfl),
  List.forall_mem_cons.mpr ⟨in_t2 (List.mem_of_getElem? (i := 103) rfl),
  List.forall_mem_cons.mpr ⟨in_t2 (List.mem_of_getElem? (i := 104) rfl),
  List.forall_mem_cons.mpr ⟨in_t2 (List.mem_of_getElem? (i := 106) rfl),
  List.forall_mem_cons.mpr ⟨in_t2 (List.mem_of_getElem? (i := 107) rfl),
  List.forall_mem_cons.mpr ⟨in_t2 (List.mem_of_getElem? (i := 108) rfl),
  List.forall_mem_cons.mpr ⟨in_t2 (List.mem_of_getElem? (i := 109) rfl),
  List.forall_mem_cons.mpr ⟨in_t2 (List.mem_of_getElem? (i := 110) rfl),
  List.forall_mem_cons.mpr ⟨in_t2 (List.mem_of_getElem? (i := 111) rfl),
  List.forall_mem_cons.mpr ⟨in_t2 (List.mem_of_getElem? (i := 112) rfl),
  List.forall_mem_cons.mpr ⟨in_t2 (List.mem_of_getElem? (i := 113) rfl),
  fun _ h => absurd h List.not_mem_nil⟩⟩⟩⟩⟩⟩⟩⟩⟩⟩⟩⟩⟩⟩⟩⟩⟩⟩⟩⟩⟩⟩⟩⟩
set_option maxRecDepth 20000 in
theorem inr14 : ∀ w ∈ wsL_law_r14, w ∈ lw_tbl :=
  List.forall_mem_cons.mpr ⟨in_t2 (List.mem_of_getElem? (i := 114) rfl),
  List.forall_mem_cons.mpr ⟨in_t2 (List.mem_of_getElem? (i := 115) rfl),
  List.forall_mem_cons.mpr ⟨in_t4 (List.mem_of_getElem? (i := 139) rfl),
  List.forall_mem_cons.mpr ⟨in_t4 (List.mem_of_getElem? (i := 140) rfl),
  List.forall_mem_cons.mpr ⟨in_t4 (List.mem_of_getElem? (i := 141) rfl),
  List.forall_mem_cons.mpr ⟨in_t4 (List.mem_of_getElem? (i := 142) rfl),
  List.forall_mem_cons.mpr ⟨in_t4 (List.mem_of_getElem? (i := 143) rfl),
  List.forall_mem_cons.mpr ⟨in_t4 (List.mem_of_getElem? (i := 145) rfl),
  List.forall_mem_cons.mpr ⟨in_sl (List.mem_of_getElem? (i := 32) rfl),
  List.forall_mem_cons.mpr ⟨in_t4 (List.mem_of_getElem? (i := 146) rfl),
  List.forall_mem_cons.mpr ⟨in_t4 (List.mem_of_getElem? (i := 147) rfl),
  List.forall_mem_cons.mpr ⟨in_t4 (List.mem_of_getElem? (i := 149) rfl),
  List.forall_mem_cons.mpr ⟨in_sl (List.mem_of_getElem? (i := 33) rfl),
  List.forall_mem_cons.mpr ⟨in_t4 (List.mem_of_getElem? (i := 150) rfl),
  List.forall_mem_cons.mpr ⟨in_t2 (List.mem_of_getElem? (i := 117) rfl),
  List.forall_mem_cons.mpr ⟨in_t2 (List.mem_of_getElem? (i := 118) rfl),
  List.forall_mem_cons.mpr ⟨in_t2 (List.mem_of_getElem? (i := 119) rfl),
  List.forall_mem_cons.mpr ⟨in_t2 (List.mem_of_getElem? (i := 120) rfl),
  List.forall_mem_cons.mpr ⟨in_t1 (List.mem_of_getElem? (i := 64) rfl),
  List.forall_mem_cons.mpr ⟨in_t2 (List.mem_of_getElem? (i := 121) rfl),
  List.forall_mem_cons.mpr ⟨in_t2 (List.mem_of_getElem? (i := 122) rfl),
  List.forall_mem_cons.mpr ⟨in_t2 (List.mem_of_getElem? (i := 123) rfl),
  List.forall_mem_cons.mpr ⟨in_t2 (List.mem_of_getElem? (i := 124) rfl),
  List.forall_mem_cons.mpr ⟨in_t4 (List.mem_of_getElem? (i := 151) rfl),
  fun _ h => absurd h List.not_mem_nil⟩⟩⟩⟩⟩⟩⟩⟩⟩⟩⟩⟩⟩⟩⟩⟩⟩⟩⟩⟩⟩⟩⟩⟩
set_option maxRecDepth 20000 in
theorem inr15 : ∀ w ∈ wsL_law_r15, w ∈ lw_tbl :=
  List.forall_mem_cons.mpr ⟨in_t4 (List.mem_of_getElem? (i := 152) rfl),
  List.forall_mem_cons.mpr ⟨in_t4 (List.mem_of_getElem? (i := 153) rfl),
  List.forall_mem_cons.mpr ⟨in_t4 (List.mem_of_getElem? (i := 154) rfl),
  List.forall_mem_cons.mpr ⟨in_t4 (List.mem_of_getElem? (i := 155) rfl),
  List.forall_mem_cons.mpr ⟨in_t4 (List.mem_of_getElem? (i := 157) rfl),
  List.forall_mem_cons.mpr ⟨in_sl (List.mem_of_getElem? (i := 34) rfl),
  List.forall_mem_cons.mpr ⟨in_t4 (List.mem_of_getElem? (i := 158) rfl),
  List.forall_mem_cons.mpr ⟨in_t2 (List.mem_of_getElem? (i := 125) rfl),
  List.forall_mem_cons.mpr ⟨in_t2 (List.mem_of_getElem? (i := 126) rfl),
  List.forall_mem_cons.mpr ⟨in_t2 (List.mem_of_getElem? (i := 127) rfl),
  List.forall_mem_cons.mpr ⟨in_t2 (List.mem_of_getElem? (i := 128) rfl),
  List.forall_mem_cons.mpr ⟨in_t2 (List.mem_of_getElem? (i := 129) rfl),
  List.forall_mem_cons.mpr ⟨in_t2 (List.mem_of_getElem? (i := 130) rfl),
  List.forall_mem_cons.mpr ⟨in_t2 (List.mem_of_getElem? (i := 131) rfl),
  List.forall_mem_cons.mpr ⟨in_t2 (List.mem_of_getElem? (i := 132) rfl),
  List.forall_mem_cons.mpr ⟨in_t4 (List.mem_of_getElem? (i := 159) rfl),
  List.forall_mem_cons.mpr ⟨in_t4 (List.mem_of_getElem? (i := 160) rfl),
  List.forall_mem_cons.mpr ⟨in_t4 (List.mem_of_getElem? (i := 161) rfl),
  List.forall_mem_cons.mpr ⟨in_t4 (List.mem_of_getElem? (i := 162) rfl),
  List.forall_mem_cons.mpr ⟨in_t4 (List.mem_of_getElem? (i := 163) rfl),
  List.forall_mem_cons.mpr ⟨in_t4 (List.mem_of_getElem? (i := 165) rfl),
  List.forall_mem_cons.mpr ⟨in_sl (List.mem_of_getElem? (i := 35) rfl),
  List.forall_mem_cons.mpr ⟨in_t4 (List.mem_of_getElem? (i := 166) rfl),
  List.forall_mem_cons.mpr ⟨in_t2 (List.mem_of_getElem? (i := 133) rfl),
  fun _ h => absurd h List.not_mem_nil⟩⟩⟩⟩⟩⟩⟩⟩⟩⟩⟩⟩⟩⟩⟩⟩⟩⟩⟩⟩⟩⟩⟩⟩
set_option maxRecDepth 20000 in
theorem inr16 : ∀ w ∈ wsL_law_r16, w ∈ lw_tbl :=
  List.forall_mem_cons.mpr ⟨in_t2 (List.mem_of_getElem? (i := 134) rfl),
  List.forall_mem_cons.mpr ⟨in_t2 (List.mem_of_getElem? (i := 135) rfl),
  List.forall_mem_cons.mpr ⟨in_t2 (List.mem_of_getElem? (i := 136) rfl),
  List.forall_mem_cons.mpr ⟨in_t2 (List.mem_of_getElem? (i := 137) rfl),
  List.forall_mem_cons.mpr ⟨in_t2 (List.mem_of_getElem? (i := 138) rfl),
  List.forall_mem_cons.mpr ⟨in_t2 (List.mem_of_getElem? (i := 139) rfl),
  List.forall_mem_cons.mpr ⟨in_t2 (List.mem_of_getElem? (i := 140) rfl),
  List.forall_mem_cons.mpr ⟨in_t1 (List.mem_of_getElem? (i := 121) rfl),
  List.forall_mem_cons.mpr ⟨in_t1 (List.mem_of_getElem? (i := 122) rfl),
  List.forall_mem_cons.mpr ⟨in_t2 (List.mem_of_getElem? (i := 149) rfl),
  List.forall_mem_cons.mpr ⟨in_t2 (List.mem_of_getElem? (i := 150) rfl),
  List.forall_mem_cons.mpr ⟨in_t1 (List.mem_of_getElem? (i := 10) rfl),
  List.forall_mem_cons.mpr ⟨in_t2 (List.mem_of_getElem? (i := 151) (by decide +kernel)),
  List.forall_mem_cons.mpr ⟨in_t2 (List.mem_of_getElem? (i := 142) rfl),
  List.forall_mem_cons.mpr ⟨in_t2 (List.mem_of_getElem? (i := 143) rfl),
  List.forall_mem_cons.mpr ⟨in_t2 (List.mem_of_getElem? (i := 144) rfl),
  List.forall_mem_cons.mpr ⟨in_t2 (List.mem_of_getElem? (i := 145) rfl),
  List.forall_mem_cons.mpr ⟨in_t2 (List.mem_of_getElem? (i := 146) rfl),
  List.forall_mem_cons.mpr ⟨in_t2 (List.mem_of_getElem? (i := 148) rfl),
  List.forall_mem_cons.mpr ⟨in_t2 (List.mem_of_getElem? (i := 147) rfl),
  List.forall_mem_cons.mpr ⟨in_t1 (List.mem_of_getElem? (i := 9) rfl),
  List.forall_mem_cons.mpr ⟨in_t2 (List.mem_of_getElem? (i := 152) rfl),
  List.forall_mem_cons.mpr ⟨in_t2 (List.mem_of_getElem? (i := 153) rfl),
  List.forall_mem_cons.mpr ⟨in_t2 (List.mem_of_getElem? (i := 154) rfl),
  fun _ h => absurd h List.not_mem_nil⟩⟩⟩⟩⟩⟩⟩⟩⟩⟩⟩⟩⟩⟩⟩⟩⟩⟩⟩⟩⟩⟩⟩⟩
set_option maxRecDepth 20000 in
theorem inr17 : ∀ w ∈ wsL_law_r17, w ∈ lw_tbl :=
  List.forall_mem_cons.mpr ⟨in_t2 (List.mem_of_getElem? (i := 155) rfl),
  List.forall_mem_cons.mpr ⟨in_t2 (List.mem_of_getElem? (i := 156) rfl),
  List.forall_mem_cons.mpr ⟨in_t2 (List.mem_of_getElem? (i := 158) rfl),
  List.forall_mem_cons.mpr ⟨in_sl (List.mem_of_getElem? (i := 7) rfl),
  List.forall_mem_cons.mpr ⟨in_t2 (List.mem_of_getElem? (i := 159) rfl),
  List.forall_mem_cons.mpr ⟨in_t1 (List.mem_of_getElem? (i := 72) rfl),
  List.forall_mem_cons.mpr ⟨in_t2 (List.mem_of_getElem? (i := 160) rfl),
  List.forall_mem_cons.mpr ⟨in_t2 (List.mem_of_getElem? (i := 161) rfl),
  List.forall_mem_cons.mpr ⟨in_t2 (List.mem_of_getElem? (i := 162) rfl),
  List.forall_mem_cons.mpr ⟨in_t2 (List.mem_of_getElem? (i := 163) rfl),
  List.forall_mem_cons.mpr ⟨in_t2 (List.mem_of_getElem? (i := 164) rfl),
  List.forall_mem_cons.mpr ⟨in_t2 (List.mem_of_getElem? (i := 166) rfl),
  List.forall_mem_cons.mpr ⟨in_t2 (List.mem_of_getElem? (i := 167) rfl),
  List.forall_mem_cons.mpr ⟨in_t2 (List.mem_of_getElem? (i := 168) rfl),
  List.forall_mem_cons.mpr ⟨in_t2 (List.mem_of_getElem? (i := 169) rfl),
  List.forall_mem_cons.mpr ⟨in_t2 (List.mem_of_getElem? (i := 170) rfl),
  List.forall_mem_cons.mpr ⟨in_t2 (List.mem_of_getElem? (i := 172) rfl),
  List.forall_mem_cons.mpr ⟨in_t2 (List.mem_of_getElem? (i := 173) rfl),
  List.forall_mem_cons.mpr ⟨in_t2 (List.mem_of_getElem? (i := 174) rfl),
  List.forall_mem_cons.mpr ⟨in_t2 (List.mem_of_getElem? (i := 175) rfl),
  List.forall_mem_cons.mpr ⟨in_t2 (List.mem_of_getElem? (i := 176) rfl),
  List.forall_mem_cons.mpr ⟨in_t2 (List.mem_of_getElem? (i := 177) rfl),
  List.forall_mem_cons.mpr ⟨in_t4 (List.mem_of_getElem? (i := 167) rfl),
  List.forall_mem_cons.mpr ⟨in_t4 (List.mem_of_getElem? (i := 168) rfl),
  fun _ h => absurd h List.not_mem_nil⟩⟩⟩⟩⟩⟩⟩⟩⟩⟩⟩⟩⟩⟩⟩⟩⟩⟩⟩⟩⟩⟩⟩⟩
set_option maxRecDepth 20000 in
theorem inr18 : ∀ w ∈ wsL_law_r18, w ∈ lw_tbl :=
  List.forall_mem_cons.mpr ⟨in_t4 (List.mem_of_getElem? (i := 169) rfl),
  List.forall_mem_cons.mpr ⟨in_t4 (List.mem_of_getElem? (i := 170) rfl),
  List.forall_mem_cons.mpr ⟨in_t4 (List.mem_of_getElem? (i := 171) rfl),
  List.forall_mem_cons.mpr ⟨in_t4 (List.mem_of_getElem? (i := 173) rfl),
  List.forall_mem_cons.mpr ⟨in_sl (List.mem_of_getElem? (i := 36) rfl),
  List.forall_mem_cons.mpr ⟨in_t4 (List.mem_of_getElem? (i := 174) rfl),
  List.forall_mem_cons.mpr ⟨in_t4 (List.mem_of_getElem? (i := 12) rfl),
  List.forall_mem_cons.mpr ⟨in_t4 (List.mem_of_getElem? (i := 175) rfl),
  List.forall_mem_cons.mpr ⟨in_t4 (List.mem_of_getElem? (i := 177) rfl),
  List.forall_mem_cons.mpr ⟨in_sl (List.mem_of_getElem? (i := 37) rfl),
  List.forall_mem_cons.mpr ⟨in_t4 (List.mem_of_getElem? (i := 178) rfl),
  List.forall_mem_cons.mpr ⟨in_t2 (List.mem_of_getElem? (i := 178) rfl),
  List.forall_mem_cons.mpr ⟨in_t2 (List.mem_of_getElem? (i := 179) rfl),
  List.forall_mem_cons.mpr ⟨in_t2 (List.mem_of_getElem? (i := 180) rfl),
  List.forall_mem_cons.mpr ⟨in_t2 (List.mem_of_getElem? (i := 181) rfl),
  List.forall_mem_cons.mpr ⟨in_t2 (List.mem_of_getElem? (i := 182) rfl),
  List.forall_mem_cons.mpr ⟨in_t2 (List.mem_of_getElem? (i := 183) rfl),
  List.forall_mem_cons.mpr ⟨in_t2 (List.mem_of_getElem? (i := 184) rfl),
  List.forall_mem_cons.mpr ⟨in_t2 (List.mem_of_getElem? (i := 185) rfl),
  List.forall_mem_cons.mpr ⟨in_t2 (List.mem_of_getElem? (i := 186) rfl),
  List.forall_mem_cons.mpr ⟨in_t2 (List.mem_of_getElem? (i := 188) rfl),
  List.forall_mem_cons.mpr ⟨in_t2 (List.mem_of_getElem? (i := 189) rfl),
  List.forall_mem_cons.mpr ⟨in_t2 (List.mem_of_getElem? (i := 190) rfl),
  List.forall_mem_cons.mpr ⟨in_t2 (List.mem_of_getElem? (i := 191) rfl),
  fun _ h => absurd h List.not_mem_nil⟩⟩⟩⟩⟩⟩⟩⟩⟩⟩⟩⟩⟩⟩⟩⟩⟩⟩⟩⟩⟩⟩⟩⟩
set_option maxRecDepth 20000 in
theorem inr19 : ∀ w ∈ wsL_law_r19, w ∈ lw_tbl :=
  List.forall_mem_cons.mpr ⟨in_t2 (List.mem_of_getElem? (i := 192) rfl),
  List.forall_mem_cons.mpr ⟨in_t2 (List.mem_of_getElem? (i := 193) rfl),
  List.forall_mem_cons.mpr ⟨in_t2 (List.mem_of_getElem? (i := 194) rfl),
  List.forall_mem_cons.mpr ⟨in_t2 (List.mem_of_getElem? (i := 195) rfl),
  List.forall_mem_cons.mpr ⟨in_t1 (List.mem_of_getElem? (i := 11) rfl),
  List.forall_mem_cons.mpr ⟨in_t2 (List.mem_of_getElem? (i := 196) rfl),
  List.forall_mem_cons.mpr ⟨in_t2 (List.mem_of_getElem? (i := 197) rfl),
  List.forall_mem_cons.mpr ⟨in_t2 (List.mem_of_getElem? (i := 198) rfl),
  List.forall_mem_cons.mpr ⟨in_t2 (List.mem_of_getElem? (i := 199) rfl),
  List.forall_mem_cons.mpr ⟨in_t4 (List.mem_of_getElem? (i := 179) rfl),
  List.forall_mem_cons.mpr ⟨in_t4 (List.mem_of_getElem? (i := 180) rfl),
  List.forall_mem_cons.mpr ⟨in_t4 (List.mem_of_getElem? (i := 181) rfl),
  List.forall_mem_cons.mpr ⟨in_t4 (List.mem_of_getElem? (i := 182) rfl),
  List.forall_mem_cons.mpr ⟨in_t4 (List.mem_of_getElem? (i := 183) rfl),
  List.forall_mem_cons.mpr ⟨in_t4 (List.mem_of_getElem? (i := 184) rfl),
  List.forall_mem_cons.mpr ⟨in_t4 (List.mem_of_getElem? (i := 185) rfl),
  List.forall_mem_cons.mpr ⟨in_t4 (List.mem_of_getElem? (i := 186) rfl),
  List.forall_mem_cons.mpr ⟨in_t4 (List.mem_of_getElem? (i := 187) rfl),
  List.forall_mem_cons.mpr ⟨in_t4 (List.mem_of_getElem? (i := 189) rfl),
  List.forall_mem_cons.mpr ⟨in_sl (List.mem_of_getElem? (i := 38) rfl),
  List.forall_mem_cons.mpr ⟨in_t4 (List.mem_of_getElem? (i := 190) rfl),
  List.forall_mem_cons.mpr ⟨in_t4 (List.mem_of_getElem? (i := 191) rfl),
  List.forall_mem_cons.mpr ⟨in_t4 (List.mem_of_getElem? (i := 192) rfl),
  List.forall_mem_cons.mpr ⟨in_t4 (List.mem_of_getElem? (i := 193) rfl),
  fun _ h => absurd h List.not_mem_nil⟩⟩⟩⟩⟩⟩⟩⟩⟩⟩⟩⟩⟩⟩⟩⟩⟩⟩⟩⟩⟩⟩⟩⟩
set_option maxRecDepth 20000 in
theorem inr20 : ∀ w ∈ wsL_law_r20, w ∈ lw_tbl :=
  List.forall_mem_cons.mpr ⟨in_t2 (List.mem_of_getElem? (i := 200) rfl),
  List.forall_mem_cons.mpr ⟨in_t2 (List.mem_of_getElem? (i := 201) rfl),
  List.forall_mem_cons.mpr ⟨in_t2 (List.mem_of_getElem? (i := 202) rfl),
  List.forall_mem_cons.mpr ⟨in_t2 (List.mem_of_getElem? (i := 203) rfl),
  List.forall_mem_cons.mpr ⟨in_t2 (List.mem_of_getElem? (i := 204) rfl),
  List.forall_mem_cons.mpr ⟨in_t2 (List.mem_of_getElem? (i := 205) rfl),
  List.forall_mem_cons.mpr ⟨in_t2 (List.mem_of_getElem? (i := 206) rfl),
  List.forall_mem_cons.mpr ⟨in_t2 (List.mem_of_getElem? (i := 207) rfl),
  List.forall_mem_cons.mpr ⟨in_t2 (List.mem_of_getElem? (i := 208) rfl),
  List.forall_mem_cons.mpr ⟨in_t2 (List.mem_of_getElem? (i := 209) rfl),
  List.forall_mem_cons.mpr ⟨in_t2 (List.mem_of_getElem? (i := 210) rfl),
  List.forall_mem_cons.mpr ⟨in_t2 (List.mem_of_getElem? (i := 211) rfl),
  List.forall_mem_cons.mpr ⟨in_t2 (List.mem_of_getElem? (i := 212) rfl),
  List.forall_mem_cons.mpr ⟨in_t2 (List.mem_of_getElem? (i := 213) rfl),
  List.forall_mem_cons.mpr ⟨in_t2 (List.mem_of_getElem? (i := 214) rfl),
  List.forall_mem_cons.mpr ⟨in_t2 (List.mem_of_getElem? (i := 215) rfl),
  List.forall_mem_cons.mpr ⟨in_t4 (List.mem_of_getElem? (i := 194) rfl),
  List.forall_mem_cons.mpr ⟨in_t4 (List.mem_of_getElem? (i := 195) rfl),
  List.forall_mem_cons.mpr ⟨in_t4 (List.mem_of_getElem? (i := 196) rfl),
  List.forall_mem_cons.mpr ⟨in_t4 (List.mem_of_getElem? (i := 197) rfl),
  List.forall_mem_cons.mpr ⟨in_t4 (List.mem_of_getElem? (i := 198) rfl),
  List.forall_mem_cons.mpr ⟨in_t4 (List.mem_of_getElem? (i := 200) rfl),
  List.forall_mem_cons.mpr ⟨in_sl (List.mem_of_getElem? (i := 39) rfl),
  List.forall_mem_cons.mpr ⟨in_t4 (List.mem_of_getElem? (i := 201) rfl),
  fun _ h => absurd h List.not_mem_nil⟩⟩⟩⟩⟩⟩⟩⟩⟩⟩⟩⟩⟩⟩⟩⟩⟩⟩⟩⟩⟩⟩⟩⟩
set_option maxRecDepth 20000 in
theorem inr21 : ∀ w ∈ wsL_law_r21, w ∈ lw_tbl :=
  List.forall_mem_cons.mpr ⟨in_t4 (List.mem_of_getElem? (i := 202) rfl),
  List.forall_mem_cons.mpr ⟨in_t4 (List.mem_of_getElem? (i := 204) rfl),
  List.forall_mem_cons.mpr ⟨in_sl (List.mem_of_getElem? (i := 40) rfl),
  List.forall_mem_cons.mpr ⟨in_t4 (List.mem_of_getElem? (i := 205) rfl),
  List.forall_mem_cons.mpr ⟨in_t2 (List.mem_of_getElem? (i := 216) rfl),
  List.forall_mem_cons.mpr ⟨in_t2 (List.mem_of_getElem? (i := 217) rfl),
  List.forall_mem_cons.mpr ⟨in_t2 (List.mem_of_getElem? (i := 218) rfl),
  List.forall_mem_cons.mpr ⟨in_t2 (List.mem_of_getElem? (i := 219) rfl),
  List.forall_mem_cons.mpr ⟨in_t2 (List.mem_of_getElem? (i := 220) rfl),
  List.forall_mem_cons.mpr ⟨in_t2 (List.mem_of_getElem? (i := 221) rfl),
  List.forall_mem_cons.mpr ⟨in_t2 (List.mem_of_getElem? (i := 222) rfl),
  List.forall_mem_cons.mpr ⟨in_t2 (List.mem_of_getElem? (i := 223) rfl),
  List.forall_mem_cons.mpr ⟨in_t2 (List.mem_of_getElem? (i := 224) rfl),
  List.forall_mem_cons.mpr ⟨in_t2 (List.mem_of_getElem? (i := 225) rfl),
  List.forall_mem_cons.mpr ⟨in_t2 (List.mem_of_getElem? (i := 226) rfl),
  List.forall_mem_cons.mpr ⟨in_t2 (List.mem_of_getElem? (i := 227) rfl),
  List.forall_mem_cons.mpr ⟨in_t2 (List.mem_of_getElem? (i := 228) rfl),
  List.forall_mem_cons.mpr ⟨in_t2 (List.mem_of_getElem? (i := 229) rfl),
  List.forall_mem_cons.mpr ⟨in_t2 (List.mem_of_getElem? (i := 230) rfl),
  List.forall_mem_cons.mpr ⟨in_t2 (List.mem_of_getElem? (i := 231) rfl),
  List.forall_mem_cons.mpr ⟨in_t2 (List.mem_of_getElem? (i := 233) rfl),
  List.forall_mem_cons.mpr ⟨in_t2 (List.mem_of_getElem? (i := 234) rfl),
  List.forall_mem_cons.mpr ⟨in_t2 (List.mem_of_getElem? (i := 235) (by decide +kernel)),
  List.forall_mem_cons.mpr ⟨in_t2 (List.mem_of_getElem? (i := 232) rfl),
  fun _ h => absurd h List.not_mem_nil⟩⟩⟩⟩⟩⟩⟩⟩⟩⟩⟩⟩⟩⟩⟩⟩⟩⟩⟩⟩⟩⟩⟩⟩
set_option maxRecDepth 20000 in
theorem inr22 : ∀ w ∈ wsL_law_r22, w ∈ lw_tbl :=
  List.forall_mem_cons.mpr ⟨in_t2 (List.mem_of_getElem? (i := 236) rfl),
  List.forall_mem_cons.mpr ⟨in_t2 (List.mem_of_getElem? (i := 238) rfl),
  List.forall_mem_cons.mpr ⟨in_sl (List.mem_of_getElem? (i := 8) rfl),
  List.forall_mem_cons.mpr ⟨in_t2 (List.mem_of_getElem? (i := 239) rfl),
  List.forall_mem_cons.mpr ⟨in_t1 (List.mem_of_getElem? (i := 60) rfl),
  List.forall_mem_cons.mpr ⟨in_t3 (List.mem_of_getElem? (i := 0) rfl),
  List.forall_mem_cons.mpr ⟨in_t3 (List.mem_of_getElem? (i := 1) rfl),
  List.forall_mem_cons.mpr ⟨in_t4 (List.mem_of_getElem? (i := 206) rfl),
  List.forall_mem_cons.mpr ⟨in_t4 (List.mem_of_getElem? (i := 207) rfl),
  List.forall_mem_cons.mpr ⟨in_t4 (List.mem_of_getElem? (i := 208) rfl),
  List.forall_mem_cons.mpr ⟨in_t4 (List.mem_of_getElem? (i := 209) rfl),
  List.forall_mem_cons.mpr ⟨in_t4 (List.mem_of_getElem? (i := 210) rfl),
  List.forall_mem_cons.mpr ⟨in_t4 (List.mem_of_getElem? (i := 212) rfl),
  List.forall_mem_cons.mpr ⟨in_sl (List.mem_of_getElem? (i := 41) rfl),
  List.forall_mem_cons.mpr ⟨in_t4 (List.mem_of_getElem? (i := 213) rfl),
  List.forall_mem_cons.mpr ⟨in_t4 (List.mem_of_getElem? (i := 214) rfl),
  List.forall_mem_cons.mpr ⟨in_t4 (List.mem_of_getElem? (i := 216) rfl),
  List.forall_mem_cons.mpr ⟨in_sl (List.mem_of_getElem? (i := 42) rfl),
  List.forall_mem_cons.mpr ⟨in_t4 (List.mem_of_getElem? (i := 217) rfl),
  List.forall_mem_cons.mpr ⟨in_t3 (List.mem_of_getElem? (i := 2) rfl),
  List.forall_mem_cons.mpr ⟨in_t3 (List.mem_of_getElem? (i := 3) rfl),
  List.forall_mem_cons.mpr ⟨in_t3 (List.mem_of_getElem? (i := 4) rfl),
  List.forall_mem_cons.mpr ⟨in_t3 (List.mem_of_getElem? (i := 5) rfl),
  List.forall_mem_cons.mpr ⟨in_t3 (List.mem_of_getElem? (i := 6) rfl),
  fun _ h => absurd h List.not_mem_nil⟩⟩⟩⟩⟩⟩⟩⟩⟩⟩⟩⟩⟩⟩⟩⟩⟩⟩⟩⟩⟩⟩⟩⟩
set_option maxRecDepth 20000 in
theorem inr23 : ∀ w ∈ wsL_law_r23, w ∈ lw_tbl :=
  List.forall_mem_cons.mpr ⟨in_t3 (List.mem_of_getElem? (i := 7) rfl),
  List.forall_mem_cons.mpr ⟨in_t3 (List.mem_of_getElem? (i := 8) rfl),
  List.forall_mem_cons.mpr ⟨in_t3 (List.mem_of_getElem? (i := 9) rfl),
  List.forall_mem_cons.mpr ⟨in_t4 (List.mem_of_getElem? (i := 218) rfl),
  List.forall_mem_cons.mpr ⟨in_t4 (List.mem_of_getElem? (i := 219) rfl),
  List.forall_mem_cons.mpr ⟨in_t4 (List.mem_of_getElem? (i := 220) rfl),
  List.forall_mem_cons.mpr ⟨in_t4 (List.mem_of_getElem? (i := 221) rfl),
  List.forall_mem_cons.mpr ⟨in_t3 (List.mem_of_getElem? (i := 10) rfl),
  List.forall_mem_cons.mpr ⟨in_t3 (List.mem_of_getElem? (i := 11) rfl),
  List.forall_mem_cons.mpr ⟨in_t3 (List.mem_of_getElem? (i := 12) rfl),
  List.forall_mem_cons.mpr ⟨in_t3 (List.mem_of_getElem? (i := 13) rfl),
  List.forall_mem_cons.mpr ⟨in_t3 (List.mem_of_getElem? (i := 14) rfl),
  List.forall_mem_cons.mpr ⟨in_t3 (List.mem_of_getElem? (i := 16) rfl),
  List.forall_mem_cons.mpr ⟨in_sl (List.mem_of_getElem? (i := 9) rfl),
  List.forall_mem_cons.mpr ⟨in_t3 (List.mem_of_getElem? (i := 17) rfl),
  List.forall_mem_cons.mpr ⟨in_t3 (List.mem_of_getElem? (i := 18) rfl),
  List.forall_mem_cons.mpr ⟨in_t3 (List.mem_of_getElem? (i := 20) rfl),
  List.forall_mem_cons.mpr ⟨in_sl (List.mem_of_getElem? (i := 10) rfl),
  List.forall_mem_cons.mpr ⟨in_t3 (List.mem_of_getElem? (i := 21) rfl),
  List.forall_mem_cons.mpr ⟨in_t3 (List.mem_of_getElem? (i := 22) rfl),
  List.forall_mem_cons.mpr ⟨in_t3 (List.mem_of_getElem? (i := 23) rfl),
  List.forall_mem_cons.mpr ⟨in_t4 (List.mem_of_getElem? (i := 222) rfl),
  List.forall_mem_cons.mpr ⟨in_t4 (List.mem_of_getElem? (i := 223) rfl),
  List.forall_mem_cons.mpr ⟨in_t4 (List.mem_of_getElem? (i := 224) rfl),
  fun _ h => absurd h List.not_mem_nil⟩⟩⟩⟩⟩⟩⟩⟩⟩⟩⟩⟩⟩⟩⟩⟩⟩⟩⟩⟩⟩⟩⟩⟩
set_option maxRecDepth 20000 in
theorem inr24 : ∀ w ∈ wsL_law_r24, w ∈ lw_tbl :=
  List.forall_mem_cons.mpr ⟨in_t4 (List.mem_of_getElem? (i := 225) rfl),
  List.forall_mem_cons.mpr ⟨in_t4 (List.mem_of_getElem? (i := 226) rfl),
  List.forall_mem_cons.mpr ⟨in_t4 (List.mem_of_getElem? (i := 227) rfl),
  List.forall_mem_cons.mpr ⟨in_t4 (List.mem_of_getElem? (i := 229) rfl),
  List.forall_mem_cons.mpr ⟨in_sl (List.mem_of_getElem? (i := 43) rfl),
  List.forall_mem_cons.mpr ⟨in_t4 (List.mem_of_getElem? (i := 230) rfl),
  List.forall_mem_cons.mpr ⟨in_t4 (List.mem_of_getElem? (i := 231) rfl),
  List.forall_mem_cons.mpr ⟨in_t4 (List.mem_of_getElem? (i := 233) rfl),
  List.forall_mem_cons.mpr ⟨in_sl (List.mem_of_getElem? (i := 44) rfl),
  List.forall_mem_cons.mpr ⟨in_t4 (List.mem_of_getElem? (i := 234) rfl),
  List.forall_mem_cons.mpr ⟨in_t3 (List.mem_of_getElem? (i := 24) rfl),
  List.forall_mem_cons.mpr ⟨in_t3 (List.mem_of_getElem? (i := 25) rfl),
  List.forall_mem_cons.mpr ⟨in_t3 (List.mem_of_getElem? (i := 26) rfl),
  List.forall_mem_cons.mpr ⟨in_t3 (List.mem_of_getElem? (i := 27) rfl),
  List.forall_mem_cons.mpr ⟨in_t3 (List.mem_of_getElem? (i := 28) rfl),
  List.forall_mem_cons.mpr ⟨in_t3 (List.mem_of_getElem? (i := 30) rfl),
  List.forall_mem_cons.mpr ⟨in_sl (List.mem_of_getElem? (i := 11) rfl),
  List.forall_mem_cons.mpr ⟨in_t3 (List.mem_of_getElem? (i := 31) rfl),
  List.forall_mem_cons.mpr ⟨in_t3 (List.mem_of_getElem? (i := 32) rfl),
  List.forall_mem_cons.mpr ⟨in_t3 (List.mem_of_getElem? (i := 34) rfl),
  List.forall_mem_cons.mpr ⟨in_sl (List.mem_of_getElem? (i := 12) rfl),
  List.forall_mem_cons.mpr ⟨in_t3 (List.mem_of_getElem? (i := 35) rfl),
  List.forall_mem_cons.mpr ⟨in_t3 (List.mem_of_getElem? (i := 36) rfl),
  List.forall_mem_cons.mpr ⟨in_t3 (List.mem_of_getElem? (i := 37) rfl),
  fun _ h => absurd h List.not_mem_nil⟩⟩⟩⟩⟩⟩⟩⟩⟩⟩⟩⟩⟩⟩⟩⟩⟩⟩⟩⟩⟩⟩⟩⟩
set_option maxRecDepth 20000 in
theorem inr25 : ∀ w ∈ wsL_law_r25, w ∈ lw_tbl :=
  List.forall_mem_cons.mpr ⟨in_t4 (List.mem_of_getElem? (i := 235) rfl),
  List.forall_mem_cons.mpr ⟨in_t4 (List.mem_of_getElem? (i := 236) rfl),
  List.forall_mem_cons.mpr ⟨in_t4 (List.mem_of_getElem? (i := 237) rfl),
  List.forall_mem_cons.mpr ⟨in_t4 (List.mem_of_getElem? (i := 238) rfl),
  List.forall_mem_cons.mpr ⟨in_t4 (List.mem_of_getElem? (i := 239) rfl),
  List.forall_mem_cons.mpr ⟨in_t5 (List.mem_of_getElem? (i := 1) rfl),
  List.forall_mem_cons.mpr ⟨in_sl (List.mem_of_getElem? (i := 45) rfl),
  List.forall_mem_cons.mpr ⟨in_t5 (List.mem_of_getElem? (i := 2) rfl),
  List.forall_mem_cons.mpr ⟨in_t3 (List.mem_of_getElem? (i := 38) rfl),
  List.forall_mem_cons.mpr ⟨in_t3 (List.mem_of_getElem? (i := 39) rfl),
  List.forall_mem_cons.mpr ⟨in_t3 (List.mem_of_getElem? (i := 40) rfl),
  List.forall_mem_cons.mpr ⟨in_t3 (List.mem_of_getElem? (i := 41) rfl),
  List.forall_mem_cons.mpr ⟨in_t1 (List.mem_of_getElem? (i := 167) rfl),
  List.forall_mem_cons.mpr ⟨in_t3 (List.mem_of_getElem? (i := 42) rfl),
  List.forall_mem_cons.mpr ⟨in_t3 (List.mem_of_getElem? (i := 43) rfl),
  List.forall_mem_cons.mpr ⟨in_t3 (List.mem_of_getElem? (i := 44) rfl),
  List.forall_mem_cons.mpr ⟨in_t3 (List.mem_of_getElem? (i := 45) rfl),
  List.forall_mem_cons.mpr ⟨in_t1 (List.mem_of_getElem? (i := 164) rfl),
  List.forall_mem_cons.mpr ⟨in_t1 (List.mem_of_getElem? (i := 166) rfl),
  List.forall_mem_cons.mpr ⟨in_t3 (List.mem_of_getElem? (i := 46) rfl),
  List.forall_mem_cons.mpr ⟨in_t3 (List.mem_of_getElem? (i := 47) rfl),
  List.forall_mem_cons.mpr ⟨in_t3 (List.mem_of_getElem? (i := 48) rfl),
  List.forall_mem_cons.mpr ⟨in_t3 (List.mem_of_getElem? (i := 49) rfl),
  List.forall_mem_cons.mpr ⟨in_t3 (List.mem_of_getElem? (i := 50) rfl),
  fun _ h => absurd h List.not_mem_nil⟩⟩⟩⟩⟩⟩⟩⟩⟩⟩⟩⟩⟩⟩⟩⟩⟩⟩⟩⟩⟩⟩⟩⟩
set_option maxRecDepth 20000 in
theorem inr26 : ∀ w ∈ wsL_law_r26, w ∈ lw_tbl :=
  List.forall_mem_cons.mpr ⟨in_t5 (List.mem_of_getElem? (i := 3) rfl),
  List.forall_mem_cons.mpr ⟨in_t5 (List.mem_of_getElem? (i := 4) rfl),
  List.forall_mem_cons.mpr ⟨in_t5 (List.mem_of_getElem? (i := 5) rfl),
  List.forall_mem_cons.mpr ⟨in_t5 (List.mem_of_getElem? (i := 6) rfl),
  List.forall_mem_cons.mpr ⟨in_t3 (List.mem_of_getElem? (i := 51) rfl),
  List.forall_mem_cons.mpr ⟨in_t3 (List.mem_of_getElem? (i := 52) rfl),
  List.forall_mem_cons.mpr ⟨in_t3 (List.mem_of_getElem? (i := 53) rfl),
  List.forall_mem_cons.mpr ⟨in_t3 (List.mem_of_getElem? (i := 54) rfl),
  List.forall_mem_cons.mpr ⟨in_t5 (List.mem_of_getElem? (i := 7) rfl),
  List.forall_mem_cons.mpr ⟨in_t5 (List.mem_of_getElem? (i := 8) rfl),
  List.forall_mem_cons.mpr ⟨in_t5 (List.mem_of_getElem? (i := 9) rfl),
  List.forall_mem_cons.mpr ⟨in_t5 (List.mem_of_getElem? (i := 10) rfl),
  List.forall_mem_cons.mpr ⟨in_t3 (List.mem_of_getElem? (i := 55) rfl),
  List.forall_mem_cons.mpr ⟨in_t3 (List.mem_of_getElem? (i := 56) rfl),
  List.forall_mem_cons.mpr ⟨in_t3 (List.mem_of_getElem? (i := 57) rfl),
  List.forall_mem_cons.mpr ⟨in_t3 (List.mem_of_getElem? (i := 58) rfl),
  List.forall_mem_cons.mpr ⟨in_t1 (List.mem_of_getElem? (i := 165) rfl),
  List.forall_mem_cons.mpr ⟨in_t3 (List.mem_of_getElem? (i := 59) rfl),
  List.forall_mem_cons.mpr ⟨in_t3 (List.mem_of_getElem? (i := 61) rfl),
  List.forall_mem_cons.mpr ⟨in_sl (List.mem_of_getElem? (i := 13) rfl),
  List.forall_mem_cons.mpr ⟨in_t3 (List.mem_of_getElem? (i := 62) rfl),
  List.forall_mem_cons.mpr ⟨in_t3 (List.mem_of_getElem? (i := 63) rfl),
  List.forall_mem_cons.mpr ⟨in_t3 (List.mem_of_getElem? (i := 64) rfl),
  List.forall_mem_cons.mpr ⟨in_t3 (List.mem_of_getElem? (i := 65) rfl),
  fun _ h => absurd h List.not_mem_nil⟩⟩⟩⟩⟩⟩⟩⟩⟩⟩⟩⟩⟩⟩⟩⟩⟩⟩⟩⟩⟩⟩⟩⟩
set_option maxRecDepth 20000 in
theorem inr27 : ∀ w ∈ wsL_law_r27, w ∈ lw_tbl :=
  List.forall_mem_cons.mpr ⟨in_t3 (List.mem_of_getElem? (i := 66) rfl),
  List.forall_mem_cons.mpr ⟨in_t3 (List.mem_of_getElem? (i := 68) rfl),
  List.forall_mem_cons.mpr ⟨in_sl (List.mem_of_getElem? (i := 14) rfl),
  List.forall_mem_cons.mpr ⟨in_t3 (List.mem_of_getElem? (i := 69) rfl),
  List.forall_mem_cons.mpr ⟨in_t3 (List.mem_of_getElem? (i := 70) rfl),
  List.forall_mem_cons.mpr ⟨in_t3 (List.mem_of_getElem? (i := 72) rfl),
  List.forall_mem_cons.mpr ⟨in_sl (List.mem_of_getElem? (i := 15) rfl),
  List.forall_mem_cons.mpr ⟨in_t3 (List.mem_of_getElem? (i := 73) rfl),
  List.forall_mem_cons.mpr ⟨in_t3 (List.mem_of_getElem? (i := 74) rfl),
  List.forall_mem_cons.mpr ⟨in_t3 (List.mem_of_getElem? (i := 75) rfl),
  List.forall_mem_cons.mpr ⟨in_t3 (List.mem_of_getElem? (i := 76) rfl),
  List.forall_mem_cons.mpr ⟨in_t3 (List.mem_of_getElem? (i := 77) rfl),
  List.forall_mem_cons.mpr ⟨in_t3 (List.mem_of_getElem? (i := 78) rfl),
  List.forall_mem_cons.mpr ⟨in_t3 (List.mem_of_getElem? (i := 80) rfl),
  List.forall_mem_cons.mpr ⟨in_sl (List.mem_of_getElem? (i := 16) rfl),
  List.forall_mem_cons.mpr ⟨in_t3 (List.mem_of_getElem? (i := 81) rfl),
  List.forall_mem_cons.mpr ⟨in_t5 (List.mem_of_getElem? (i := 11) rfl),
  List.forall_mem_cons.mpr ⟨in_t5 (List.mem_of_getElem? (i := 12) rfl),
  List.forall_mem_cons.mpr ⟨in_t5 (List.mem_of_getElem? (i := 13) rfl),
  List.forall_mem_cons.mpr ⟨in_t5 (List.mem_of_getElem? (i := 14) rfl),
  List.forall_mem_cons.mpr ⟨in_t5 (List.mem_of_getElem? (i := 15) rfl),
  List.forall_mem_cons.mpr ⟨in_t5 (List.mem_of_getElem? (i := 17) rfl),
  List.forall_mem_cons.mpr ⟨in_sl (List.mem_of_getElem? (i := 46) rfl),
  List.forall_mem_cons.mpr ⟨in_t5 (List.mem_of_getElem? (i := 18) rfl),
  fun _ h => absurd h List.not_mem_nil⟩⟩⟩⟩⟩⟩⟩⟩⟩⟩⟩⟩⟩⟩⟩⟩⟩⟩⟩⟩⟩⟩⟩⟩
set_option maxRecDepth 20000 in
theorem inr28 : ∀ w ∈ wsL_law_r28, w ∈ lw_tbl :=
  List.forall_mem_cons.mpr ⟨in_t5 (List.mem_of_getElem? (i := 19) rfl),
  List.forall_mem_cons.mpr ⟨in_t5 (List.mem_of_getElem? (i := 21) rfl),
  List.forall_mem_cons.mpr ⟨in_sl (List.mem_of_getElem? (i := 47) rfl),
  List.forall_mem_cons.mpr ⟨in_t5 (List.mem_of_getElem? (i := 22) rfl),
  List.forall_mem_cons.mpr ⟨in_t3 (List.mem_of_getElem? (i := 82) rfl),
  List.forall_mem_cons.mpr ⟨in_t3 (List.mem_of_getElem? (i := 83) rfl),
  List.forall_mem_cons.mpr ⟨in_t3 (List.mem_of_getElem? (i := 84) rfl),
  List.forall_mem_cons.mpr ⟨in_t3 (List.mem_of_getElem? (i := 85) rfl),
  List.forall_mem_cons.mpr ⟨in_t3 (List.mem_of_getElem? (i := 86) rfl),
  List.forall_mem_cons.mpr ⟨in_t3 (List.mem_of_getElem? (i := 87) rfl),
  List.forall_mem_cons.mpr ⟨in_t3 (List.mem_of_getElem? (i := 88) rfl),
  List.forall_mem_cons.mpr ⟨in_t3 (List.mem_of_getElem? (i := 89) rfl),
  List.forall_mem_cons.mpr ⟨in_t1 (List.mem_of_getElem? (i := 68) rfl),
  List.forall_mem_cons.mpr ⟨in_t3 (List.mem_of_getElem? (i := 90) rfl),
  List.forall_mem_cons.mpr ⟨in_t3 (List.mem_of_getElem? (i := 91) rfl),
  List.forall_mem_cons.mpr ⟨in_t3 (List.mem_of_getElem? (i := 92) rfl),
  List.forall_mem_cons.mpr ⟨in_t3 (List.mem_of_getElem? (i := 93) rfl),
  List.forall_mem_cons.mpr ⟨in_t5 (List.mem_of_getElem? (i := 23) rfl),
  List.forall_mem_cons.mpr ⟨in_t5 (List.mem_of_getElem? (i := 24) rfl),
  List.forall_mem_cons.mpr ⟨in_t5 (List.mem_of_getElem? (i := 25) rfl),
  List.forall_mem_cons.mpr ⟨in_t5 (List.mem_of_getElem? (i := 26) rfl),
  List.forall_mem_cons.mpr ⟨in_t5 (List.mem_of_getElem? (i := 27) rfl),
  List.forall_mem_cons.mpr ⟨in_t5 (List.mem_of_getElem? (i := 29) rfl),
  List.forall_mem_cons.mpr ⟨in_sl (List.mem_of_getElem? (i := 48) rfl),
  fun _ h => absurd h List.not_mem_nil⟩⟩⟩⟩⟩⟩⟩⟩⟩⟩⟩⟩⟩⟩⟩⟩⟩⟩⟩⟩⟩⟩⟩⟩
set_option maxRecDepth 20000 in
theorem inr29 : ∀ w ∈ wsL_law_r29, w ∈ lw_tbl :=
  List.forall_mem_cons.mpr ⟨in_t5 (List.mem_of_getElem? (i := 30) rfl),
  List.forall_mem_cons.mpr ⟨in_t3 (List.mem_of_getElem? (i := 95) rfl),
  List.forall_mem_cons.mpr ⟨in_t3 (List.mem_of_getElem? (i := 96) rfl),
  List.forall_mem_cons.mpr ⟨in_t3 (List.mem_of_getElem? (i := 97) rfl),
  List.forall_mem_cons.mpr ⟨in_t3 (List.mem_of_getElem? (i := 98) rfl),
  List.forall_mem_cons.mpr ⟨in_t3 (List.mem_of_getElem? (i := 99) rfl),
  List.forall_mem_cons.mpr ⟨in_t3 (List.mem_of_getElem? (i := 100) rfl),
  List.forall_mem_cons.mpr ⟨in_t3 (List.mem_of_getElem? (i := 101) rfl),
  List.forall_mem_cons.mpr ⟨in_t3 (List.mem_of_getElem? (i := 102) rfl),
  List.forall_mem_cons.mpr ⟨in_t3 (List.mem_of_getElem? (i := 103) rfl),
  List.forall_mem_cons.mpr ⟨in_t3 (List.mem_of_getElem? (i := 104) rfl),
  List.forall_mem_cons.mpr ⟨in_t3 (List.mem_of_getElem? (i := 105) rfl),
  List.forall_mem_cons.mpr ⟨in_t3 (List.mem_of_getElem? (i := 107) rfl),
  List.forall_mem_cons.mpr ⟨in_sl (List.mem_of_getElem? (i := 17) rfl),
  List.forall_mem_cons.mpr ⟨in_t3 (List.mem_of_getElem? (i := 108) rfl),
  List.forall_mem_cons.mpr ⟨in_t3 (List.mem_of_getElem? (i := 109) rfl),
  List.forall_mem_cons.mpr ⟨in_t3 (List.mem_of_getElem? (i := 111) rfl),
  List.forall_mem_cons.mpr ⟨in_sl (List.mem_of_getElem? (i := 18) rfl),
  List.forall_mem_cons.mpr ⟨in_t3 (List.mem_of_getElem? (i := 112) rfl),
  List.forall_mem_cons.mpr ⟨in_t3 (List.mem_of_getElem? (i := 113) rfl),
  List.forall_mem_cons.mpr ⟨in_t3 (List.mem_of_getElem? (i := 115) rfl),
  List.forall_mem_cons.mpr ⟨in_sl (List.mem_of_getElem? (i := 19) rfl),
  List.forall_mem_cons.mpr ⟨in_t3 (List.mem_of_getElem? (i := 116) rfl),
  List.forall_mem_cons.mpr ⟨in_t5 (List.mem_of_getElem? (i := 31) rfl),
  fun _ h => absurd h List.not_mem_nil⟩⟩⟩⟩⟩⟩⟩⟩⟩⟩⟩⟩⟩⟩⟩⟩⟩⟩⟩⟩⟩⟩⟩⟩
set_option maxRecDepth 20000 in
theorem inr30 : ∀ w ∈ wsL_law_r30, w ∈ lw_tbl :=
  List.forall_mem_cons.mpr ⟨in_t5 (List.mem_of_getElem? (i := 32) rfl),
  List.forall_mem_cons.mpr ⟨in_t5 (List.mem_of_getElem? (i := 33) rfl),
  List.forall_mem_cons.mpr ⟨in_t5 (List.mem_of_getElem? (i := 34) rfl),
  List.forall_mem_cons.mpr ⟨in_t5 (List.mem_of_getElem? (i := 35) rfl),
  List.forall_mem_cons.mpr ⟨in_t5 (List.mem_of_getElem? (i := 44) rfl),
  List.forall_mem_cons.mpr ⟨in_t5 (List.mem_of_getElem? (i := 36) rfl),
  List.forall_mem_cons.mpr ⟨in_t5 (List.mem_of_getElem? (i := 37) rfl),
  List.forall_mem_cons.mpr ⟨in_t5 (List.mem_of_getElem? (i := 38) rfl),
  List.forall_mem_cons.mpr ⟨in_t5 (List.mem_of_getElem? (i := 39) rfl),
  List.forall_mem_cons.mpr ⟨in_t5 (List.mem_of_getElem? (i := 40) rfl),
  List.forall_mem_cons.mpr ⟨in_t5 (List.mem_of_getElem? (i := 42) rfl),
  List.forall_mem_cons.mpr ⟨in_sl (List.mem_of_getElem? (i := 49) rfl),
  List.forall_mem_cons.mpr ⟨in_t5 (List.mem_of_getElem? (i := 43) rfl),
  List.forall_mem_cons.mpr ⟨in_t5 (List.mem_of_getElem? (i := 45) rfl),
  List.forall_mem_cons.mpr ⟨in_t5 (List.mem_of_getElem? (i := 47) rfl),
  List.forall_mem_cons.mpr ⟨in_sl (List.mem_of_getElem? (i := 50) rfl),
  List.forall_mem_cons.mpr ⟨in_t5 (List.mem_of_getElem? (i := 48) rfl),
  List.forall_mem_cons.mpr ⟨in_t3 (List.mem_of_getElem? (i := 117) rfl),
  List.forall_mem_cons.mpr ⟨in_t3 (List.mem_of_getElem? (i := 118) rfl),
  List.forall_mem_cons.mpr ⟨in_t3 (List.mem_of_getElem? (i := 119) rfl),
  List.forall_mem_cons.mpr ⟨in_t3 (List.mem_of_getElem? (i := 120) rfl),
  List.forall_mem_cons.mpr ⟨in_t3 (List.mem_of_getElem? (i := 121) rfl),
  List.forall_mem_cons.mpr ⟨in_t3 (List.mem_of_getElem? (i := 122) rfl),
  List.forall_mem_cons.mpr ⟨in_t3 (List.mem_of_getElem? (i := 123) rfl),
  fun _ h => absurd h List.not_mem_nil⟩⟩⟩⟩⟩⟩⟩⟩⟩⟩⟩⟩⟩⟩⟩⟩⟩⟩⟩⟩⟩⟩⟩⟩
set_option maxRecDepth 20000 in
theorem inr31 : ∀ w ∈ wsL_law_r31, w ∈ lw_tbl :=
  List.forall_mem_cons.mpr ⟨in_t3 (List.mem_of_getElem? (i := 124) rfl),
  List.forall_mem_cons.mpr ⟨in_t1 (List.mem_of_getElem? (i := 145) rfl),
  List.forall_mem_cons.mpr ⟨in_t5 (List.mem_of_getElem? (i := 49) rfl),
  List.forall_mem_cons.mpr ⟨in_t5 (List.mem_of_getElem? (i := 50) rfl),
  List.forall_mem_cons.mpr ⟨in_t5 (List.mem_of_getElem? (i := 51) rfl),
  List.forall_mem_cons.mpr ⟨in_t5 (List.mem_of_getElem? (i := 52) rfl),
  List.forall_mem_cons.mpr ⟨in_t4 (List.mem_of_getElem? (i := 14) rfl),
  List.forall_mem_cons.mpr ⟨in_t3 (List.mem_of_getElem? (i := 126) rfl),
  List.forall_mem_cons.mpr ⟨in_t3 (List.mem_of_getElem? (i := 127) rfl),
  List.forall_mem_cons.mpr ⟨in_t3 (List.mem_of_getElem? (i := 128) rfl),
  List.forall_mem_cons.mpr ⟨in_t3 (List.mem_of_getElem? (i := 129) rfl),
  List.forall_mem_cons.mpr ⟨in_t1 (List.mem_of_getElem? (i := 146) rfl),
  List.forall_mem_cons.mpr ⟨in_t5 (List.mem_of_getElem? (i := 53) rfl),
  List.forall_mem_cons.mpr ⟨in_t5 (List.mem_of_getElem? (i := 54) rfl),
  List.forall_mem_cons.mpr ⟨in_t5 (List.mem_of_getElem? (i := 55) rfl),
  List.forall_mem_cons.mpr ⟨in_t5 (List.mem_of_getElem? (i := 56) rfl),
  List.forall_mem_cons.mpr ⟨in_t3 (List.mem_of_getElem? (i := 130) rfl),
  List.forall_mem_cons.mpr ⟨in_t3 (List.mem_of_getElem? (i := 131) rfl),
  List.forall_mem_cons.mpr ⟨in_t3 (List.mem_of_getElem? (i := 132) rfl),
  List.forall_mem_cons.mpr ⟨in_t3 (List.mem_of_getElem? (i := 133) rfl),
  List.forall_mem_cons.mpr ⟨in_t3 (List.mem_of_getElem? (i := 134) rfl),
  List.forall_mem_cons.mpr ⟨in_t3 (List.mem_of_getElem? (i := 136) rfl),
  List.forall_mem_cons.mpr ⟨in_sl (List.mem_of_getElem? (i := 20) rfl),
  List.forall_mem_cons.mpr ⟨in_t3 (List.mem_of_getElem? (i := 137) rfl),
  fun _ h => absurd h List.not_mem_nil⟩⟩⟩⟩⟩⟩⟩⟩⟩⟩⟩⟩⟩⟩⟩⟩⟩⟩⟩⟩⟩⟩⟩⟩
set_option maxRecDepth 20000 in
theorem inr32 : ∀ w ∈ wsL_law_r32, w ∈ lw_tbl :=
  List.forall_mem_cons.mpr ⟨in_t1 (List.mem_of_getElem? (i := 138) rfl),
  List.forall_mem_cons.mpr ⟨in_t1 (List.mem_of_getElem? (i := 142) rfl),
  List.forall_mem_cons.mpr ⟨in_t1 (List.mem_of_getElem? (i := 140) rfl),
  List.forall_mem_cons.mpr ⟨in_t1 (List.mem_of_getElem? (i := 144) rfl),
  List.forall_mem_cons.mpr ⟨in_t5 (List.mem_of_getElem? (i := 57) rfl),
  List.forall_mem_cons.mpr ⟨in_t5 (List.mem_of_getElem? (i := 58) rfl),
  List.forall_mem_cons.mpr ⟨in_t5 (List.mem_of_getElem? (i := 59) rfl),
  List.forall_mem_cons.mpr ⟨in_t5 (List.mem_of_getElem? (i := 60) rfl),
  List.forall_mem_cons.mpr ⟨in_t5 (List.mem_of_getElem? (i := 61) rfl),
  List.forall_mem_cons.mpr ⟨in_t5 (List.mem_of_getElem? (i := 62) rfl),
  List.forall_mem_cons.mpr ⟨in_t5 (List.mem_of_getElem? (i := 64) rfl),
  List.forall_mem_cons.mpr ⟨in_sl (List.mem_of_getElem? (i := 51) rfl),
  List.forall_mem_cons.mpr ⟨in_t5 (List.mem_of_getElem? (i := 65) rfl),
  List.forall_mem_cons.mpr ⟨in_t3 (List.mem_of_getElem? (i := 138) rfl),
  List.forall_mem_cons.mpr ⟨in_t3 (List.mem_of_getElem? (i := 139) rfl),
  List.forall_mem_cons.mpr ⟨in_t3 (List.mem_of_getElem? (i := 140) rfl),
  List.forall_mem_cons.mpr ⟨in_t3 (List.mem_of_getElem? (i := 141) rfl),
  List.forall_mem_cons.mpr ⟨in_t3 (List.mem_of_getElem? (i := 142) rfl),
  List.forall_mem_cons.mpr ⟨in_t3 (List.mem_of_getElem? (i := 143) rfl),
  List.forall_mem_cons.mpr ⟨in_t3 (List.mem_of_getElem? (i := 144) rfl),
  List.forall_mem_cons.mpr ⟨in_t3 (List.mem_of_getElem? (i := 145) rfl),
  List.forall_mem_cons.mpr ⟨in_t3 (List.mem_of_getElem? (i := 146) rfl),
  List.forall_mem_cons.mpr ⟨in_t3 (List.mem_of_getElem? (i := 147) (by decide +kernel)),
  List.forall_mem_cons.mpr ⟨in_t3 (List.mem_of_getElem? (i := 148) rfl),
  fun _ h => absurd h List.not_mem_nil⟩⟩⟩⟩⟩⟩⟩⟩⟩⟩⟩⟩⟩⟩⟩⟩⟩⟩⟩⟩⟩⟩⟩⟩
set_option maxRecDepth 20000 in
theorem inr33 : ∀ w ∈ wsL_law_r33, w ∈ lw_tbl :=
  List.forall_mem_cons.mpr ⟨in_t3 (List.mem_of_getElem? (i := 149) rfl),
  List.forall_mem_cons.mpr ⟨in_t3 (List.mem_of_getElem? (i := 150) rfl),
  List.forall_mem_cons.mpr ⟨in_t3 (List.mem_of_getElem? (i := 151) rfl),
  List.forall_mem_cons.mpr ⟨in_t3 (List.mem_of_getElem? (i := 152) rfl),
  List.forall_mem_cons.mpr ⟨in_t3 (List.mem_of_getElem? (i := 153) rfl),
  List.forall_mem_cons.mpr ⟨in_t5 (List.mem_of_getElem? (i := 66) rfl),
  List.forall_mem_cons.mpr ⟨in_t5 (List.mem_of_getElem? (i := 67) rfl),
  List.forall_mem_cons.mpr ⟨in_t5 (List.mem_of_getElem? (i := 68) rfl),
  List.forall_mem_cons.mpr ⟨in_t5 (List.mem_of_getElem? (i := 69) rfl),
  List.forall_mem_cons.mpr ⟨in_t5 (List.mem_of_getElem? (i := 70) rfl),
  List.forall_mem_cons.mpr ⟨in_t5 (List.mem_of_getElem? (i := 71) rfl),
  List.forall_mem_cons.mpr ⟨in_t5 (List.mem_of_getElem? (i := 72) rfl),
  List.forall_mem_cons.mpr ⟨in_t5 (List.mem_of_getElem? (i := 73) rfl),
  List.forall_mem_cons.mpr ⟨in_t5 (List.mem_of_getElem? (i := 75) rfl),
  List.forall_mem_cons.mpr ⟨in_sl (List.mem_of_getElem? (i := 52) rfl),
  List.forall_mem_cons.mpr ⟨in_t5 (List.mem_of_getElem? (i := 76) rfl),
  List.forall_mem_cons.mpr ⟨in_t5 (List.mem_of_getElem? (i := 77) rfl),
  List.forall_mem_cons.mpr ⟨in_t5 (List.mem_of_getElem? (i := 78) rfl),
  List.forall_mem_cons.mpr ⟨in_t5 (List.mem_of_getElem? (i := 79) rfl),
  List.forall_mem_cons.mpr ⟨in_t3 (List.mem_of_getElem? (i := 154) rfl),
  List.forall_mem_cons.mpr ⟨in_t3 (List.mem_of_getElem? (i := 155) rfl),
  List.forall_mem_cons.mpr ⟨in_t3 (List.mem_of_getElem? (i := 156) rfl),
  List.forall_mem_cons.mpr ⟨in_t3 (List.mem_of_getElem? (i := 157) rfl),
  List.forall_mem_cons.mpr ⟨in_t3 (List.mem_of_getElem? (i := 158) rfl),
  fun _ h => absurd h List.not_mem_nil⟩⟩⟩⟩⟩⟩⟩⟩⟩⟩⟩⟩⟩⟩⟩⟩⟩⟩⟩⟩⟩⟩⟩⟩
set_option maxRecDepth 20000 in
theorem inr34 : ∀ w ∈ wsL_law_r34, w ∈ lw_tbl :=
  List.forall_mem_cons.mpr ⟨in_t3 (List.mem_of_getElem? (i := 160) rfl),
  List.forall_mem_cons.mpr ⟨in_sl (List.mem_of_getElem? (i := 21) rfl),
  List.forall_mem_cons.mpr ⟨in_t3 (List.mem_of_getElem? (i := 161) rfl),
  List.forall_mem_cons.mpr ⟨in_t3 (List.mem_of_getElem? (i := 162) rfl),
  List.forall_mem_cons.mpr ⟨in_t3 (List.mem_of_getElem? (i := 164) rfl),
  List.forall_mem_cons.mpr ⟨in_sl (List.mem_of_getElem? (i := 22) rfl),
  List.forall_mem_cons.mpr ⟨in_t3 (List.mem_of_getElem? (i := 165) rfl),
  List.forall_mem_cons.mpr ⟨in_t3 (List.mem_of_getElem? (i := 166) rfl),
  List.forall_mem_cons.mpr ⟨in_t3 (List.mem_of_getElem? (i := 168) rfl),
  List.forall_mem_cons.mpr ⟨in_sl (List.mem_of_getElem? (i := 23) rfl),
  List.forall_mem_cons.mpr ⟨in_t3 (List.mem_of_getElem? (i := 169) rfl),
  List.forall_mem_cons.mpr ⟨in_t3 (List.mem_of_getElem? (i := 170) rfl),
  List.forall_mem_cons.mpr ⟨in_t3 (List.mem_of_getElem? (i := 171) rfl),
  List.forall_mem_cons.mpr ⟨in_t3 (List.mem_of_getElem? (i := 172) rfl),
  List.forall_mem_cons.mpr ⟨in_t5 (List.mem_of_getElem? (i := 80) rfl),
  List.forall_mem_cons.mpr ⟨in_t5 (List.mem_of_getElem? (i := 81) rfl),
  List.forall_mem_cons.mpr ⟨in_t5 (List.mem_of_getElem? (i := 82) rfl),
  List.forall_mem_cons.mpr ⟨in_t5 (List.mem_of_getElem? (i := 83) rfl),
  List.forall_mem_cons.mpr ⟨in_t5 (List.mem_of_getElem? (i := 84) rfl),
  List.forall_mem_cons.mpr ⟨in_t5 (List.mem_of_getElem? (i := 86) rfl),
  List.forall_mem_cons.mpr ⟨in_sl (List.mem_of_getElem? (i := 53) rfl),
  List.forall_mem_cons.mpr ⟨in_t5 (List.mem_of_getElem? (i := 87) rfl),
  List.forall_mem_cons.mpr ⟨in_t5 (List.mem_of_getElem? (i := 88) rfl),
  List.forall_mem_cons.mpr ⟨in_t5 (List.mem_of_getElem? (i := 90) rfl),
  fun _ h => absurd h List.not_mem_nil⟩⟩⟩⟩⟩⟩⟩⟩⟩⟩⟩⟩⟩⟩⟩⟩⟩⟩⟩⟩⟩⟩⟩⟩
set_option maxRecDepth 20000 in
theorem inr35 : ∀ w ∈ wsL_law_r35, w ∈ lw_tbl :=
  List.forall_mem_cons.mpr ⟨in_sl (List.mem_of_getElem? (i := 54) rfl),
  List.forall_mem_cons.mpr ⟨in_t5 (List.mem_of_getElem? (i := 91) rfl),
  List.forall_mem_cons.mpr ⟨in_t5 (List.mem_of_getElem? (i := 92) rfl),
  List.forall_mem_cons.mpr ⟨in_t5 (List.mem_of_getElem? (i := 94) rfl),
  List.forall_mem_cons.mpr ⟨in_sl (List.mem_of_getElem? (i := 55) rfl),
  List.forall_mem_cons.mpr ⟨in_t5 (List.mem_of_getElem? (i := 95) rfl),
  List.forall_mem_cons.mpr ⟨in_t3 (List.mem_of_getElem? (i := 173) rfl),
  List.forall_mem_cons.mpr ⟨in_t3 (List.mem_of_getElem? (i := 174) rfl),
  List.forall_mem_cons.mpr ⟨in_t3 (List.mem_of_getElem? (i := 175) rfl),
  List.forall_mem_cons.mpr ⟨in_t3 (List.mem_of_getElem? (i := 176) rfl),
  List.forall_mem_cons.mpr ⟨in_t3 (List.mem_of_getElem? (i := 177) rfl),
  List.forall_mem_cons.mpr ⟨in_t3 (List.mem_of_getElem? (i := 178) rfl),
  List.forall_mem_cons.mpr ⟨in_t3 (List.mem_of_getElem? (i := 180) rfl),
  List.forall_mem_cons.mpr ⟨in_sl (List.mem_of_getElem? (i := 24) rfl),
  List.forall_mem_cons.mpr ⟨in_t3 (List.mem_of_getElem? (i := 181) rfl),
  List.forall_mem_cons.mpr ⟨in_t3 (List.mem_of_getElem? (i := 182) rfl),
  List.forall_mem_cons.mpr ⟨in_t3 (List.mem_of_getElem? (i := 183) rfl),
  List.forall_mem_cons.mpr ⟨in_t3 (List.mem_of_getElem? (i := 184) rfl),
  List.forall_mem_cons.mpr ⟨in_t5 (List.mem_of_getElem? (i := 96) rfl),
  List.forall_mem_cons.mpr ⟨in_t5 (List.mem_of_getElem? (i := 97) rfl),
  List.forall_mem_cons.mpr ⟨in_t5 (List.mem_of_getElem? (i := 98) rfl),
  List.forall_mem_cons.mpr ⟨in_t5 (List.mem_of_getElem? (i := 99) rfl),
  List.forall_mem_cons.mpr ⟨in_t5 (List.mem_of_getElem? (i := 100) rfl),
  List.forall_mem_cons.mpr ⟨in_t3 (List.mem_of_getElem? (i := 185) rfl),
  fun _ h => absurd h List.not_mem_nil⟩⟩⟩⟩⟩⟩⟩⟩⟩⟩⟩⟩⟩⟩⟩⟩⟩⟩⟩⟩⟩⟩⟩⟩
set_option maxRecDepth 20000 in
theorem inr36 : ∀ w ∈ wsL_law_r36, w ∈ lw_tbl :=
  List.forall_mem_cons.mpr ⟨in_t3 (List.mem_of_getElem? (i := 186) rfl),
  List.forall_mem_cons.mpr ⟨in_t3 (List.mem_of_getElem? (i := 187) rfl),
  List.forall_mem_cons.mpr ⟨in_t3 (List.mem_of_getElem? (i := 188) rfl),
  List.forall_mem_cons.mpr ⟨in_t1 (List.mem_of_getElem? (i := 187) rfl),
  List.forall_mem_cons.mpr ⟨in_t5 (List.mem_of_getElem? (i := 101) rfl),
  List.forall_mem_cons.mpr ⟨in_t5 (List.mem_of_getElem? (i := 102) rfl),
  List.forall_mem_cons.mpr ⟨in_t5 (List.mem_of_getElem? (i := 103) rfl),
  List.forall_mem_cons.mpr ⟨in_t5 (List.mem_of_getElem? (i := 104) rfl),
  List.forall_mem_cons.mpr ⟨in_t4 (List.mem_of_getElem? (i := 21) rfl),
  List.forall_mem_cons.mpr ⟨in_t3 (List.mem_of_getElem? (i := 189) rfl),
  List.forall_mem_cons.mpr ⟨in_t3 (List.mem_of_getElem? (i := 190) rfl),
  List.forall_mem_cons.mpr ⟨in_t3 (List.mem_of_getElem? (i := 191) rfl),
  List.forall_mem_cons.mpr ⟨in_t3 (List.mem_of_getElem? (i := 192) rfl),
  List.forall_mem_cons.mpr ⟨in_t3 (List.mem_of_getElem? (i := 193) rfl),
  List.forall_mem_cons.mpr ⟨in_t3 (List.mem_of_getElem? (i := 194) rfl),
  List.forall_mem_cons.mpr ⟨in_t3 (List.mem_of_getElem? (i := 195) rfl),
  List.forall_mem_cons.mpr ⟨in_t3 (List.mem_of_getElem? (i := 196) rfl),
  List.forall_mem_cons.mpr ⟨in_t3 (List.mem_of_getElem? (i := 197) rfl),
  List.forall_mem_cons.mpr ⟨in_t3 (List.mem_of_getElem? (i := 198) rfl),
  List.forall_mem_cons.mpr ⟨in_t3 (List.mem_of_getElem? (i := 199) rfl),
  List.forall_mem_cons.mpr ⟨in_t5 (List.mem_of_getElem? (i := 105) rfl),
  List.forall_mem_cons.mpr ⟨in_t5 (List.mem_of_getElem? (i := 106) rfl),
  List.forall_mem_cons.mpr ⟨in_t5 (List.mem_of_getElem? (i := 107) rfl),
  List.forall_mem_cons.mpr ⟨in_t5 (List.mem_of_getElem? (i := 108) rfl),
  fun _ h => absurd h List.not_mem_nil⟩⟩⟩⟩⟩⟩⟩⟩⟩⟩⟩⟩⟩⟩⟩⟩⟩⟩⟩⟩⟩⟩⟩⟩
set_option maxRecDepth 20000 in
theorem inr37 : ∀ w ∈ wsL_law_r37, w ∈ lw_tbl :=
  List.forall_mem_cons.mpr ⟨in_t5 (List.mem_of_getElem? (i := 109) rfl),
  List.forall_mem_cons.mpr ⟨in_t5 (List.mem_of_getElem? (i := 110) rfl),
  List.forall_mem_cons.mpr ⟨in_t5 (List.mem_of_getElem? (i := 111) rfl),
  List.forall_mem_cons.mpr ⟨in_t5 (List.mem_of_getElem? (i := 112) rfl),
  List.forall_mem_cons.mpr ⟨in_t5 (List.mem_of_getElem? (i := 114) rfl),
  List.forall_mem_cons.mpr ⟨in_sl (List.mem_of_getElem? (i := 56) rfl),
  List.forall_mem_cons.mpr ⟨in_t5 (List.mem_of_getElem? (i := 115) rfl),
  List.forall_mem_cons.mpr ⟨in_t3 (List.mem_of_getElem? (i := 200) rfl),
  List.forall_mem_cons.mpr ⟨in_t3 (List.mem_of_getElem? (i := 201) rfl),
  List.forall_mem_cons.mpr ⟨in_t3 (List.mem_of_getElem? (i := 202) rfl),
  List.forall_mem_cons.mpr ⟨in_t3 (List.mem_of_getElem? (i := 203) rfl),
  List.forall_mem_cons.mpr ⟨in_t3 (List.mem_of_getElem? (i := 204) rfl),
  List.forall_mem_cons.mpr ⟨in_t3 (List.mem_of_getElem? (i := 206) rfl),
  List.forall_mem_cons.mpr ⟨in_sl (List.mem_of_getElem? (i := 25) rfl),
  List.forall_mem_cons.mpr ⟨in_t3 (List.mem_of_getElem? (i := 207) rfl),
  List.forall_mem_cons.mpr ⟨in_t3 (List.mem_of_getElem? (i := 208) rfl),
  List.forall_mem_cons.mpr ⟨in_t5 (List.mem_of_getElem? (i := 116) rfl),
  List.forall_mem_cons.mpr ⟨in_t5 (List.mem_of_getElem? (i := 117) rfl),
  List.forall_mem_cons.mpr ⟨in_t5 (List.mem_of_getElem? (i := 118) rfl),
  List.forall_mem_cons.mpr ⟨in_t5 (List.mem_of_getElem? (i := 119) rfl),
  List.forall_mem_cons.mpr ⟨in_t3 (List.mem_of_getElem? (i := 209) rfl),
  List.forall_mem_cons.mpr ⟨in_t3 (List.mem_of_getElem? (i := 210) rfl),
  List.forall_mem_cons.mpr ⟨in_t3 (List.mem_of_getElem? (i := 211) rfl),
  List.forall_mem_cons.mpr ⟨in_t3 (List.mem_of_getElem? (i := 212) rfl),
  fun _ h => absurd h List.not_mem_nil⟩⟩⟩⟩⟩⟩⟩⟩⟩⟩⟩⟩⟩⟩⟩⟩⟩⟩⟩⟩⟩⟩⟩⟩
set_option maxRecDepth 20000 in
theorem inr38 : ∀ w ∈ wsL_law_r38, w ∈ lw_tbl :=
  List.forall_mem_cons.mpr ⟨in_t5 (List.mem_of_getElem? (i := 120) rfl),
  List.forall_mem_cons.mpr ⟨in_t5 (List.mem_of_getElem? (i := 121) rfl),
  List.forall_mem_cons.mpr ⟨in_t5 (List.mem_of_getElem? (i := 122) rfl),
  List.forall_mem_cons.mpr ⟨in_t5 (List.mem_of_getElem? (i := 123) rfl),
  List.forall_mem_cons.mpr ⟨in_t3 (List.mem_of_getElem? (i := 213) rfl),
  List.forall_mem_cons.mpr ⟨in_t3 (List.mem_of_getElem? (i := 214) rfl),
  List.forall_mem_cons.mpr ⟨in_t3 (List.mem_of_getElem? (i := 215) rfl),
  List.forall_mem_cons.mpr ⟨in_t3 (List.mem_of_getElem? (i := 216) rfl),
  List.forall_mem_cons.mpr ⟨in_t3 (List.mem_of_getElem? (i := 217) rfl),
  List.forall_mem_cons.mpr ⟨in_t3 (List.mem_of_getElem? (i := 218) rfl),
  List.forall_mem_cons.mpr ⟨in_t3 (List.mem_of_getElem? (i := 219) rfl),
  List.forall_mem_cons.mpr ⟨in_t3 (List.mem_of_getElem? (i := 220) rfl),
  List.forall_mem_cons.mpr ⟨in_t3 (List.mem_of_getElem? (i := 221) rfl),
  List.forall_mem_cons.mpr ⟨in_t3 (List.mem_of_getElem? (i := 222) rfl),
  List.forall_mem_cons.mpr ⟨in_t3 (List.mem_of_getElem? (i := 223) rfl),
  List.forall_mem_cons.mpr ⟨in_t3 (List.mem_of_getElem? (i := 224) rfl),
  List.forall_mem_cons.mpr ⟨in_t5 (List.mem_of_getElem? (i := 124) rfl),
  List.forall_mem_cons.mpr ⟨in_t5 (List.mem_of_getElem? (i := 125) rfl),
  List.forall_mem_cons.mpr ⟨in_t5 (List.mem_of_getElem? (i := 126) rfl),
  List.forall_mem_cons.mpr ⟨in_t5 (List.mem_of_getElem? (i := 127) rfl),
  fun _ h => absurd h List.not_mem_nil⟩⟩⟩⟩⟩⟩⟩⟩⟩⟩⟩⟩⟩⟩⟩⟩⟩⟩⟩⟩
set_option maxRecDepth 20000 in
theorem inX0 : ∀ w ∈ wsX00, w ∈ lw_tbl := by
  show ∀ w ∈ [u_lay RX0 TX0 0, u_lay RX0 TX0 1, u_lay RX0 TX0 2], w ∈ lw_tbl
  exact
    List.forall_mem_cons.mpr ⟨in_t1 (List.mem_of_getElem? (i := 124) rfl),
    List.forall_mem_cons.mpr ⟨in_t1 (List.mem_of_getElem? (i := 126) rfl),
    List.forall_mem_cons.mpr ⟨in_t1 (List.mem_of_getElem? (i := 128) rfl),
    fun _ h => absurd h List.not_mem_nil⟩⟩⟩
set_option maxRecDepth 20000 in
theorem inX1 : ∀ w ∈ wsX10, w ∈ lw_tbl := by
  show ∀ w ∈ [u_lay RX1 TX1 0, u_lay RX1 TX1 1], w ∈ lw_tbl
  exact
    List.forall_mem_cons.mpr ⟨in_t1 (List.mem_of_getElem? (i := 168) rfl),
    List.forall_mem_cons.mpr ⟨in_t1 (List.mem_of_getElem? (i := 170) rfl),
    fun _ h => absurd h List.not_mem_nil⟩⟩
set_option maxRecDepth 20000 in
theorem inX2 : ∀ w ∈ wsX20, w ∈ lw_tbl := by
  show ∀ w ∈ [u_lay RX2 TX2 0, u_lay RX2 TX2 1, u_lay RX2 TX2 2, u_lay RX2 TX2 3, u_lay RX2 TX2 4], w ∈ lw_tbl
  exact
    List.forall_mem_cons.mpr ⟨in_t1 (List.mem_of_getElem? (i := 147) rfl),
    List.forall_mem_cons.mpr ⟨in_t1 (List.mem_of_getElem? (i := 149) rfl),
    List.forall_mem_cons.mpr ⟨in_t1 (List.mem_of_getElem? (i := 151) rfl),
    List.forall_mem_cons.mpr ⟨in_t1 (List.mem_of_getElem? (i := 153) rfl),
    List.forall_mem_cons.mpr ⟨in_t1 (List.mem_of_getElem? (i := 155) rfl),
    fun _ h => absurd h List.not_mem_nil⟩⟩⟩⟩⟩
set_option maxRecDepth 20000 in
theorem inX3 : ∀ w ∈ wsX30, w ∈ lw_tbl := by
  show ∀ w ∈ [u_lay RX3 TX3 0, u_lay RX3 TX3 1, u_lay RX3 TX3 2, u_lay RX3 TX3 3, u_lay RX3 TX3 4, u_lay RX3 TX3 5], w ∈ lw_tbl
  exact
    List.forall_mem_cons.mpr ⟨in_t1 (List.mem_of_getElem? (i := 33) rfl),
    List.forall_mem_cons.mpr ⟨in_t1 (List.mem_of_getElem? (i := 35) rfl),
    List.forall_mem_cons.mpr ⟨in_t1 (List.mem_of_getElem? (i := 37) rfl),
    List.forall_mem_cons.mpr ⟨in_t1 (List.mem_of_getElem? (i := 39) rfl),
    List.forall_mem_cons.mpr ⟨in_t1 (List.mem_of_getElem? (i := 41) rfl),
    List.forall_mem_cons.mpr ⟨in_t1 (List.mem_of_getElem? (i := 43) rfl),
    fun _ h => absurd h List.not_mem_nil⟩⟩⟩⟩⟩⟩
set_option maxRecDepth 20000 in
theorem inX4 : ∀ w ∈ wsX40, w ∈ lw_tbl := by
  show ∀ w ∈ [u_lay RX4 TX4 0, u_lay RX4 TX4 1, u_lay RX4 TX4 2, u_lay RX4 TX4 3], w ∈ lw_tbl
  exact
    List.forall_mem_cons.mpr ⟨in_t1 (List.mem_of_getElem? (i := 102) rfl),
    List.forall_mem_cons.mpr ⟨in_t1 (List.mem_of_getElem? (i := 104) rfl),
    List.forall_mem_cons.mpr ⟨in_t1 (List.mem_of_getElem? (i := 106) rfl),
    List.forall_mem_cons.mpr ⟨in_t1 (List.mem_of_getElem? (i := 108) rfl),
    fun _ h => absurd h List.not_mem_nil⟩⟩⟩⟩
set_option maxRecDepth 20000 in
theorem inX5 : ∀ w ∈ wsX50, w ∈ lw_tbl := by
  show ∀ w ∈ [u_lay RX5 TX5 0, u_lay RX5 TX5 1, u_lay RX5 TX5 2, u_lay RX5 TX5 3, u_lay RX5 TX5 4, u_lay RX5 TX5 5, u_lay RX5 TX5 6, u_lay RX5 TX5 7], w ∈ lw_tbl
  exact
    List.forall_mem_cons.mpr ⟨in_t1 (List.mem_of_getElem? (i := 73) rfl),
    List.forall_mem_cons.mpr ⟨in_t1 (List.mem_of_getElem? (i := 75) rfl),
    List.forall_mem_cons.mpr ⟨in_t1 (List.mem_of_getElem? (i := 77) rfl),
    List.forall_mem_cons.mpr ⟨in_t1 (List.mem_of_getElem? (i := 79) rfl),
    List.forall_mem_cons.mpr ⟨in_t1 (List.mem_of_getElem? (i := 81) rfl),
    List.forall_mem_cons.mpr ⟨in_t1 (List.mem_of_getElem? (i := 83) rfl),
    List.forall_mem_cons.mpr ⟨in_t1 (List.mem_of_getElem? (i := 85) rfl),
    List.forall_mem_cons.mpr ⟨in_t1 (List.mem_of_getElem? (i := 87) rfl),
    fun _ h => absurd h List.not_mem_nil⟩⟩⟩⟩⟩⟩⟩⟩
set_option maxRecDepth 20000 in
theorem inX6 : ∀ w ∈ wsX60, w ∈ lw_tbl := by
  show ∀ w ∈ [u_lay RX6 TX6 0, u_lay RX6 TX6 1, u_lay RX6 TX6 2, u_lay RX6 TX6 3, u_lay RX6 TX6 4, u_lay RX6 TX6 5, u_lay RX6 TX6 6, u_lay RX6 TX6 7, u_lay RX6 TX6 8, u_lay RX6 TX6 9, u_lay RX6 TX6 10, u_lay RX6 TX6 11, u_lay RX6 TX6 12, u_lay RX6 TX6 13, u_lay RX6 TX6 14], w ∈ lw_tbl
  exact
    List.forall_mem_cons.mpr ⟨in_t1 (List.mem_of_getElem? (i := 188) rfl),
    List.forall_mem_cons.mpr ⟨in_t1 (List.mem_of_getElem? (i := 190) rfl),
    List.forall_mem_cons.mpr ⟨in_t1 (List.mem_of_getElem? (i := 192) rfl),
    List.forall_mem_cons.mpr ⟨in_t1 (List.mem_of_getElem? (i := 194) rfl),
    List.forall_mem_cons.mpr ⟨in_t1 (List.mem_of_getElem? (i := 196) rfl),
    List.forall_mem_cons.mpr ⟨in_t1 (List.mem_of_getElem? (i := 198) rfl),
    List.forall_mem_cons.mpr ⟨in_t1 (List.mem_of_getElem? (i := 200) rfl),
    List.forall_mem_cons.mpr ⟨in_t1 (List.mem_of_getElem? (i := 202) rfl),
    List.forall_mem_cons.mpr ⟨in_t1 (List.mem_of_getElem? (i := 204) rfl),
    List.forall_mem_cons.mpr ⟨in_t1 (List.mem_of_getElem? (i := 206) rfl),
    List.forall_mem_cons.mpr ⟨in_t1 (List.mem_of_getElem? (i := 208) rfl),
    List.forall_mem_cons.mpr ⟨in_t1 (List.mem_of_getElem? (i := 210) rfl),
    List.forall_mem_cons.mpr ⟨in_t1 (List.mem_of_getElem? (i := 212) rfl),
    List.forall_mem_cons.mpr ⟨in_t1 (List.mem_of_getElem? (i := 214) rfl),
    List.forall_mem_cons.mpr ⟨in_t1 (List.mem_of_getElem? (i := 216) rfl),
    fun _ h => absurd h List.not_mem_nil⟩⟩⟩⟩⟩⟩⟩⟩⟩⟩⟩⟩⟩⟩⟩
set_option maxRecDepth 20000 in
theorem inX7 : ∀ w ∈ wsX70, w ∈ lw_tbl := by
  show ∀ w ∈ [u_lay RX7 TX7 0, u_lay RX7 TX7 1, u_lay RX7 TX7 2, u_lay RX7 TX7 3, u_lay RX7 TX7 4, u_lay RX7 TX7 5, u_lay RX7 TX7 6, u_lay RX7 TX7 7, u_lay RX7 TX7 8, u_lay RX7 TX7 9, u_lay RX7 TX7 10, u_lay RX7 TX7 11, u_lay RX7 TX7 12, u_lay RX7 TX7 13, u_lay RX7 TX7 14, u_lay RX7 TX7 15, u_lay RX7 TX7 16, u_lay RX7 TX7 17, u_lay RX7 TX7 18, u_lay RX7 TX7 19, u_lay RX7 TX7 20, u_lay RX7 TX7 21, u_lay RX7 TX7 22, u_lay RX7 TX7 23, u_lay RX7 TX7 24, u_lay RX7 TX7 25, u_lay RX7 TX7 26, u_lay RX7 TX7 27, u_lay RX7 TX7 28, u_lay RX7 TX7 29, u_lay RX7 TX7 30, u_lay RX7 TX7 31, u_lay RX7 TX7 32], w ∈ lw_tbl
  exact
    List.forall_mem_cons.mpr ⟨in_t4 (List.mem_of_getElem? (i := 24) rfl),
    List.forall_mem_cons.mpr ⟨in_t4 (List.mem_of_getElem? (i := 26) rfl),
    List.forall_mem_cons.mpr ⟨in_t4 (List.mem_of_getElem? (i := 28) rfl),
    List.forall_mem_cons.mpr ⟨in_t4 (List.mem_of_getElem? (i := 30) rfl),
    List.forall_mem_cons.mpr ⟨in_t4 (List.mem_of_getElem? (i := 32) rfl),
    List.forall_mem_cons.mpr ⟨in_t4 (List.mem_of_getElem? (i := 34) rfl),
    List.forall_mem_cons.mpr ⟨in_t4 (List.mem_of_getElem? (i := 36) rfl),
    List.forall_mem_cons.mpr ⟨in_t4 (List.mem_of_getElem? (i := 38) rfl),
    List.forall_mem_cons.mpr ⟨in_t4 (List.mem_of_getElem? (i := 40) rfl),
    List.forall_mem_cons.mpr ⟨in_t4 (List.mem_of_getElem? (i := 42) rfl),
    List.forall_mem_cons.mpr ⟨in_t4 (List.mem_of_getElem? (i := 44) rfl),
    List.forall_mem_cons.mpr ⟨in_t4 (List.mem_of_getElem? (i := 46) rfl),
    List.forall_mem_cons.mpr ⟨in_t4 (List.mem_of_getElem? (i := 48) rfl),
    List.forall_mem_cons.mpr ⟨in_t4 (List.mem_of_getElem? (i := 50) rfl),
    List.forall_mem_cons.mpr ⟨in_t4 (List.mem_of_getElem? (i := 52) rfl),
    List.forall_mem_cons.mpr ⟨in_t4 (List.mem_of_getElem? (i := 54) rfl),
    List.forall_mem_cons.mpr ⟨in_t4 (List.mem_of_getElem? (i := 56) rfl),
    List.forall_mem_cons.mpr ⟨in_t4 (List.mem_of_getElem? (i := 58) rfl),
    List.forall_mem_cons.mpr ⟨in_t4 (List.mem_of_getElem? (i := 60) rfl),
    List.forall_mem_cons.mpr ⟨in_t4 (List.mem_of_getElem? (i := 62) rfl),
    List.forall_mem_cons.mpr ⟨in_t4 (List.mem_of_getElem? (i := 64) rfl),
    List.forall_mem_cons.mpr ⟨in_t4 (List.mem_of_getElem? (i := 66) rfl),
    List.forall_mem_cons.mpr ⟨in_t4 (List.mem_of_getElem? (i := 68) rfl),
    List.forall_mem_cons.mpr ⟨in_t4 (List.mem_of_getElem? (i := 70) rfl),
    List.forall_mem_cons.mpr ⟨in_t4 (List.mem_of_getElem? (i := 72) rfl),
    List.forall_mem_cons.mpr ⟨in_t4 (List.mem_of_getElem? (i := 74) rfl),
    List.forall_mem_cons.mpr ⟨in_t4 (List.mem_of_getElem? (i := 76) rfl),
    List.forall_mem_cons.mpr ⟨in_t4 (List.mem_of_getElem? (i := 78) rfl),
    List.forall_mem_cons.mpr ⟨in_t4 (List.mem_of_getElem? (i := 80) rfl),
    List.forall_mem_cons.mpr ⟨in_t4 (List.mem_of_getElem? (i := 82) rfl),
    List.forall_mem_cons.mpr ⟨in_t4 (List.mem_of_getElem? (i := 84) rfl),
    List.forall_mem_cons.mpr ⟨in_t4 (List.mem_of_getElem? (i := 86) rfl),
    List.forall_mem_cons.mpr ⟨in_t4 (List.mem_of_getElem? (i := 88) rfl),
    fun _ h => absurd h List.not_mem_nil⟩⟩⟩⟩⟩⟩⟩⟩⟩⟩⟩⟩⟩⟩⟩⟩⟩⟩⟩⟩⟩⟩⟩⟩⟩⟩⟩⟩⟩⟩⟩⟩⟩
theorem wsL_law_in : ∀ w ∈ wsL_law, w ∈ lw_tbl := List.forall_mem_append.mpr ⟨(List.forall_mem_append.mpr ⟨(List.forall_mem_append.mpr ⟨(List.forall_mem_append.mpr ⟨(List.forall_mem_append.mpr ⟨(List.forall_mem_append.mpr ⟨(List.forall_mem_append.mpr ⟨(List.forall_mem_append.mpr ⟨(List.forall_mem_append.mpr ⟨(List.forall_mem_append.mpr ⟨inr1, (List.forall_mem_append.mpr ⟨inr2, (List.forall_mem_append.mpr ⟨inr3, (List.forall_mem_append.mpr ⟨inr4, (List.forall_mem_append.mpr ⟨inr5, (List.forall_mem_append.mpr ⟨inr6, (List.forall_mem_append.mpr ⟨inr7, (List.forall_mem_append.mpr ⟨inr8, (List.forall_mem_append.mpr ⟨inr9, (List.forall_mem_append.mpr ⟨inr10, (List.forall_mem_append.mpr ⟨inr11, (List.forall_mem_append.mpr ⟨inr12, (List.forall_mem_append.mpr ⟨inr13, (List.forall_mem_append.mpr ⟨inr14, (List.forall_mem_append.mpr ⟨inr15, (List.forall_mem_append.mpr ⟨inr16, (List.forall_mem_append.mpr ⟨inr17, (List.forall_mem_append.mpr ⟨inr18, (List.forall_mem_append.mpr ⟨inr19, (List.forall_mem_append.mpr ⟨inr20, (List.forall_mem_append.mpr ⟨inr21, (List.forall_mem_append.mpr ⟨inr22, (List.forall_mem_append.mpr ⟨inr23, (List.forall_mem_append.mpr ⟨inr24, (List.forall_mem_append.mpr ⟨inr25, (List.forall_mem_append.mpr ⟨inr26, (List.forall_mem_append.mpr ⟨inr27, (List.forall_mem_append.mpr ⟨inr28, (List.forall_mem_append.mpr ⟨inr29, (List.forall_mem_append.mpr ⟨inr30, (List.forall_mem_append.mpr ⟨inr31, (List.forall_mem_append.mpr ⟨inr32, (List.forall_mem_append.mpr ⟨inr33, (List.forall_mem_append.mpr ⟨inr34, (List.forall_mem_append.mpr ⟨inr35, (List.forall_mem_append.mpr ⟨inr36, (List.forall_mem_append.mpr ⟨inr37, inr38⟩)⟩)⟩)⟩)⟩)⟩)⟩)⟩)⟩)⟩)⟩)⟩)⟩)⟩)⟩)⟩)⟩)⟩)⟩)⟩)⟩)⟩)⟩)⟩)⟩)⟩)⟩)⟩)⟩)⟩)⟩)⟩)⟩)⟩)⟩)⟩)⟩), inX6⟩), inX7⟩), inX3⟩), inX5⟩), inX4⟩), inX0⟩), inX2⟩), inX1⟩), fun _ h => absurd h List.not_mem_nil⟩
end
section
theorem dX0_init_0 : decode cX0_init 0 = .ok (.aload_n 0, 1) := by decide +kernel
theorem dX0_init_1 : decode cX0_init 1 = .ok (.invokespecial 3, 3) := by decide +kernel
theorem dX0_init_4 : decode cX0_init 4 = .ok (.aload_n 0, 1) := by decide +kernel
theorem dX0_init_5 : decode cX0_init 5 = .ok (.bipush 14, 2) := by decide +kernel
theorem dX0_init_7 : decode cX0_init 7 = .ok (.anewarray 9, 3) := by decide +kernel
theorem dX0_init_10 : decode cX0_init 10 = .ok (.putfield 11, 3) := by decide +kernel
theorem dX0_init_13 : decode cX0_init 13 = .ok (.iconst 0, 1) := by decide +kernel
theorem dX0_init_14 : decode cX0_init 14 = .ok (.istore_n 1, 1) := by decide +kernel
theorem dX0_init_15 : decode cX0_init 15 = .ok (.iload_n 1, 1) := by decide +kernel
theorem dX0_init_16 : decode cX0_init 16 = .ok (.bipush 14, 2) := by decide +kernel
theorem dX0_init_18 : decode cX0_init 18 = .ok (.if_icmp .ge 22, 3) := by decide +kernel
theorem dX0_init_21 : decode cX0_init 21 = .ok (.aload_n 0, 1) := by decide +kernel
theorem dX0_init_22 : decode cX0_init 22 = .ok (.getfield 11, 3) := by decide +kernel
theorem dX0_init_25 : decode cX0_init 25 = .ok (.iload_n 1, 1) := by decide +kernel
theorem dX0_init_26 : decode cX0_init 26 = .ok (.new 9, 3) := by decide +kernel
theorem dX0_init_29 : decode cX0_init 29 = .ok (.dup, 1) := by decide +kernel
theorem dX0_init_30 : decode cX0_init 30 = .ok (.invokespecial 17, 3) := by decide +kernel
theorem dX0_init_33 : decode cX0_init 33 = .ok (.aastore, 1) := by decide +kernel
theorem dX0_init_34 : decode cX0_init 34 = .ok (.iinc 1 1, 3) := by decide +kernel
theorem dX0_init_37 : decode cX0_init 37 = .ok (.goto (-22), 3) := by decide +kernel
theorem dX0_init_40 : decode cX0_init 40 = .ok (.return_, 1) := by decide +kernel
theorem dX0_remember_0 : decode cX0_remember 0 = .ok (.aload_n 0, 1) := by decide +kernel
theorem dX0_remember_1 : decode cX0_remember 1 = .ok (.getfield 18, 3) := by decide +kernel
theorem dX0_remember_4 : decode cX0_remember 4 = .ok (.aload_n 0, 1) := by decide +kernel
theorem dX0_remember_5 : decode cX0_remember 5 = .ok (.getfield 11, 3) := by decide +kernel
theorem dX0_remember_8 : decode cX0_remember 8 = .ok (.arraylength, 1) := by decide +kernel
theorem dX0_remember_9 : decode cX0_remember 9 = .ok (.invokestatic 22, 3) := by decide +kernel
theorem dX0_remember_12 : decode cX0_remember 12 = .ok (.ifCond .eq 15, 3) := by decide +kernel
theorem dX0_remember_15 : decode cX0_remember 15 = .ok (.aload_n 0, 1) := by decide +kernel
theorem dX0_remember_16 : decode cX0_remember 16 = .ok (.getfield 11, 3) := by decide +kernel
theorem dX0_remember_19 : decode cX0_remember 19 = .ok (.aload_n 0, 1) := by decide +kernel
theorem dX0_remember_20 : decode cX0_remember 20 = .ok (.getfield 18, 3) := by decide +kernel
theorem dX0_remember_23 : decode cX0_remember 23 = .ok (.aaload, 1) := by decide +kernel
theorem dX0_remember_24 : decode cX0_remember 24 = .ok (.goto 4, 3) := by decide +kernel
theorem dX0_remember_27 : decode cX0_remember 27 = .ok (.aconst_null, 1) := by decide +kernel
theorem dX0_remember_28 : decode cX0_remember 28 = .ok (.astore_n 2, 1) := by decide +kernel
theorem dX0_remember_29 : decode cX0_remember 29 = .ok (.aload_n 2, 1) := by decide +kernel
theorem dX0_remember_30 : decode cX0_remember 30 = .ok (.ifnull 36, 3) := by decide +kernel
theorem dX0_remember_33 : decode cX0_remember 33 = .ok (.aload_n 2, 1) := by decide +kernel
theorem dX0_remember_34 : decode cX0_remember 34 = .ok (.aload_n 1, 1) := by decide +kernel
theorem dX0_remember_35 : decode cX0_remember 35 = .ok (.invokevirtual 26, 3) := by decide +kernel
theorem dX0_remember_38 : decode cX0_remember 38 = .ok (.aload_n 0, 1) := by decide +kernel
theorem dX0_remember_39 : decode cX0_remember 39 = .ok (.aload_n 0, 1) := by decide +kernel
theorem dX0_remember_40 : decode cX0_remember 40 = .ok (.getfield 18, 3) := by decide +kernel
theorem dX0_remember_43 : decode cX0_remember 43 = .ok (.iconst 1, 1) := by decide +kernel
theorem dX0_remember_44 : decode cX0_remember 44 = .ok (.iadd, 1) := by decide +kernel
theorem dX0_remember_45 : decode cX0_remember 45 = .ok (.bipush 14, 2) := by decide +kernel
theorem dX0_remember_47 : decode cX0_remember 47 = .ok (.irem, 1) := by decide +kernel
theorem dX0_remember_48 : decode cX0_remember 48 = .ok (.putfield 18, 3) := by decide +kernel
theorem dX0_remember_51 : decode cX0_remember 51 = .ok (.aload_n 0, 1) := by decide +kernel
theorem dX0_remember_52 : decode cX0_remember 52 = .ok (.aload_n 0, 1) := by decide +kernel
theorem dX0_remember_53 : decode cX0_remember 53 = .ok (.getfield 30, 3) := by decide +kernel
theorem dX0_remember_56 : decode cX0_remember 56 = .ok (.iconst 1, 1) := by decide +kernel
theorem dX0_remember_57 : decode cX0_remember 57 = .ok (.iadd, 1) := by decide +kernel
theorem dX0_remember_58 : decode cX0_remember 58 = .ok (.bipush 14, 2) := by decide +kernel
theorem dX0_remember_60 : decode cX0_remember 60 = .ok (.invokestatic 33, 3) := by decide +kernel
theorem dX0_remember_63 : decode cX0_remember 63 = .ok (.putfield 30, 3) := by decide +kernel
theorem dX0_remember_66 : decode cX0_remember 66 = .ok (.return_, 1) := by decide +kernel
theorem dX0_takeBack_0 : decode cX0_takeBack 0 = .ok (.aload_n 0, 1) := by decide +kernel
theorem dX0_takeBack_1 : decode cX0_takeBack 1 = .ok (.getfield 18, 3) := by decide +kernel
theorem dX0_takeBack_4 : decode cX0_takeBack 4 = .ok (.bipush 14, 2) := by decide +kernel
theorem dX0_takeBack_6 : decode cX0_takeBack 6 = .ok (.iadd, 1) := by decide +kernel
theorem dX0_takeBack_7 : decode cX0_takeBack 7 = .ok (.iconst 1, 1) := by decide +kernel
theorem dX0_takeBack_8 : decode cX0_takeBack 8 = .ok (.isub, 1) := by decide +kernel
theorem dX0_takeBack_9 : decode cX0_takeBack 9 = .ok (.bipush 14, 2) := by decide +kernel
theorem dX0_takeBack_11 : decode cX0_takeBack 11 = .ok (.irem, 1) := by decide +kernel
theorem dX0_takeBack_12 : decode cX0_takeBack 12 = .ok (.istore_n 2, 1) := by decide +kernel
theorem dX0_takeBack_13 : decode cX0_takeBack 13 = .ok (.iload_n 2, 1) := by decide +kernel
theorem dX0_takeBack_14 : decode cX0_takeBack 14 = .ok (.aload_n 0, 1) := by decide +kernel
theorem dX0_takeBack_15 : decode cX0_takeBack 15 = .ok (.getfield 11, 3) := by decide +kernel
theorem dX0_takeBack_18 : decode cX0_takeBack 18 = .ok (.arraylength, 1) := by decide +kernel
theorem dX0_takeBack_19 : decode cX0_takeBack 19 = .ok (.invokestatic 22, 3) := by decide +kernel
theorem dX0_takeBack_22 : decode cX0_takeBack 22 = .ok (.ifCond .eq 12, 3) := by decide +kernel
theorem dX0_takeBack_25 : decode cX0_takeBack 25 = .ok (.aload_n 0, 1) := by decide +kernel
theorem dX0_takeBack_26 : decode cX0_takeBack 26 = .ok (.getfield 11, 3) := by decide +kernel
theorem dX0_takeBack_29 : decode cX0_takeBack 29 = .ok (.iload_n 2, 1) := by decide +kernel
theorem dX0_takeBack_30 : decode cX0_takeBack 30 = .ok (.aaload, 1) := by decide +kernel
theorem dX0_takeBack_31 : decode cX0_takeBack 31 = .ok (.goto 4, 3) := by decide +kernel
theorem dX0_takeBack_34 : decode cX0_takeBack 34 = .ok (.aconst_null, 1) := by decide +kernel
theorem dX0_takeBack_35 : decode cX0_takeBack 35 = .ok (.astore_n 3, 1) := by decide +kernel
theorem dX0_takeBack_36 : decode cX0_takeBack 36 = .ok (.aload_n 0, 1) := by decide +kernel
theorem dX0_takeBack_37 : decode cX0_takeBack 37 = .ok (.getfield 30, 3) := by decide +kernel
theorem dX0_takeBack_40 : decode cX0_takeBack 40 = .ok (.iconst 1, 1) := by decide +kernel
theorem dX0_takeBack_41 : decode cX0_takeBack 41 = .ok (.if_icmp .lt 7, 3) := by decide +kernel
theorem dX0_takeBack_44 : decode cX0_takeBack 44 = .ok (.aload_n 3, 1) := by decide +kernel
theorem dX0_takeBack_45 : decode cX0_takeBack 45 = .ok (.ifnonnull 5, 3) := by decide +kernel
theorem dX0_takeBack_48 : decode cX0_takeBack 48 = .ok (.iconst 0, 1) := by decide +kernel
theorem dX0_takeBack_49 : decode cX0_takeBack 49 = .ok (.ireturn, 1) := by decide +kernel
theorem dX0_takeBack_50 : decode cX0_takeBack 50 = .ok (.aload_n 1, 1) := by decide +kernel
theorem dX0_takeBack_51 : decode cX0_takeBack 51 = .ok (.aload_n 3, 1) := by decide +kernel
theorem dX0_takeBack_52 : decode cX0_takeBack 52 = .ok (.invokevirtual 26, 3) := by decide +kernel
theorem dX0_takeBack_55 : decode cX0_takeBack 55 = .ok (.aload_n 0, 1) := by decide +kernel
theorem dX0_takeBack_56 : decode cX0_takeBack 56 = .ok (.iload_n 2, 1) := by decide +kernel
theorem dX0_takeBack_57 : decode cX0_takeBack 57 = .ok (.putfield 18, 3) := by decide +kernel
theorem dX0_takeBack_60 : decode cX0_takeBack 60 = .ok (.aload_n 0, 1) := by decide +kernel
theorem dX0_takeBack_61 : decode cX0_takeBack 61 = .ok (.dup, 1) := by decide +kernel
theorem dX0_takeBack_62 : decode cX0_takeBack 62 = .ok (.getfield 30, 3) := by decide +kernel
theorem dX0_takeBack_65 : decode cX0_takeBack 65 = .ok (.iconst 1, 1) := by decide +kernel
theorem dX0_takeBack_66 : decode cX0_takeBack 66 = .ok (.isub, 1) := by decide +kernel
theorem dX0_takeBack_67 : decode cX0_takeBack 67 = .ok (.putfield 30, 3) := by decide +kernel
theorem dX0_takeBack_70 : decode cX0_takeBack 70 = .ok (.iconst 1, 1) := by decide +kernel
theorem dX0_takeBack_71 : decode cX0_takeBack 71 = .ok (.ireturn, 1) := by decide +kernel
theorem dX1_init_0 : decode cX1_init 0 = .ok (.aload_n 0, 1) := by decide +kernel
theorem dX1_init_1 : decode cX1_init 1 = .ok (.invokespecial 1, 3) := by decide +kernel
theorem dX1_init_4 : decode cX1_init 4 = .ok (.return_, 1) := by decide +kernel
theorem dX1_start_0 : decode cX1_start 0 = .ok (.aload_n 0, 1) := by decide +kernel
theorem dX1_start_1 : decode cX1_start 1 = .ok (.iload_n 1, 1) := by decide +kernel
theorem dX1_start_2 : decode cX1_start 2 = .ok (.putfield 7, 3) := by decide +kernel
theorem dX1_start_5 : decode cX1_start 5 = .ok (.aload_n 0, 1) := by decide +kernel
theorem dX1_start_6 : decode cX1_start 6 = .ok (.iload_n 2, 1) := by decide +kernel
theorem dX1_start_7 : decode cX1_start 7 = .ok (.putfield 13, 3) := by decide +kernel
theorem dX1_start_10 : decode cX1_start 10 = .ok (.return_, 1) := by decide +kernel
theorem dX1_offer_0 : decode cX1_offer 0 = .ok (.iload_n 1, 1) := by decide +kernel
theorem dX1_offer_1 : decode cX1_offer 1 = .ok (.aload_n 0, 1) := by decide +kernel
theorem dX1_offer_2 : decode cX1_offer 2 = .ok (.getfield 7, 3) := by decide +kernel
theorem dX1_offer_5 : decode cX1_offer 5 = .ok (.if_icmp .le 9, 3) := by decide +kernel
theorem dX1_offer_8 : decode cX1_offer 8 = .ok (.aload_n 0, 1) := by decide +kernel
theorem dX1_offer_9 : decode cX1_offer 9 = .ok (.iload_n 1, 1) := by decide +kernel
theorem dX1_offer_10 : decode cX1_offer 10 = .ok (.iload_n 2, 1) := by decide +kernel
theorem dX1_offer_11 : decode cX1_offer 11 = .ok (.invokevirtual 16, 3) := by decide +kernel
theorem dX1_offer_14 : decode cX1_offer 14 = .ok (.return_, 1) := by decide +kernel
theorem dX2_init_0 : decode cX2_init 0 = .ok (.aload_n 0, 1) := by decide +kernel
theorem dX2_init_1 : decode cX2_init 1 = .ok (.invokespecial 3, 3) := by decide +kernel
theorem dX2_init_4 : decode cX2_init 4 = .ok (.aload_n 0, 1) := by decide +kernel
theorem dX2_init_5 : decode cX2_init 5 = .ok (.bipush 6, 2) := by decide +kernel
theorem dX2_init_7 : decode cX2_init 7 = .ok (.newarray .int, 2) := by decide +kernel
theorem dX2_init_9 : decode cX2_init 9 = .ok (.putfield 9, 3) := by decide +kernel
theorem dX2_init_12 : decode cX2_init 12 = .ok (.aload_n 0, 1) := by decide +kernel
theorem dX2_init_13 : decode cX2_init 13 = .ok (.bipush 6, 2) := by decide +kernel
theorem dX2_init_15 : decode cX2_init 15 = .ok (.newarray .int, 2) := by decide +kernel
theorem dX2_init_17 : decode cX2_init 17 = .ok (.putfield 15, 3) := by decide +kernel
theorem dX2_init_20 : decode cX2_init 20 = .ok (.aload_n 0, 1) := by decide +kernel
theorem dX2_init_21 : decode cX2_init 21 = .ok (.bipush 6, 2) := by decide +kernel
theorem dX2_init_23 : decode cX2_init 23 = .ok (.newarray .int, 2) := by decide +kernel
theorem dX2_init_25 : decode cX2_init 25 = .ok (.putfield 18, 3) := by decide +kernel
theorem dX2_init_28 : decode cX2_init 28 = .ok (.aload_n 0, 1) := by decide +kernel
theorem dX2_init_29 : decode cX2_init 29 = .ok (.bipush 6, 2) := by decide +kernel
theorem dX2_init_31 : decode cX2_init 31 = .ok (.newarray .boolean, 2) := by decide +kernel
theorem dX2_init_33 : decode cX2_init 33 = .ok (.putfield 21, 3) := by decide +kernel
theorem dX2_init_36 : decode cX2_init 36 = .ok (.return_, 1) := by decide +kernel
theorem dX2_append_0 : decode cX2_append 0 = .ok (.aload_n 0, 1) := by decide +kernel
theorem dX2_append_1 : decode cX2_append 1 = .ok (.getfield 25, 3) := by decide +kernel
theorem dX2_append_4 : decode cX2_append 4 = .ok (.bipush 6, 2) := by decide +kernel
theorem dX2_append_6 : decode cX2_append 6 = .ok (.invokestatic 29, 3) := by decide +kernel
theorem dX2_append_9 : decode cX2_append 9 = .ok (.ifCond .ne 6, 3) := by decide +kernel
theorem dX2_append_12 : decode cX2_append 12 = .ok (.bipush (-4), 2) := by decide +kernel
theorem dX2_append_14 : decode cX2_append 14 = .ok (.ireturn, 1) := by decide +kernel
theorem dX2_append_15 : decode cX2_append 15 = .ok (.aload_n 0, 1) := by decide +kernel
theorem dX2_append_16 : decode cX2_append 16 = .ok (.getfield 9, 3) := by decide +kernel
theorem dX2_append_19 : decode cX2_append 19 = .ok (.aload_n 0, 1) := by decide +kernel
theorem dX2_append_20 : decode cX2_append 20 = .ok (.getfield 25, 3) := by decide +kernel
theorem dX2_append_23 : decode cX2_append 23 = .ok (.iload_n 1, 1) := by decide +kernel
theorem dX2_append_24 : decode cX2_append 24 = .ok (.iastore, 1) := by decide +kernel
theorem dX2_append_25 : decode cX2_append 25 = .ok (.aload_n 0, 1) := by decide +kernel
theorem dX2_append_26 : decode cX2_append 26 = .ok (.getfield 15, 3) := by decide +kernel
theorem dX2_append_29 : decode cX2_append 29 = .ok (.aload_n 0, 1) := by decide +kernel
theorem dX2_append_30 : decode cX2_append 30 = .ok (.getfield 25, 3) := by decide +kernel
theorem dX2_append_33 : decode cX2_append 33 = .ok (.iload_n 2, 1) := by decide +kernel
theorem dX2_append_34 : decode cX2_append 34 = .ok (.iastore, 1) := by decide +kernel
theorem dX2_append_35 : decode cX2_append 35 = .ok (.aload_n 0, 1) := by decide +kernel
theorem dX2_append_36 : decode cX2_append 36 = .ok (.getfield 18, 3) := by decide +kernel
theorem dX2_append_39 : decode cX2_append 39 = .ok (.aload_n 0, 1) := by decide +kernel
theorem dX2_append_40 : decode cX2_append 40 = .ok (.getfield 25, 3) := by decide +kernel
theorem dX2_append_43 : decode cX2_append 43 = .ok (.iload_n 3, 1) := by decide +kernel
theorem dX2_append_44 : decode cX2_append 44 = .ok (.iastore, 1) := by decide +kernel
theorem dX2_append_45 : decode cX2_append 45 = .ok (.aload_n 0, 1) := by decide +kernel
theorem dX2_append_46 : decode cX2_append 46 = .ok (.getfield 21, 3) := by decide +kernel
theorem dX2_append_49 : decode cX2_append 49 = .ok (.aload_n 0, 1) := by decide +kernel
theorem dX2_append_50 : decode cX2_append 50 = .ok (.getfield 25, 3) := by decide +kernel
theorem dX2_append_53 : decode cX2_append 53 = .ok (.iload 4, 2) := by decide +kernel
theorem dX2_append_55 : decode cX2_append 55 = .ok (.bastore, 1) := by decide +kernel
theorem dX2_append_56 : decode cX2_append 56 = .ok (.aload_n 0, 1) := by decide +kernel
theorem dX2_append_57 : decode cX2_append 57 = .ok (.dup, 1) := by decide +kernel
theorem dX2_append_58 : decode cX2_append 58 = .ok (.getfield 25, 3) := by decide +kernel
theorem dX2_append_61 : decode cX2_append 61 = .ok (.iconst 1, 1) := by decide +kernel
theorem dX2_append_62 : decode cX2_append 62 = .ok (.iadd, 1) := by decide +kernel
theorem dX2_append_63 : decode cX2_append 63 = .ok (.putfield 25, 3) := by decide +kernel
theorem dX2_append_66 : decode cX2_append 66 = .ok (.aload_n 0, 1) := by decide +kernel
theorem dX2_append_67 : decode cX2_append 67 = .ok (.getfield 25, 3) := by decide +kernel
theorem dX2_append_70 : decode cX2_append 70 = .ok (.ireturn, 1) := by decide +kernel
theorem dX3_init_0 : decode cX3_init 0 = .ok (.aload_n 0, 1) := by decide +kernel
theorem dX3_init_1 : decode cX3_init 1 = .ok (.invokespecial 3, 3) := by decide +kernel
theorem dX3_init_4 : decode cX3_init 4 = .ok (.aload_n 0, 1) := by decide +kernel
theorem dX3_init_5 : decode cX3_init 5 = .ok (.bipush 48, 2) := by decide +kernel
theorem dX3_init_7 : decode cX3_init 7 = .ok (.newarray .int, 2) := by decide +kernel
theorem dX3_init_9 : decode cX3_init 9 = .ok (.putfield 9, 3) := by decide +kernel
theorem dX3_init_12 : decode cX3_init 12 = .ok (.return_, 1) := by decide +kernel
theorem dX3_append_0 : decode cX3_append 0 = .ok (.aload_n 0, 1) := by decide +kernel
theorem dX3_append_1 : decode cX3_append 1 = .ok (.getfield 15, 3) := by decide +kernel
theorem dX3_append_4 : decode cX3_append 4 = .ok (.bipush 48, 2) := by decide +kernel
theorem dX3_append_6 : decode cX3_append 6 = .ok (.invokestatic 19, 3) := by decide +kernel
theorem dX3_append_9 : decode cX3_append 9 = .ok (.ifCond .ne 6, 3) := by decide +kernel
theorem dX3_append_12 : decode cX3_append 12 = .ok (.bipush (-4), 2) := by decide +kernel
theorem dX3_append_14 : decode cX3_append 14 = .ok (.ireturn, 1) := by decide +kernel
theorem dX3_append_15 : decode cX3_append 15 = .ok (.aload_n 0, 1) := by decide +kernel
theorem dX3_append_16 : decode cX3_append 16 = .ok (.getfield 9, 3) := by decide +kernel
theorem dX3_append_19 : decode cX3_append 19 = .ok (.aload_n 0, 1) := by decide +kernel
theorem dX3_append_20 : decode cX3_append 20 = .ok (.getfield 15, 3) := by decide +kernel
theorem dX3_append_23 : decode cX3_append 23 = .ok (.iload_n 1, 1) := by decide +kernel
theorem dX3_append_24 : decode cX3_append 24 = .ok (.iastore, 1) := by decide +kernel
theorem dX3_append_25 : decode cX3_append 25 = .ok (.aload_n 0, 1) := by decide +kernel
theorem dX3_append_26 : decode cX3_append 26 = .ok (.dup, 1) := by decide +kernel
theorem dX3_append_27 : decode cX3_append 27 = .ok (.getfield 15, 3) := by decide +kernel
theorem dX3_append_30 : decode cX3_append 30 = .ok (.iconst 1, 1) := by decide +kernel
theorem dX3_append_31 : decode cX3_append 31 = .ok (.iadd, 1) := by decide +kernel
theorem dX3_append_32 : decode cX3_append 32 = .ok (.putfield 15, 3) := by decide +kernel
theorem dX3_append_35 : decode cX3_append 35 = .ok (.aload_n 0, 1) := by decide +kernel
theorem dX3_append_36 : decode cX3_append 36 = .ok (.getfield 15, 3) := by decide +kernel
theorem dX3_append_39 : decode cX3_append 39 = .ok (.ireturn, 1) := by decide +kernel
theorem dX3_readInto_0 : decode cX3_readInto 0 = .ok (.aload_n 1, 1) := by decide +kernel
theorem dX3_readInto_1 : decode cX3_readInto 1 = .ok (.invokevirtual 23, 3) := by decide +kernel
theorem dX3_readInto_4 : decode cX3_readInto 4 = .ok (.aload_n 0, 1) := by decide +kernel
theorem dX3_readInto_5 : decode cX3_readInto 5 = .ok (.iconst 0, 1) := by decide +kernel
theorem dX3_readInto_6 : decode cX3_readInto 6 = .ok (.putfield 28, 3) := by decide +kernel
theorem dX3_readInto_9 : decode cX3_readInto 9 = .ok (.iconst 0, 1) := by decide +kernel
theorem dX3_readInto_10 : decode cX3_readInto 10 = .ok (.istore_n 2, 1) := by decide +kernel
theorem dX3_readInto_11 : decode cX3_readInto 11 = .ok (.iload_n 2, 1) := by decide +kernel
theorem dX3_readInto_12 : decode cX3_readInto 12 = .ok (.aload_n 0, 1) := by decide +kernel
theorem dX3_readInto_13 : decode cX3_readInto 13 = .ok (.getfield 15, 3) := by decide +kernel
theorem dX3_readInto_16 : decode cX3_readInto 16 = .ok (.if_icmp .ge 31, 3) := by decide +kernel
theorem dX3_readInto_19 : decode cX3_readInto 19 = .ok (.iload_n 2, 1) := by decide +kernel
theorem dX3_readInto_20 : decode cX3_readInto 20 = .ok (.bipush 48, 2) := by decide +kernel
theorem dX3_readInto_22 : decode cX3_readInto 22 = .ok (.if_icmp .ge 25, 3) := by decide +kernel
theorem dX3_readInto_25 : decode cX3_readInto 25 = .ok (.aload_n 0, 1) := by decide +kernel
theorem dX3_readInto_26 : decode cX3_readInto 26 = .ok (.aload_n 1, 1) := by decide +kernel
theorem dX3_readInto_27 : decode cX3_readInto 27 = .ok (.aload_n 0, 1) := by decide +kernel
theorem dX3_readInto_28 : decode cX3_readInto 28 = .ok (.getfield 9, 3) := by decide +kernel
theorem dX3_readInto_31 : decode cX3_readInto 31 = .ok (.iload_n 2, 1) := by decide +kernel
theorem dX3_readInto_32 : decode cX3_readInto 32 = .ok (.iaload, 1) := by decide +kernel
theorem dX3_readInto_33 : decode cX3_readInto 33 = .ok (.invokevirtual 31, 3) := by decide +kernel
theorem dX3_readInto_36 : decode cX3_readInto 36 = .ok (.ifCond .ne 5, 3) := by decide +kernel
theorem dX3_readInto_39 : decode cX3_readInto 39 = .ok (.iload_n 2, 1) := by decide +kernel
theorem dX3_readInto_40 : decode cX3_readInto 40 = .ok (.ireturn, 1) := by decide +kernel
theorem dX3_readInto_41 : decode cX3_readInto 41 = .ok (.iinc 2 1, 3) := by decide +kernel
theorem dX3_readInto_44 : decode cX3_readInto 44 = .ok (.goto (-33), 3) := by decide +kernel
theorem dX3_readInto_47 : decode cX3_readInto 47 = .ok (.aload_n 0, 1) := by decide +kernel
theorem dX3_readInto_48 : decode cX3_readInto 48 = .ok (.getfield 28, 3) := by decide +kernel
theorem dX3_readInto_51 : decode cX3_readInto 51 = .ok (.iconst 1, 1) := by decide +kernel
theorem dX3_readInto_52 : decode cX3_readInto 52 = .ok (.if_icmp .ne 8, 3) := by decide +kernel
theorem dX3_readInto_55 : decode cX3_readInto 55 = .ok (.bipush (-9), 2) := by decide +kernel
theorem dX3_readInto_57 : decode cX3_readInto 57 = .ok (.goto 7, 3) := by decide +kernel
theorem dX3_readInto_60 : decode cX3_readInto 60 = .ok (.aload_n 0, 1) := by decide +kernel
theorem dX3_readInto_61 : decode cX3_readInto 61 = .ok (.getfield 15, 3) := by decide +kernel
theorem dX3_readInto_64 : decode cX3_readInto 64 = .ok (.ireturn, 1) := by decide +kernel
theorem dX3_takes_0 : decode cX3_takes 0 = .ok (.iload_n 2, 1) := by decide +kernel
theorem dX3_takes_1 : decode cX3_takes 1 = .ok (.bipush 48, 2) := by decide +kernel
theorem dX3_takes_3 : decode cX3_takes 3 = .ok (.isub, 1) := by decide +kernel
theorem dX3_takes_4 : decode cX3_takes 4 = .ok (.istore_n 3, 1) := by decide +kernel
theorem dX3_takes_5 : decode cX3_takes 5 = .ok (.aload_n 0, 1) := by decide +kernel
theorem dX3_takes_6 : decode cX3_takes 6 = .ok (.getfield 28, 3) := by decide +kernel
theorem dX3_takes_9 : decode cX3_takes 9 = .ok (.lookupswitch 121 #[(0, 59), (1, 76), (80, 107), (82, 93), (83, 114), (88, 100)], 59) := by decide +kernel
theorem dX3_takes_68 : decode cX3_takes 68 = .ok (.aload_n 0, 1) := by decide +kernel
theorem dX3_takes_69 : decode cX3_takes 69 = .ok (.iconst 1, 1) := by decide +kernel
theorem dX3_takes_70 : decode cX3_takes 70 = .ok (.putfield 28, 3) := by decide +kernel
theorem dX3_takes_73 : decode cX3_takes 73 = .ok (.iload_n 2, 1) := by decide +kernel
theorem dX3_takes_74 : decode cX3_takes 74 = .ok (.bipush 89, 2) := by decide +kernel
theorem dX3_takes_76 : decode cX3_takes 76 = .ok (.if_icmp .ne 7, 3) := by decide +kernel
theorem dX3_takes_79 : decode cX3_takes 79 = .ok (.iconst 1, 1) := by decide +kernel
theorem dX3_takes_80 : decode cX3_takes 80 = .ok (.goto 4, 3) := by decide +kernel
theorem dX3_takes_83 : decode cX3_takes 83 = .ok (.iconst 0, 1) := by decide +kernel
theorem dX3_takes_84 : decode cX3_takes 84 = .ok (.ireturn, 1) := by decide +kernel
theorem dX3_takes_85 : decode cX3_takes 85 = .ok (.aload_n 0, 1) := by decide +kernel
theorem dX3_takes_86 : decode cX3_takes 86 = .ok (.iload_n 2, 1) := by decide +kernel
theorem dX3_takes_87 : decode cX3_takes 87 = .ok (.putfield 28, 3) := by decide +kernel
theorem dX3_takes_90 : decode cX3_takes 90 = .ok (.aload_n 0, 1) := by decide +kernel
theorem dX3_takes_91 : decode cX3_takes 91 = .ok (.iconst 0, 1) := by decide +kernel
theorem dX3_takes_92 : decode cX3_takes 92 = .ok (.putfield 35, 3) := by decide +kernel
theorem dX3_takes_95 : decode cX3_takes 95 = .ok (.aload_n 0, 1) := by decide +kernel
theorem dX3_takes_96 : decode cX3_takes 96 = .ok (.aload_n 1, 1) := by decide +kernel
theorem dX3_takes_97 : decode cX3_takes 97 = .ok (.iload_n 2, 1) := by decide +kernel
theorem dX3_takes_98 : decode cX3_takes 98 = .ok (.invokevirtual 38, 3) := by decide +kernel
theorem dX3_takes_101 : decode cX3_takes 101 = .ok (.ireturn, 1) := by decide +kernel
theorem dX3_takes_102 : decode cX3_takes 102 = .ok (.aload_n 0, 1) := by decide +kernel
theorem dX3_takes_103 : decode cX3_takes 103 = .ok (.aload_n 1, 1) := by decide +kernel
theorem dX3_takes_104 : decode cX3_takes 104 = .ok (.iload_n 3, 1) := by decide +kernel
theorem dX3_takes_105 : decode cX3_takes 105 = .ok (.invokevirtual 41, 3) := by decide +kernel
theorem dX3_takes_108 : decode cX3_takes 108 = .ok (.ireturn, 1) := by decide +kernel
theorem dX3_takes_109 : decode cX3_takes 109 = .ok (.aload_n 0, 1) := by decide +kernel
theorem dX3_takes_110 : decode cX3_takes 110 = .ok (.aload_n 1, 1) := by decide +kernel
theorem dX3_takes_111 : decode cX3_takes 111 = .ok (.iload_n 3, 1) := by decide +kernel
theorem dX3_takes_112 : decode cX3_takes 112 = .ok (.invokevirtual 44, 3) := by decide +kernel
theorem dX3_takes_115 : decode cX3_takes 115 = .ok (.ireturn, 1) := by decide +kernel
theorem dX3_takes_116 : decode cX3_takes 116 = .ok (.aload_n 0, 1) := by decide +kernel
theorem dX3_takes_117 : decode cX3_takes 117 = .ok (.aload_n 1, 1) := by decide +kernel
theorem dX3_takes_118 : decode cX3_takes 118 = .ok (.iload_n 3, 1) := by decide +kernel
theorem dX3_takes_119 : decode cX3_takes 119 = .ok (.invokevirtual 47, 3) := by decide +kernel
theorem dX3_takes_122 : decode cX3_takes 122 = .ok (.ireturn, 1) := by decide +kernel
theorem dX3_takes_123 : decode cX3_takes 123 = .ok (.aload_n 0, 1) := by decide +kernel
theorem dX3_takes_124 : decode cX3_takes 124 = .ok (.aload_n 1, 1) := by decide +kernel
theorem dX3_takes_125 : decode cX3_takes 125 = .ok (.iload_n 3, 1) := by decide +kernel
theorem dX3_takes_126 : decode cX3_takes 126 = .ok (.invokevirtual 50, 3) := by decide +kernel
theorem dX3_takes_129 : decode cX3_takes 129 = .ok (.ireturn, 1) := by decide +kernel
theorem dX3_takes_130 : decode cX3_takes 130 = .ok (.iconst 0, 1) := by decide +kernel
theorem dX3_takes_131 : decode cX3_takes 131 = .ok (.ireturn, 1) := by decide +kernel
theorem dX3_opensPart_0 : decode cX3_opensPart 0 = .ok (.iload_n 2, 1) := by decide +kernel
theorem dX3_opensPart_1 : decode cX3_opensPart 1 = .ok (.tableswitch 89 80 88 #[70, 89, 51, 84, 89, 89, 89, 89, 65], 51) := by decide +kernel
theorem dX3_opensPart_52 : decode cX3_opensPart 52 = .ok (.aload_n 1, 1) := by decide +kernel
theorem dX3_opensPart_53 : decode cX3_opensPart 53 = .ok (.getfield 53, 3) := by decide +kernel
theorem dX3_opensPart_56 : decode cX3_opensPart 56 = .ok (.iconst 5, 1) := by decide +kernel
theorem dX3_opensPart_57 : decode cX3_opensPart 57 = .ok (.if_icmp .ge 7, 3) := by decide +kernel
theorem dX3_opensPart_60 : decode cX3_opensPart 60 = .ok (.iconst 1, 1) := by decide +kernel
theorem dX3_opensPart_61 : decode cX3_opensPart 61 = .ok (.goto 4, 3) := by decide +kernel
theorem dX3_opensPart_64 : decode cX3_opensPart 64 = .ok (.iconst 0, 1) := by decide +kernel
theorem dX3_opensPart_65 : decode cX3_opensPart 65 = .ok (.ireturn, 1) := by decide +kernel
theorem dX3_opensPart_66 : decode cX3_opensPart 66 = .ok (.aload_n 1, 1) := by decide +kernel
theorem dX3_opensPart_67 : decode cX3_opensPart 67 = .ok (.invokevirtual 56, 3) := by decide +kernel
theorem dX3_opensPart_70 : decode cX3_opensPart 70 = .ok (.ireturn, 1) := by decide +kernel
theorem dX3_opensPart_71 : decode cX3_opensPart 71 = .ok (.aload_n 1, 1) := by decide +kernel
theorem dX3_opensPart_72 : decode cX3_opensPart 72 = .ok (.getfield 60, 3) := by decide +kernel
theorem dX3_opensPart_75 : decode cX3_opensPart 75 = .ok (.iconst 4, 1) := by decide +kernel
theorem dX3_opensPart_76 : decode cX3_opensPart 76 = .ok (.if_icmp .ge 7, 3) := by decide +kernel
theorem dX3_opensPart_79 : decode cX3_opensPart 79 = .ok (.iconst 1, 1) := by decide +kernel
theorem dX3_opensPart_80 : decode cX3_opensPart 80 = .ok (.goto 4, 3) := by decide +kernel
theorem dX3_opensPart_83 : decode cX3_opensPart 83 = .ok (.iconst 0, 1) := by decide +kernel
theorem dX3_opensPart_84 : decode cX3_opensPart 84 = .ok (.ireturn, 1) := by decide +kernel
theorem dX3_opensPart_85 : decode cX3_opensPart 85 = .ok (.aload_n 1, 1) := by decide +kernel
theorem dX3_opensPart_86 : decode cX3_opensPart 86 = .ok (.invokevirtual 63, 3) := by decide +kernel
theorem dX3_opensPart_89 : decode cX3_opensPart 89 = .ok (.ireturn, 1) := by decide +kernel
theorem dX3_opensPart_90 : decode cX3_opensPart 90 = .ok (.iconst 0, 1) := by decide +kernel
theorem dX3_opensPart_91 : decode cX3_opensPart 91 = .ok (.ireturn, 1) := by decide +kernel
theorem dX3_takesOfRumour_0 : decode cX3_takesOfRumour 0 = .ok (.aload_n 0, 1) := by decide +kernel
theorem dX3_takesOfRumour_1 : decode cX3_takesOfRumour 1 = .ok (.dup, 1) := by decide +kernel
theorem dX3_takesOfRumour_2 : decode cX3_takesOfRumour 2 = .ok (.getfield 35, 3) := by decide +kernel
theorem dX3_takesOfRumour_5 : decode cX3_takesOfRumour 5 = .ok (.iconst 1, 1) := by decide +kernel
theorem dX3_takesOfRumour_6 : decode cX3_takesOfRumour 6 = .ok (.iadd, 1) := by decide +kernel
theorem dX3_takesOfRumour_7 : decode cX3_takesOfRumour 7 = .ok (.putfield 35, 3) := by decide +kernel
theorem dX3_takesOfRumour_10 : decode cX3_takesOfRumour 10 = .ok (.aload_n 0, 1) := by decide +kernel
theorem dX3_takesOfRumour_11 : decode cX3_takesOfRumour 11 = .ok (.getfield 35, 3) := by decide +kernel
theorem dX3_takesOfRumour_14 : decode cX3_takesOfRumour 14 = .ok (.lookupswitch 67 #[(1, 26), (2, 47)], 26) := by decide +kernel
theorem dX3_takesOfRumour_40 : decode cX3_takesOfRumour 40 = .ok (.aload_n 0, 1) := by decide +kernel
theorem dX3_takesOfRumour_41 : decode cX3_takesOfRumour 41 = .ok (.iload_n 2, 1) := by decide +kernel
theorem dX3_takesOfRumour_42 : decode cX3_takesOfRumour 42 = .ok (.putfield 66, 3) := by decide +kernel
theorem dX3_takesOfRumour_45 : decode cX3_takesOfRumour 45 = .ok (.iload_n 2, 1) := by decide +kernel
theorem dX3_takesOfRumour_46 : decode cX3_takesOfRumour 46 = .ok (.iconst 1, 1) := by decide +kernel
theorem dX3_takesOfRumour_47 : decode cX3_takesOfRumour 47 = .ok (.bipush 9, 2) := by decide +kernel
theorem dX3_takesOfRumour_49 : decode cX3_takesOfRumour 49 = .ok (.invokestatic 69, 3) := by decide +kernel
theorem dX3_takesOfRumour_52 : decode cX3_takesOfRumour 52 = .ok (.ifCond .ne 7, 3) := by decide +kernel
theorem dX3_takesOfRumour_55 : decode cX3_takesOfRumour 55 = .ok (.iconst 1, 1) := by decide +kernel
theorem dX3_takesOfRumour_56 : decode cX3_takesOfRumour 56 = .ok (.goto 4, 3) := by decide +kernel
theorem dX3_takesOfRumour_59 : decode cX3_takesOfRumour 59 = .ok (.iconst 0, 1) := by decide +kernel
theorem dX3_takesOfRumour_60 : decode cX3_takesOfRumour 60 = .ok (.ireturn, 1) := by decide +kernel
theorem dX3_takesOfRumour_61 : decode cX3_takesOfRumour 61 = .ok (.aload_n 0, 1) := by decide +kernel
theorem dX3_takesOfRumour_62 : decode cX3_takesOfRumour 62 = .ok (.iload_n 2, 1) := by decide +kernel
theorem dX3_takesOfRumour_63 : decode cX3_takesOfRumour 63 = .ok (.putfield 73, 3) := by decide +kernel
theorem dX3_takesOfRumour_66 : decode cX3_takesOfRumour 66 = .ok (.iload_n 2, 1) := by decide +kernel
theorem dX3_takesOfRumour_67 : decode cX3_takesOfRumour 67 = .ok (.iconst 0, 1) := by decide +kernel
theorem dX3_takesOfRumour_68 : decode cX3_takesOfRumour 68 = .ok (.iconst 1, 1) := by decide +kernel
theorem dX3_takesOfRumour_69 : decode cX3_takesOfRumour 69 = .ok (.invokestatic 69, 3) := by decide +kernel
theorem dX3_takesOfRumour_72 : decode cX3_takesOfRumour 72 = .ok (.ifCond .ne 7, 3) := by decide +kernel
theorem dX3_takesOfRumour_75 : decode cX3_takesOfRumour 75 = .ok (.iconst 1, 1) := by decide +kernel
theorem dX3_takesOfRumour_76 : decode cX3_takesOfRumour 76 = .ok (.goto 4, 3) := by decide +kernel
theorem dX3_takesOfRumour_79 : decode cX3_takesOfRumour 79 = .ok (.iconst 0, 1) := by decide +kernel
theorem dX3_takesOfRumour_80 : decode cX3_takesOfRumour 80 = .ok (.ireturn, 1) := by decide +kernel
theorem dX3_takesOfRumour_81 : decode cX3_takesOfRumour 81 = .ok (.aload_n 0, 1) := by decide +kernel
theorem dX3_takesOfRumour_82 : decode cX3_takesOfRumour 82 = .ok (.aload_n 1, 1) := by decide +kernel
theorem dX3_takesOfRumour_83 : decode cX3_takesOfRumour 83 = .ok (.iload_n 2, 1) := by decide +kernel
theorem dX3_takesOfRumour_84 : decode cX3_takesOfRumour 84 = .ok (.invokevirtual 76, 3) := by decide +kernel
theorem dX3_takesOfRumour_87 : decode cX3_takesOfRumour 87 = .ok (.ireturn, 1) := by decide +kernel
theorem dX3_endsRumour_0 : decode cX3_endsRumour 0 = .ok (.iload_n 2, 1) := by decide +kernel
theorem dX3_endsRumour_1 : decode cX3_endsRumour 1 = .ok (.iconst 0, 1) := by decide +kernel
theorem dX3_endsRumour_2 : decode cX3_endsRumour 2 = .ok (.bipush 9, 2) := by decide +kernel
theorem dX3_endsRumour_4 : decode cX3_endsRumour 4 = .ok (.invokestatic 69, 3) := by decide +kernel
theorem dX3_endsRumour_7 : decode cX3_endsRumour 7 = .ok (.ifCond .eq 5, 3) := by decide +kernel
theorem dX3_endsRumour_10 : decode cX3_endsRumour 10 = .ok (.iconst 0, 1) := by decide +kernel
theorem dX3_endsRumour_11 : decode cX3_endsRumour 11 = .ok (.ireturn, 1) := by decide +kernel
theorem dX3_endsRumour_12 : decode cX3_endsRumour 12 = .ok (.aload_n 0, 1) := by decide +kernel
theorem dX3_endsRumour_13 : decode cX3_endsRumour 13 = .ok (.iconst 1, 1) := by decide +kernel
theorem dX3_endsRumour_14 : decode cX3_endsRumour 14 = .ok (.putfield 28, 3) := by decide +kernel
theorem dX3_endsRumour_17 : decode cX3_endsRumour 17 = .ok (.aload_n 1, 1) := by decide +kernel
theorem dX3_endsRumour_18 : decode cX3_endsRumour 18 = .ok (.aload_n 0, 1) := by decide +kernel
theorem dX3_endsRumour_19 : decode cX3_endsRumour 19 = .ok (.getfield 66, 3) := by decide +kernel
theorem dX3_endsRumour_22 : decode cX3_endsRumour 22 = .ok (.aload_n 0, 1) := by decide +kernel
theorem dX3_endsRumour_23 : decode cX3_endsRumour 23 = .ok (.getfield 73, 3) := by decide +kernel
theorem dX3_endsRumour_26 : decode cX3_endsRumour 26 = .ok (.iconst 1, 1) := by decide +kernel
theorem dX3_endsRumour_27 : decode cX3_endsRumour 27 = .ok (.if_icmp .ne 7, 3) := by decide +kernel
theorem dX3_endsRumour_30 : decode cX3_endsRumour 30 = .ok (.iconst 1, 1) := by decide +kernel
theorem dX3_endsRumour_31 : decode cX3_endsRumour 31 = .ok (.goto 4, 3) := by decide +kernel
theorem dX3_endsRumour_34 : decode cX3_endsRumour 34 = .ok (.iconst 0, 1) := by decide +kernel
theorem dX3_endsRumour_35 : decode cX3_endsRumour 35 = .ok (.iload_n 2, 1) := by decide +kernel
theorem dX3_endsRumour_36 : decode cX3_endsRumour 36 = .ok (.invokevirtual 79, 3) := by decide +kernel
theorem dX3_endsRumour_39 : decode cX3_endsRumour 39 = .ok (.iconst 1, 1) := by decide +kernel
theorem dX3_endsRumour_40 : decode cX3_endsRumour 40 = .ok (.ireturn, 1) := by decide +kernel
theorem dX3_takesOfRivals_0 : decode cX3_takesOfRivals 0 = .ok (.aload_n 0, 1) := by decide +kernel
theorem dX3_takesOfRivals_1 : decode cX3_takesOfRivals 1 = .ok (.dup, 1) := by decide +kernel
theorem dX3_takesOfRivals_2 : decode cX3_takesOfRivals 2 = .ok (.getfield 35, 3) := by decide +kernel
theorem dX3_takesOfRivals_5 : decode cX3_takesOfRivals 5 = .ok (.iconst 1, 1) := by decide +kernel
theorem dX3_takesOfRivals_6 : decode cX3_takesOfRivals 6 = .ok (.iadd, 1) := by decide +kernel
theorem dX3_takesOfRivals_7 : decode cX3_takesOfRivals 7 = .ok (.putfield 35, 3) := by decide +kernel
theorem dX3_takesOfRivals_10 : decode cX3_takesOfRivals 10 = .ok (.aload_n 0, 1) := by decide +kernel
theorem dX3_takesOfRivals_11 : decode cX3_takesOfRivals 11 = .ok (.getfield 35, 3) := by decide +kernel
theorem dX3_takesOfRivals_14 : decode cX3_takesOfRivals 14 = .ok (.iconst 1, 1) := by decide +kernel
theorem dX3_takesOfRivals_15 : decode cX3_takesOfRivals 15 = .ok (.if_icmp .ne 22, 3) := by decide +kernel
theorem dX3_takesOfRivals_18 : decode cX3_takesOfRivals 18 = .ok (.aload_n 0, 1) := by decide +kernel
theorem dX3_takesOfRivals_19 : decode cX3_takesOfRivals 19 = .ok (.iload_n 2, 1) := by decide +kernel
theorem dX3_takesOfRivals_20 : decode cX3_takesOfRivals 20 = .ok (.putfield 66, 3) := by decide +kernel
theorem dX3_takesOfRivals_23 : decode cX3_takesOfRivals 23 = .ok (.aload_n 1, 1) := by decide +kernel
theorem dX3_takesOfRivals_24 : decode cX3_takesOfRivals 24 = .ok (.iload_n 2, 1) := by decide +kernel
theorem dX3_takesOfRivals_25 : decode cX3_takesOfRivals 25 = .ok (.invokevirtual 83, 3) := by decide +kernel
theorem dX3_takesOfRivals_28 : decode cX3_takesOfRivals 28 = .ok (.ifCond .eq 7, 3) := by decide +kernel
theorem dX3_takesOfRivals_31 : decode cX3_takesOfRivals 31 = .ok (.iconst 1, 1) := by decide +kernel
theorem dX3_takesOfRivals_32 : decode cX3_takesOfRivals 32 = .ok (.goto 4, 3) := by decide +kernel
theorem dX3_takesOfRivals_35 : decode cX3_takesOfRivals 35 = .ok (.iconst 0, 1) := by decide +kernel
theorem dX3_takesOfRivals_36 : decode cX3_takesOfRivals 36 = .ok (.ireturn, 1) := by decide +kernel
theorem dX3_takesOfRivals_37 : decode cX3_takesOfRivals 37 = .ok (.aload_n 1, 1) := by decide +kernel
theorem dX3_takesOfRivals_38 : decode cX3_takesOfRivals 38 = .ok (.aload_n 0, 1) := by decide +kernel
theorem dX3_takesOfRivals_39 : decode cX3_takesOfRivals 39 = .ok (.getfield 66, 3) := by decide +kernel
theorem dX3_takesOfRivals_42 : decode cX3_takesOfRivals 42 = .ok (.invokevirtual 83, 3) := by decide +kernel
theorem dX3_takesOfRivals_45 : decode cX3_takesOfRivals 45 = .ok (.iload_n 2, 1) := by decide +kernel
theorem dX3_takesOfRivals_46 : decode cX3_takesOfRivals 46 = .ok (.invokestatic 87, 3) := by decide +kernel
theorem dX3_takesOfRivals_49 : decode cX3_takesOfRivals 49 = .ok (.ifCond .ne 5, 3) := by decide +kernel
theorem dX3_takesOfRivals_52 : decode cX3_takesOfRivals 52 = .ok (.iconst 0, 1) := by decide +kernel
theorem dX3_takesOfRivals_53 : decode cX3_takesOfRivals 53 = .ok (.ireturn, 1) := by decide +kernel
theorem dX3_takesOfRivals_54 : decode cX3_takesOfRivals 54 = .ok (.aload_n 0, 1) := by decide +kernel
theorem dX3_takesOfRivals_55 : decode cX3_takesOfRivals 55 = .ok (.iconst 1, 1) := by decide +kernel
theorem dX3_takesOfRivals_56 : decode cX3_takesOfRivals 56 = .ok (.putfield 28, 3) := by decide +kernel
theorem dX3_takesOfRivals_59 : decode cX3_takesOfRivals 59 = .ok (.aload_n 1, 1) := by decide +kernel
theorem dX3_takesOfRivals_60 : decode cX3_takesOfRivals 60 = .ok (.aload_n 0, 1) := by decide +kernel
theorem dX3_takesOfRivals_61 : decode cX3_takesOfRivals 61 = .ok (.getfield 66, 3) := by decide +kernel
theorem dX3_takesOfRivals_64 : decode cX3_takesOfRivals 64 = .ok (.iload_n 2, 1) := by decide +kernel
theorem dX3_takesOfRivals_65 : decode cX3_takesOfRivals 65 = .ok (.invokevirtual 90, 3) := by decide +kernel
theorem dX3_takesOfRivals_68 : decode cX3_takesOfRivals 68 = .ok (.iconst 1, 1) := by decide +kernel
theorem dX3_takesOfRivals_69 : decode cX3_takesOfRivals 69 = .ok (.ireturn, 1) := by decide +kernel
theorem dX3_takesOfPerson_0 : decode cX3_takesOfPerson 0 = .ok (.iload_n 2, 1) := by decide +kernel
theorem dX3_takesOfPerson_1 : decode cX3_takesOfPerson 1 = .ok (.invokestatic 94, 3) := by decide +kernel
theorem dX3_takesOfPerson_4 : decode cX3_takesOfPerson 4 = .ok (.ifCond .ne 5, 3) := by decide +kernel
theorem dX3_takesOfPerson_7 : decode cX3_takesOfPerson 7 = .ok (.iconst 0, 1) := by decide +kernel
theorem dX3_takesOfPerson_8 : decode cX3_takesOfPerson 8 = .ok (.ireturn, 1) := by decide +kernel
theorem dX3_takesOfPerson_9 : decode cX3_takesOfPerson 9 = .ok (.aload_n 0, 1) := by decide +kernel
theorem dX3_takesOfPerson_10 : decode cX3_takesOfPerson 10 = .ok (.iconst 1, 1) := by decide +kernel
theorem dX3_takesOfPerson_11 : decode cX3_takesOfPerson 11 = .ok (.putfield 28, 3) := by decide +kernel
theorem dX3_takesOfPerson_14 : decode cX3_takesOfPerson 14 = .ok (.aload_n 1, 1) := by decide +kernel
theorem dX3_takesOfPerson_15 : decode cX3_takesOfPerson 15 = .ok (.iload_n 2, 1) := by decide +kernel
theorem dX3_takesOfPerson_16 : decode cX3_takesOfPerson 16 = .ok (.invokevirtual 98, 3) := by decide +kernel
theorem dX3_takesOfPerson_19 : decode cX3_takesOfPerson 19 = .ok (.iconst 1, 1) := by decide +kernel
theorem dX3_takesOfPerson_20 : decode cX3_takesOfPerson 20 = .ok (.ireturn, 1) := by decide +kernel
theorem dX3_takesOfOpening_0 : decode cX3_takesOfOpening 0 = .ok (.aload_n 0, 1) := by decide +kernel
theorem dX3_takesOfOpening_1 : decode cX3_takesOfOpening 1 = .ok (.dup, 1) := by decide +kernel
theorem dX3_takesOfOpening_2 : decode cX3_takesOfOpening 2 = .ok (.getfield 35, 3) := by decide +kernel
theorem dX3_takesOfOpening_5 : decode cX3_takesOfOpening 5 = .ok (.iconst 1, 1) := by decide +kernel
theorem dX3_takesOfOpening_6 : decode cX3_takesOfOpening 6 = .ok (.iadd, 1) := by decide +kernel
theorem dX3_takesOfOpening_7 : decode cX3_takesOfOpening 7 = .ok (.putfield 35, 3) := by decide +kernel
theorem dX3_takesOfOpening_10 : decode cX3_takesOfOpening 10 = .ok (.aload_n 0, 1) := by decide +kernel
theorem dX3_takesOfOpening_11 : decode cX3_takesOfOpening 11 = .ok (.getfield 35, 3) := by decide +kernel
theorem dX3_takesOfOpening_14 : decode cX3_takesOfOpening 14 = .ok (.iconst 1, 1) := by decide +kernel
theorem dX3_takesOfOpening_15 : decode cX3_takesOfOpening 15 = .ok (.if_icmp .ne 22, 3) := by decide +kernel
theorem dX3_takesOfOpening_18 : decode cX3_takesOfOpening 18 = .ok (.aload_n 0, 1) := by decide +kernel
theorem dX3_takesOfOpening_19 : decode cX3_takesOfOpening 19 = .ok (.iload_n 2, 1) := by decide +kernel
theorem dX3_takesOfOpening_20 : decode cX3_takesOfOpening 20 = .ok (.putfield 66, 3) := by decide +kernel
theorem dX3_takesOfOpening_23 : decode cX3_takesOfOpening 23 = .ok (.aload_n 1, 1) := by decide +kernel
theorem dX3_takesOfOpening_24 : decode cX3_takesOfOpening 24 = .ok (.iload_n 2, 1) := by decide +kernel
theorem dX3_takesOfOpening_25 : decode cX3_takesOfOpening 25 = .ok (.invokevirtual 102, 3) := by decide +kernel
theorem dX3_takesOfOpening_28 : decode cX3_takesOfOpening 28 = .ok (.ifCond .eq 7, 3) := by decide +kernel
theorem dX3_takesOfOpening_31 : decode cX3_takesOfOpening 31 = .ok (.iconst 1, 1) := by decide +kernel
theorem dX3_takesOfOpening_32 : decode cX3_takesOfOpening 32 = .ok (.goto 4, 3) := by decide +kernel
theorem dX3_takesOfOpening_35 : decode cX3_takesOfOpening 35 = .ok (.iconst 0, 1) := by decide +kernel
theorem dX3_takesOfOpening_36 : decode cX3_takesOfOpening 36 = .ok (.ireturn, 1) := by decide +kernel
theorem dX3_takesOfOpening_37 : decode cX3_takesOfOpening 37 = .ok (.aload_n 1, 1) := by decide +kernel
theorem dX3_takesOfOpening_38 : decode cX3_takesOfOpening 38 = .ok (.aload_n 0, 1) := by decide +kernel
theorem dX3_takesOfOpening_39 : decode cX3_takesOfOpening 39 = .ok (.getfield 66, 3) := by decide +kernel
theorem dX3_takesOfOpening_42 : decode cX3_takesOfOpening 42 = .ok (.invokevirtual 102, 3) := by decide +kernel
theorem dX3_takesOfOpening_45 : decode cX3_takesOfOpening 45 = .ok (.iload_n 2, 1) := by decide +kernel
theorem dX3_takesOfOpening_46 : decode cX3_takesOfOpening 46 = .ok (.invokestatic 87, 3) := by decide +kernel
theorem dX3_takesOfOpening_49 : decode cX3_takesOfOpening 49 = .ok (.ifCond .ne 5, 3) := by decide +kernel
theorem dX3_takesOfOpening_52 : decode cX3_takesOfOpening 52 = .ok (.iconst 0, 1) := by decide +kernel
theorem dX3_takesOfOpening_53 : decode cX3_takesOfOpening 53 = .ok (.ireturn, 1) := by decide +kernel
theorem dX3_takesOfOpening_54 : decode cX3_takesOfOpening 54 = .ok (.aload_n 0, 1) := by decide +kernel
theorem dX3_takesOfOpening_55 : decode cX3_takesOfOpening 55 = .ok (.iconst 1, 1) := by decide +kernel
theorem dX3_takesOfOpening_56 : decode cX3_takesOfOpening 56 = .ok (.putfield 28, 3) := by decide +kernel
theorem dX3_takesOfOpening_59 : decode cX3_takesOfOpening 59 = .ok (.aload_n 1, 1) := by decide +kernel
theorem dX3_takesOfOpening_60 : decode cX3_takesOfOpening 60 = .ok (.aload_n 0, 1) := by decide +kernel
theorem dX3_takesOfOpening_61 : decode cX3_takesOfOpening 61 = .ok (.getfield 66, 3) := by decide +kernel
theorem dX3_takesOfOpening_64 : decode cX3_takesOfOpening 64 = .ok (.iload_n 2, 1) := by decide +kernel
theorem dX3_takesOfOpening_65 : decode cX3_takesOfOpening 65 = .ok (.invokevirtual 105, 3) := by decide +kernel
theorem dX3_takesOfOpening_68 : decode cX3_takesOfOpening 68 = .ok (.iconst 1, 1) := by decide +kernel
theorem dX3_takesOfOpening_69 : decode cX3_takesOfOpening 69 = .ok (.ireturn, 1) := by decide +kernel
theorem dX4_init_0 : decode cX4_init 0 = .ok (.aload_n 0, 1) := by decide +kernel
theorem dX4_init_1 : decode cX4_init 1 = .ok (.invokespecial 3, 3) := by decide +kernel
theorem dX4_init_4 : decode cX4_init 4 = .ok (.aload_n 0, 1) := by decide +kernel
theorem dX4_init_5 : decode cX4_init 5 = .ok (.iconst 5, 1) := by decide +kernel
theorem dX4_init_6 : decode cX4_init 6 = .ok (.newarray .int, 2) := by decide +kernel
theorem dX4_init_8 : decode cX4_init 8 = .ok (.putfield 9, 3) := by decide +kernel
theorem dX4_init_11 : decode cX4_init 11 = .ok (.aload_n 0, 1) := by decide +kernel
theorem dX4_init_12 : decode cX4_init 12 = .ok (.iconst 5, 1) := by decide +kernel
theorem dX4_init_13 : decode cX4_init 13 = .ok (.newarray .int, 2) := by decide +kernel
theorem dX4_init_15 : decode cX4_init 15 = .ok (.putfield 15, 3) := by decide +kernel
theorem dX4_init_18 : decode cX4_init 18 = .ok (.aload_n 0, 1) := by decide +kernel
theorem dX4_init_19 : decode cX4_init 19 = .ok (.bipush 20, 2) := by decide +kernel
theorem dX4_init_21 : decode cX4_init 21 = .ok (.newarray .int, 2) := by decide +kernel
theorem dX4_init_23 : decode cX4_init 23 = .ok (.putfield 18, 3) := by decide +kernel
theorem dX4_init_26 : decode cX4_init 26 = .ok (.return_, 1) := by decide +kernel
theorem dX4_open_0 : decode cX4_open 0 = .ok (.aload_n 0, 1) := by decide +kernel
theorem dX4_open_1 : decode cX4_open 1 = .ok (.iconst 0, 1) := by decide +kernel
theorem dX4_open_2 : decode cX4_open 2 = .ok (.putfield 21, 3) := by decide +kernel
theorem dX4_open_5 : decode cX4_open 5 = .ok (.iconst 0, 1) := by decide +kernel
theorem dX4_open_6 : decode cX4_open 6 = .ok (.istore_n 2, 1) := by decide +kernel
theorem dX4_open_7 : decode cX4_open 7 = .ok (.iload_n 2, 1) := by decide +kernel
theorem dX4_open_8 : decode cX4_open 8 = .ok (.iconst 5, 1) := by decide +kernel
theorem dX4_open_9 : decode cX4_open 9 = .ok (.if_icmp .ge 40, 3) := by decide +kernel
theorem dX4_open_12 : decode cX4_open 12 = .ok (.aload_n 0, 1) := by decide +kernel
theorem dX4_open_13 : decode cX4_open 13 = .ok (.getfield 9, 3) := by decide +kernel
theorem dX4_open_16 : decode cX4_open 16 = .ok (.iload_n 2, 1) := by decide +kernel
theorem dX4_open_17 : decode cX4_open 17 = .ok (.aload_n 1, 1) := by decide +kernel
theorem dX4_open_18 : decode cX4_open 18 = .ok (.iload_n 2, 1) := by decide +kernel
theorem dX4_open_19 : decode cX4_open 19 = .ok (.invokevirtual 25, 3) := by decide +kernel
theorem dX4_open_22 : decode cX4_open 22 = .ok (.ifCond .eq 12, 3) := by decide +kernel
theorem dX4_open_25 : decode cX4_open 25 = .ok (.aload_n 1, 1) := by decide +kernel
theorem dX4_open_26 : decode cX4_open 26 = .ok (.getfield 31, 3) := by decide +kernel
theorem dX4_open_29 : decode cX4_open 29 = .ok (.iload_n 2, 1) := by decide +kernel
theorem dX4_open_30 : decode cX4_open 30 = .ok (.iaload, 1) := by decide +kernel
theorem dX4_open_31 : decode cX4_open 31 = .ok (.goto 4, 3) := by decide +kernel
theorem dX4_open_34 : decode cX4_open 34 = .ok (.iconst 0, 1) := by decide +kernel
theorem dX4_open_35 : decode cX4_open 35 = .ok (.iastore, 1) := by decide +kernel
theorem dX4_open_36 : decode cX4_open 36 = .ok (.aload_n 0, 1) := by decide +kernel
theorem dX4_open_37 : decode cX4_open 37 = .ok (.getfield 15, 3) := by decide +kernel
theorem dX4_open_40 : decode cX4_open 40 = .ok (.iload_n 2, 1) := by decide +kernel
theorem dX4_open_41 : decode cX4_open 41 = .ok (.iconst 0, 1) := by decide +kernel
theorem dX4_open_42 : decode cX4_open 42 = .ok (.iastore, 1) := by decide +kernel
theorem dX4_open_43 : decode cX4_open 43 = .ok (.iinc 2 1, 3) := by decide +kernel
theorem dX4_open_46 : decode cX4_open 46 = .ok (.goto (-39), 3) := by decide +kernel
theorem dX4_open_49 : decode cX4_open 49 = .ok (.iconst 0, 1) := by decide +kernel
theorem dX4_open_50 : decode cX4_open 50 = .ok (.istore_n 2, 1) := by decide +kernel
theorem dX4_open_51 : decode cX4_open 51 = .ok (.iload_n 2, 1) := by decide +kernel
theorem dX4_open_52 : decode cX4_open 52 = .ok (.aload_n 0, 1) := by decide +kernel
theorem dX4_open_53 : decode cX4_open 53 = .ok (.getfield 18, 3) := by decide +kernel
theorem dX4_open_56 : decode cX4_open 56 = .ok (.arraylength, 1) := by decide +kernel
theorem dX4_open_57 : decode cX4_open 57 = .ok (.if_icmp .ge 16, 3) := by decide +kernel
theorem dX4_open_60 : decode cX4_open 60 = .ok (.aload_n 0, 1) := by decide +kernel
theorem dX4_open_61 : decode cX4_open 61 = .ok (.getfield 18, 3) := by decide +kernel
theorem dX4_open_64 : decode cX4_open 64 = .ok (.iload_n 2, 1) := by decide +kernel
theorem dX4_open_65 : decode cX4_open 65 = .ok (.iconst 0, 1) := by decide +kernel
theorem dX4_open_66 : decode cX4_open 66 = .ok (.iastore, 1) := by decide +kernel
theorem dX4_open_67 : decode cX4_open 67 = .ok (.iinc 2 1, 3) := by decide +kernel
theorem dX4_open_70 : decode cX4_open 70 = .ok (.goto (-19), 3) := by decide +kernel
theorem dX4_open_73 : decode cX4_open 73 = .ok (.return_, 1) := by decide +kernel
theorem dX4_copyFrom_0 : decode cX4_copyFrom 0 = .ok (.aload_n 1, 1) := by decide +kernel
theorem dX4_copyFrom_1 : decode cX4_copyFrom 1 = .ok (.getfield 9, 3) := by decide +kernel
theorem dX4_copyFrom_4 : decode cX4_copyFrom 4 = .ok (.iconst 0, 1) := by decide +kernel
theorem dX4_copyFrom_5 : decode cX4_copyFrom 5 = .ok (.aload_n 0, 1) := by decide +kernel
theorem dX4_copyFrom_6 : decode cX4_copyFrom 6 = .ok (.getfield 9, 3) := by decide +kernel
theorem dX4_copyFrom_9 : decode cX4_copyFrom 9 = .ok (.iconst 0, 1) := by decide +kernel
theorem dX4_copyFrom_10 : decode cX4_copyFrom 10 = .ok (.iconst 5, 1) := by decide +kernel
theorem dX4_copyFrom_11 : decode cX4_copyFrom 11 = .ok (.invokestatic 34, 3) := by decide +kernel
theorem dX4_copyFrom_14 : decode cX4_copyFrom 14 = .ok (.aload_n 1, 1) := by decide +kernel
theorem dX4_copyFrom_15 : decode cX4_copyFrom 15 = .ok (.getfield 15, 3) := by decide +kernel
theorem dX4_copyFrom_18 : decode cX4_copyFrom 18 = .ok (.iconst 0, 1) := by decide +kernel
theorem dX4_copyFrom_19 : decode cX4_copyFrom 19 = .ok (.aload_n 0, 1) := by decide +kernel
theorem dX4_copyFrom_20 : decode cX4_copyFrom 20 = .ok (.getfield 15, 3) := by decide +kernel
theorem dX4_copyFrom_23 : decode cX4_copyFrom 23 = .ok (.iconst 0, 1) := by decide +kernel
theorem dX4_copyFrom_24 : decode cX4_copyFrom 24 = .ok (.iconst 5, 1) := by decide +kernel
theorem dX4_copyFrom_25 : decode cX4_copyFrom 25 = .ok (.invokestatic 34, 3) := by decide +kernel
theorem dX4_copyFrom_28 : decode cX4_copyFrom 28 = .ok (.aload_n 1, 1) := by decide +kernel
theorem dX4_copyFrom_29 : decode cX4_copyFrom 29 = .ok (.getfield 18, 3) := by decide +kernel
theorem dX4_copyFrom_32 : decode cX4_copyFrom 32 = .ok (.iconst 0, 1) := by decide +kernel
theorem dX4_copyFrom_33 : decode cX4_copyFrom 33 = .ok (.aload_n 0, 1) := by decide +kernel
theorem dX4_copyFrom_34 : decode cX4_copyFrom 34 = .ok (.getfield 18, 3) := by decide +kernel
theorem dX4_copyFrom_37 : decode cX4_copyFrom 37 = .ok (.iconst 0, 1) := by decide +kernel
theorem dX4_copyFrom_38 : decode cX4_copyFrom 38 = .ok (.bipush 20, 2) := by decide +kernel
theorem dX4_copyFrom_40 : decode cX4_copyFrom 40 = .ok (.invokestatic 34, 3) := by decide +kernel
theorem dX4_copyFrom_43 : decode cX4_copyFrom 43 = .ok (.aload_n 0, 1) := by decide +kernel
theorem dX4_copyFrom_44 : decode cX4_copyFrom 44 = .ok (.aload_n 1, 1) := by decide +kernel
theorem dX4_copyFrom_45 : decode cX4_copyFrom 45 = .ok (.getfield 21, 3) := by decide +kernel
theorem dX4_copyFrom_48 : decode cX4_copyFrom 48 = .ok (.putfield 21, 3) := by decide +kernel
theorem dX4_copyFrom_51 : decode cX4_copyFrom 51 = .ok (.return_, 1) := by decide +kernel
theorem dX4_saidOf_0 : decode cX4_saidOf 0 = .ok (.aload_n 0, 1) := by decide +kernel
theorem dX4_saidOf_1 : decode cX4_saidOf 1 = .ok (.getfield 9, 3) := by decide +kernel
theorem dX4_saidOf_4 : decode cX4_saidOf 4 = .ok (.iload_n 1, 1) := by decide +kernel
theorem dX4_saidOf_5 : decode cX4_saidOf 5 = .ok (.invokestatic 40, 3) := by decide +kernel
theorem dX4_saidOf_8 : decode cX4_saidOf 8 = .ok (.ireturn, 1) := by decide +kernel
theorem dX4_deniedOf_0 : decode cX4_deniedOf 0 = .ok (.aload_n 0, 1) := by decide +kernel
theorem dX4_deniedOf_1 : decode cX4_deniedOf 1 = .ok (.getfield 15, 3) := by decide +kernel
theorem dX4_deniedOf_4 : decode cX4_deniedOf 4 = .ok (.iload_n 1, 1) := by decide +kernel
theorem dX4_deniedOf_5 : decode cX4_deniedOf 5 = .ok (.invokestatic 40, 3) := by decide +kernel
theorem dX4_deniedOf_8 : decode cX4_deniedOf 8 = .ok (.ireturn, 1) := by decide +kernel
theorem dX4_coinsOf_0 : decode cX4_coinsOf 0 = .ok (.aload_n 0, 1) := by decide +kernel
theorem dX4_coinsOf_1 : decode cX4_coinsOf 1 = .ok (.getfield 18, 3) := by decide +kernel
theorem dX4_coinsOf_4 : decode cX4_coinsOf 4 = .ok (.iload_n 1, 1) := by decide +kernel
theorem dX4_coinsOf_5 : decode cX4_coinsOf 5 = .ok (.iconst 5, 1) := by decide +kernel
theorem dX4_coinsOf_6 : decode cX4_coinsOf 6 = .ok (.imul, 1) := by decide +kernel
theorem dX4_coinsOf_7 : decode cX4_coinsOf 7 = .ok (.iload_n 2, 1) := by decide +kernel
theorem dX4_coinsOf_8 : decode cX4_coinsOf 8 = .ok (.iadd, 1) := by decide +kernel
theorem dX4_coinsOf_9 : decode cX4_coinsOf 9 = .ok (.invokestatic 40, 3) := by decide +kernel
theorem dX4_coinsOf_12 : decode cX4_coinsOf 12 = .ok (.ireturn, 1) := by decide +kernel
theorem dX4_addCoins_0 : decode cX4_addCoins 0 = .ok (.iload_n 1, 1) := by decide +kernel
theorem dX4_addCoins_1 : decode cX4_addCoins 1 = .ok (.iconst 5, 1) := by decide +kernel
theorem dX4_addCoins_2 : decode cX4_addCoins 2 = .ok (.imul, 1) := by decide +kernel
theorem dX4_addCoins_3 : decode cX4_addCoins 3 = .ok (.iload_n 2, 1) := by decide +kernel
theorem dX4_addCoins_4 : decode cX4_addCoins 4 = .ok (.iadd, 1) := by decide +kernel
theorem dX4_addCoins_5 : decode cX4_addCoins 5 = .ok (.istore 4, 2) := by decide +kernel
theorem dX4_addCoins_7 : decode cX4_addCoins 7 = .ok (.iload 4, 2) := by decide +kernel
theorem dX4_addCoins_9 : decode cX4_addCoins 9 = .ok (.aload_n 0, 1) := by decide +kernel
theorem dX4_addCoins_10 : decode cX4_addCoins 10 = .ok (.getfield 18, 3) := by decide +kernel
theorem dX4_addCoins_13 : decode cX4_addCoins 13 = .ok (.arraylength, 1) := by decide +kernel
theorem dX4_addCoins_14 : decode cX4_addCoins 14 = .ok (.invokestatic 44, 3) := by decide +kernel
theorem dX4_addCoins_17 : decode cX4_addCoins 17 = .ok (.ifCond .eq 14, 3) := by decide +kernel
theorem dX4_addCoins_20 : decode cX4_addCoins 20 = .ok (.aload_n 0, 1) := by decide +kernel
theorem dX4_addCoins_21 : decode cX4_addCoins 21 = .ok (.getfield 18, 3) := by decide +kernel
theorem dX4_addCoins_24 : decode cX4_addCoins 24 = .ok (.iload 4, 2) := by decide +kernel
theorem dX4_addCoins_26 : decode cX4_addCoins 26 = .ok (.dup2, 1) := by decide +kernel
theorem dX4_addCoins_27 : decode cX4_addCoins 27 = .ok (.iaload, 1) := by decide +kernel
theorem dX4_addCoins_28 : decode cX4_addCoins 28 = .ok (.iload_n 3, 1) := by decide +kernel
theorem dX4_addCoins_29 : decode cX4_addCoins 29 = .ok (.iadd, 1) := by decide +kernel
theorem dX4_addCoins_30 : decode cX4_addCoins 30 = .ok (.iastore, 1) := by decide +kernel
theorem dX4_addCoins_31 : decode cX4_addCoins 31 = .ok (.return_, 1) := by decide +kernel
theorem dX4_canBeSaid_0 : decode cX4_canBeSaid 0 = .ok (.aload_n 1, 1) := by decide +kernel
theorem dX4_canBeSaid_1 : decode cX4_canBeSaid 1 = .ok (.iload_n 2, 1) := by decide +kernel
theorem dX4_canBeSaid_2 : decode cX4_canBeSaid 2 = .ok (.invokevirtual 25, 3) := by decide +kernel
theorem dX4_canBeSaid_5 : decode cX4_canBeSaid 5 = .ok (.ifCond .eq 44, 3) := by decide +kernel
theorem dX4_canBeSaid_8 : decode cX4_canBeSaid 8 = .ok (.iload_n 3, 1) := by decide +kernel
theorem dX4_canBeSaid_9 : decode cX4_canBeSaid 9 = .ok (.invokestatic 48, 3) := by decide +kernel
theorem dX4_canBeSaid_12 : decode cX4_canBeSaid 12 = .ok (.ifCond .eq 37, 3) := by decide +kernel
theorem dX4_canBeSaid_15 : decode cX4_canBeSaid 15 = .ok (.aload_n 1, 1) := by decide +kernel
theorem dX4_canBeSaid_16 : decode cX4_canBeSaid 16 = .ok (.iload_n 2, 1) := by decide +kernel
theorem dX4_canBeSaid_17 : decode cX4_canBeSaid 17 = .ok (.aload_n 0, 1) := by decide +kernel
theorem dX4_canBeSaid_18 : decode cX4_canBeSaid 18 = .ok (.getfield 21, 3) := by decide +kernel
theorem dX4_canBeSaid_21 : decode cX4_canBeSaid 21 = .ok (.invokevirtual 51, 3) := by decide +kernel
theorem dX4_canBeSaid_24 : decode cX4_canBeSaid 24 = .ok (.ifCond .ne 25, 3) := by decide +kernel
theorem dX4_canBeSaid_27 : decode cX4_canBeSaid 27 = .ok (.aload_n 0, 1) := by decide +kernel
theorem dX4_canBeSaid_28 : decode cX4_canBeSaid 28 = .ok (.iload_n 2, 1) := by decide +kernel
theorem dX4_canBeSaid_29 : decode cX4_canBeSaid 29 = .ok (.invokevirtual 54, 3) := by decide +kernel
theorem dX4_canBeSaid_32 : decode cX4_canBeSaid 32 = .ok (.aload_n 0, 1) := by decide +kernel
theorem dX4_canBeSaid_33 : decode cX4_canBeSaid 33 = .ok (.iload_n 2, 1) := by decide +kernel
theorem dX4_canBeSaid_34 : decode cX4_canBeSaid 34 = .ok (.invokevirtual 58, 3) := by decide +kernel
theorem dX4_canBeSaid_37 : decode cX4_canBeSaid 37 = .ok (.ior, 1) := by decide +kernel
theorem dX4_canBeSaid_38 : decode cX4_canBeSaid 38 = .ok (.iload_n 3, 1) := by decide +kernel
theorem dX4_canBeSaid_39 : decode cX4_canBeSaid 39 = .ok (.invokestatic 61, 3) := by decide +kernel
theorem dX4_canBeSaid_42 : decode cX4_canBeSaid 42 = .ok (.ifCond .ne 7, 3) := by decide +kernel
theorem dX4_canBeSaid_45 : decode cX4_canBeSaid 45 = .ok (.iconst 1, 1) := by decide +kernel
theorem dX4_canBeSaid_46 : decode cX4_canBeSaid 46 = .ok (.goto 4, 3) := by decide +kernel
theorem dX4_canBeSaid_49 : decode cX4_canBeSaid 49 = .ok (.iconst 0, 1) := by decide +kernel
theorem dX4_canBeSaid_50 : decode cX4_canBeSaid 50 = .ok (.ireturn, 1) := by decide +kernel
theorem dX4_putSaid_0 : decode cX4_putSaid 0 = .ok (.iload_n 1, 1) := by decide +kernel
theorem dX4_putSaid_1 : decode cX4_putSaid 1 = .ok (.iconst 5, 1) := by decide +kernel
theorem dX4_putSaid_2 : decode cX4_putSaid 2 = .ok (.invokestatic 44, 3) := by decide +kernel
theorem dX4_putSaid_5 : decode cX4_putSaid 5 = .ok (.ifCond .eq 22, 3) := by decide +kernel
theorem dX4_putSaid_8 : decode cX4_putSaid 8 = .ok (.iload_n 2, 1) := by decide +kernel
theorem dX4_putSaid_9 : decode cX4_putSaid 9 = .ok (.invokestatic 48, 3) := by decide +kernel
theorem dX4_putSaid_12 : decode cX4_putSaid 12 = .ok (.ifCond .eq 15, 3) := by decide +kernel
theorem dX4_putSaid_15 : decode cX4_putSaid 15 = .ok (.aload_n 0, 1) := by decide +kernel
theorem dX4_putSaid_16 : decode cX4_putSaid 16 = .ok (.getfield 9, 3) := by decide +kernel
theorem dX4_putSaid_19 : decode cX4_putSaid 19 = .ok (.iload_n 1, 1) := by decide +kernel
theorem dX4_putSaid_20 : decode cX4_putSaid 20 = .ok (.dup2, 1) := by decide +kernel
theorem dX4_putSaid_21 : decode cX4_putSaid 21 = .ok (.iaload, 1) := by decide +kernel
theorem dX4_putSaid_22 : decode cX4_putSaid 22 = .ok (.iconst 1, 1) := by decide +kernel
theorem dX4_putSaid_23 : decode cX4_putSaid 23 = .ok (.iload_n 2, 1) := by decide +kernel
theorem dX4_putSaid_24 : decode cX4_putSaid 24 = .ok (.ishl, 1) := by decide +kernel
theorem dX4_putSaid_25 : decode cX4_putSaid 25 = .ok (.ior, 1) := by decide +kernel
theorem dX4_putSaid_26 : decode cX4_putSaid 26 = .ok (.iastore, 1) := by decide +kernel
theorem dX4_putSaid_27 : decode cX4_putSaid 27 = .ok (.return_, 1) := by decide +kernel
theorem dX4_canBeDenied_0 : decode cX4_canBeDenied 0 = .ok (.aload_n 1, 1) := by decide +kernel
theorem dX4_canBeDenied_1 : decode cX4_canBeDenied 1 = .ok (.iload_n 2, 1) := by decide +kernel
theorem dX4_canBeDenied_2 : decode cX4_canBeDenied 2 = .ok (.invokevirtual 25, 3) := by decide +kernel
theorem dX4_canBeDenied_5 : decode cX4_canBeDenied 5 = .ok (.ifCond .eq 38, 3) := by decide +kernel
theorem dX4_canBeDenied_8 : decode cX4_canBeDenied 8 = .ok (.iload_n 3, 1) := by decide +kernel
theorem dX4_canBeDenied_9 : decode cX4_canBeDenied 9 = .ok (.invokestatic 48, 3) := by decide +kernel
theorem dX4_canBeDenied_12 : decode cX4_canBeDenied 12 = .ok (.ifCond .eq 31, 3) := by decide +kernel
theorem dX4_canBeDenied_15 : decode cX4_canBeDenied 15 = .ok (.aload_n 1, 1) := by decide +kernel
theorem dX4_canBeDenied_16 : decode cX4_canBeDenied 16 = .ok (.iload_n 2, 1) := by decide +kernel
theorem dX4_canBeDenied_17 : decode cX4_canBeDenied 17 = .ok (.aload_n 0, 1) := by decide +kernel
theorem dX4_canBeDenied_18 : decode cX4_canBeDenied 18 = .ok (.getfield 21, 3) := by decide +kernel
theorem dX4_canBeDenied_21 : decode cX4_canBeDenied 21 = .ok (.invokevirtual 64, 3) := by decide +kernel
theorem dX4_canBeDenied_24 : decode cX4_canBeDenied 24 = .ok (.ifCond .ne 19, 3) := by decide +kernel
theorem dX4_canBeDenied_27 : decode cX4_canBeDenied 27 = .ok (.aload_n 0, 1) := by decide +kernel
theorem dX4_canBeDenied_28 : decode cX4_canBeDenied 28 = .ok (.iload_n 2, 1) := by decide +kernel
theorem dX4_canBeDenied_29 : decode cX4_canBeDenied 29 = .ok (.invokevirtual 58, 3) := by decide +kernel
theorem dX4_canBeDenied_32 : decode cX4_canBeDenied 32 = .ok (.iload_n 3, 1) := by decide +kernel
theorem dX4_canBeDenied_33 : decode cX4_canBeDenied 33 = .ok (.invokestatic 61, 3) := by decide +kernel
theorem dX4_canBeDenied_36 : decode cX4_canBeDenied 36 = .ok (.ifCond .ne 7, 3) := by decide +kernel
theorem dX4_canBeDenied_39 : decode cX4_canBeDenied 39 = .ok (.iconst 1, 1) := by decide +kernel
theorem dX4_canBeDenied_40 : decode cX4_canBeDenied 40 = .ok (.goto 4, 3) := by decide +kernel
theorem dX4_canBeDenied_43 : decode cX4_canBeDenied 43 = .ok (.iconst 0, 1) := by decide +kernel
theorem dX4_canBeDenied_44 : decode cX4_canBeDenied 44 = .ok (.ireturn, 1) := by decide +kernel
theorem dX4_putDenied_0 : decode cX4_putDenied 0 = .ok (.iload_n 1, 1) := by decide +kernel
theorem dX4_putDenied_1 : decode cX4_putDenied 1 = .ok (.iconst 5, 1) := by decide +kernel
theorem dX4_putDenied_2 : decode cX4_putDenied 2 = .ok (.invokestatic 44, 3) := by decide +kernel
theorem dX4_putDenied_5 : decode cX4_putDenied 5 = .ok (.ifCond .eq 36, 3) := by decide +kernel
theorem dX4_putDenied_8 : decode cX4_putDenied 8 = .ok (.iload_n 2, 1) := by decide +kernel
theorem dX4_putDenied_9 : decode cX4_putDenied 9 = .ok (.invokestatic 48, 3) := by decide +kernel
theorem dX4_putDenied_12 : decode cX4_putDenied 12 = .ok (.ifCond .eq 29, 3) := by decide +kernel
theorem dX4_putDenied_15 : decode cX4_putDenied 15 = .ok (.aload_n 0, 1) := by decide +kernel
theorem dX4_putDenied_16 : decode cX4_putDenied 16 = .ok (.getfield 15, 3) := by decide +kernel
theorem dX4_putDenied_19 : decode cX4_putDenied 19 = .ok (.iload_n 1, 1) := by decide +kernel
theorem dX4_putDenied_20 : decode cX4_putDenied 20 = .ok (.dup2, 1) := by decide +kernel
theorem dX4_putDenied_21 : decode cX4_putDenied 21 = .ok (.iaload, 1) := by decide +kernel
theorem dX4_putDenied_22 : decode cX4_putDenied 22 = .ok (.iconst 1, 1) := by decide +kernel
theorem dX4_putDenied_23 : decode cX4_putDenied 23 = .ok (.iload_n 2, 1) := by decide +kernel
theorem dX4_putDenied_24 : decode cX4_putDenied 24 = .ok (.ishl, 1) := by decide +kernel
theorem dX4_putDenied_25 : decode cX4_putDenied 25 = .ok (.ior, 1) := by decide +kernel
theorem dX4_putDenied_26 : decode cX4_putDenied 26 = .ok (.iastore, 1) := by decide +kernel
theorem dX4_putDenied_27 : decode cX4_putDenied 27 = .ok (.aload_n 0, 1) := by decide +kernel
theorem dX4_putDenied_28 : decode cX4_putDenied 28 = .ok (.getfield 9, 3) := by decide +kernel
theorem dX4_putDenied_31 : decode cX4_putDenied 31 = .ok (.iload_n 1, 1) := by decide +kernel
theorem dX4_putDenied_32 : decode cX4_putDenied 32 = .ok (.dup2, 1) := by decide +kernel
theorem dX4_putDenied_33 : decode cX4_putDenied 33 = .ok (.iaload, 1) := by decide +kernel
theorem dX4_putDenied_34 : decode cX4_putDenied 34 = .ok (.iconst 1, 1) := by decide +kernel
theorem dX4_putDenied_35 : decode cX4_putDenied 35 = .ok (.iload_n 2, 1) := by decide +kernel
theorem dX4_putDenied_36 : decode cX4_putDenied 36 = .ok (.ishl, 1) := by decide +kernel
theorem dX4_putDenied_37 : decode cX4_putDenied 37 = .ok (.iconst (-1), 1) := by decide +kernel
theorem dX4_putDenied_38 : decode cX4_putDenied 38 = .ok (.ixor, 1) := by decide +kernel
theorem dX4_putDenied_39 : decode cX4_putDenied 39 = .ok (.iand, 1) := by decide +kernel
theorem dX4_putDenied_40 : decode cX4_putDenied 40 = .ok (.iastore, 1) := by decide +kernel
theorem dX4_putDenied_41 : decode cX4_putDenied 41 = .ok (.return_, 1) := by decide +kernel
theorem dX4_isTakenBy_0 : decode cX4_isTakenBy 0 = .ok (.aload_n 0, 1) := by decide +kernel
theorem dX4_isTakenBy_1 : decode cX4_isTakenBy 1 = .ok (.aload_n 1, 1) := by decide +kernel
theorem dX4_isTakenBy_2 : decode cX4_isTakenBy 2 = .ok (.iload_n 3, 1) := by decide +kernel
theorem dX4_isTakenBy_3 : decode cX4_isTakenBy 3 = .ok (.invokevirtual 67, 3) := by decide +kernel
theorem dX4_isTakenBy_6 : decode cX4_isTakenBy 6 = .ok (.iconst 1, 1) := by decide +kernel
theorem dX4_isTakenBy_7 : decode cX4_isTakenBy 7 = .ok (.if_icmp .lt 28, 3) := by decide +kernel
theorem dX4_isTakenBy_10 : decode cX4_isTakenBy 10 = .ok (.aload_n 0, 1) := by decide +kernel
theorem dX4_isTakenBy_11 : decode cX4_isTakenBy 11 = .ok (.iload_n 2, 1) := by decide +kernel
theorem dX4_isTakenBy_12 : decode cX4_isTakenBy 12 = .ok (.iload_n 3, 1) := by decide +kernel
theorem dX4_isTakenBy_13 : decode cX4_isTakenBy 13 = .ok (.invokevirtual 71, 3) := by decide +kernel
theorem dX4_isTakenBy_16 : decode cX4_isTakenBy 16 = .ok (.bipush 99, 2) := by decide +kernel
theorem dX4_isTakenBy_18 : decode cX4_isTakenBy 18 = .ok (.if_icmp .ge 17, 3) := by decide +kernel
theorem dX4_isTakenBy_21 : decode cX4_isTakenBy 21 = .ok (.aload_n 0, 1) := by decide +kernel
theorem dX4_isTakenBy_22 : decode cX4_isTakenBy 22 = .ok (.aload_n 1, 1) := by decide +kernel
theorem dX4_isTakenBy_23 : decode cX4_isTakenBy 23 = .ok (.iload_n 2, 1) := by decide +kernel
theorem dX4_isTakenBy_24 : decode cX4_isTakenBy 24 = .ok (.iload_n 3, 1) := by decide +kernel
theorem dX4_isTakenBy_25 : decode cX4_isTakenBy 25 = .ok (.invokevirtual 75, 3) := by decide +kernel
theorem dX4_isTakenBy_28 : decode cX4_isTakenBy 28 = .ok (.ifCond .ne 7, 3) := by decide +kernel
theorem dX4_isTakenBy_31 : decode cX4_isTakenBy 31 = .ok (.iconst 1, 1) := by decide +kernel
theorem dX4_isTakenBy_32 : decode cX4_isTakenBy 32 = .ok (.goto 4, 3) := by decide +kernel
theorem dX4_isTakenBy_35 : decode cX4_isTakenBy 35 = .ok (.iconst 0, 1) := by decide +kernel
theorem dX4_isTakenBy_36 : decode cX4_isTakenBy 36 = .ok (.ireturn, 1) := by decide +kernel
theorem dX4_hasRivalCoin_0 : decode cX4_hasRivalCoin 0 = .ok (.iconst 0, 1) := by decide +kernel
theorem dX4_hasRivalCoin_1 : decode cX4_hasRivalCoin 1 = .ok (.istore 4, 2) := by decide +kernel
theorem dX4_hasRivalCoin_3 : decode cX4_hasRivalCoin 3 = .ok (.iload 4, 2) := by decide +kernel
theorem dX4_hasRivalCoin_5 : decode cX4_hasRivalCoin 5 = .ok (.iconst 5, 1) := by decide +kernel
theorem dX4_hasRivalCoin_6 : decode cX4_hasRivalCoin 6 = .ok (.if_icmp .ge 37, 3) := by decide +kernel
theorem dX4_hasRivalCoin_9 : decode cX4_hasRivalCoin 9 = .ok (.aload_n 1, 1) := by decide +kernel
theorem dX4_hasRivalCoin_10 : decode cX4_hasRivalCoin 10 = .ok (.getfield 79, 3) := by decide +kernel
theorem dX4_hasRivalCoin_13 : decode cX4_hasRivalCoin 13 = .ok (.iload_n 3, 1) := by decide +kernel
theorem dX4_hasRivalCoin_14 : decode cX4_hasRivalCoin 14 = .ok (.invokestatic 40, 3) := by decide +kernel
theorem dX4_hasRivalCoin_17 : decode cX4_hasRivalCoin 17 = .ok (.iload 4, 2) := by decide +kernel
theorem dX4_hasRivalCoin_19 : decode cX4_hasRivalCoin 19 = .ok (.invokestatic 61, 3) := by decide +kernel
theorem dX4_hasRivalCoin_22 : decode cX4_hasRivalCoin 22 = .ok (.ifCond .eq 15, 3) := by decide +kernel
theorem dX4_hasRivalCoin_25 : decode cX4_hasRivalCoin 25 = .ok (.aload_n 0, 1) := by decide +kernel
theorem dX4_hasRivalCoin_26 : decode cX4_hasRivalCoin 26 = .ok (.iload_n 2, 1) := by decide +kernel
theorem dX4_hasRivalCoin_27 : decode cX4_hasRivalCoin 27 = .ok (.iload 4, 2) := by decide +kernel
theorem dX4_hasRivalCoin_29 : decode cX4_hasRivalCoin 29 = .ok (.invokevirtual 71, 3) := by decide +kernel
theorem dX4_hasRivalCoin_32 : decode cX4_hasRivalCoin 32 = .ok (.ifCond .le 5, 3) := by decide +kernel
theorem dX4_hasRivalCoin_35 : decode cX4_hasRivalCoin 35 = .ok (.iconst 1, 1) := by decide +kernel
theorem dX4_hasRivalCoin_36 : decode cX4_hasRivalCoin 36 = .ok (.ireturn, 1) := by decide +kernel
theorem dX4_hasRivalCoin_37 : decode cX4_hasRivalCoin 37 = .ok (.iinc 4 1, 3) := by decide +kernel
theorem dX4_hasRivalCoin_40 : decode cX4_hasRivalCoin 40 = .ok (.goto (-37), 3) := by decide +kernel
theorem dX4_hasRivalCoin_43 : decode cX4_hasRivalCoin 43 = .ok (.iconst 0, 1) := by decide +kernel
theorem dX4_hasRivalCoin_44 : decode cX4_hasRivalCoin 44 = .ok (.ireturn, 1) := by decide +kernel
theorem dX4_passDawn_0 : decode cX4_passDawn 0 = .ok (.iconst 0, 1) := by decide +kernel
theorem dX4_passDawn_1 : decode cX4_passDawn 1 = .ok (.istore_n 2, 1) := by decide +kernel
theorem dX4_passDawn_2 : decode cX4_passDawn 2 = .ok (.iconst 0, 1) := by decide +kernel
theorem dX4_passDawn_3 : decode cX4_passDawn 3 = .ok (.istore_n 3, 1) := by decide +kernel
theorem dX4_passDawn_4 : decode cX4_passDawn 4 = .ok (.iload_n 3, 1) := by decide +kernel
theorem dX4_passDawn_5 : decode cX4_passDawn 5 = .ok (.iconst 5, 1) := by decide +kernel
theorem dX4_passDawn_6 : decode cX4_passDawn 6 = .ok (.if_icmp .ge 45, 3) := by decide +kernel
theorem dX4_passDawn_9 : decode cX4_passDawn 9 = .ok (.iload_n 2, 1) := by decide +kernel
theorem dX4_passDawn_10 : decode cX4_passDawn 10 = .ok (.aload_n 0, 1) := by decide +kernel
theorem dX4_passDawn_11 : decode cX4_passDawn 11 = .ok (.aload_n 1, 1) := by decide +kernel
theorem dX4_passDawn_12 : decode cX4_passDawn 12 = .ok (.iload_n 3, 1) := by decide +kernel
theorem dX4_passDawn_13 : decode cX4_passDawn 13 = .ok (.invokevirtual 82, 3) := by decide +kernel
theorem dX4_passDawn_16 : decode cX4_passDawn 16 = .ok (.iadd, 1) := by decide +kernel
theorem dX4_passDawn_17 : decode cX4_passDawn 17 = .ok (.istore_n 2, 1) := by decide +kernel
theorem dX4_passDawn_18 : decode cX4_passDawn 18 = .ok (.aload_n 0, 1) := by decide +kernel
theorem dX4_passDawn_19 : decode cX4_passDawn 19 = .ok (.getfield 9, 3) := by decide +kernel
theorem dX4_passDawn_22 : decode cX4_passDawn 22 = .ok (.iload_n 3, 1) := by decide +kernel
theorem dX4_passDawn_23 : decode cX4_passDawn 23 = .ok (.aload_n 1, 1) := by decide +kernel
theorem dX4_passDawn_24 : decode cX4_passDawn 24 = .ok (.iload_n 3, 1) := by decide +kernel
theorem dX4_passDawn_25 : decode cX4_passDawn 25 = .ok (.aload_n 0, 1) := by decide +kernel
theorem dX4_passDawn_26 : decode cX4_passDawn 26 = .ok (.getfield 9, 3) := by decide +kernel
theorem dX4_passDawn_29 : decode cX4_passDawn 29 = .ok (.iload_n 3, 1) := by decide +kernel
theorem dX4_passDawn_30 : decode cX4_passDawn 30 = .ok (.iaload, 1) := by decide +kernel
theorem dX4_passDawn_31 : decode cX4_passDawn 31 = .ok (.aload_n 0, 1) := by decide +kernel
theorem dX4_passDawn_32 : decode cX4_passDawn 32 = .ok (.getfield 15, 3) := by decide +kernel
theorem dX4_passDawn_35 : decode cX4_passDawn 35 = .ok (.iload_n 3, 1) := by decide +kernel
theorem dX4_passDawn_36 : decode cX4_passDawn 36 = .ok (.iaload, 1) := by decide +kernel
theorem dX4_passDawn_37 : decode cX4_passDawn 37 = .ok (.aload_n 0, 1) := by decide +kernel
theorem dX4_passDawn_38 : decode cX4_passDawn 38 = .ok (.getfield 21, 3) := by decide +kernel
theorem dX4_passDawn_41 : decode cX4_passDawn 41 = .ok (.invokevirtual 85, 3) := by decide +kernel
theorem dX4_passDawn_44 : decode cX4_passDawn 44 = .ok (.iastore, 1) := by decide +kernel
theorem dX4_passDawn_45 : decode cX4_passDawn 45 = .ok (.iinc 3 1, 3) := by decide +kernel
theorem dX4_passDawn_48 : decode cX4_passDawn 48 = .ok (.goto (-44), 3) := by decide +kernel
theorem dX4_passDawn_51 : decode cX4_passDawn 51 = .ok (.aload_n 0, 1) := by decide +kernel
theorem dX4_passDawn_52 : decode cX4_passDawn 52 = .ok (.dup, 1) := by decide +kernel
theorem dX4_passDawn_53 : decode cX4_passDawn 53 = .ok (.getfield 21, 3) := by decide +kernel
theorem dX4_passDawn_56 : decode cX4_passDawn 56 = .ok (.iconst 1, 1) := by decide +kernel
theorem dX4_passDawn_57 : decode cX4_passDawn 57 = .ok (.iadd, 1) := by decide +kernel
theorem dX4_passDawn_58 : decode cX4_passDawn 58 = .ok (.putfield 21, 3) := by decide +kernel
theorem dX4_passDawn_61 : decode cX4_passDawn 61 = .ok (.iload_n 2, 1) := by decide +kernel
theorem dX4_passDawn_62 : decode cX4_passDawn 62 = .ok (.ireturn, 1) := by decide +kernel
theorem dX4_strike_0 : decode cX4_strike 0 = .ok (.iconst 0, 1) := by decide +kernel
theorem dX4_strike_1 : decode cX4_strike 1 = .ok (.istore_n 3, 1) := by decide +kernel
theorem dX4_strike_2 : decode cX4_strike 2 = .ok (.iconst 0, 1) := by decide +kernel
theorem dX4_strike_3 : decode cX4_strike 3 = .ok (.istore 4, 2) := by decide +kernel
theorem dX4_strike_5 : decode cX4_strike 5 = .ok (.iload 4, 2) := by decide +kernel
theorem dX4_strike_7 : decode cX4_strike 7 = .ok (.aload_n 1, 1) := by decide +kernel
theorem dX4_strike_8 : decode cX4_strike 8 = .ok (.getfield 89, 3) := by decide +kernel
theorem dX4_strike_11 : decode cX4_strike 11 = .ok (.if_icmp .ge 49, 3) := by decide +kernel
theorem dX4_strike_14 : decode cX4_strike 14 = .ok (.aload_n 0, 1) := by decide +kernel
theorem dX4_strike_15 : decode cX4_strike 15 = .ok (.iload_n 2, 1) := by decide +kernel
theorem dX4_strike_16 : decode cX4_strike 16 = .ok (.invokevirtual 54, 3) := by decide +kernel
theorem dX4_strike_19 : decode cX4_strike 19 = .ok (.aload_n 1, 1) := by decide +kernel
theorem dX4_strike_20 : decode cX4_strike 20 = .ok (.iload 4, 2) := by decide +kernel
theorem dX4_strike_22 : decode cX4_strike 22 = .ok (.invokevirtual 92, 3) := by decide +kernel
theorem dX4_strike_25 : decode cX4_strike 25 = .ok (.invokestatic 61, 3) := by decide +kernel
theorem dX4_strike_28 : decode cX4_strike 28 = .ok (.ifCond .eq 26, 3) := by decide +kernel
theorem dX4_strike_31 : decode cX4_strike 31 = .ok (.aload_n 0, 1) := by decide +kernel
theorem dX4_strike_32 : decode cX4_strike 32 = .ok (.iload 4, 2) := by decide +kernel
theorem dX4_strike_34 : decode cX4_strike 34 = .ok (.iload_n 2, 1) := by decide +kernel
theorem dX4_strike_35 : decode cX4_strike 35 = .ok (.invokevirtual 71, 3) := by decide +kernel
theorem dX4_strike_38 : decode cX4_strike 38 = .ok (.bipush 99, 2) := by decide +kernel
theorem dX4_strike_40 : decode cX4_strike 40 = .ok (.if_icmp .ge 14, 3) := by decide +kernel
theorem dX4_strike_43 : decode cX4_strike 43 = .ok (.aload_n 0, 1) := by decide +kernel
theorem dX4_strike_44 : decode cX4_strike 44 = .ok (.iload 4, 2) := by decide +kernel
theorem dX4_strike_46 : decode cX4_strike 46 = .ok (.iload_n 2, 1) := by decide +kernel
theorem dX4_strike_47 : decode cX4_strike 47 = .ok (.iconst 1, 1) := by decide +kernel
theorem dX4_strike_48 : decode cX4_strike 48 = .ok (.invokevirtual 95, 3) := by decide +kernel
theorem dX4_strike_51 : decode cX4_strike 51 = .ok (.iinc 3 1, 3) := by decide +kernel
theorem dX4_strike_54 : decode cX4_strike 54 = .ok (.iinc 4 1, 3) := by decide +kernel
theorem dX4_strike_57 : decode cX4_strike 57 = .ok (.goto (-52), 3) := by decide +kernel
theorem dX4_strike_60 : decode cX4_strike 60 = .ok (.iload_n 3, 1) := by decide +kernel
theorem dX4_strike_61 : decode cX4_strike 61 = .ok (.ireturn, 1) := by decide +kernel
theorem dX4_valueOf_0 : decode cX4_valueOf 0 = .ok (.aload_n 1, 1) := by decide +kernel
theorem dX4_valueOf_1 : decode cX4_valueOf 1 = .ok (.aload_n 0, 1) := by decide +kernel
theorem dX4_valueOf_2 : decode cX4_valueOf 2 = .ok (.getfield 21, 3) := by decide +kernel
theorem dX4_valueOf_5 : decode cX4_valueOf 5 = .ok (.iload_n 2, 1) := by decide +kernel
theorem dX4_valueOf_6 : decode cX4_valueOf 6 = .ok (.aload_n 0, 1) := by decide +kernel
theorem dX4_valueOf_7 : decode cX4_valueOf 7 = .ok (.iload_n 2, 1) := by decide +kernel
theorem dX4_valueOf_8 : decode cX4_valueOf 8 = .ok (.invokevirtual 54, 3) := by decide +kernel
theorem dX4_valueOf_11 : decode cX4_valueOf 11 = .ok (.aload_n 0, 1) := by decide +kernel
theorem dX4_valueOf_12 : decode cX4_valueOf 12 = .ok (.iload_n 2, 1) := by decide +kernel
theorem dX4_valueOf_13 : decode cX4_valueOf 13 = .ok (.invokevirtual 58, 3) := by decide +kernel
theorem dX4_valueOf_16 : decode cX4_valueOf 16 = .ok (.invokevirtual 99, 3) := by decide +kernel
theorem dX4_valueOf_19 : decode cX4_valueOf 19 = .ok (.ireturn, 1) := by decide +kernel
theorem dX4_valueOfAll_0 : decode cX4_valueOfAll 0 = .ok (.iconst 0, 1) := by decide +kernel
theorem dX4_valueOfAll_1 : decode cX4_valueOfAll 1 = .ok (.istore_n 2, 1) := by decide +kernel
theorem dX4_valueOfAll_2 : decode cX4_valueOfAll 2 = .ok (.iconst 0, 1) := by decide +kernel
theorem dX4_valueOfAll_3 : decode cX4_valueOfAll 3 = .ok (.istore_n 3, 1) := by decide +kernel
theorem dX4_valueOfAll_4 : decode cX4_valueOfAll 4 = .ok (.iload_n 3, 1) := by decide +kernel
theorem dX4_valueOfAll_5 : decode cX4_valueOfAll 5 = .ok (.aload_n 1, 1) := by decide +kernel
theorem dX4_valueOfAll_6 : decode cX4_valueOfAll 6 = .ok (.getfield 102, 3) := by decide +kernel
theorem dX4_valueOfAll_9 : decode cX4_valueOfAll 9 = .ok (.if_icmp .ge 18, 3) := by decide +kernel
theorem dX4_valueOfAll_12 : decode cX4_valueOfAll 12 = .ok (.iload_n 2, 1) := by decide +kernel
theorem dX4_valueOfAll_13 : decode cX4_valueOfAll 13 = .ok (.aload_n 0, 1) := by decide +kernel
theorem dX4_valueOfAll_14 : decode cX4_valueOfAll 14 = .ok (.aload_n 1, 1) := by decide +kernel
theorem dX4_valueOfAll_15 : decode cX4_valueOfAll 15 = .ok (.iload_n 3, 1) := by decide +kernel
theorem dX4_valueOfAll_16 : decode cX4_valueOfAll 16 = .ok (.invokevirtual 67, 3) := by decide +kernel
theorem dX4_valueOfAll_19 : decode cX4_valueOfAll 19 = .ok (.iadd, 1) := by decide +kernel
theorem dX4_valueOfAll_20 : decode cX4_valueOfAll 20 = .ok (.istore_n 2, 1) := by decide +kernel
theorem dX4_valueOfAll_21 : decode cX4_valueOfAll 21 = .ok (.iinc 3 1, 3) := by decide +kernel
theorem dX4_valueOfAll_24 : decode cX4_valueOfAll 24 = .ok (.goto (-20), 3) := by decide +kernel
theorem dX4_valueOfAll_27 : decode cX4_valueOfAll 27 = .ok (.iload_n 2, 1) := by decide +kernel
theorem dX4_valueOfAll_28 : decode cX4_valueOfAll 28 = .ok (.ireturn, 1) := by decide +kernel
theorem dX4_valueOfSet_0 : decode cX4_valueOfSet 0 = .ok (.iconst 0, 1) := by decide +kernel
theorem dX4_valueOfSet_1 : decode cX4_valueOfSet 1 = .ok (.istore 4, 2) := by decide +kernel
theorem dX4_valueOfSet_3 : decode cX4_valueOfSet 3 = .ok (.iconst 0, 1) := by decide +kernel
theorem dX4_valueOfSet_4 : decode cX4_valueOfSet 4 = .ok (.istore 5, 2) := by decide +kernel
theorem dX4_valueOfSet_6 : decode cX4_valueOfSet 6 = .ok (.iload 5, 2) := by decide +kernel
theorem dX4_valueOfSet_8 : decode cX4_valueOfSet 8 = .ok (.aload_n 1, 1) := by decide +kernel
theorem dX4_valueOfSet_9 : decode cX4_valueOfSet 9 = .ok (.getfield 102, 3) := by decide +kernel
theorem dX4_valueOfSet_12 : decode cX4_valueOfSet 12 = .ok (.if_icmp .ge 38, 3) := by decide +kernel
theorem dX4_valueOfSet_15 : decode cX4_valueOfSet 15 = .ok (.iload_n 3, 1) := by decide +kernel
theorem dX4_valueOfSet_16 : decode cX4_valueOfSet 16 = .ok (.iload 5, 2) := by decide +kernel
theorem dX4_valueOfSet_18 : decode cX4_valueOfSet 18 = .ok (.invokestatic 61, 3) := by decide +kernel
theorem dX4_valueOfSet_21 : decode cX4_valueOfSet 21 = .ok (.ifCond .eq 23, 3) := by decide +kernel
theorem dX4_valueOfSet_24 : decode cX4_valueOfSet 24 = .ok (.iload 4, 2) := by decide +kernel
theorem dX4_valueOfSet_26 : decode cX4_valueOfSet 26 = .ok (.aload_n 0, 1) := by decide +kernel
theorem dX4_valueOfSet_27 : decode cX4_valueOfSet 27 = .ok (.iload_n 2, 1) := by decide +kernel
theorem dX4_valueOfSet_28 : decode cX4_valueOfSet 28 = .ok (.iload 5, 2) := by decide +kernel
theorem dX4_valueOfSet_30 : decode cX4_valueOfSet 30 = .ok (.invokevirtual 71, 3) := by decide +kernel
theorem dX4_valueOfSet_33 : decode cX4_valueOfSet 33 = .ok (.aload_n 0, 1) := by decide +kernel
theorem dX4_valueOfSet_34 : decode cX4_valueOfSet 34 = .ok (.aload_n 1, 1) := by decide +kernel
theorem dX4_valueOfSet_35 : decode cX4_valueOfSet 35 = .ok (.iload 5, 2) := by decide +kernel
theorem dX4_valueOfSet_37 : decode cX4_valueOfSet 37 = .ok (.invokevirtual 67, 3) := by decide +kernel
theorem dX4_valueOfSet_40 : decode cX4_valueOfSet 40 = .ok (.imul, 1) := by decide +kernel
theorem dX4_valueOfSet_41 : decode cX4_valueOfSet 41 = .ok (.iadd, 1) := by decide +kernel
theorem dX4_valueOfSet_42 : decode cX4_valueOfSet 42 = .ok (.istore 4, 2) := by decide +kernel
theorem dX4_valueOfSet_44 : decode cX4_valueOfSet 44 = .ok (.iinc 5 1, 3) := by decide +kernel
theorem dX4_valueOfSet_47 : decode cX4_valueOfSet 47 = .ok (.goto (-41), 3) := by decide +kernel
theorem dX4_valueOfSet_50 : decode cX4_valueOfSet 50 = .ok (.iload 4, 2) := by decide +kernel
theorem dX4_valueOfSet_52 : decode cX4_valueOfSet 52 = .ok (.ireturn, 1) := by decide +kernel
theorem dX4_valueOfPurses_0 : decode cX4_valueOfPurses 0 = .ok (.iconst 0, 1) := by decide +kernel
theorem dX4_valueOfPurses_1 : decode cX4_valueOfPurses 1 = .ok (.istore_n 2, 1) := by decide +kernel
theorem dX4_valueOfPurses_2 : decode cX4_valueOfPurses 2 = .ok (.iconst 0, 1) := by decide +kernel
theorem dX4_valueOfPurses_3 : decode cX4_valueOfPurses 3 = .ok (.istore_n 3, 1) := by decide +kernel
theorem dX4_valueOfPurses_4 : decode cX4_valueOfPurses 4 = .ok (.iload_n 3, 1) := by decide +kernel
theorem dX4_valueOfPurses_5 : decode cX4_valueOfPurses 5 = .ok (.aload_n 1, 1) := by decide +kernel
theorem dX4_valueOfPurses_6 : decode cX4_valueOfPurses 6 = .ok (.getfield 89, 3) := by decide +kernel
theorem dX4_valueOfPurses_9 : decode cX4_valueOfPurses 9 = .ok (.if_icmp .ge 20, 3) := by decide +kernel
theorem dX4_valueOfPurses_12 : decode cX4_valueOfPurses 12 = .ok (.iload_n 2, 1) := by decide +kernel
theorem dX4_valueOfPurses_13 : decode cX4_valueOfPurses 13 = .ok (.aload_n 0, 1) := by decide +kernel
theorem dX4_valueOfPurses_14 : decode cX4_valueOfPurses 14 = .ok (.aload_n 1, 1) := by decide +kernel
theorem dX4_valueOfPurses_15 : decode cX4_valueOfPurses 15 = .ok (.iload_n 3, 1) := by decide +kernel
theorem dX4_valueOfPurses_16 : decode cX4_valueOfPurses 16 = .ok (.bipush 31, 2) := by decide +kernel
theorem dX4_valueOfPurses_18 : decode cX4_valueOfPurses 18 = .ok (.invokevirtual 105, 3) := by decide +kernel
theorem dX4_valueOfPurses_21 : decode cX4_valueOfPurses 21 = .ok (.iadd, 1) := by decide +kernel
theorem dX4_valueOfPurses_22 : decode cX4_valueOfPurses 22 = .ok (.istore_n 2, 1) := by decide +kernel
theorem dX4_valueOfPurses_23 : decode cX4_valueOfPurses 23 = .ok (.iinc 3 1, 3) := by decide +kernel
theorem dX4_valueOfPurses_26 : decode cX4_valueOfPurses 26 = .ok (.goto (-22), 3) := by decide +kernel
theorem dX4_valueOfPurses_29 : decode cX4_valueOfPurses 29 = .ok (.iload_n 2, 1) := by decide +kernel
theorem dX4_valueOfPurses_30 : decode cX4_valueOfPurses 30 = .ok (.ireturn, 1) := by decide +kernel
theorem dX4_allCoins_0 : decode cX4_allCoins 0 = .ok (.iconst 0, 1) := by decide +kernel
theorem dX4_allCoins_1 : decode cX4_allCoins 1 = .ok (.istore_n 1, 1) := by decide +kernel
theorem dX4_allCoins_2 : decode cX4_allCoins 2 = .ok (.iconst 0, 1) := by decide +kernel
theorem dX4_allCoins_3 : decode cX4_allCoins 3 = .ok (.istore_n 2, 1) := by decide +kernel
theorem dX4_allCoins_4 : decode cX4_allCoins 4 = .ok (.iload_n 2, 1) := by decide +kernel
theorem dX4_allCoins_5 : decode cX4_allCoins 5 = .ok (.aload_n 0, 1) := by decide +kernel
theorem dX4_allCoins_6 : decode cX4_allCoins 6 = .ok (.getfield 18, 3) := by decide +kernel
theorem dX4_allCoins_9 : decode cX4_allCoins 9 = .ok (.arraylength, 1) := by decide +kernel
theorem dX4_allCoins_10 : decode cX4_allCoins 10 = .ok (.if_icmp .ge 18, 3) := by decide +kernel
theorem dX4_allCoins_13 : decode cX4_allCoins 13 = .ok (.iload_n 1, 1) := by decide +kernel
theorem dX4_allCoins_14 : decode cX4_allCoins 14 = .ok (.aload_n 0, 1) := by decide +kernel
theorem dX4_allCoins_15 : decode cX4_allCoins 15 = .ok (.getfield 18, 3) := by decide +kernel
theorem dX4_allCoins_18 : decode cX4_allCoins 18 = .ok (.iload_n 2, 1) := by decide +kernel
theorem dX4_allCoins_19 : decode cX4_allCoins 19 = .ok (.iaload, 1) := by decide +kernel
theorem dX4_allCoins_20 : decode cX4_allCoins 20 = .ok (.iadd, 1) := by decide +kernel
theorem dX4_allCoins_21 : decode cX4_allCoins 21 = .ok (.istore_n 1, 1) := by decide +kernel
theorem dX4_allCoins_22 : decode cX4_allCoins 22 = .ok (.iinc 2 1, 3) := by decide +kernel
theorem dX4_allCoins_25 : decode cX4_allCoins 25 = .ok (.goto (-21), 3) := by decide +kernel
theorem dX4_allCoins_28 : decode cX4_allCoins 28 = .ok (.iload_n 1, 1) := by decide +kernel
theorem dX4_allCoins_29 : decode cX4_allCoins 29 = .ok (.ireturn, 1) := by decide +kernel
theorem dX4_rumoursSaid_0 : decode cX4_rumoursSaid 0 = .ok (.iconst 0, 1) := by decide +kernel
theorem dX4_rumoursSaid_1 : decode cX4_rumoursSaid 1 = .ok (.istore_n 1, 1) := by decide +kernel
theorem dX4_rumoursSaid_2 : decode cX4_rumoursSaid 2 = .ok (.iconst 0, 1) := by decide +kernel
theorem dX4_rumoursSaid_3 : decode cX4_rumoursSaid 3 = .ok (.istore_n 2, 1) := by decide +kernel
theorem dX4_rumoursSaid_4 : decode cX4_rumoursSaid 4 = .ok (.iload_n 2, 1) := by decide +kernel
theorem dX4_rumoursSaid_5 : decode cX4_rumoursSaid 5 = .ok (.iconst 5, 1) := by decide +kernel
theorem dX4_rumoursSaid_6 : decode cX4_rumoursSaid 6 = .ok (.if_icmp .ge 28, 3) := by decide +kernel
theorem dX4_rumoursSaid_9 : decode cX4_rumoursSaid 9 = .ok (.iload_n 1, 1) := by decide +kernel
theorem dX4_rumoursSaid_10 : decode cX4_rumoursSaid 10 = .ok (.aload_n 0, 1) := by decide +kernel
theorem dX4_rumoursSaid_11 : decode cX4_rumoursSaid 11 = .ok (.getfield 9, 3) := by decide +kernel
theorem dX4_rumoursSaid_14 : decode cX4_rumoursSaid 14 = .ok (.iload_n 2, 1) := by decide +kernel
theorem dX4_rumoursSaid_15 : decode cX4_rumoursSaid 15 = .ok (.iaload, 1) := by decide +kernel
theorem dX4_rumoursSaid_16 : decode cX4_rumoursSaid 16 = .ok (.ifCond .eq 9, 3) := by decide +kernel
theorem dX4_rumoursSaid_19 : decode cX4_rumoursSaid 19 = .ok (.iconst 1, 1) := by decide +kernel
theorem dX4_rumoursSaid_20 : decode cX4_rumoursSaid 20 = .ok (.iload_n 2, 1) := by decide +kernel
theorem dX4_rumoursSaid_21 : decode cX4_rumoursSaid 21 = .ok (.ishl, 1) := by decide +kernel
theorem dX4_rumoursSaid_22 : decode cX4_rumoursSaid 22 = .ok (.goto 4, 3) := by decide +kernel
theorem dX4_rumoursSaid_25 : decode cX4_rumoursSaid 25 = .ok (.iconst 0, 1) := by decide +kernel
theorem dX4_rumoursSaid_26 : decode cX4_rumoursSaid 26 = .ok (.ior, 1) := by decide +kernel
theorem dX4_rumoursSaid_27 : decode cX4_rumoursSaid 27 = .ok (.istore_n 1, 1) := by decide +kernel
theorem dX4_rumoursSaid_28 : decode cX4_rumoursSaid 28 = .ok (.iinc 2 1, 3) := by decide +kernel
theorem dX4_rumoursSaid_31 : decode cX4_rumoursSaid 31 = .ok (.goto (-27), 3) := by decide +kernel
theorem dX4_rumoursSaid_34 : decode cX4_rumoursSaid 34 = .ok (.iload_n 1, 1) := by decide +kernel
theorem dX4_rumoursSaid_35 : decode cX4_rumoursSaid 35 = .ok (.ireturn, 1) := by decide +kernel
theorem dX5_init_0 : decode cX5_init 0 = .ok (.aload_n 0, 1) := by decide +kernel
theorem dX5_init_1 : decode cX5_init 1 = .ok (.invokespecial 3, 3) := by decide +kernel
theorem dX5_init_4 : decode cX5_init 4 = .ok (.aload_n 0, 1) := by decide +kernel
theorem dX5_init_5 : decode cX5_init 5 = .ok (.iconst 5, 1) := by decide +kernel
theorem dX5_init_6 : decode cX5_init 6 = .ok (.newarray .int, 2) := by decide +kernel
theorem dX5_init_8 : decode cX5_init 8 = .ok (.putfield 9, 3) := by decide +kernel
theorem dX5_init_11 : decode cX5_init 11 = .ok (.aload_n 0, 1) := by decide +kernel
theorem dX5_init_12 : decode cX5_init 12 = .ok (.iconst 5, 1) := by decide +kernel
theorem dX5_init_13 : decode cX5_init 13 = .ok (.newarray .boolean, 2) := by decide +kernel
theorem dX5_init_15 : decode cX5_init 15 = .ok (.putfield 15, 3) := by decide +kernel
theorem dX5_init_18 : decode cX5_init 18 = .ok (.aload_n 0, 1) := by decide +kernel
theorem dX5_init_19 : decode cX5_init 19 = .ok (.iconst 5, 1) := by decide +kernel
theorem dX5_init_20 : decode cX5_init 20 = .ok (.newarray .int, 2) := by decide +kernel
theorem dX5_init_22 : decode cX5_init 22 = .ok (.putfield 19, 3) := by decide +kernel
theorem dX5_init_25 : decode cX5_init 25 = .ok (.aload_n 0, 1) := by decide +kernel
theorem dX5_init_26 : decode cX5_init 26 = .ok (.iconst 5, 1) := by decide +kernel
theorem dX5_init_27 : decode cX5_init 27 = .ok (.newarray .int, 2) := by decide +kernel
theorem dX5_init_29 : decode cX5_init 29 = .ok (.putfield 22, 3) := by decide +kernel
theorem dX5_init_32 : decode cX5_init 32 = .ok (.aload_n 0, 1) := by decide +kernel
theorem dX5_init_33 : decode cX5_init 33 = .ok (.iconst 5, 1) := by decide +kernel
theorem dX5_init_34 : decode cX5_init 34 = .ok (.newarray .int, 2) := by decide +kernel
theorem dX5_init_36 : decode cX5_init 36 = .ok (.putfield 25, 3) := by decide +kernel
theorem dX5_init_39 : decode cX5_init 39 = .ok (.aload_n 0, 1) := by decide +kernel
theorem dX5_init_40 : decode cX5_init 40 = .ok (.iconst 4, 1) := by decide +kernel
theorem dX5_init_41 : decode cX5_init 41 = .ok (.newarray .int, 2) := by decide +kernel
theorem dX5_init_43 : decode cX5_init 43 = .ok (.putfield 28, 3) := by decide +kernel
theorem dX5_init_46 : decode cX5_init 46 = .ok (.return_, 1) := by decide +kernel
theorem dX5_clear_0 : decode cX5_clear 0 = .ok (.aload_n 0, 1) := by decide +kernel
theorem dX5_clear_1 : decode cX5_clear 1 = .ok (.iconst 0, 1) := by decide +kernel
theorem dX5_clear_2 : decode cX5_clear 2 = .ok (.putfield 31, 3) := by decide +kernel
theorem dX5_clear_5 : decode cX5_clear 5 = .ok (.aload_n 0, 1) := by decide +kernel
theorem dX5_clear_6 : decode cX5_clear 6 = .ok (.iconst 0, 1) := by decide +kernel
theorem dX5_clear_7 : decode cX5_clear 7 = .ok (.putfield 35, 3) := by decide +kernel
theorem dX5_clear_10 : decode cX5_clear 10 = .ok (.return_, 1) := by decide +kernel
theorem dX5_hasRumour_0 : decode cX5_hasRumour 0 = .ok (.iload_n 1, 1) := by decide +kernel
theorem dX5_hasRumour_1 : decode cX5_hasRumour 1 = .ok (.ifCond .lt 20, 3) := by decide +kernel
theorem dX5_hasRumour_4 : decode cX5_hasRumour 4 = .ok (.iload_n 1, 1) := by decide +kernel
theorem dX5_hasRumour_5 : decode cX5_hasRumour 5 = .ok (.aload_n 0, 1) := by decide +kernel
theorem dX5_hasRumour_6 : decode cX5_hasRumour 6 = .ok (.getfield 31, 3) := by decide +kernel
theorem dX5_hasRumour_9 : decode cX5_hasRumour 9 = .ok (.if_icmp .ge 12, 3) := by decide +kernel
theorem dX5_hasRumour_12 : decode cX5_hasRumour 12 = .ok (.iload_n 1, 1) := by decide +kernel
theorem dX5_hasRumour_13 : decode cX5_hasRumour 13 = .ok (.iconst 5, 1) := by decide +kernel
theorem dX5_hasRumour_14 : decode cX5_hasRumour 14 = .ok (.if_icmp .ge 7, 3) := by decide +kernel
theorem dX5_hasRumour_17 : decode cX5_hasRumour 17 = .ok (.iconst 1, 1) := by decide +kernel
theorem dX5_hasRumour_18 : decode cX5_hasRumour 18 = .ok (.goto 4, 3) := by decide +kernel
theorem dX5_hasRumour_21 : decode cX5_hasRumour 21 = .ok (.iconst 0, 1) := by decide +kernel
theorem dX5_hasRumour_22 : decode cX5_hasRumour 22 = .ok (.ireturn, 1) := by decide +kernel
theorem dX5_hasPerson_0 : decode cX5_hasPerson 0 = .ok (.iload_n 1, 1) := by decide +kernel
theorem dX5_hasPerson_1 : decode cX5_hasPerson 1 = .ok (.ifCond .lt 20, 3) := by decide +kernel
theorem dX5_hasPerson_4 : decode cX5_hasPerson 4 = .ok (.iload_n 1, 1) := by decide +kernel
theorem dX5_hasPerson_5 : decode cX5_hasPerson 5 = .ok (.aload_n 0, 1) := by decide +kernel
theorem dX5_hasPerson_6 : decode cX5_hasPerson 6 = .ok (.getfield 35, 3) := by decide +kernel
theorem dX5_hasPerson_9 : decode cX5_hasPerson 9 = .ok (.if_icmp .ge 12, 3) := by decide +kernel
theorem dX5_hasPerson_12 : decode cX5_hasPerson 12 = .ok (.iload_n 1, 1) := by decide +kernel
theorem dX5_hasPerson_13 : decode cX5_hasPerson 13 = .ok (.iconst 4, 1) := by decide +kernel
theorem dX5_hasPerson_14 : decode cX5_hasPerson 14 = .ok (.if_icmp .ge 7, 3) := by decide +kernel
theorem dX5_hasPerson_17 : decode cX5_hasPerson 17 = .ok (.iconst 1, 1) := by decide +kernel
theorem dX5_hasPerson_18 : decode cX5_hasPerson 18 = .ok (.goto 4, 3) := by decide +kernel
theorem dX5_hasPerson_21 : decode cX5_hasPerson 21 = .ok (.iconst 0, 1) := by decide +kernel
theorem dX5_hasPerson_22 : decode cX5_hasPerson 22 = .ok (.ireturn, 1) := by decide +kernel
theorem dX5_seatOf_0 : decode cX5_seatOf 0 = .ok (.aload_n 0, 1) := by decide +kernel
theorem dX5_seatOf_1 : decode cX5_seatOf 1 = .ok (.getfield 28, 3) := by decide +kernel
theorem dX5_seatOf_4 : decode cX5_seatOf 4 = .ok (.iload_n 1, 1) := by decide +kernel
theorem dX5_seatOf_5 : decode cX5_seatOf 5 = .ok (.invokestatic 38, 3) := by decide +kernel
theorem dX5_seatOf_8 : decode cX5_seatOf 8 = .ok (.ireturn, 1) := by decide +kernel
theorem dX5_isLie_0 : decode cX5_isLie 0 = .ok (.aload_n 0, 1) := by decide +kernel
theorem dX5_isLie_1 : decode cX5_isLie 1 = .ok (.iload_n 1, 1) := by decide +kernel
theorem dX5_isLie_2 : decode cX5_isLie 2 = .ok (.invokevirtual 42, 3) := by decide +kernel
theorem dX5_isLie_5 : decode cX5_isLie 5 = .ok (.ifCond .eq 16, 3) := by decide +kernel
theorem dX5_isLie_8 : decode cX5_isLie 8 = .ok (.aload_n 0, 1) := by decide +kernel
theorem dX5_isLie_9 : decode cX5_isLie 9 = .ok (.getfield 15, 3) := by decide +kernel
theorem dX5_isLie_12 : decode cX5_isLie 12 = .ok (.iload_n 1, 1) := by decide +kernel
theorem dX5_isLie_13 : decode cX5_isLie 13 = .ok (.baload, 1) := by decide +kernel
theorem dX5_isLie_14 : decode cX5_isLie 14 = .ok (.ifCond .eq 7, 3) := by decide +kernel
theorem dX5_isLie_17 : decode cX5_isLie 17 = .ok (.iconst 1, 1) := by decide +kernel
theorem dX5_isLie_18 : decode cX5_isLie 18 = .ok (.goto 4, 3) := by decide +kernel
theorem dX5_isLie_21 : decode cX5_isLie 21 = .ok (.iconst 0, 1) := by decide +kernel
theorem dX5_isLie_22 : decode cX5_isLie 22 = .ok (.ireturn, 1) := by decide +kernel
theorem dX5_isProved_0 : decode cX5_isProved 0 = .ok (.aload_n 0, 1) := by decide +kernel
theorem dX5_isProved_1 : decode cX5_isProved 1 = .ok (.getfield 19, 3) := by decide +kernel
theorem dX5_isProved_4 : decode cX5_isProved 4 = .ok (.iload_n 1, 1) := by decide +kernel
theorem dX5_isProved_5 : decode cX5_isProved 5 = .ok (.invokestatic 38, 3) := by decide +kernel
theorem dX5_isProved_8 : decode cX5_isProved 8 = .ok (.istore_n 3, 1) := by decide +kernel
theorem dX5_isProved_9 : decode cX5_isProved 9 = .ok (.iload_n 3, 1) := by decide +kernel
theorem dX5_isProved_10 : decode cX5_isProved 10 = .ok (.ifCond .eq 12, 3) := by decide +kernel
theorem dX5_isProved_13 : decode cX5_isProved 13 = .ok (.iload_n 2, 1) := by decide +kernel
theorem dX5_isProved_14 : decode cX5_isProved 14 = .ok (.iload_n 3, 1) := by decide +kernel
theorem dX5_isProved_15 : decode cX5_isProved 15 = .ok (.if_icmp .lt 7, 3) := by decide +kernel
theorem dX5_isProved_18 : decode cX5_isProved 18 = .ok (.iconst 1, 1) := by decide +kernel
theorem dX5_isProved_19 : decode cX5_isProved 19 = .ok (.goto 4, 3) := by decide +kernel
theorem dX5_isProved_22 : decode cX5_isProved 22 = .ok (.iconst 0, 1) := by decide +kernel
theorem dX5_isProved_23 : decode cX5_isProved 23 = .ok (.ireturn, 1) := by decide +kernel
theorem dX5_isProvedTrue_0 : decode cX5_isProvedTrue 0 = .ok (.aload_n 0, 1) := by decide +kernel
theorem dX5_isProvedTrue_1 : decode cX5_isProvedTrue 1 = .ok (.iload_n 1, 1) := by decide +kernel
theorem dX5_isProvedTrue_2 : decode cX5_isProvedTrue 2 = .ok (.iload_n 2, 1) := by decide +kernel
theorem dX5_isProvedTrue_3 : decode cX5_isProvedTrue 3 = .ok (.invokevirtual 46, 3) := by decide +kernel
theorem dX5_isProvedTrue_6 : decode cX5_isProvedTrue 6 = .ok (.ifCond .eq 15, 3) := by decide +kernel
theorem dX5_isProvedTrue_9 : decode cX5_isProvedTrue 9 = .ok (.aload_n 0, 1) := by decide +kernel
theorem dX5_isProvedTrue_10 : decode cX5_isProvedTrue 10 = .ok (.iload_n 1, 1) := by decide +kernel
theorem dX5_isProvedTrue_11 : decode cX5_isProvedTrue 11 = .ok (.invokevirtual 50, 3) := by decide +kernel
theorem dX5_isProvedTrue_14 : decode cX5_isProvedTrue 14 = .ok (.ifCond .ne 7, 3) := by decide +kernel
theorem dX5_isProvedTrue_17 : decode cX5_isProvedTrue 17 = .ok (.iconst 1, 1) := by decide +kernel
theorem dX5_isProvedTrue_18 : decode cX5_isProvedTrue 18 = .ok (.goto 4, 3) := by decide +kernel
theorem dX5_isProvedTrue_21 : decode cX5_isProvedTrue 21 = .ok (.iconst 0, 1) := by decide +kernel
theorem dX5_isProvedTrue_22 : decode cX5_isProvedTrue 22 = .ok (.ireturn, 1) := by decide +kernel
theorem dX5_valueOn_0 : decode cX5_valueOn 0 = .ok (.aload_n 0, 1) := by decide +kernel
theorem dX5_valueOn_1 : decode cX5_valueOn 1 = .ok (.getfield 9, 3) := by decide +kernel
theorem dX5_valueOn_4 : decode cX5_valueOn 4 = .ok (.iload_n 2, 1) := by decide +kernel
theorem dX5_valueOn_5 : decode cX5_valueOn 5 = .ok (.invokestatic 38, 3) := by decide +kernel
theorem dX5_valueOn_8 : decode cX5_valueOn 8 = .ok (.istore 5, 2) := by decide +kernel
theorem dX5_valueOn_10 : decode cX5_valueOn 10 = .ok (.aload_n 0, 1) := by decide +kernel
theorem dX5_valueOn_11 : decode cX5_valueOn 11 = .ok (.iload_n 2, 1) := by decide +kernel
theorem dX5_valueOn_12 : decode cX5_valueOn 12 = .ok (.iload_n 1, 1) := by decide +kernel
theorem dX5_valueOn_13 : decode cX5_valueOn 13 = .ok (.invokevirtual 46, 3) := by decide +kernel
theorem dX5_valueOn_16 : decode cX5_valueOn 16 = .ok (.ifCond .eq 20, 3) := by decide +kernel
theorem dX5_valueOn_19 : decode cX5_valueOn 19 = .ok (.aload_n 0, 1) := by decide +kernel
theorem dX5_valueOn_20 : decode cX5_valueOn 20 = .ok (.iload_n 2, 1) := by decide +kernel
theorem dX5_valueOn_21 : decode cX5_valueOn 21 = .ok (.invokevirtual 50, 3) := by decide +kernel
theorem dX5_valueOn_24 : decode cX5_valueOn 24 = .ok (.ifCond .eq 7, 3) := by decide +kernel
theorem dX5_valueOn_27 : decode cX5_valueOn 27 = .ok (.iconst 0, 1) := by decide +kernel
theorem dX5_valueOn_28 : decode cX5_valueOn 28 = .ok (.goto 7, 3) := by decide +kernel
theorem dX5_valueOn_31 : decode cX5_valueOn 31 = .ok (.iconst 2, 1) := by decide +kernel
theorem dX5_valueOn_32 : decode cX5_valueOn 32 = .ok (.iload 5, 2) := by decide +kernel
theorem dX5_valueOn_34 : decode cX5_valueOn 34 = .ok (.imul, 1) := by decide +kernel
theorem dX5_valueOn_35 : decode cX5_valueOn 35 = .ok (.ireturn, 1) := by decide +kernel
theorem dX5_valueOn_36 : decode cX5_valueOn 36 = .ok (.iconst 0, 1) := by decide +kernel
theorem dX5_valueOn_37 : decode cX5_valueOn 37 = .ok (.iload 5, 2) := by decide +kernel
theorem dX5_valueOn_39 : decode cX5_valueOn 39 = .ok (.iload_n 3, 1) := by decide +kernel
theorem dX5_valueOn_40 : decode cX5_valueOn 40 = .ok (.invokestatic 53, 3) := by decide +kernel
theorem dX5_valueOn_43 : decode cX5_valueOn 43 = .ok (.iadd, 1) := by decide +kernel
theorem dX5_valueOn_44 : decode cX5_valueOn 44 = .ok (.iload 4, 2) := by decide +kernel
theorem dX5_valueOn_46 : decode cX5_valueOn 46 = .ok (.invokestatic 53, 3) := by decide +kernel
theorem dX5_valueOn_49 : decode cX5_valueOn 49 = .ok (.isub, 1) := by decide +kernel
theorem dX5_valueOn_50 : decode cX5_valueOn 50 = .ok (.invokestatic 59, 3) := by decide +kernel
theorem dX5_valueOn_53 : decode cX5_valueOn 53 = .ok (.ireturn, 1) := by decide +kernel
theorem dX5_saidAfterDawn_0 : decode cX5_saidAfterDawn 0 = .ok (.aload_n 0, 1) := by decide +kernel
theorem dX5_saidAfterDawn_1 : decode cX5_saidAfterDawn 1 = .ok (.iload_n 1, 1) := by decide +kernel
theorem dX5_saidAfterDawn_2 : decode cX5_saidAfterDawn 2 = .ok (.iload 4, 2) := by decide +kernel
theorem dX5_saidAfterDawn_4 : decode cX5_saidAfterDawn 4 = .ok (.iconst 1, 1) := by decide +kernel
theorem dX5_saidAfterDawn_5 : decode cX5_saidAfterDawn 5 = .ok (.iadd, 1) := by decide +kernel
theorem dX5_saidAfterDawn_6 : decode cX5_saidAfterDawn 6 = .ok (.invokevirtual 46, 3) := by decide +kernel
theorem dX5_saidAfterDawn_9 : decode cX5_saidAfterDawn 9 = .ok (.ifCond .eq 13, 3) := by decide +kernel
theorem dX5_saidAfterDawn_12 : decode cX5_saidAfterDawn 12 = .ok (.aload_n 0, 1) := by decide +kernel
theorem dX5_saidAfterDawn_13 : decode cX5_saidAfterDawn 13 = .ok (.iload_n 1, 1) := by decide +kernel
theorem dX5_saidAfterDawn_14 : decode cX5_saidAfterDawn 14 = .ok (.invokevirtual 50, 3) := by decide +kernel
theorem dX5_saidAfterDawn_17 : decode cX5_saidAfterDawn 17 = .ok (.ifCond .eq 5, 3) := by decide +kernel
theorem dX5_saidAfterDawn_20 : decode cX5_saidAfterDawn 20 = .ok (.iconst 0, 1) := by decide +kernel
theorem dX5_saidAfterDawn_21 : decode cX5_saidAfterDawn 21 = .ok (.ireturn, 1) := by decide +kernel
theorem dX5_saidAfterDawn_22 : decode cX5_saidAfterDawn 22 = .ok (.iload_n 2, 1) := by decide +kernel
theorem dX5_saidAfterDawn_23 : decode cX5_saidAfterDawn 23 = .ok (.iload_n 2, 1) := by decide +kernel
theorem dX5_saidAfterDawn_24 : decode cX5_saidAfterDawn 24 = .ok (.iconst 1, 1) := by decide +kernel
theorem dX5_saidAfterDawn_25 : decode cX5_saidAfterDawn 25 = .ok (.ishl, 1) := by decide +kernel
theorem dX5_saidAfterDawn_26 : decode cX5_saidAfterDawn 26 = .ok (.ior, 1) := by decide +kernel
theorem dX5_saidAfterDawn_27 : decode cX5_saidAfterDawn 27 = .ok (.iload_n 2, 1) := by decide +kernel
theorem dX5_saidAfterDawn_28 : decode cX5_saidAfterDawn 28 = .ok (.iconst 1, 1) := by decide +kernel
theorem dX5_saidAfterDawn_29 : decode cX5_saidAfterDawn 29 = .ok (.ishr, 1) := by decide +kernel
theorem dX5_saidAfterDawn_30 : decode cX5_saidAfterDawn 30 = .ok (.ior, 1) := by decide +kernel
theorem dX5_saidAfterDawn_31 : decode cX5_saidAfterDawn 31 = .ok (.bipush 63, 2) := by decide +kernel
theorem dX5_saidAfterDawn_33 : decode cX5_saidAfterDawn 33 = .ok (.iand, 1) := by decide +kernel
theorem dX5_saidAfterDawn_34 : decode cX5_saidAfterDawn 34 = .ok (.iload_n 3, 1) := by decide +kernel
theorem dX5_saidAfterDawn_35 : decode cX5_saidAfterDawn 35 = .ok (.iconst (-1), 1) := by decide +kernel
theorem dX5_saidAfterDawn_36 : decode cX5_saidAfterDawn 36 = .ok (.ixor, 1) := by decide +kernel
theorem dX5_saidAfterDawn_37 : decode cX5_saidAfterDawn 37 = .ok (.iand, 1) := by decide +kernel
theorem dX5_saidAfterDawn_38 : decode cX5_saidAfterDawn 38 = .ok (.ireturn, 1) := by decide +kernel
theorem dX5_isFreeOfRivals_0 : decode cX5_isFreeOfRivals 0 = .ok (.iconst 0, 1) := by decide +kernel
theorem dX5_isFreeOfRivals_1 : decode cX5_isFreeOfRivals 1 = .ok (.istore_n 2, 1) := by decide +kernel
theorem dX5_isFreeOfRivals_2 : decode cX5_isFreeOfRivals 2 = .ok (.iload_n 2, 1) := by decide +kernel
theorem dX5_isFreeOfRivals_3 : decode cX5_isFreeOfRivals 3 = .ok (.iconst 5, 1) := by decide +kernel
theorem dX5_isFreeOfRivals_4 : decode cX5_isFreeOfRivals 4 = .ok (.if_icmp .ge 30, 3) := by decide +kernel
theorem dX5_isFreeOfRivals_7 : decode cX5_isFreeOfRivals 7 = .ok (.iload_n 1, 1) := by decide +kernel
theorem dX5_isFreeOfRivals_8 : decode cX5_isFreeOfRivals 8 = .ok (.iload_n 2, 1) := by decide +kernel
theorem dX5_isFreeOfRivals_9 : decode cX5_isFreeOfRivals 9 = .ok (.invokestatic 65, 3) := by decide +kernel
theorem dX5_isFreeOfRivals_12 : decode cX5_isFreeOfRivals 12 = .ok (.ifCond .eq 16, 3) := by decide +kernel
theorem dX5_isFreeOfRivals_15 : decode cX5_isFreeOfRivals 15 = .ok (.iload_n 1, 1) := by decide +kernel
theorem dX5_isFreeOfRivals_16 : decode cX5_isFreeOfRivals 16 = .ok (.aload_n 0, 1) := by decide +kernel
theorem dX5_isFreeOfRivals_17 : decode cX5_isFreeOfRivals 17 = .ok (.getfield 22, 3) := by decide +kernel
theorem dX5_isFreeOfRivals_20 : decode cX5_isFreeOfRivals 20 = .ok (.iload_n 2, 1) := by decide +kernel
theorem dX5_isFreeOfRivals_21 : decode cX5_isFreeOfRivals 21 = .ok (.iaload, 1) := by decide +kernel
theorem dX5_isFreeOfRivals_22 : decode cX5_isFreeOfRivals 22 = .ok (.iand, 1) := by decide +kernel
theorem dX5_isFreeOfRivals_23 : decode cX5_isFreeOfRivals 23 = .ok (.ifCond .eq 5, 3) := by decide +kernel
theorem dX5_isFreeOfRivals_26 : decode cX5_isFreeOfRivals 26 = .ok (.iconst 0, 1) := by decide +kernel
theorem dX5_isFreeOfRivals_27 : decode cX5_isFreeOfRivals 27 = .ok (.ireturn, 1) := by decide +kernel
theorem dX5_isFreeOfRivals_28 : decode cX5_isFreeOfRivals 28 = .ok (.iinc 2 1, 3) := by decide +kernel
theorem dX5_isFreeOfRivals_31 : decode cX5_isFreeOfRivals 31 = .ok (.goto (-29), 3) := by decide +kernel
theorem dX5_isFreeOfRivals_34 : decode cX5_isFreeOfRivals 34 = .ok (.iconst 1, 1) := by decide +kernel
theorem dX5_isFreeOfRivals_35 : decode cX5_isFreeOfRivals 35 = .ok (.ireturn, 1) := by decide +kernel
theorem dX5_addRumour_0 : decode cX5_addRumour 0 = .ok (.aload_n 0, 1) := by decide +kernel
theorem dX5_addRumour_1 : decode cX5_addRumour 1 = .ok (.getfield 31, 3) := by decide +kernel
theorem dX5_addRumour_4 : decode cX5_addRumour 4 = .ok (.iconst 5, 1) := by decide +kernel
theorem dX5_addRumour_5 : decode cX5_addRumour 5 = .ok (.invokestatic 68, 3) := by decide +kernel
theorem dX5_addRumour_8 : decode cX5_addRumour 8 = .ok (.ifCond .eq 63, 3) := by decide +kernel
theorem dX5_addRumour_11 : decode cX5_addRumour 11 = .ok (.aload_n 0, 1) := by decide +kernel
theorem dX5_addRumour_12 : decode cX5_addRumour 12 = .ok (.getfield 9, 3) := by decide +kernel
theorem dX5_addRumour_15 : decode cX5_addRumour 15 = .ok (.aload_n 0, 1) := by decide +kernel
theorem dX5_addRumour_16 : decode cX5_addRumour 16 = .ok (.getfield 31, 3) := by decide +kernel
theorem dX5_addRumour_19 : decode cX5_addRumour 19 = .ok (.iload_n 1, 1) := by decide +kernel
theorem dX5_addRumour_20 : decode cX5_addRumour 20 = .ok (.iastore, 1) := by decide +kernel
theorem dX5_addRumour_21 : decode cX5_addRumour 21 = .ok (.aload_n 0, 1) := by decide +kernel
theorem dX5_addRumour_22 : decode cX5_addRumour 22 = .ok (.getfield 15, 3) := by decide +kernel
theorem dX5_addRumour_25 : decode cX5_addRumour 25 = .ok (.aload_n 0, 1) := by decide +kernel
theorem dX5_addRumour_26 : decode cX5_addRumour 26 = .ok (.getfield 31, 3) := by decide +kernel
theorem dX5_addRumour_29 : decode cX5_addRumour 29 = .ok (.iload_n 2, 1) := by decide +kernel
theorem dX5_addRumour_30 : decode cX5_addRumour 30 = .ok (.bastore, 1) := by decide +kernel
theorem dX5_addRumour_31 : decode cX5_addRumour 31 = .ok (.aload_n 0, 1) := by decide +kernel
theorem dX5_addRumour_32 : decode cX5_addRumour 32 = .ok (.getfield 19, 3) := by decide +kernel
theorem dX5_addRumour_35 : decode cX5_addRumour 35 = .ok (.aload_n 0, 1) := by decide +kernel
theorem dX5_addRumour_36 : decode cX5_addRumour 36 = .ok (.getfield 31, 3) := by decide +kernel
theorem dX5_addRumour_39 : decode cX5_addRumour 39 = .ok (.iload_n 3, 1) := by decide +kernel
theorem dX5_addRumour_40 : decode cX5_addRumour 40 = .ok (.iastore, 1) := by decide +kernel
theorem dX5_addRumour_41 : decode cX5_addRumour 41 = .ok (.aload_n 0, 1) := by decide +kernel
theorem dX5_addRumour_42 : decode cX5_addRumour 42 = .ok (.getfield 22, 3) := by decide +kernel
theorem dX5_addRumour_45 : decode cX5_addRumour 45 = .ok (.aload_n 0, 1) := by decide +kernel
theorem dX5_addRumour_46 : decode cX5_addRumour 46 = .ok (.getfield 31, 3) := by decide +kernel
theorem dX5_addRumour_49 : decode cX5_addRumour 49 = .ok (.iconst 0, 1) := by decide +kernel
theorem dX5_addRumour_50 : decode cX5_addRumour 50 = .ok (.iastore, 1) := by decide +kernel
theorem dX5_addRumour_51 : decode cX5_addRumour 51 = .ok (.aload_n 0, 1) := by decide +kernel
theorem dX5_addRumour_52 : decode cX5_addRumour 52 = .ok (.getfield 25, 3) := by decide +kernel
theorem dX5_addRumour_55 : decode cX5_addRumour 55 = .ok (.aload_n 0, 1) := by decide +kernel
theorem dX5_addRumour_56 : decode cX5_addRumour 56 = .ok (.getfield 31, 3) := by decide +kernel
theorem dX5_addRumour_59 : decode cX5_addRumour 59 = .ok (.iconst 0, 1) := by decide +kernel
theorem dX5_addRumour_60 : decode cX5_addRumour 60 = .ok (.iastore, 1) := by decide +kernel
theorem dX5_addRumour_61 : decode cX5_addRumour 61 = .ok (.aload_n 0, 1) := by decide +kernel
theorem dX5_addRumour_62 : decode cX5_addRumour 62 = .ok (.dup, 1) := by decide +kernel
theorem dX5_addRumour_63 : decode cX5_addRumour 63 = .ok (.getfield 31, 3) := by decide +kernel
theorem dX5_addRumour_66 : decode cX5_addRumour 66 = .ok (.iconst 1, 1) := by decide +kernel
theorem dX5_addRumour_67 : decode cX5_addRumour 67 = .ok (.iadd, 1) := by decide +kernel
theorem dX5_addRumour_68 : decode cX5_addRumour 68 = .ok (.putfield 31, 3) := by decide +kernel
theorem dX5_addRumour_71 : decode cX5_addRumour 71 = .ok (.return_, 1) := by decide +kernel
theorem dX5_addPerson_0 : decode cX5_addPerson 0 = .ok (.aload_n 0, 1) := by decide +kernel
theorem dX5_addPerson_1 : decode cX5_addPerson 1 = .ok (.getfield 35, 3) := by decide +kernel
theorem dX5_addPerson_4 : decode cX5_addPerson 4 = .ok (.iconst 4, 1) := by decide +kernel
theorem dX5_addPerson_5 : decode cX5_addPerson 5 = .ok (.invokestatic 68, 3) := by decide +kernel
theorem dX5_addPerson_8 : decode cX5_addPerson 8 = .ok (.ifCond .eq 23, 3) := by decide +kernel
theorem dX5_addPerson_11 : decode cX5_addPerson 11 = .ok (.aload_n 0, 1) := by decide +kernel
theorem dX5_addPerson_12 : decode cX5_addPerson 12 = .ok (.getfield 28, 3) := by decide +kernel
theorem dX5_addPerson_15 : decode cX5_addPerson 15 = .ok (.aload_n 0, 1) := by decide +kernel
theorem dX5_addPerson_16 : decode cX5_addPerson 16 = .ok (.getfield 35, 3) := by decide +kernel
theorem dX5_addPerson_19 : decode cX5_addPerson 19 = .ok (.iload_n 1, 1) := by decide +kernel
theorem dX5_addPerson_20 : decode cX5_addPerson 20 = .ok (.iastore, 1) := by decide +kernel
theorem dX5_addPerson_21 : decode cX5_addPerson 21 = .ok (.aload_n 0, 1) := by decide +kernel
theorem dX5_addPerson_22 : decode cX5_addPerson 22 = .ok (.dup, 1) := by decide +kernel
theorem dX5_addPerson_23 : decode cX5_addPerson 23 = .ok (.getfield 35, 3) := by decide +kernel
theorem dX5_addPerson_26 : decode cX5_addPerson 26 = .ok (.iconst 1, 1) := by decide +kernel
theorem dX5_addPerson_27 : decode cX5_addPerson 27 = .ok (.iadd, 1) := by decide +kernel
theorem dX5_addPerson_28 : decode cX5_addPerson 28 = .ok (.putfield 35, 3) := by decide +kernel
theorem dX5_addPerson_31 : decode cX5_addPerson 31 = .ok (.return_, 1) := by decide +kernel
theorem dX5_addRivals_0 : decode cX5_addRivals 0 = .ok (.aload_n 0, 1) := by decide +kernel
theorem dX5_addRivals_1 : decode cX5_addRivals 1 = .ok (.iload_n 1, 1) := by decide +kernel
theorem dX5_addRivals_2 : decode cX5_addRivals 2 = .ok (.invokevirtual 42, 3) := by decide +kernel
theorem dX5_addRivals_5 : decode cX5_addRivals 5 = .ok (.ifCond .eq 35, 3) := by decide +kernel
theorem dX5_addRivals_8 : decode cX5_addRivals 8 = .ok (.aload_n 0, 1) := by decide +kernel
theorem dX5_addRivals_9 : decode cX5_addRivals 9 = .ok (.iload_n 2, 1) := by decide +kernel
theorem dX5_addRivals_10 : decode cX5_addRivals 10 = .ok (.invokevirtual 42, 3) := by decide +kernel
theorem dX5_addRivals_13 : decode cX5_addRivals 13 = .ok (.ifCond .eq 27, 3) := by decide +kernel
theorem dX5_addRivals_16 : decode cX5_addRivals 16 = .ok (.aload_n 0, 1) := by decide +kernel
theorem dX5_addRivals_17 : decode cX5_addRivals 17 = .ok (.getfield 22, 3) := by decide +kernel
theorem dX5_addRivals_20 : decode cX5_addRivals 20 = .ok (.iload_n 1, 1) := by decide +kernel
theorem dX5_addRivals_21 : decode cX5_addRivals 21 = .ok (.dup2, 1) := by decide +kernel
end
section
theorem dX5_addRivals_22 : decode cX5_addRivals 22 = .ok (.iaload, 1) := by decide +kernel
theorem dX5_addRivals_23 : decode cX5_addRivals 23 = .ok (.iconst 1, 1) := by decide +kernel
theorem dX5_addRivals_24 : decode cX5_addRivals 24 = .ok (.iload_n 2, 1) := by decide +kernel
theorem dX5_addRivals_25 : decode cX5_addRivals 25 = .ok (.ishl, 1) := by decide +kernel
theorem dX5_addRivals_26 : decode cX5_addRivals 26 = .ok (.ior, 1) := by decide +kernel
theorem dX5_addRivals_27 : decode cX5_addRivals 27 = .ok (.iastore, 1) := by decide +kernel
theorem dX5_addRivals_28 : decode cX5_addRivals 28 = .ok (.aload_n 0, 1) := by decide +kernel
theorem dX5_addRivals_29 : decode cX5_addRivals 29 = .ok (.getfield 22, 3) := by decide +kernel
theorem dX5_addRivals_32 : decode cX5_addRivals 32 = .ok (.iload_n 2, 1) := by decide +kernel
theorem dX5_addRivals_33 : decode cX5_addRivals 33 = .ok (.dup2, 1) := by decide +kernel
theorem dX5_addRivals_34 : decode cX5_addRivals 34 = .ok (.iaload, 1) := by decide +kernel
theorem dX5_addRivals_35 : decode cX5_addRivals 35 = .ok (.iconst 1, 1) := by decide +kernel
theorem dX5_addRivals_36 : decode cX5_addRivals 36 = .ok (.iload_n 1, 1) := by decide +kernel
theorem dX5_addRivals_37 : decode cX5_addRivals 37 = .ok (.ishl, 1) := by decide +kernel
theorem dX5_addRivals_38 : decode cX5_addRivals 38 = .ok (.ior, 1) := by decide +kernel
theorem dX5_addRivals_39 : decode cX5_addRivals 39 = .ok (.iastore, 1) := by decide +kernel
theorem dX5_addRivals_40 : decode cX5_addRivals 40 = .ok (.return_, 1) := by decide +kernel
theorem dX5_addOpening_0 : decode cX5_addOpening 0 = .ok (.aload_n 0, 1) := by decide +kernel
theorem dX5_addOpening_1 : decode cX5_addOpening 1 = .ok (.iload_n 1, 1) := by decide +kernel
theorem dX5_addOpening_2 : decode cX5_addOpening 2 = .ok (.invokevirtual 42, 3) := by decide +kernel
theorem dX5_addOpening_5 : decode cX5_addOpening 5 = .ok (.ifCond .eq 15, 3) := by decide +kernel
theorem dX5_addOpening_8 : decode cX5_addOpening 8 = .ok (.aload_n 0, 1) := by decide +kernel
theorem dX5_addOpening_9 : decode cX5_addOpening 9 = .ok (.getfield 25, 3) := by decide +kernel
theorem dX5_addOpening_12 : decode cX5_addOpening 12 = .ok (.iload_n 1, 1) := by decide +kernel
theorem dX5_addOpening_13 : decode cX5_addOpening 13 = .ok (.dup2, 1) := by decide +kernel
theorem dX5_addOpening_14 : decode cX5_addOpening 14 = .ok (.iaload, 1) := by decide +kernel
theorem dX5_addOpening_15 : decode cX5_addOpening 15 = .ok (.iconst 1, 1) := by decide +kernel
theorem dX5_addOpening_16 : decode cX5_addOpening 16 = .ok (.iload_n 2, 1) := by decide +kernel
theorem dX5_addOpening_17 : decode cX5_addOpening 17 = .ok (.ishl, 1) := by decide +kernel
theorem dX5_addOpening_18 : decode cX5_addOpening 18 = .ok (.ior, 1) := by decide +kernel
theorem dX5_addOpening_19 : decode cX5_addOpening 19 = .ok (.iastore, 1) := by decide +kernel
theorem dX5_addOpening_20 : decode cX5_addOpening 20 = .ok (.return_, 1) := by decide +kernel
theorem dX5_freePartners_0 : decode cX5_freePartners 0 = .ok (.aload_n 0, 1) := by decide +kernel
theorem dX5_freePartners_1 : decode cX5_freePartners 1 = .ok (.iload_n 1, 1) := by decide +kernel
theorem dX5_freePartners_2 : decode cX5_freePartners 2 = .ok (.invokevirtual 42, 3) := by decide +kernel
theorem dX5_freePartners_5 : decode cX5_freePartners 5 = .ok (.ifCond .ne 5, 3) := by decide +kernel
theorem dX5_freePartners_8 : decode cX5_freePartners 8 = .ok (.iconst 0, 1) := by decide +kernel
theorem dX5_freePartners_9 : decode cX5_freePartners 9 = .ok (.ireturn, 1) := by decide +kernel
theorem dX5_freePartners_10 : decode cX5_freePartners 10 = .ok (.iconst 1, 1) := by decide +kernel
theorem dX5_freePartners_11 : decode cX5_freePartners 11 = .ok (.aload_n 0, 1) := by decide +kernel
theorem dX5_freePartners_12 : decode cX5_freePartners 12 = .ok (.getfield 31, 3) := by decide +kernel
theorem dX5_freePartners_15 : decode cX5_freePartners 15 = .ok (.ishl, 1) := by decide +kernel
theorem dX5_freePartners_16 : decode cX5_freePartners 16 = .ok (.iconst 2, 1) := by decide +kernel
theorem dX5_freePartners_17 : decode cX5_freePartners 17 = .ok (.iload_n 1, 1) := by decide +kernel
theorem dX5_freePartners_18 : decode cX5_freePartners 18 = .ok (.ishl, 1) := by decide +kernel
theorem dX5_freePartners_19 : decode cX5_freePartners 19 = .ok (.isub, 1) := by decide +kernel
theorem dX5_freePartners_20 : decode cX5_freePartners 20 = .ok (.istore_n 2, 1) := by decide +kernel
theorem dX5_freePartners_21 : decode cX5_freePartners 21 = .ok (.iload_n 2, 1) := by decide +kernel
theorem dX5_freePartners_22 : decode cX5_freePartners 22 = .ok (.aload_n 0, 1) := by decide +kernel
theorem dX5_freePartners_23 : decode cX5_freePartners 23 = .ok (.getfield 22, 3) := by decide +kernel
theorem dX5_freePartners_26 : decode cX5_freePartners 26 = .ok (.iload_n 1, 1) := by decide +kernel
theorem dX5_freePartners_27 : decode cX5_freePartners 27 = .ok (.iaload, 1) := by decide +kernel
theorem dX5_freePartners_28 : decode cX5_freePartners 28 = .ok (.iconst (-1), 1) := by decide +kernel
theorem dX5_freePartners_29 : decode cX5_freePartners 29 = .ok (.ixor, 1) := by decide +kernel
theorem dX5_freePartners_30 : decode cX5_freePartners 30 = .ok (.iand, 1) := by decide +kernel
theorem dX5_freePartners_31 : decode cX5_freePartners 31 = .ok (.ireturn, 1) := by decide +kernel
theorem dX5_freeTables_0 : decode cX5_freeTables 0 = .ok (.aload_n 0, 1) := by decide +kernel
theorem dX5_freeTables_1 : decode cX5_freeTables 1 = .ok (.iload_n 1, 1) := by decide +kernel
theorem dX5_freeTables_2 : decode cX5_freeTables 2 = .ok (.invokevirtual 42, 3) := by decide +kernel
theorem dX5_freeTables_5 : decode cX5_freeTables 5 = .ok (.ifCond .eq 17, 3) := by decide +kernel
theorem dX5_freeTables_8 : decode cX5_freeTables 8 = .ok (.bipush 63, 2) := by decide +kernel
theorem dX5_freeTables_10 : decode cX5_freeTables 10 = .ok (.aload_n 0, 1) := by decide +kernel
theorem dX5_freeTables_11 : decode cX5_freeTables 11 = .ok (.getfield 25, 3) := by decide +kernel
theorem dX5_freeTables_14 : decode cX5_freeTables 14 = .ok (.iload_n 1, 1) := by decide +kernel
theorem dX5_freeTables_15 : decode cX5_freeTables 15 = .ok (.iaload, 1) := by decide +kernel
theorem dX5_freeTables_16 : decode cX5_freeTables 16 = .ok (.iconst (-1), 1) := by decide +kernel
theorem dX5_freeTables_17 : decode cX5_freeTables 17 = .ok (.ixor, 1) := by decide +kernel
theorem dX5_freeTables_18 : decode cX5_freeTables 18 = .ok (.iand, 1) := by decide +kernel
theorem dX5_freeTables_19 : decode cX5_freeTables 19 = .ok (.goto 4, 3) := by decide +kernel
theorem dX5_freeTables_22 : decode cX5_freeTables 22 = .ok (.iconst 0, 1) := by decide +kernel
theorem dX5_freeTables_23 : decode cX5_freeTables 23 = .ok (.ireturn, 1) := by decide +kernel
theorem dX5_hasFreePair_0 : decode cX5_hasFreePair 0 = .ok (.iconst 0, 1) := by decide +kernel
theorem dX5_hasFreePair_1 : decode cX5_hasFreePair 1 = .ok (.istore_n 1, 1) := by decide +kernel
theorem dX5_hasFreePair_2 : decode cX5_hasFreePair 2 = .ok (.iconst 0, 1) := by decide +kernel
theorem dX5_hasFreePair_3 : decode cX5_hasFreePair 3 = .ok (.istore_n 2, 1) := by decide +kernel
theorem dX5_hasFreePair_4 : decode cX5_hasFreePair 4 = .ok (.iload_n 2, 1) := by decide +kernel
theorem dX5_hasFreePair_5 : decode cX5_hasFreePair 5 = .ok (.aload_n 0, 1) := by decide +kernel
theorem dX5_hasFreePair_6 : decode cX5_hasFreePair 6 = .ok (.getfield 31, 3) := by decide +kernel
theorem dX5_hasFreePair_9 : decode cX5_hasFreePair 9 = .ok (.if_icmp .ge 27, 3) := by decide +kernel
theorem dX5_hasFreePair_12 : decode cX5_hasFreePair 12 = .ok (.iload_n 1, 1) := by decide +kernel
theorem dX5_hasFreePair_13 : decode cX5_hasFreePair 13 = .ok (.ifCond .ne 11, 3) := by decide +kernel
theorem dX5_hasFreePair_16 : decode cX5_hasFreePair 16 = .ok (.aload_n 0, 1) := by decide +kernel
theorem dX5_hasFreePair_17 : decode cX5_hasFreePair 17 = .ok (.iload_n 2, 1) := by decide +kernel
theorem dX5_hasFreePair_18 : decode cX5_hasFreePair 18 = .ok (.invokevirtual 71, 3) := by decide +kernel
theorem dX5_hasFreePair_21 : decode cX5_hasFreePair 21 = .ok (.ifCond .eq 7, 3) := by decide +kernel
theorem dX5_hasFreePair_24 : decode cX5_hasFreePair 24 = .ok (.iconst 1, 1) := by decide +kernel
theorem dX5_hasFreePair_25 : decode cX5_hasFreePair 25 = .ok (.goto 4, 3) := by decide +kernel
theorem dX5_hasFreePair_28 : decode cX5_hasFreePair 28 = .ok (.iconst 0, 1) := by decide +kernel
theorem dX5_hasFreePair_29 : decode cX5_hasFreePair 29 = .ok (.istore_n 1, 1) := by decide +kernel
theorem dX5_hasFreePair_30 : decode cX5_hasFreePair 30 = .ok (.iinc 2 1, 3) := by decide +kernel
theorem dX5_hasFreePair_33 : decode cX5_hasFreePair 33 = .ok (.goto (-29), 3) := by decide +kernel
theorem dX5_hasFreePair_36 : decode cX5_hasFreePair 36 = .ok (.iload_n 1, 1) := by decide +kernel
theorem dX5_hasFreePair_37 : decode cX5_hasFreePair 37 = .ok (.ireturn, 1) := by decide +kernel
theorem dX5_hasFreeTable_0 : decode cX5_hasFreeTable 0 = .ok (.iconst 0, 1) := by decide +kernel
theorem dX5_hasFreeTable_1 : decode cX5_hasFreeTable 1 = .ok (.istore_n 1, 1) := by decide +kernel
theorem dX5_hasFreeTable_2 : decode cX5_hasFreeTable 2 = .ok (.iconst 0, 1) := by decide +kernel
theorem dX5_hasFreeTable_3 : decode cX5_hasFreeTable 3 = .ok (.istore_n 2, 1) := by decide +kernel
theorem dX5_hasFreeTable_4 : decode cX5_hasFreeTable 4 = .ok (.iload_n 2, 1) := by decide +kernel
theorem dX5_hasFreeTable_5 : decode cX5_hasFreeTable 5 = .ok (.aload_n 0, 1) := by decide +kernel
theorem dX5_hasFreeTable_6 : decode cX5_hasFreeTable 6 = .ok (.getfield 31, 3) := by decide +kernel
theorem dX5_hasFreeTable_9 : decode cX5_hasFreeTable 9 = .ok (.if_icmp .ge 27, 3) := by decide +kernel
theorem dX5_hasFreeTable_12 : decode cX5_hasFreeTable 12 = .ok (.iload_n 1, 1) := by decide +kernel
theorem dX5_hasFreeTable_13 : decode cX5_hasFreeTable 13 = .ok (.ifCond .ne 11, 3) := by decide +kernel
theorem dX5_hasFreeTable_16 : decode cX5_hasFreeTable 16 = .ok (.aload_n 0, 1) := by decide +kernel
theorem dX5_hasFreeTable_17 : decode cX5_hasFreeTable 17 = .ok (.iload_n 2, 1) := by decide +kernel
theorem dX5_hasFreeTable_18 : decode cX5_hasFreeTable 18 = .ok (.invokevirtual 74, 3) := by decide +kernel
theorem dX5_hasFreeTable_21 : decode cX5_hasFreeTable 21 = .ok (.ifCond .eq 7, 3) := by decide +kernel
theorem dX5_hasFreeTable_24 : decode cX5_hasFreeTable 24 = .ok (.iconst 1, 1) := by decide +kernel
theorem dX5_hasFreeTable_25 : decode cX5_hasFreeTable 25 = .ok (.goto 4, 3) := by decide +kernel
theorem dX5_hasFreeTable_28 : decode cX5_hasFreeTable 28 = .ok (.iconst 0, 1) := by decide +kernel
theorem dX5_hasFreeTable_29 : decode cX5_hasFreeTable 29 = .ok (.istore_n 1, 1) := by decide +kernel
theorem dX5_hasFreeTable_30 : decode cX5_hasFreeTable 30 = .ok (.iinc 2 1, 3) := by decide +kernel
theorem dX5_hasFreeTable_33 : decode cX5_hasFreeTable 33 = .ok (.goto (-29), 3) := by decide +kernel
theorem dX5_hasFreeTable_36 : decode cX5_hasFreeTable 36 = .ok (.iload_n 1, 1) := by decide +kernel
theorem dX5_hasFreeTable_37 : decode cX5_hasFreeTable 37 = .ok (.ireturn, 1) := by decide +kernel
theorem dX6_init_0 : decode cX6_init 0 = .ok (.aload_n 0, 1) := by decide +kernel
theorem dX6_init_1 : decode cX6_init 1 = .ok (.invokespecial 3, 3) := by decide +kernel
theorem dX6_init_4 : decode cX6_init 4 = .ok (.aload_n 0, 1) := by decide +kernel
theorem dX6_init_5 : decode cX6_init 5 = .ok (.new 9, 3) := by decide +kernel
theorem dX6_init_8 : decode cX6_init 8 = .ok (.dup, 1) := by decide +kernel
theorem dX6_init_9 : decode cX6_init 9 = .ok (.invokespecial 11, 3) := by decide +kernel
theorem dX6_init_12 : decode cX6_init 12 = .ok (.putfield 12, 3) := by decide +kernel
theorem dX6_init_15 : decode cX6_init 15 = .ok (.aload_n 0, 1) := by decide +kernel
theorem dX6_init_16 : decode cX6_init 16 = .ok (.new 16, 3) := by decide +kernel
theorem dX6_init_19 : decode cX6_init 19 = .ok (.dup, 1) := by decide +kernel
theorem dX6_init_20 : decode cX6_init 20 = .ok (.invokespecial 18, 3) := by decide +kernel
theorem dX6_init_23 : decode cX6_init 23 = .ok (.putfield 19, 3) := by decide +kernel
theorem dX6_init_26 : decode cX6_init 26 = .ok (.aload_n 0, 1) := by decide +kernel
theorem dX6_init_27 : decode cX6_init 27 = .ok (.new 16, 3) := by decide +kernel
theorem dX6_init_30 : decode cX6_init 30 = .ok (.dup, 1) := by decide +kernel
theorem dX6_init_31 : decode cX6_init 31 = .ok (.invokespecial 18, 3) := by decide +kernel
theorem dX6_init_34 : decode cX6_init 34 = .ok (.putfield 23, 3) := by decide +kernel
theorem dX6_init_37 : decode cX6_init 37 = .ok (.aload_n 0, 1) := by decide +kernel
theorem dX6_init_38 : decode cX6_init 38 = .ok (.new 26, 3) := by decide +kernel
theorem dX6_init_41 : decode cX6_init 41 = .ok (.dup, 1) := by decide +kernel
theorem dX6_init_42 : decode cX6_init 42 = .ok (.invokespecial 28, 3) := by decide +kernel
theorem dX6_init_45 : decode cX6_init 45 = .ok (.putfield 29, 3) := by decide +kernel
theorem dX6_init_48 : decode cX6_init 48 = .ok (.aload_n 0, 1) := by decide +kernel
theorem dX6_init_49 : decode cX6_init 49 = .ok (.new 26, 3) := by decide +kernel
theorem dX6_init_52 : decode cX6_init 52 = .ok (.dup, 1) := by decide +kernel
theorem dX6_init_53 : decode cX6_init 53 = .ok (.invokespecial 28, 3) := by decide +kernel
theorem dX6_init_56 : decode cX6_init 56 = .ok (.putfield 33, 3) := by decide +kernel
theorem dX6_init_59 : decode cX6_init 59 = .ok (.aload_n 0, 1) := by decide +kernel
theorem dX6_init_60 : decode cX6_init 60 = .ok (.new 36, 3) := by decide +kernel
theorem dX6_init_63 : decode cX6_init 63 = .ok (.dup, 1) := by decide +kernel
theorem dX6_init_64 : decode cX6_init 64 = .ok (.invokespecial 38, 3) := by decide +kernel
theorem dX6_init_67 : decode cX6_init 67 = .ok (.putfield 39, 3) := by decide +kernel
theorem dX6_init_70 : decode cX6_init 70 = .ok (.aload_n 0, 1) := by decide +kernel
theorem dX6_init_71 : decode cX6_init 71 = .ok (.new 43, 3) := by decide +kernel
theorem dX6_init_74 : decode cX6_init 74 = .ok (.dup, 1) := by decide +kernel
theorem dX6_init_75 : decode cX6_init 75 = .ok (.invokespecial 45, 3) := by decide +kernel
theorem dX6_init_78 : decode cX6_init 78 = .ok (.putfield 46, 3) := by decide +kernel
theorem dX6_init_81 : decode cX6_init 81 = .ok (.aload_n 0, 1) := by decide +kernel
theorem dX6_init_82 : decode cX6_init 82 = .ok (.iconst 2, 1) := by decide +kernel
theorem dX6_init_83 : decode cX6_init 83 = .ok (.anewarray 26, 3) := by decide +kernel
theorem dX6_init_86 : decode cX6_init 86 = .ok (.putfield 50, 3) := by decide +kernel
theorem dX6_init_89 : decode cX6_init 89 = .ok (.iconst 0, 1) := by decide +kernel
theorem dX6_init_90 : decode cX6_init 90 = .ok (.istore_n 1, 1) := by decide +kernel
theorem dX6_init_91 : decode cX6_init 91 = .ok (.iload_n 1, 1) := by decide +kernel
theorem dX6_init_92 : decode cX6_init 92 = .ok (.iconst 2, 1) := by decide +kernel
theorem dX6_init_93 : decode cX6_init 93 = .ok (.if_icmp .ge 22, 3) := by decide +kernel
theorem dX6_init_96 : decode cX6_init 96 = .ok (.aload_n 0, 1) := by decide +kernel
theorem dX6_init_97 : decode cX6_init 97 = .ok (.getfield 50, 3) := by decide +kernel
theorem dX6_init_100 : decode cX6_init 100 = .ok (.iload_n 1, 1) := by decide +kernel
theorem dX6_init_101 : decode cX6_init 101 = .ok (.new 26, 3) := by decide +kernel
theorem dX6_init_104 : decode cX6_init 104 = .ok (.dup, 1) := by decide +kernel
theorem dX6_init_105 : decode cX6_init 105 = .ok (.invokespecial 28, 3) := by decide +kernel
theorem dX6_init_108 : decode cX6_init 108 = .ok (.aastore, 1) := by decide +kernel
theorem dX6_init_109 : decode cX6_init 109 = .ok (.iinc 1 1, 3) := by decide +kernel
theorem dX6_init_112 : decode cX6_init 112 = .ok (.goto (-21), 3) := by decide +kernel
theorem dX6_init_115 : decode cX6_init 115 = .ok (.aload_n 0, 1) := by decide +kernel
theorem dX6_init_116 : decode cX6_init 116 = .ok (.iconst 2, 1) := by decide +kernel
theorem dX6_init_117 : decode cX6_init 117 = .ok (.newarray .boolean, 2) := by decide +kernel
theorem dX6_init_119 : decode cX6_init 119 = .ok (.putfield 54, 3) := by decide +kernel
theorem dX6_init_122 : decode cX6_init 122 = .ok (.aload_n 0, 1) := by decide +kernel
theorem dX6_init_123 : decode cX6_init 123 = .ok (.new 58, 3) := by decide +kernel
theorem dX6_init_126 : decode cX6_init 126 = .ok (.dup, 1) := by decide +kernel
theorem dX6_init_127 : decode cX6_init 127 = .ok (.invokespecial 60, 3) := by decide +kernel
theorem dX6_init_130 : decode cX6_init 130 = .ok (.putfield 61, 3) := by decide +kernel
theorem dX6_init_133 : decode cX6_init 133 = .ok (.aload_n 0, 1) := by decide +kernel
theorem dX6_init_134 : decode cX6_init 134 = .ok (.bipush 30, 2) := by decide +kernel
theorem dX6_init_136 : decode cX6_init 136 = .ok (.newarray .int, 2) := by decide +kernel
theorem dX6_init_138 : decode cX6_init 138 = .ok (.putfield 65, 3) := by decide +kernel
theorem dX6_init_141 : decode cX6_init 141 = .ok (.aload_n 0, 1) := by decide +kernel
theorem dX6_init_142 : decode cX6_init 142 = .ok (.iconst 4, 1) := by decide +kernel
theorem dX6_init_143 : decode cX6_init 143 = .ok (.newarray .int, 2) := by decide +kernel
theorem dX6_init_145 : decode cX6_init 145 = .ok (.putfield 69, 3) := by decide +kernel
theorem dX6_init_148 : decode cX6_init 148 = .ok (.aload_n 0, 1) := by decide +kernel
theorem dX6_init_149 : decode cX6_init 149 = .ok (.bipush 36, 2) := by decide +kernel
theorem dX6_init_151 : decode cX6_init 151 = .ok (.newarray .int, 2) := by decide +kernel
theorem dX6_init_153 : decode cX6_init 153 = .ok (.putfield 72, 3) := by decide +kernel
theorem dX6_init_156 : decode cX6_init 156 = .ok (.aload_n 0, 1) := by decide +kernel
theorem dX6_init_157 : decode cX6_init 157 = .ok (.bipush 36, 2) := by decide +kernel
theorem dX6_init_159 : decode cX6_init 159 = .ok (.newarray .int, 2) := by decide +kernel
theorem dX6_init_161 : decode cX6_init 161 = .ok (.putfield 75, 3) := by decide +kernel
theorem dX6_init_164 : decode cX6_init 164 = .ok (.return_, 1) := by decide +kernel
theorem dX6_write_0 : decode cX6_write 0 = .ok (.iload_n 1, 1) := by decide +kernel
theorem dX6_write_1 : decode cX6_write 1 = .ok (.iconst 0, 1) := by decide +kernel
theorem dX6_write_2 : decode cX6_write 2 = .ok (.sipush 255, 3) := by decide +kernel
theorem dX6_write_5 : decode cX6_write 5 = .ok (.invokestatic 78, 3) := by decide +kernel
theorem dX6_write_8 : decode cX6_write 8 = .ok (.ifCond .eq 6, 3) := by decide +kernel
theorem dX6_write_11 : decode cX6_write 11 = .ok (.bipush (-2), 2) := by decide +kernel
theorem dX6_write_13 : decode cX6_write 13 = .ok (.ireturn, 1) := by decide +kernel
theorem dX6_write_14 : decode cX6_write 14 = .ok (.aload_n 0, 1) := by decide +kernel
theorem dX6_write_15 : decode cX6_write 15 = .ok (.getfield 12, 3) := by decide +kernel
theorem dX6_write_18 : decode cX6_write 18 = .ok (.iload_n 1, 1) := by decide +kernel
theorem dX6_write_19 : decode cX6_write 19 = .ok (.invokevirtual 82, 3) := by decide +kernel
theorem dX6_write_22 : decode cX6_write 22 = .ok (.ireturn, 1) := by decide +kernel
theorem dX6_wipe_0 : decode cX6_wipe 0 = .ok (.aload_n 0, 1) := by decide +kernel
theorem dX6_wipe_1 : decode cX6_wipe 1 = .ok (.getfield 12, 3) := by decide +kernel
theorem dX6_wipe_4 : decode cX6_wipe 4 = .ok (.getfield 86, 3) := by decide +kernel
theorem dX6_wipe_7 : decode cX6_wipe 7 = .ok (.istore_n 1, 1) := by decide +kernel
theorem dX6_wipe_8 : decode cX6_wipe 8 = .ok (.aload_n 0, 1) := by decide +kernel
theorem dX6_wipe_9 : decode cX6_wipe 9 = .ok (.getfield 12, 3) := by decide +kernel
theorem dX6_wipe_12 : decode cX6_wipe 12 = .ok (.iconst 0, 1) := by decide +kernel
theorem dX6_wipe_13 : decode cX6_wipe 13 = .ok (.putfield 86, 3) := by decide +kernel
theorem dX6_wipe_16 : decode cX6_wipe 16 = .ok (.iload_n 1, 1) := by decide +kernel
theorem dX6_wipe_17 : decode cX6_wipe 17 = .ok (.ireturn, 1) := by decide +kernel
theorem dX6_fault_0 : decode cX6_fault 0 = .ok (.aload_n 0, 1) := by decide +kernel
theorem dX6_fault_1 : decode cX6_fault 1 = .ok (.getfield 12, 3) := by decide +kernel
theorem dX6_fault_4 : decode cX6_fault 4 = .ok (.aload_n 0, 1) := by decide +kernel
theorem dX6_fault_5 : decode cX6_fault 5 = .ok (.getfield 23, 3) := by decide +kernel
theorem dX6_fault_8 : decode cX6_fault 8 = .ok (.invokevirtual 90, 3) := by decide +kernel
theorem dX6_fault_11 : decode cX6_fault 11 = .ok (.ireturn, 1) := by decide +kernel
theorem dX6_town_0 : decode cX6_town 0 = .ok (.aload_n 0, 1) := by decide +kernel
theorem dX6_town_1 : decode cX6_town 1 = .ok (.getfield 12, 3) := by decide +kernel
theorem dX6_town_4 : decode cX6_town 4 = .ok (.aload_n 0, 1) := by decide +kernel
theorem dX6_town_5 : decode cX6_town 5 = .ok (.getfield 23, 3) := by decide +kernel
theorem dX6_town_8 : decode cX6_town 8 = .ok (.invokevirtual 90, 3) := by decide +kernel
theorem dX6_town_11 : decode cX6_town 11 = .ok (.bipush (-9), 2) := by decide +kernel
theorem dX6_town_13 : decode cX6_town 13 = .ok (.if_icmp .eq 6, 3) := by decide +kernel
theorem dX6_town_16 : decode cX6_town 16 = .ok (.bipush (-3), 2) := by decide +kernel
theorem dX6_town_18 : decode cX6_town 18 = .ok (.ireturn, 1) := by decide +kernel
theorem dX6_town_19 : decode cX6_town 19 = .ok (.aload_n 0, 1) := by decide +kernel
theorem dX6_town_20 : decode cX6_town 20 = .ok (.getfield 12, 3) := by decide +kernel
theorem dX6_town_23 : decode cX6_town 23 = .ok (.aload_n 0, 1) := by decide +kernel
theorem dX6_town_24 : decode cX6_town 24 = .ok (.getfield 19, 3) := by decide +kernel
theorem dX6_town_27 : decode cX6_town 27 = .ok (.invokevirtual 90, 3) := by decide +kernel
theorem dX6_town_30 : decode cX6_town 30 = .ok (.pop, 1) := by decide +kernel
theorem dX6_town_31 : decode cX6_town 31 = .ok (.aload_n 0, 1) := by decide +kernel
theorem dX6_town_32 : decode cX6_town 32 = .ok (.getfield 29, 3) := by decide +kernel
theorem dX6_town_35 : decode cX6_town 35 = .ok (.aload_n 0, 1) := by decide +kernel
theorem dX6_town_36 : decode cX6_town 36 = .ok (.getfield 19, 3) := by decide +kernel
theorem dX6_town_39 : decode cX6_town 39 = .ok (.invokevirtual 94, 3) := by decide +kernel
theorem dX6_town_42 : decode cX6_town 42 = .ok (.aload_n 0, 1) := by decide +kernel
theorem dX6_town_43 : decode cX6_town 43 = .ok (.getfield 39, 3) := by decide +kernel
theorem dX6_town_46 : decode cX6_town 46 = .ok (.iconst 0, 1) := by decide +kernel
theorem dX6_town_47 : decode cX6_town 47 = .ok (.putfield 98, 3) := by decide +kernel
theorem dX6_town_50 : decode cX6_town 50 = .ok (.iconst 0, 1) := by decide +kernel
theorem dX6_town_51 : decode cX6_town 51 = .ok (.istore_n 1, 1) := by decide +kernel
theorem dX6_town_52 : decode cX6_town 52 = .ok (.iload_n 1, 1) := by decide +kernel
theorem dX6_town_53 : decode cX6_town 53 = .ok (.aload_n 0, 1) := by decide +kernel
theorem dX6_town_54 : decode cX6_town 54 = .ok (.getfield 54, 3) := by decide +kernel
theorem dX6_town_57 : decode cX6_town 57 = .ok (.arraylength, 1) := by decide +kernel
theorem dX6_town_58 : decode cX6_town 58 = .ok (.if_icmp .ge 16, 3) := by decide +kernel
theorem dX6_town_61 : decode cX6_town 61 = .ok (.aload_n 0, 1) := by decide +kernel
theorem dX6_town_62 : decode cX6_town 62 = .ok (.getfield 54, 3) := by decide +kernel
theorem dX6_town_65 : decode cX6_town 65 = .ok (.iload_n 1, 1) := by decide +kernel
theorem dX6_town_66 : decode cX6_town 66 = .ok (.iconst 0, 1) := by decide +kernel
theorem dX6_town_67 : decode cX6_town 67 = .ok (.bastore, 1) := by decide +kernel
theorem dX6_town_68 : decode cX6_town 68 = .ok (.iinc 1 1, 3) := by decide +kernel
theorem dX6_town_71 : decode cX6_town 71 = .ok (.goto (-19), 3) := by decide +kernel
theorem dX6_town_74 : decode cX6_town 74 = .ok (.bipush 10, 2) := by decide +kernel
theorem dX6_town_76 : decode cX6_town 76 = .ok (.aload_n 0, 1) := by decide +kernel
theorem dX6_town_77 : decode cX6_town 77 = .ok (.getfield 19, 3) := by decide +kernel
theorem dX6_town_80 : decode cX6_town 80 = .ok (.getfield 101, 3) := by decide +kernel
theorem dX6_town_83 : decode cX6_town 83 = .ok (.imul, 1) := by decide +kernel
theorem dX6_town_84 : decode cX6_town 84 = .ok (.aload_n 0, 1) := by decide +kernel
theorem dX6_town_85 : decode cX6_town 85 = .ok (.getfield 19, 3) := by decide +kernel
theorem dX6_town_88 : decode cX6_town 88 = .ok (.getfield 104, 3) := by decide +kernel
theorem dX6_town_91 : decode cX6_town 91 = .ok (.iadd, 1) := by decide +kernel
theorem dX6_town_92 : decode cX6_town 92 = .ok (.ireturn, 1) := by decide +kernel
theorem dX6_rumour_0 : decode cX6_rumour 0 = .ok (.aload_n 0, 1) := by decide +kernel
theorem dX6_rumour_1 : decode cX6_rumour 1 = .ok (.getfield 19, 3) := by decide +kernel
theorem dX6_rumour_4 : decode cX6_rumour 4 = .ok (.iload_n 1, 1) := by decide +kernel
theorem dX6_rumour_5 : decode cX6_rumour 5 = .ok (.invokevirtual 107, 3) := by decide +kernel
theorem dX6_rumour_8 : decode cX6_rumour 8 = .ok (.ifCond .ne 5, 3) := by decide +kernel
theorem dX6_rumour_11 : decode cX6_rumour 11 = .ok (.iconst (-1), 1) := by decide +kernel
theorem dX6_rumour_12 : decode cX6_rumour 12 = .ok (.ireturn, 1) := by decide +kernel
theorem dX6_rumour_13 : decode cX6_rumour 13 = .ok (.iload_n 2, 1) := by decide +kernel
theorem dX6_rumour_14 : decode cX6_rumour 14 = .ok (.tableswitch 131 0 6 #[42, 52, 69, 79, 88, 97, 107], 42) := by decide +kernel
theorem dX6_rumour_56 : decode cX6_rumour 56 = .ok (.aload_n 0, 1) := by decide +kernel
theorem dX6_rumour_57 : decode cX6_rumour 57 = .ok (.getfield 19, 3) := by decide +kernel
theorem dX6_rumour_60 : decode cX6_rumour 60 = .ok (.getfield 111, 3) := by decide +kernel
theorem dX6_rumour_63 : decode cX6_rumour 63 = .ok (.iload_n 1, 1) := by decide +kernel
theorem dX6_rumour_64 : decode cX6_rumour 64 = .ok (.iaload, 1) := by decide +kernel
theorem dX6_rumour_65 : decode cX6_rumour 65 = .ok (.ireturn, 1) := by decide +kernel
theorem dX6_rumour_66 : decode cX6_rumour 66 = .ok (.aload_n 0, 1) := by decide +kernel
theorem dX6_rumour_67 : decode cX6_rumour 67 = .ok (.getfield 19, 3) := by decide +kernel
theorem dX6_rumour_70 : decode cX6_rumour 70 = .ok (.iload_n 1, 1) := by decide +kernel
theorem dX6_rumour_71 : decode cX6_rumour 71 = .ok (.invokevirtual 114, 3) := by decide +kernel
theorem dX6_rumour_74 : decode cX6_rumour 74 = .ok (.ifCond .eq 7, 3) := by decide +kernel
theorem dX6_rumour_77 : decode cX6_rumour 77 = .ok (.iconst 1, 1) := by decide +kernel
theorem dX6_rumour_78 : decode cX6_rumour 78 = .ok (.goto 4, 3) := by decide +kernel
theorem dX6_rumour_81 : decode cX6_rumour 81 = .ok (.iconst 0, 1) := by decide +kernel
theorem dX6_rumour_82 : decode cX6_rumour 82 = .ok (.ireturn, 1) := by decide +kernel
theorem dX6_rumour_83 : decode cX6_rumour 83 = .ok (.aload_n 0, 1) := by decide +kernel
theorem dX6_rumour_84 : decode cX6_rumour 84 = .ok (.getfield 19, 3) := by decide +kernel
theorem dX6_rumour_87 : decode cX6_rumour 87 = .ok (.getfield 117, 3) := by decide +kernel
theorem dX6_rumour_90 : decode cX6_rumour 90 = .ok (.iload_n 1, 1) := by decide +kernel
theorem dX6_rumour_91 : decode cX6_rumour 91 = .ok (.iaload, 1) := by decide +kernel
theorem dX6_rumour_92 : decode cX6_rumour 92 = .ok (.ireturn, 1) := by decide +kernel
theorem dX6_rumour_93 : decode cX6_rumour 93 = .ok (.aload_n 0, 1) := by decide +kernel
theorem dX6_rumour_94 : decode cX6_rumour 94 = .ok (.getfield 29, 3) := by decide +kernel
theorem dX6_rumour_97 : decode cX6_rumour 97 = .ok (.iload_n 1, 1) := by decide +kernel
theorem dX6_rumour_98 : decode cX6_rumour 98 = .ok (.invokevirtual 120, 3) := by decide +kernel
theorem dX6_rumour_101 : decode cX6_rumour 101 = .ok (.ireturn, 1) := by decide +kernel
theorem dX6_rumour_102 : decode cX6_rumour 102 = .ok (.aload_n 0, 1) := by decide +kernel
theorem dX6_rumour_103 : decode cX6_rumour 103 = .ok (.getfield 29, 3) := by decide +kernel
theorem dX6_rumour_106 : decode cX6_rumour 106 = .ok (.iload_n 1, 1) := by decide +kernel
theorem dX6_rumour_107 : decode cX6_rumour 107 = .ok (.invokevirtual 123, 3) := by decide +kernel
theorem dX6_rumour_110 : decode cX6_rumour 110 = .ok (.ireturn, 1) := by decide +kernel
theorem dX6_rumour_111 : decode cX6_rumour 111 = .ok (.aload_n 0, 1) := by decide +kernel
theorem dX6_rumour_112 : decode cX6_rumour 112 = .ok (.getfield 19, 3) := by decide +kernel
theorem dX6_rumour_115 : decode cX6_rumour 115 = .ok (.getfield 126, 3) := by decide +kernel
theorem dX6_rumour_118 : decode cX6_rumour 118 = .ok (.iload_n 1, 1) := by decide +kernel
theorem dX6_rumour_119 : decode cX6_rumour 119 = .ok (.iaload, 1) := by decide +kernel
theorem dX6_rumour_120 : decode cX6_rumour 120 = .ok (.ireturn, 1) := by decide +kernel
theorem dX6_rumour_121 : decode cX6_rumour 121 = .ok (.aload_n 0, 1) := by decide +kernel
theorem dX6_rumour_122 : decode cX6_rumour 122 = .ok (.getfield 19, 3) := by decide +kernel
theorem dX6_rumour_125 : decode cX6_rumour 125 = .ok (.iload_n 1, 1) := by decide +kernel
theorem dX6_rumour_126 : decode cX6_rumour 126 = .ok (.aload_n 0, 1) := by decide +kernel
theorem dX6_rumour_127 : decode cX6_rumour 127 = .ok (.getfield 29, 3) := by decide +kernel
theorem dX6_rumour_130 : decode cX6_rumour 130 = .ok (.getfield 129, 3) := by decide +kernel
theorem dX6_rumour_133 : decode cX6_rumour 133 = .ok (.invokevirtual 132, 3) := by decide +kernel
theorem dX6_rumour_136 : decode cX6_rumour 136 = .ok (.ifCond .eq 7, 3) := by decide +kernel
theorem dX6_rumour_139 : decode cX6_rumour 139 = .ok (.iconst 1, 1) := by decide +kernel
theorem dX6_rumour_140 : decode cX6_rumour 140 = .ok (.goto 4, 3) := by decide +kernel
theorem dX6_rumour_143 : decode cX6_rumour 143 = .ok (.iconst 0, 1) := by decide +kernel
theorem dX6_rumour_144 : decode cX6_rumour 144 = .ok (.ireturn, 1) := by decide +kernel
theorem dX6_rumour_145 : decode cX6_rumour 145 = .ok (.bipush (-2), 2) := by decide +kernel
theorem dX6_rumour_147 : decode cX6_rumour 147 = .ok (.ireturn, 1) := by decide +kernel
theorem dX6_table_0 : decode cX6_table 0 = .ok (.aload_n 0, 1) := by decide +kernel
theorem dX6_table_1 : decode cX6_table 1 = .ok (.getfield 19, 3) := by decide +kernel
theorem dX6_table_4 : decode cX6_table 4 = .ok (.iload_n 1, 1) := by decide +kernel
theorem dX6_table_5 : decode cX6_table 5 = .ok (.invokevirtual 136, 3) := by decide +kernel
theorem dX6_table_8 : decode cX6_table 8 = .ok (.ifCond .eq 15, 3) := by decide +kernel
theorem dX6_table_11 : decode cX6_table 11 = .ok (.aload_n 0, 1) := by decide +kernel
theorem dX6_table_12 : decode cX6_table 12 = .ok (.getfield 19, 3) := by decide +kernel
theorem dX6_table_15 : decode cX6_table 15 = .ok (.getfield 139, 3) := by decide +kernel
theorem dX6_table_18 : decode cX6_table 18 = .ok (.iload_n 1, 1) := by decide +kernel
theorem dX6_table_19 : decode cX6_table 19 = .ok (.iaload, 1) := by decide +kernel
theorem dX6_table_20 : decode cX6_table 20 = .ok (.goto 4, 3) := by decide +kernel
theorem dX6_table_23 : decode cX6_table 23 = .ok (.iconst (-1), 1) := by decide +kernel
theorem dX6_table_24 : decode cX6_table 24 = .ok (.ireturn, 1) := by decide +kernel
theorem dX6_coins_0 : decode cX6_coins 0 = .ok (.aload_n 0, 1) := by decide +kernel
theorem dX6_coins_1 : decode cX6_coins 1 = .ok (.getfield 19, 3) := by decide +kernel
theorem dX6_coins_4 : decode cX6_coins 4 = .ok (.iload_n 1, 1) := by decide +kernel
theorem dX6_coins_5 : decode cX6_coins 5 = .ok (.invokevirtual 136, 3) := by decide +kernel
theorem dX6_coins_8 : decode cX6_coins 8 = .ok (.ifCond .eq 14, 3) := by decide +kernel
theorem dX6_coins_11 : decode cX6_coins 11 = .ok (.aload_n 0, 1) := by decide +kernel
theorem dX6_coins_12 : decode cX6_coins 12 = .ok (.getfield 19, 3) := by decide +kernel
theorem dX6_coins_15 : decode cX6_coins 15 = .ok (.iload_n 2, 1) := by decide +kernel
theorem dX6_coins_16 : decode cX6_coins 16 = .ok (.invokevirtual 107, 3) := by decide +kernel
theorem dX6_coins_19 : decode cX6_coins 19 = .ok (.ifCond .ne 5, 3) := by decide +kernel
theorem dX6_coins_22 : decode cX6_coins 22 = .ok (.iconst (-1), 1) := by decide +kernel
theorem dX6_coins_23 : decode cX6_coins 23 = .ok (.ireturn, 1) := by decide +kernel
theorem dX6_coins_24 : decode cX6_coins 24 = .ok (.aload_n 0, 1) := by decide +kernel
theorem dX6_coins_25 : decode cX6_coins 25 = .ok (.getfield 29, 3) := by decide +kernel
theorem dX6_coins_28 : decode cX6_coins 28 = .ok (.iload_n 1, 1) := by decide +kernel
theorem dX6_coins_29 : decode cX6_coins 29 = .ok (.iload_n 2, 1) := by decide +kernel
theorem dX6_coins_30 : decode cX6_coins 30 = .ok (.invokevirtual 142, 3) := by decide +kernel
theorem dX6_coins_33 : decode cX6_coins 33 = .ok (.ireturn, 1) := by decide +kernel
theorem dX6_dawn_0 : decode cX6_dawn 0 = .ok (.aload_n 0, 1) := by decide +kernel
theorem dX6_dawn_1 : decode cX6_dawn 1 = .ok (.getfield 39, 3) := by decide +kernel
theorem dX6_dawn_4 : decode cX6_dawn 4 = .ok (.aload_n 0, 1) := by decide +kernel
theorem dX6_dawn_5 : decode cX6_dawn 5 = .ok (.getfield 29, 3) := by decide +kernel
theorem dX6_dawn_8 : decode cX6_dawn 8 = .ok (.invokevirtual 146, 3) := by decide +kernel
theorem dX6_dawn_11 : decode cX6_dawn 11 = .ok (.aload_n 0, 1) := by decide +kernel
theorem dX6_dawn_12 : decode cX6_dawn 12 = .ok (.getfield 29, 3) := by decide +kernel
theorem dX6_dawn_15 : decode cX6_dawn 15 = .ok (.aload_n 0, 1) := by decide +kernel
theorem dX6_dawn_16 : decode cX6_dawn 16 = .ok (.getfield 19, 3) := by decide +kernel
theorem dX6_dawn_19 : decode cX6_dawn 19 = .ok (.invokevirtual 150, 3) := by decide +kernel
theorem dX6_dawn_22 : decode cX6_dawn 22 = .ok (.ireturn, 1) := by decide +kernel
theorem dX6_say_0 : decode cX6_say 0 = .ok (.aload_n 0, 1) := by decide +kernel
theorem dX6_say_1 : decode cX6_say 1 = .ok (.getfield 19, 3) := by decide +kernel
theorem dX6_say_4 : decode cX6_say 4 = .ok (.iload_n 1, 1) := by decide +kernel
theorem dX6_say_5 : decode cX6_say 5 = .ok (.invokevirtual 107, 3) := by decide +kernel
theorem dX6_say_8 : decode cX6_say 8 = .ok (.ifCond .ne 5, 3) := by decide +kernel
theorem dX6_say_11 : decode cX6_say 11 = .ok (.iconst (-1), 1) := by decide +kernel
theorem dX6_say_12 : decode cX6_say 12 = .ok (.ireturn, 1) := by decide +kernel
theorem dX6_say_13 : decode cX6_say 13 = .ok (.iload_n 2, 1) := by decide +kernel
theorem dX6_say_14 : decode cX6_say 14 = .ok (.invokestatic 153, 3) := by decide +kernel
theorem dX6_say_17 : decode cX6_say 17 = .ok (.ifCond .ne 6, 3) := by decide +kernel
theorem dX6_say_20 : decode cX6_say 20 = .ok (.bipush (-2), 2) := by decide +kernel
theorem dX6_say_22 : decode cX6_say 22 = .ok (.ireturn, 1) := by decide +kernel
theorem dX6_say_23 : decode cX6_say 23 = .ok (.aload_n 0, 1) := by decide +kernel
theorem dX6_say_24 : decode cX6_say 24 = .ok (.getfield 29, 3) := by decide +kernel
theorem dX6_say_27 : decode cX6_say 27 = .ok (.aload_n 0, 1) := by decide +kernel
theorem dX6_say_28 : decode cX6_say 28 = .ok (.getfield 19, 3) := by decide +kernel
theorem dX6_say_31 : decode cX6_say 31 = .ok (.iload_n 1, 1) := by decide +kernel
theorem dX6_say_32 : decode cX6_say 32 = .ok (.iload_n 2, 1) := by decide +kernel
theorem dX6_say_33 : decode cX6_say 33 = .ok (.invokevirtual 156, 3) := by decide +kernel
theorem dX6_say_36 : decode cX6_say 36 = .ok (.ifCond .ne 6, 3) := by decide +kernel
theorem dX6_say_39 : decode cX6_say 39 = .ok (.bipush (-3), 2) := by decide +kernel
theorem dX6_say_41 : decode cX6_say 41 = .ok (.ireturn, 1) := by decide +kernel
theorem dX6_say_42 : decode cX6_say 42 = .ok (.aload_n 0, 1) := by decide +kernel
theorem dX6_say_43 : decode cX6_say 43 = .ok (.getfield 39, 3) := by decide +kernel
theorem dX6_say_46 : decode cX6_say 46 = .ok (.aload_n 0, 1) := by decide +kernel
theorem dX6_say_47 : decode cX6_say 47 = .ok (.getfield 29, 3) := by decide +kernel
theorem dX6_say_50 : decode cX6_say 50 = .ok (.invokevirtual 146, 3) := by decide +kernel
theorem dX6_say_53 : decode cX6_say 53 = .ok (.aload_n 0, 1) := by decide +kernel
theorem dX6_say_54 : decode cX6_say 54 = .ok (.getfield 29, 3) := by decide +kernel
theorem dX6_say_57 : decode cX6_say 57 = .ok (.iload_n 1, 1) := by decide +kernel
theorem dX6_say_58 : decode cX6_say 58 = .ok (.iload_n 2, 1) := by decide +kernel
theorem dX6_say_59 : decode cX6_say 59 = .ok (.invokevirtual 160, 3) := by decide +kernel
theorem dX6_say_62 : decode cX6_say 62 = .ok (.aload_n 0, 1) := by decide +kernel
theorem dX6_say_63 : decode cX6_say 63 = .ok (.getfield 29, 3) := by decide +kernel
theorem dX6_say_66 : decode cX6_say 66 = .ok (.iload_n 1, 1) := by decide +kernel
theorem dX6_say_67 : decode cX6_say 67 = .ok (.invokevirtual 120, 3) := by decide +kernel
theorem dX6_say_70 : decode cX6_say 70 = .ok (.invokestatic 164, 3) := by decide +kernel
theorem dX6_say_73 : decode cX6_say 73 = .ok (.ireturn, 1) := by decide +kernel
theorem dX6_deny_0 : decode cX6_deny 0 = .ok (.aload_n 0, 1) := by decide +kernel
theorem dX6_deny_1 : decode cX6_deny 1 = .ok (.getfield 19, 3) := by decide +kernel
theorem dX6_deny_4 : decode cX6_deny 4 = .ok (.iload_n 1, 1) := by decide +kernel
theorem dX6_deny_5 : decode cX6_deny 5 = .ok (.invokevirtual 107, 3) := by decide +kernel
theorem dX6_deny_8 : decode cX6_deny 8 = .ok (.ifCond .ne 5, 3) := by decide +kernel
theorem dX6_deny_11 : decode cX6_deny 11 = .ok (.iconst (-1), 1) := by decide +kernel
theorem dX6_deny_12 : decode cX6_deny 12 = .ok (.ireturn, 1) := by decide +kernel
theorem dX6_deny_13 : decode cX6_deny 13 = .ok (.iload_n 2, 1) := by decide +kernel
theorem dX6_deny_14 : decode cX6_deny 14 = .ok (.invokestatic 153, 3) := by decide +kernel
theorem dX6_deny_17 : decode cX6_deny 17 = .ok (.ifCond .ne 6, 3) := by decide +kernel
theorem dX6_deny_20 : decode cX6_deny 20 = .ok (.bipush (-2), 2) := by decide +kernel
theorem dX6_deny_22 : decode cX6_deny 22 = .ok (.ireturn, 1) := by decide +kernel
theorem dX6_deny_23 : decode cX6_deny 23 = .ok (.aload_n 0, 1) := by decide +kernel
theorem dX6_deny_24 : decode cX6_deny 24 = .ok (.getfield 29, 3) := by decide +kernel
theorem dX6_deny_27 : decode cX6_deny 27 = .ok (.aload_n 0, 1) := by decide +kernel
theorem dX6_deny_28 : decode cX6_deny 28 = .ok (.getfield 19, 3) := by decide +kernel
theorem dX6_deny_31 : decode cX6_deny 31 = .ok (.iload_n 1, 1) := by decide +kernel
theorem dX6_deny_32 : decode cX6_deny 32 = .ok (.iload_n 2, 1) := by decide +kernel
theorem dX6_deny_33 : decode cX6_deny 33 = .ok (.invokevirtual 169, 3) := by decide +kernel
theorem dX6_deny_36 : decode cX6_deny 36 = .ok (.ifCond .ne 6, 3) := by decide +kernel
theorem dX6_deny_39 : decode cX6_deny 39 = .ok (.bipush (-3), 2) := by decide +kernel
theorem dX6_deny_41 : decode cX6_deny 41 = .ok (.ireturn, 1) := by decide +kernel
theorem dX6_deny_42 : decode cX6_deny 42 = .ok (.aload_n 0, 1) := by decide +kernel
theorem dX6_deny_43 : decode cX6_deny 43 = .ok (.getfield 39, 3) := by decide +kernel
theorem dX6_deny_46 : decode cX6_deny 46 = .ok (.aload_n 0, 1) := by decide +kernel
theorem dX6_deny_47 : decode cX6_deny 47 = .ok (.getfield 29, 3) := by decide +kernel
theorem dX6_deny_50 : decode cX6_deny 50 = .ok (.invokevirtual 146, 3) := by decide +kernel
theorem dX6_deny_53 : decode cX6_deny 53 = .ok (.aload_n 0, 1) := by decide +kernel
theorem dX6_deny_54 : decode cX6_deny 54 = .ok (.getfield 29, 3) := by decide +kernel
theorem dX6_deny_57 : decode cX6_deny 57 = .ok (.iload_n 1, 1) := by decide +kernel
theorem dX6_deny_58 : decode cX6_deny 58 = .ok (.iload_n 2, 1) := by decide +kernel
theorem dX6_deny_59 : decode cX6_deny 59 = .ok (.invokevirtual 172, 3) := by decide +kernel
theorem dX6_deny_62 : decode cX6_deny 62 = .ok (.aload_n 0, 1) := by decide +kernel
theorem dX6_deny_63 : decode cX6_deny 63 = .ok (.getfield 29, 3) := by decide +kernel
theorem dX6_deny_66 : decode cX6_deny 66 = .ok (.iload_n 1, 1) := by decide +kernel
theorem dX6_deny_67 : decode cX6_deny 67 = .ok (.invokevirtual 120, 3) := by decide +kernel
theorem dX6_deny_70 : decode cX6_deny 70 = .ok (.invokestatic 164, 3) := by decide +kernel
theorem dX6_deny_73 : decode cX6_deny 73 = .ok (.ireturn, 1) := by decide +kernel
theorem dX6_pay_0 : decode cX6_pay 0 = .ok (.aload_n 0, 1) := by decide +kernel
theorem dX6_pay_1 : decode cX6_pay 1 = .ok (.getfield 19, 3) := by decide +kernel
theorem dX6_pay_4 : decode cX6_pay 4 = .ok (.iload_n 1, 1) := by decide +kernel
theorem dX6_pay_5 : decode cX6_pay 5 = .ok (.invokevirtual 136, 3) := by decide +kernel
theorem dX6_pay_8 : decode cX6_pay 8 = .ok (.ifCond .eq 25, 3) := by decide +kernel
theorem dX6_pay_11 : decode cX6_pay 11 = .ok (.aload_n 0, 1) := by decide +kernel
theorem dX6_pay_12 : decode cX6_pay 12 = .ok (.getfield 19, 3) := by decide +kernel
theorem dX6_pay_15 : decode cX6_pay 15 = .ok (.iload_n 2, 1) := by decide +kernel
theorem dX6_pay_16 : decode cX6_pay 16 = .ok (.invokevirtual 136, 3) := by decide +kernel
theorem dX6_pay_19 : decode cX6_pay 19 = .ok (.ifCond .eq 14, 3) := by decide +kernel
theorem dX6_pay_22 : decode cX6_pay 22 = .ok (.aload_n 0, 1) := by decide +kernel
theorem dX6_pay_23 : decode cX6_pay 23 = .ok (.getfield 19, 3) := by decide +kernel
theorem dX6_pay_26 : decode cX6_pay 26 = .ok (.iload_n 3, 1) := by decide +kernel
theorem dX6_pay_27 : decode cX6_pay 27 = .ok (.invokevirtual 107, 3) := by decide +kernel
theorem dX6_pay_30 : decode cX6_pay 30 = .ok (.ifCond .ne 5, 3) := by decide +kernel
theorem dX6_pay_33 : decode cX6_pay 33 = .ok (.iconst (-1), 1) := by decide +kernel
theorem dX6_pay_34 : decode cX6_pay 34 = .ok (.ireturn, 1) := by decide +kernel
theorem dX6_pay_35 : decode cX6_pay 35 = .ok (.iload_n 1, 1) := by decide +kernel
theorem dX6_pay_36 : decode cX6_pay 36 = .ok (.iload_n 2, 1) := by decide +kernel
theorem dX6_pay_37 : decode cX6_pay 37 = .ok (.if_icmp .ne 6, 3) := by decide +kernel
theorem dX6_pay_40 : decode cX6_pay 40 = .ok (.bipush (-2), 2) := by decide +kernel
theorem dX6_pay_42 : decode cX6_pay 42 = .ok (.ireturn, 1) := by decide +kernel
theorem dX6_pay_43 : decode cX6_pay 43 = .ok (.aload_n 0, 1) := by decide +kernel
theorem dX6_pay_44 : decode cX6_pay 44 = .ok (.getfield 29, 3) := by decide +kernel
theorem dX6_pay_47 : decode cX6_pay 47 = .ok (.iload_n 1, 1) := by decide +kernel
theorem dX6_pay_48 : decode cX6_pay 48 = .ok (.iload_n 3, 1) := by decide +kernel
theorem dX6_pay_49 : decode cX6_pay 49 = .ok (.invokevirtual 142, 3) := by decide +kernel
theorem dX6_pay_52 : decode cX6_pay 52 = .ok (.iconst 1, 1) := by decide +kernel
theorem dX6_pay_53 : decode cX6_pay 53 = .ok (.if_icmp .lt 19, 3) := by decide +kernel
theorem dX6_pay_56 : decode cX6_pay 56 = .ok (.aload_n 0, 1) := by decide +kernel
theorem dX6_pay_57 : decode cX6_pay 57 = .ok (.getfield 29, 3) := by decide +kernel
theorem dX6_pay_60 : decode cX6_pay 60 = .ok (.aload_n 0, 1) := by decide +kernel
theorem dX6_pay_61 : decode cX6_pay 61 = .ok (.getfield 19, 3) := by decide +kernel
theorem dX6_pay_64 : decode cX6_pay 64 = .ok (.iload_n 2, 1) := by decide +kernel
theorem dX6_pay_65 : decode cX6_pay 65 = .ok (.iload_n 3, 1) := by decide +kernel
theorem dX6_pay_66 : decode cX6_pay 66 = .ok (.invokevirtual 175, 3) := by decide +kernel
theorem dX6_pay_69 : decode cX6_pay 69 = .ok (.ifCond .ne 6, 3) := by decide +kernel
theorem dX6_pay_72 : decode cX6_pay 72 = .ok (.bipush (-3), 2) := by decide +kernel
theorem dX6_pay_74 : decode cX6_pay 74 = .ok (.ireturn, 1) := by decide +kernel
theorem dX6_pay_75 : decode cX6_pay 75 = .ok (.aload_n 0, 1) := by decide +kernel
theorem dX6_pay_76 : decode cX6_pay 76 = .ok (.getfield 39, 3) := by decide +kernel
theorem dX6_pay_79 : decode cX6_pay 79 = .ok (.aload_n 0, 1) := by decide +kernel
theorem dX6_pay_80 : decode cX6_pay 80 = .ok (.getfield 29, 3) := by decide +kernel
theorem dX6_pay_83 : decode cX6_pay 83 = .ok (.invokevirtual 146, 3) := by decide +kernel
theorem dX6_pay_86 : decode cX6_pay 86 = .ok (.aload_n 0, 1) := by decide +kernel
theorem dX6_pay_87 : decode cX6_pay 87 = .ok (.getfield 29, 3) := by decide +kernel
theorem dX6_pay_90 : decode cX6_pay 90 = .ok (.iload_n 1, 1) := by decide +kernel
theorem dX6_pay_91 : decode cX6_pay 91 = .ok (.iload_n 3, 1) := by decide +kernel
theorem dX6_pay_92 : decode cX6_pay 92 = .ok (.iconst (-1), 1) := by decide +kernel
theorem dX6_pay_93 : decode cX6_pay 93 = .ok (.invokevirtual 178, 3) := by decide +kernel
theorem dX6_pay_96 : decode cX6_pay 96 = .ok (.aload_n 0, 1) := by decide +kernel
theorem dX6_pay_97 : decode cX6_pay 97 = .ok (.getfield 29, 3) := by decide +kernel
theorem dX6_pay_100 : decode cX6_pay 100 = .ok (.iload_n 2, 1) := by decide +kernel
theorem dX6_pay_101 : decode cX6_pay 101 = .ok (.iload_n 3, 1) := by decide +kernel
theorem dX6_pay_102 : decode cX6_pay 102 = .ok (.iconst 1, 1) := by decide +kernel
theorem dX6_pay_103 : decode cX6_pay 103 = .ok (.invokevirtual 178, 3) := by decide +kernel
theorem dX6_pay_106 : decode cX6_pay 106 = .ok (.aload_n 0, 1) := by decide +kernel
theorem dX6_pay_107 : decode cX6_pay 107 = .ok (.getfield 29, 3) := by decide +kernel
theorem dX6_pay_110 : decode cX6_pay 110 = .ok (.aload_n 0, 1) := by decide +kernel
theorem dX6_pay_111 : decode cX6_pay 111 = .ok (.getfield 19, 3) := by decide +kernel
theorem dX6_pay_114 : decode cX6_pay 114 = .ok (.iload_n 3, 1) := by decide +kernel
theorem dX6_pay_115 : decode cX6_pay 115 = .ok (.invokevirtual 182, 3) := by decide +kernel
theorem dX6_pay_118 : decode cX6_pay 118 = .ok (.ireturn, 1) := by decide +kernel
theorem dX6_undo_0 : decode cX6_undo 0 = .ok (.aload_n 0, 1) := by decide +kernel
theorem dX6_undo_1 : decode cX6_undo 1 = .ok (.getfield 39, 3) := by decide +kernel
theorem dX6_undo_4 : decode cX6_undo 4 = .ok (.aload_n 0, 1) := by decide +kernel
theorem dX6_undo_5 : decode cX6_undo 5 = .ok (.getfield 29, 3) := by decide +kernel
theorem dX6_undo_8 : decode cX6_undo 8 = .ok (.invokevirtual 186, 3) := by decide +kernel
theorem dX6_undo_11 : decode cX6_undo 11 = .ok (.ifCond .eq 13, 3) := by decide +kernel
theorem dX6_undo_14 : decode cX6_undo 14 = .ok (.aload_n 0, 1) := by decide +kernel
theorem dX6_undo_15 : decode cX6_undo 15 = .ok (.getfield 39, 3) := by decide +kernel
theorem dX6_undo_18 : decode cX6_undo 18 = .ok (.getfield 98, 3) := by decide +kernel
theorem dX6_undo_21 : decode cX6_undo 21 = .ok (.goto 5, 3) := by decide +kernel
theorem dX6_undo_24 : decode cX6_undo 24 = .ok (.bipush (-3), 2) := by decide +kernel
theorem dX6_undo_26 : decode cX6_undo 26 = .ok (.ireturn, 1) := by decide +kernel
theorem dX6_worth_0 : decode cX6_worth 0 = .ok (.aload_n 0, 1) := by decide +kernel
theorem dX6_worth_1 : decode cX6_worth 1 = .ok (.getfield 19, 3) := by decide +kernel
theorem dX6_worth_4 : decode cX6_worth 4 = .ok (.iload_n 1, 1) := by decide +kernel
theorem dX6_worth_5 : decode cX6_worth 5 = .ok (.invokevirtual 107, 3) := by decide +kernel
theorem dX6_worth_8 : decode cX6_worth 8 = .ok (.ifCond .ne 5, 3) := by decide +kernel
theorem dX6_worth_11 : decode cX6_worth 11 = .ok (.iconst (-1), 1) := by decide +kernel
theorem dX6_worth_12 : decode cX6_worth 12 = .ok (.ireturn, 1) := by decide +kernel
theorem dX6_worth_13 : decode cX6_worth 13 = .ok (.iload_n 2, 1) := by decide +kernel
theorem dX6_worth_14 : decode cX6_worth 14 = .ok (.iconst 0, 1) := by decide +kernel
theorem dX6_worth_15 : decode cX6_worth 15 = .ok (.bipush 8, 2) := by decide +kernel
theorem dX6_worth_17 : decode cX6_worth 17 = .ok (.invokestatic 78, 3) := by decide +kernel
theorem dX6_worth_20 : decode cX6_worth 20 = .ok (.ifCond .eq 6, 3) := by decide +kernel
theorem dX6_worth_23 : decode cX6_worth 23 = .ok (.bipush (-2), 2) := by decide +kernel
theorem dX6_worth_25 : decode cX6_worth 25 = .ok (.ireturn, 1) := by decide +kernel
theorem dX6_worth_26 : decode cX6_worth 26 = .ok (.aload_n 0, 1) := by decide +kernel
theorem dX6_worth_27 : decode cX6_worth 27 = .ok (.iload_n 1, 1) := by decide +kernel
theorem dX6_worth_28 : decode cX6_worth 28 = .ok (.aload_n 0, 1) := by decide +kernel
theorem dX6_worth_29 : decode cX6_worth 29 = .ok (.getfield 29, 3) := by decide +kernel
theorem dX6_worth_32 : decode cX6_worth 32 = .ok (.iload_n 1, 1) := by decide +kernel
theorem dX6_worth_33 : decode cX6_worth 33 = .ok (.invokevirtual 120, 3) := by decide +kernel
theorem dX6_worth_36 : decode cX6_worth 36 = .ok (.iload_n 2, 1) := by decide +kernel
theorem dX6_worth_37 : decode cX6_worth 37 = .ok (.invokevirtual 190, 3) := by decide +kernel
theorem dX6_worth_40 : decode cX6_worth 40 = .ok (.ireturn, 1) := by decide +kernel
theorem dX6_purse_0 : decode cX6_purse 0 = .ok (.aload_n 0, 1) := by decide +kernel
theorem dX6_purse_1 : decode cX6_purse 1 = .ok (.getfield 19, 3) := by decide +kernel
theorem dX6_purse_4 : decode cX6_purse 4 = .ok (.iload_n 1, 1) := by decide +kernel
theorem dX6_purse_5 : decode cX6_purse 5 = .ok (.invokevirtual 136, 3) := by decide +kernel
theorem dX6_purse_8 : decode cX6_purse 8 = .ok (.ifCond .ne 5, 3) := by decide +kernel
theorem dX6_purse_11 : decode cX6_purse 11 = .ok (.iconst (-1), 1) := by decide +kernel
theorem dX6_purse_12 : decode cX6_purse 12 = .ok (.ireturn, 1) := by decide +kernel
theorem dX6_purse_13 : decode cX6_purse 13 = .ok (.iload_n 2, 1) := by decide +kernel
theorem dX6_purse_14 : decode cX6_purse 14 = .ok (.iconst 0, 1) := by decide +kernel
theorem dX6_purse_15 : decode cX6_purse 15 = .ok (.bipush 8, 2) := by decide +kernel
theorem dX6_purse_17 : decode cX6_purse 17 = .ok (.invokestatic 78, 3) := by decide +kernel
theorem dX6_purse_20 : decode cX6_purse 20 = .ok (.ifCond .eq 6, 3) := by decide +kernel
theorem dX6_purse_23 : decode cX6_purse 23 = .ok (.bipush (-2), 2) := by decide +kernel
theorem dX6_purse_25 : decode cX6_purse 25 = .ok (.ireturn, 1) := by decide +kernel
theorem dX6_purse_26 : decode cX6_purse 26 = .ok (.aload_n 0, 1) := by decide +kernel
theorem dX6_purse_27 : decode cX6_purse 27 = .ok (.iload_n 1, 1) := by decide +kernel
theorem dX6_purse_28 : decode cX6_purse 28 = .ok (.iload_n 2, 1) := by decide +kernel
theorem dX6_purse_29 : decode cX6_purse 29 = .ok (.invokevirtual 194, 3) := by decide +kernel
theorem dX6_purse_32 : decode cX6_purse 32 = .ok (.ireturn, 1) := by decide +kernel
theorem dX6_bestDay_0 : decode cX6_bestDay 0 = .ok (.aload_n 0, 1) := by decide +kernel
theorem dX6_bestDay_1 : decode cX6_bestDay 1 = .ok (.getfield 19, 3) := by decide +kernel
theorem dX6_bestDay_4 : decode cX6_bestDay 4 = .ok (.iload_n 1, 1) := by decide +kernel
theorem dX6_bestDay_5 : decode cX6_bestDay 5 = .ok (.invokevirtual 136, 3) := by decide +kernel
theorem dX6_bestDay_8 : decode cX6_bestDay 8 = .ok (.ifCond .ne 5, 3) := by decide +kernel
theorem dX6_bestDay_11 : decode cX6_bestDay 11 = .ok (.iconst (-1), 1) := by decide +kernel
theorem dX6_bestDay_12 : decode cX6_bestDay 12 = .ok (.ireturn, 1) := by decide +kernel
theorem dX6_bestDay_13 : decode cX6_bestDay 13 = .ok (.aload_n 0, 1) := by decide +kernel
theorem dX6_bestDay_14 : decode cX6_bestDay 14 = .ok (.getfield 61, 3) := by decide +kernel
theorem dX6_bestDay_17 : decode cX6_bestDay 17 = .ok (.aload_n 0, 1) := by decide +kernel
theorem dX6_bestDay_18 : decode cX6_bestDay 18 = .ok (.iload_n 1, 1) := by decide +kernel
theorem dX6_bestDay_19 : decode cX6_bestDay 19 = .ok (.iconst 0, 1) := by decide +kernel
theorem dX6_bestDay_20 : decode cX6_bestDay 20 = .ok (.invokevirtual 194, 3) := by decide +kernel
theorem dX6_bestDay_23 : decode cX6_bestDay 23 = .ok (.iconst 0, 1) := by decide +kernel
theorem dX6_bestDay_24 : decode cX6_bestDay 24 = .ok (.invokevirtual 197, 3) := by decide +kernel
theorem dX6_bestDay_27 : decode cX6_bestDay 27 = .ok (.iconst 1, 1) := by decide +kernel
theorem dX6_bestDay_28 : decode cX6_bestDay 28 = .ok (.istore_n 2, 1) := by decide +kernel
theorem dX6_bestDay_29 : decode cX6_bestDay 29 = .ok (.iload_n 2, 1) := by decide +kernel
theorem dX6_bestDay_30 : decode cX6_bestDay 30 = .ok (.bipush 8, 2) := by decide +kernel
theorem dX6_bestDay_32 : decode cX6_bestDay 32 = .ok (.if_icmp .gt 23, 3) := by decide +kernel
theorem dX6_bestDay_35 : decode cX6_bestDay 35 = .ok (.aload_n 0, 1) := by decide +kernel
theorem dX6_bestDay_36 : decode cX6_bestDay 36 = .ok (.getfield 61, 3) := by decide +kernel
theorem dX6_bestDay_39 : decode cX6_bestDay 39 = .ok (.aload_n 0, 1) := by decide +kernel
theorem dX6_bestDay_40 : decode cX6_bestDay 40 = .ok (.iload_n 1, 1) := by decide +kernel
theorem dX6_bestDay_41 : decode cX6_bestDay 41 = .ok (.iload_n 2, 1) := by decide +kernel
theorem dX6_bestDay_42 : decode cX6_bestDay 42 = .ok (.invokevirtual 194, 3) := by decide +kernel
theorem dX6_bestDay_45 : decode cX6_bestDay 45 = .ok (.iload_n 2, 1) := by decide +kernel
theorem dX6_bestDay_46 : decode cX6_bestDay 46 = .ok (.invokevirtual 200, 3) := by decide +kernel
theorem dX6_bestDay_49 : decode cX6_bestDay 49 = .ok (.iinc 2 1, 3) := by decide +kernel
theorem dX6_bestDay_52 : decode cX6_bestDay 52 = .ok (.goto (-23), 3) := by decide +kernel
theorem dX6_bestDay_55 : decode cX6_bestDay 55 = .ok (.aload_n 0, 1) := by decide +kernel
theorem dX6_bestDay_56 : decode cX6_bestDay 56 = .ok (.getfield 61, 3) := by decide +kernel
theorem dX6_bestDay_59 : decode cX6_bestDay 59 = .ok (.getfield 203, 3) := by decide +kernel
theorem dX6_bestDay_62 : decode cX6_bestDay 62 = .ok (.ireturn, 1) := by decide +kernel
theorem dX6_reach_0 : decode cX6_reach 0 = .ok (.aload_n 0, 1) := by decide +kernel
theorem dX6_reach_1 : decode cX6_reach 1 = .ok (.getfield 19, 3) := by decide +kernel
theorem dX6_reach_4 : decode cX6_reach 4 = .ok (.iload_n 1, 1) := by decide +kernel
theorem dX6_reach_5 : decode cX6_reach 5 = .ok (.invokevirtual 107, 3) := by decide +kernel
theorem dX6_reach_8 : decode cX6_reach 8 = .ok (.ifCond .ne 5, 3) := by decide +kernel
theorem dX6_reach_11 : decode cX6_reach 11 = .ok (.iconst (-1), 1) := by decide +kernel
theorem dX6_reach_12 : decode cX6_reach 12 = .ok (.ireturn, 1) := by decide +kernel
theorem dX6_reach_13 : decode cX6_reach 13 = .ok (.iload_n 2, 1) := by decide +kernel
theorem dX6_reach_14 : decode cX6_reach 14 = .ok (.invokestatic 153, 3) := by decide +kernel
theorem dX6_reach_17 : decode cX6_reach 17 = .ok (.ifCond .ne 6, 3) := by decide +kernel
theorem dX6_reach_20 : decode cX6_reach 20 = .ok (.bipush (-2), 2) := by decide +kernel
theorem dX6_reach_22 : decode cX6_reach 22 = .ok (.ireturn, 1) := by decide +kernel
theorem dX6_reach_23 : decode cX6_reach 23 = .ok (.iconst 0, 1) := by decide +kernel
theorem dX6_reach_24 : decode cX6_reach 24 = .ok (.istore_n 3, 1) := by decide +kernel
theorem dX6_reach_25 : decode cX6_reach 25 = .ok (.iload_n 3, 1) := by decide +kernel
theorem dX6_reach_26 : decode cX6_reach 26 = .ok (.bipush 8, 2) := by decide +kernel
theorem dX6_reach_28 : decode cX6_reach 28 = .ok (.if_icmp .gt 32, 3) := by decide +kernel
theorem dX6_reach_31 : decode cX6_reach 31 = .ok (.aload_n 0, 1) := by decide +kernel
theorem dX6_reach_32 : decode cX6_reach 32 = .ok (.iload_n 1, 1) := by decide +kernel
theorem dX6_reach_33 : decode cX6_reach 33 = .ok (.aload_n 0, 1) := by decide +kernel
theorem dX6_reach_34 : decode cX6_reach 34 = .ok (.getfield 29, 3) := by decide +kernel
theorem dX6_reach_37 : decode cX6_reach 37 = .ok (.iload_n 1, 1) := by decide +kernel
theorem dX6_reach_38 : decode cX6_reach 38 = .ok (.invokevirtual 120, 3) := by decide +kernel
theorem dX6_reach_41 : decode cX6_reach 41 = .ok (.iload_n 3, 1) := by decide +kernel
theorem dX6_reach_42 : decode cX6_reach 42 = .ok (.invokevirtual 206, 3) := by decide +kernel
theorem dX6_reach_45 : decode cX6_reach 45 = .ok (.iload_n 2, 1) := by decide +kernel
theorem dX6_reach_46 : decode cX6_reach 46 = .ok (.invokestatic 209, 3) := by decide +kernel
theorem dX6_reach_49 : decode cX6_reach 49 = .ok (.ifCond .eq 5, 3) := by decide +kernel
theorem dX6_reach_52 : decode cX6_reach 52 = .ok (.iload_n 3, 1) := by decide +kernel
theorem dX6_reach_53 : decode cX6_reach 53 = .ok (.ireturn, 1) := by decide +kernel
theorem dX6_reach_54 : decode cX6_reach 54 = .ok (.iinc 3 1, 3) := by decide +kernel
theorem dX6_reach_57 : decode cX6_reach 57 = .ok (.goto (-32), 3) := by decide +kernel
theorem dX6_reach_60 : decode cX6_reach 60 = .ok (.bipush (-9), 2) := by decide +kernel
theorem dX6_reach_62 : decode cX6_reach 62 = .ok (.ireturn, 1) := by decide +kernel
theorem dX6_plan_0 : decode cX6_plan 0 = .ok (.aload_n 0, 1) := by decide +kernel
theorem dX6_plan_1 : decode cX6_plan 1 = .ok (.getfield 19, 3) := by decide +kernel
theorem dX6_plan_4 : decode cX6_plan 4 = .ok (.iload_n 1, 1) := by decide +kernel
theorem dX6_plan_5 : decode cX6_plan 5 = .ok (.invokevirtual 136, 3) := by decide +kernel
theorem dX6_plan_8 : decode cX6_plan 8 = .ok (.ifCond .ne 5, 3) := by decide +kernel
theorem dX6_plan_11 : decode cX6_plan 11 = .ok (.iconst (-1), 1) := by decide +kernel
theorem dX6_plan_12 : decode cX6_plan 12 = .ok (.ireturn, 1) := by decide +kernel
theorem dX6_plan_13 : decode cX6_plan 13 = .ok (.iload_n 2, 1) := by decide +kernel
theorem dX6_plan_14 : decode cX6_plan 14 = .ok (.iconst 0, 1) := by decide +kernel
theorem dX6_plan_15 : decode cX6_plan 15 = .ok (.bipush 8, 2) := by decide +kernel
theorem dX6_plan_17 : decode cX6_plan 17 = .ok (.invokestatic 78, 3) := by decide +kernel
theorem dX6_plan_20 : decode cX6_plan 20 = .ok (.ifCond .eq 6, 3) := by decide +kernel
theorem dX6_plan_23 : decode cX6_plan 23 = .ok (.bipush (-2), 2) := by decide +kernel
theorem dX6_plan_25 : decode cX6_plan 25 = .ok (.ireturn, 1) := by decide +kernel
theorem dX6_plan_26 : decode cX6_plan 26 = .ok (.iconst 0, 1) := by decide +kernel
theorem dX6_plan_27 : decode cX6_plan 27 = .ok (.istore 4, 2) := by decide +kernel
theorem dX6_plan_29 : decode cX6_plan 29 = .ok (.iload 4, 2) := by decide +kernel
theorem dX6_plan_31 : decode cX6_plan 31 = .ok (.aload_n 0, 1) := by decide +kernel
theorem dX6_plan_32 : decode cX6_plan 32 = .ok (.getfield 65, 3) := by decide +kernel
theorem dX6_plan_35 : decode cX6_plan 35 = .ok (.arraylength, 1) := by decide +kernel
theorem dX6_plan_36 : decode cX6_plan 36 = .ok (.if_icmp .ge 45, 3) := by decide +kernel
theorem dX6_plan_39 : decode cX6_plan 39 = .ok (.aload_n 0, 1) := by decide +kernel
theorem dX6_plan_40 : decode cX6_plan 40 = .ok (.getfield 65, 3) := by decide +kernel
theorem dX6_plan_43 : decode cX6_plan 43 = .ok (.iload 4, 2) := by decide +kernel
theorem dX6_plan_45 : decode cX6_plan 45 = .ok (.aload_n 0, 1) := by decide +kernel
theorem dX6_plan_46 : decode cX6_plan 46 = .ok (.iload 4, 2) := by decide +kernel
theorem dX6_plan_48 : decode cX6_plan 48 = .ok (.invokevirtual 212, 3) := by decide +kernel
theorem dX6_plan_51 : decode cX6_plan 51 = .ok (.ifCond .eq 22, 3) := by decide +kernel
theorem dX6_plan_54 : decode cX6_plan 54 = .ok (.aload_n 0, 1) := by decide +kernel
theorem dX6_plan_55 : decode cX6_plan 55 = .ok (.iload_n 1, 1) := by decide +kernel
theorem dX6_plan_56 : decode cX6_plan 56 = .ok (.iload 4, 2) := by decide +kernel
theorem dX6_plan_58 : decode cX6_plan 58 = .ok (.bipush 6, 2) := by decide +kernel
theorem dX6_plan_60 : decode cX6_plan 60 = .ok (.idiv, 1) := by decide +kernel
theorem dX6_plan_61 : decode cX6_plan 61 = .ok (.iload 4, 2) := by decide +kernel
theorem dX6_plan_63 : decode cX6_plan 63 = .ok (.invokestatic 215, 3) := by decide +kernel
theorem dX6_plan_66 : decode cX6_plan 66 = .ok (.iload_n 2, 1) := by decide +kernel
theorem dX6_plan_67 : decode cX6_plan 67 = .ok (.invokevirtual 218, 3) := by decide +kernel
theorem dX6_plan_70 : decode cX6_plan 70 = .ok (.goto 4, 3) := by decide +kernel
theorem dX6_plan_73 : decode cX6_plan 73 = .ok (.iconst 0, 1) := by decide +kernel
theorem dX6_plan_74 : decode cX6_plan 74 = .ok (.iastore, 1) := by decide +kernel
theorem dX6_plan_75 : decode cX6_plan 75 = .ok (.iinc 4 1, 3) := by decide +kernel
theorem dX6_plan_78 : decode cX6_plan 78 = .ok (.goto (-49), 3) := by decide +kernel
theorem dX6_plan_81 : decode cX6_plan 81 = .ok (.aload_n 0, 1) := by decide +kernel
theorem dX6_plan_82 : decode cX6_plan 82 = .ok (.getfield 61, 3) := by decide +kernel
theorem dX6_plan_85 : decode cX6_plan 85 = .ok (.iconst 0, 1) := by decide +kernel
theorem dX6_plan_86 : decode cX6_plan 86 = .ok (.iconst 1, 1) := by decide +kernel
theorem dX6_plan_87 : decode cX6_plan 87 = .ok (.invokevirtual 197, 3) := by decide +kernel
theorem dX6_plan_90 : decode cX6_plan 90 = .ok (.aload_n 0, 1) := by decide +kernel
theorem dX6_plan_91 : decode cX6_plan 91 = .ok (.invokevirtual 222, 3) := by decide +kernel
theorem dX6_plan_94 : decode cX6_plan 94 = .ok (.aload_n 0, 1) := by decide +kernel
theorem dX6_plan_95 : decode cX6_plan 95 = .ok (.iload_n 1, 1) := by decide +kernel
theorem dX6_plan_96 : decode cX6_plan 96 = .ok (.iload_n 2, 1) := by decide +kernel
theorem dX6_plan_97 : decode cX6_plan 97 = .ok (.invokevirtual 225, 3) := by decide +kernel
theorem dX6_plan_100 : decode cX6_plan 100 = .ok (.iload_n 3, 1) := by decide +kernel
theorem dX6_plan_101 : decode cX6_plan 101 = .ok (.ifCond .eq 13, 3) := by decide +kernel
theorem dX6_plan_104 : decode cX6_plan 104 = .ok (.aload_n 0, 1) := by decide +kernel
theorem dX6_plan_105 : decode cX6_plan 105 = .ok (.getfield 61, 3) := by decide +kernel
theorem dX6_plan_108 : decode cX6_plan 108 = .ok (.getfield 203, 3) := by decide +kernel
theorem dX6_plan_111 : decode cX6_plan 111 = .ok (.goto 17, 3) := by decide +kernel
theorem dX6_plan_114 : decode cX6_plan 114 = .ok (.aload_n 0, 1) := by decide +kernel
theorem dX6_plan_115 : decode cX6_plan 115 = .ok (.iload_n 1, 1) := by decide +kernel
theorem dX6_plan_116 : decode cX6_plan 116 = .ok (.iload_n 2, 1) := by decide +kernel
theorem dX6_plan_117 : decode cX6_plan 117 = .ok (.invokevirtual 194, 3) := by decide +kernel
theorem dX6_plan_120 : decode cX6_plan 120 = .ok (.aload_n 0, 1) := by decide +kernel
theorem dX6_plan_121 : decode cX6_plan 121 = .ok (.getfield 61, 3) := by decide +kernel
theorem dX6_plan_124 : decode cX6_plan 124 = .ok (.getfield 228, 3) := by decide +kernel
theorem dX6_plan_127 : decode cX6_plan 127 = .ok (.iadd, 1) := by decide +kernel
theorem dX6_plan_128 : decode cX6_plan 128 = .ok (.ireturn, 1) := by decide +kernel
theorem dX6_holds_0 : decode cX6_holds 0 = .ok (.aload_n 0, 1) := by decide +kernel
theorem dX6_holds_1 : decode cX6_holds 1 = .ok (.getfield 19, 3) := by decide +kernel
theorem dX6_holds_4 : decode cX6_holds 4 = .ok (.iload_n 1, 1) := by decide +kernel
theorem dX6_holds_5 : decode cX6_holds 5 = .ok (.invokevirtual 136, 3) := by decide +kernel
theorem dX6_holds_8 : decode cX6_holds 8 = .ok (.ifCond .ne 5, 3) := by decide +kernel
theorem dX6_holds_11 : decode cX6_holds 11 = .ok (.iconst (-1), 1) := by decide +kernel
theorem dX6_holds_12 : decode cX6_holds 12 = .ok (.ireturn, 1) := by decide +kernel
theorem dX6_holds_13 : decode cX6_holds 13 = .ok (.iconst 0, 1) := by decide +kernel
theorem dX6_holds_14 : decode cX6_holds 14 = .ok (.istore_n 3, 1) := by decide +kernel
theorem dX6_holds_15 : decode cX6_holds 15 = .ok (.iconst 0, 1) := by decide +kernel
theorem dX6_holds_16 : decode cX6_holds 16 = .ok (.istore 4, 2) := by decide +kernel
theorem dX6_holds_18 : decode cX6_holds 18 = .ok (.iconst 1, 1) := by decide +kernel
theorem dX6_holds_19 : decode cX6_holds 19 = .ok (.istore 5, 2) := by decide +kernel
theorem dX6_holds_21 : decode cX6_holds 21 = .ok (.iload 5, 2) := by decide +kernel
theorem dX6_holds_23 : decode cX6_holds 23 = .ok (.bipush 32, 2) := by decide +kernel
theorem dX6_holds_25 : decode cX6_holds 25 = .ok (.if_icmp .ge 95, 3) := by decide +kernel
theorem dX6_holds_28 : decode cX6_holds 28 = .ok (.iload 5, 2) := by decide +kernel
theorem dX6_holds_30 : decode cX6_holds 30 = .ok (.iconst 1, 1) := by decide +kernel
theorem dX6_holds_31 : decode cX6_holds 31 = .ok (.aload_n 0, 1) := by decide +kernel
theorem dX6_holds_32 : decode cX6_holds 32 = .ok (.getfield 19, 3) := by decide +kernel
theorem dX6_holds_35 : decode cX6_holds 35 = .ok (.getfield 101, 3) := by decide +kernel
theorem dX6_holds_38 : decode cX6_holds 38 = .ok (.ishl, 1) := by decide +kernel
theorem dX6_holds_39 : decode cX6_holds 39 = .ok (.if_icmp .ge 81, 3) := by decide +kernel
theorem dX6_holds_42 : decode cX6_holds 42 = .ok (.aload_n 0, 1) := by decide +kernel
theorem dX6_holds_43 : decode cX6_holds 43 = .ok (.getfield 29, 3) := by decide +kernel
theorem dX6_holds_46 : decode cX6_holds 46 = .ok (.aload_n 0, 1) := by decide +kernel
theorem dX6_holds_47 : decode cX6_holds 47 = .ok (.getfield 19, 3) := by decide +kernel
theorem dX6_holds_50 : decode cX6_holds 50 = .ok (.iload_n 1, 1) := by decide +kernel
theorem dX6_holds_51 : decode cX6_holds 51 = .ok (.iload 5, 2) := by decide +kernel
theorem dX6_holds_53 : decode cX6_holds 53 = .ok (.invokevirtual 231, 3) := by decide +kernel
theorem dX6_holds_56 : decode cX6_holds 56 = .ok (.istore 6, 2) := by decide +kernel
theorem dX6_holds_58 : decode cX6_holds 58 = .ok (.iload 5, 2) := by decide +kernel
theorem dX6_holds_60 : decode cX6_holds 60 = .ok (.invokestatic 164, 3) := by decide +kernel
theorem dX6_holds_63 : decode cX6_holds 63 = .ok (.iload 4, 2) := by decide +kernel
theorem dX6_holds_65 : decode cX6_holds 65 = .ok (.invokestatic 164, 3) := by decide +kernel
theorem dX6_holds_68 : decode cX6_holds 68 = .ok (.if_icmp .ge 7, 3) := by decide +kernel
theorem dX6_holds_71 : decode cX6_holds 71 = .ok (.iconst 1, 1) := by decide +kernel
theorem dX6_holds_72 : decode cX6_holds 72 = .ok (.goto 4, 3) := by decide +kernel
theorem dX6_holds_75 : decode cX6_holds 75 = .ok (.iconst 0, 1) := by decide +kernel
theorem dX6_holds_76 : decode cX6_holds 76 = .ok (.istore 7, 2) := by decide +kernel
theorem dX6_holds_78 : decode cX6_holds 78 = .ok (.aload_n 0, 1) := by decide +kernel
theorem dX6_holds_79 : decode cX6_holds 79 = .ok (.getfield 19, 3) := by decide +kernel
theorem dX6_holds_82 : decode cX6_holds 82 = .ok (.iload 5, 2) := by decide +kernel
theorem dX6_holds_84 : decode cX6_holds 84 = .ok (.invokevirtual 235, 3) := by decide +kernel
theorem dX6_holds_87 : decode cX6_holds 87 = .ok (.ifCond .eq 27, 3) := by decide +kernel
theorem dX6_holds_90 : decode cX6_holds 90 = .ok (.iload 6, 2) := by decide +kernel
theorem dX6_holds_92 : decode cX6_holds 92 = .ok (.iload_n 3, 1) := by decide +kernel
theorem dX6_holds_93 : decode cX6_holds 93 = .ok (.if_icmp .gt 14, 3) := by decide +kernel
theorem dX6_holds_96 : decode cX6_holds 96 = .ok (.iload 6, 2) := by decide +kernel
theorem dX6_holds_98 : decode cX6_holds 98 = .ok (.iload_n 3, 1) := by decide +kernel
theorem dX6_holds_99 : decode cX6_holds 99 = .ok (.if_icmp .ne 15, 3) := by decide +kernel
theorem dX6_holds_102 : decode cX6_holds 102 = .ok (.iload 7, 2) := by decide +kernel
theorem dX6_holds_104 : decode cX6_holds 104 = .ok (.ifCond .eq 10, 3) := by decide +kernel
theorem dX6_holds_107 : decode cX6_holds 107 = .ok (.iload 6, 2) := by decide +kernel
theorem dX6_holds_109 : decode cX6_holds 109 = .ok (.istore_n 3, 1) := by decide +kernel
theorem dX6_holds_110 : decode cX6_holds 110 = .ok (.iload 5, 2) := by decide +kernel
theorem dX6_holds_112 : decode cX6_holds 112 = .ok (.istore 4, 2) := by decide +kernel
theorem dX6_holds_114 : decode cX6_holds 114 = .ok (.iinc 5 1, 3) := by decide +kernel
theorem dX6_holds_117 : decode cX6_holds 117 = .ok (.goto (-96), 3) := by decide +kernel
theorem dX6_holds_120 : decode cX6_holds 120 = .ok (.iload_n 2, 1) := by decide +kernel
theorem dX6_holds_121 : decode cX6_holds 121 = .ok (.ifCond .eq 8, 3) := by decide +kernel
theorem dX6_holds_124 : decode cX6_holds 124 = .ok (.iload 4, 2) := by decide +kernel
theorem dX6_holds_126 : decode cX6_holds 126 = .ok (.goto 4, 3) := by decide +kernel
theorem dX6_holds_129 : decode cX6_holds 129 = .ok (.iload_n 3, 1) := by decide +kernel
theorem dX6_holds_130 : decode cX6_holds 130 = .ok (.ireturn, 1) := by decide +kernel
theorem dX6_judge_0 : decode cX6_judge 0 = .ok (.iload_n 1, 1) := by decide +kernel
theorem dX6_judge_1 : decode cX6_judge 1 = .ok (.iconst 1, 1) := by decide +kernel
theorem dX6_judge_2 : decode cX6_judge 2 = .ok (.iconst 4, 1) := by decide +kernel
theorem dX6_judge_3 : decode cX6_judge 3 = .ok (.invokestatic 78, 3) := by decide +kernel
theorem dX6_judge_6 : decode cX6_judge 6 = .ok (.ifCond .ne 9, 3) := by decide +kernel
theorem dX6_judge_9 : decode cX6_judge 9 = .ok (.lload_n 2, 1) := by decide +kernel
theorem dX6_judge_10 : decode cX6_judge 10 = .ok (.lconst 0, 1) := by decide +kernel
theorem dX6_judge_11 : decode cX6_judge 11 = .ok (.lcmp, 1) := by decide +kernel
theorem dX6_judge_12 : decode cX6_judge 12 = .ok (.ifCond .ge 6, 3) := by decide +kernel
theorem dX6_judge_15 : decode cX6_judge 15 = .ok (.bipush (-2), 2) := by decide +kernel
theorem dX6_judge_17 : decode cX6_judge 17 = .ok (.ireturn, 1) := by decide +kernel
theorem dX6_judge_18 : decode cX6_judge 18 = .ok (.lload_n 2, 1) := by decide +kernel
theorem dX6_judge_19 : decode cX6_judge 19 = .ok (.lstore 4, 2) := by decide +kernel
theorem dX6_judge_21 : decode cX6_judge 21 = .ok (.iload_n 1, 1) := by decide +kernel
theorem dX6_judge_22 : decode cX6_judge 22 = .ok (.iconst 1, 1) := by decide +kernel
theorem dX6_judge_23 : decode cX6_judge 23 = .ok (.isub, 1) := by decide +kernel
theorem dX6_judge_24 : decode cX6_judge 24 = .ok (.istore 6, 2) := by decide +kernel
theorem dX6_judge_26 : decode cX6_judge 26 = .ok (.iload 6, 2) := by decide +kernel
theorem dX6_judge_28 : decode cX6_judge 28 = .ok (.ifCond .lt 41, 3) := by decide +kernel
theorem dX6_judge_31 : decode cX6_judge 31 = .ok (.iload 6, 2) := by decide +kernel
theorem dX6_judge_33 : decode cX6_judge 33 = .ok (.aload_n 0, 1) := by decide +kernel
theorem dX6_judge_34 : decode cX6_judge 34 = .ok (.getfield 69, 3) := by decide +kernel
theorem dX6_judge_37 : decode cX6_judge 37 = .ok (.arraylength, 1) := by decide +kernel
theorem dX6_judge_38 : decode cX6_judge 38 = .ok (.if_icmp .ge 31, 3) := by decide +kernel
theorem dX6_judge_41 : decode cX6_judge 41 = .ok (.aload_n 0, 1) := by decide +kernel
theorem dX6_judge_42 : decode cX6_judge 42 = .ok (.getfield 69, 3) := by decide +kernel
theorem dX6_judge_45 : decode cX6_judge 45 = .ok (.iload 6, 2) := by decide +kernel
theorem dX6_judge_47 : decode cX6_judge 47 = .ok (.lload 4, 2) := by decide +kernel
theorem dX6_judge_49 : decode cX6_judge 49 = .ok (.ldc2_w 238, 3) := by decide +kernel
theorem dX6_judge_52 : decode cX6_judge 52 = .ok (.lrem, 1) := by decide +kernel
theorem dX6_judge_53 : decode cX6_judge 53 = .ok (.l2i, 1) := by decide +kernel
theorem dX6_judge_54 : decode cX6_judge 54 = .ok (.iastore, 1) := by decide +kernel
theorem dX6_judge_55 : decode cX6_judge 55 = .ok (.lload 4, 2) := by decide +kernel
theorem dX6_judge_57 : decode cX6_judge 57 = .ok (.ldc2_w 238, 3) := by decide +kernel
theorem dX6_judge_60 : decode cX6_judge 60 = .ok (.ldiv, 1) := by decide +kernel
theorem dX6_judge_61 : decode cX6_judge 61 = .ok (.lstore 4, 2) := by decide +kernel
theorem dX6_judge_63 : decode cX6_judge 63 = .ok (.iinc 6 (-1), 3) := by decide +kernel
theorem dX6_judge_66 : decode cX6_judge 66 = .ok (.goto (-40), 3) := by decide +kernel
theorem dX6_judge_69 : decode cX6_judge 69 = .ok (.lload 4, 2) := by decide +kernel
theorem dX6_judge_71 : decode cX6_judge 71 = .ok (.lconst 0, 1) := by decide +kernel
theorem dX6_judge_72 : decode cX6_judge 72 = .ok (.lcmp, 1) := by decide +kernel
theorem dX6_judge_73 : decode cX6_judge 73 = .ok (.ifCond .eq 6, 3) := by decide +kernel
theorem dX6_judge_76 : decode cX6_judge 76 = .ok (.bipush (-2), 2) := by decide +kernel
theorem dX6_judge_78 : decode cX6_judge 78 = .ok (.ireturn, 1) := by decide +kernel
theorem dX6_judge_79 : decode cX6_judge 79 = .ok (.aload_n 0, 1) := by decide +kernel
theorem dX6_judge_80 : decode cX6_judge 80 = .ok (.getfield 33, 3) := by decide +kernel
theorem dX6_judge_83 : decode cX6_judge 83 = .ok (.aload_n 0, 1) := by decide +kernel
theorem dX6_judge_84 : decode cX6_judge 84 = .ok (.getfield 29, 3) := by decide +kernel
theorem dX6_judge_87 : decode cX6_judge 87 = .ok (.invokevirtual 240, 3) := by decide +kernel
theorem dX6_judge_90 : decode cX6_judge 90 = .ok (.iconst 0, 1) := by decide +kernel
theorem dX6_judge_91 : decode cX6_judge 91 = .ok (.istore 6, 2) := by decide +kernel
theorem dX6_judge_93 : decode cX6_judge 93 = .ok (.iload 6, 2) := by decide +kernel
theorem dX6_judge_95 : decode cX6_judge 95 = .ok (.iload_n 1, 1) := by decide +kernel
theorem dX6_judge_96 : decode cX6_judge 96 = .ok (.if_icmp .ge 65, 3) := by decide +kernel
theorem dX6_judge_99 : decode cX6_judge 99 = .ok (.iload 6, 2) := by decide +kernel
theorem dX6_judge_101 : decode cX6_judge 101 = .ok (.aload_n 0, 1) := by decide +kernel
theorem dX6_judge_102 : decode cX6_judge 102 = .ok (.getfield 69, 3) := by decide +kernel
theorem dX6_judge_105 : decode cX6_judge 105 = .ok (.arraylength, 1) := by decide +kernel
theorem dX6_judge_106 : decode cX6_judge 106 = .ok (.if_icmp .ge 55, 3) := by decide +kernel
theorem dX6_judge_109 : decode cX6_judge 109 = .ok (.aload_n 0, 1) := by decide +kernel
theorem dX6_judge_110 : decode cX6_judge 110 = .ok (.getfield 33, 3) := by decide +kernel
theorem dX6_judge_113 : decode cX6_judge 113 = .ok (.aload_n 0, 1) := by decide +kernel
theorem dX6_judge_114 : decode cX6_judge 114 = .ok (.getfield 19, 3) := by decide +kernel
theorem dX6_judge_117 : decode cX6_judge 117 = .ok (.invokevirtual 243, 3) := by decide +kernel
theorem dX6_judge_120 : decode cX6_judge 120 = .ok (.istore 7, 2) := by decide +kernel
theorem dX6_judge_122 : decode cX6_judge 122 = .ok (.aload_n 0, 1) := by decide +kernel
theorem dX6_judge_123 : decode cX6_judge 123 = .ok (.aload_n 0, 1) := by decide +kernel
theorem dX6_judge_124 : decode cX6_judge 124 = .ok (.getfield 69, 3) := by decide +kernel
theorem dX6_judge_127 : decode cX6_judge 127 = .ok (.iload 6, 2) := by decide +kernel
theorem dX6_judge_129 : decode cX6_judge 129 = .ok (.iaload, 1) := by decide +kernel
theorem dX6_judge_130 : decode cX6_judge 130 = .ok (.invokevirtual 246, 3) := by decide +kernel
theorem dX6_judge_133 : decode cX6_judge 133 = .ok (.ifCond .eq 19, 3) := by decide +kernel
theorem dX6_judge_136 : decode cX6_judge 136 = .ok (.aload_n 0, 1) := by decide +kernel
theorem dX6_judge_137 : decode cX6_judge 137 = .ok (.getfield 33, 3) := by decide +kernel
theorem dX6_judge_140 : decode cX6_judge 140 = .ok (.aload_n 0, 1) := by decide +kernel
theorem dX6_judge_141 : decode cX6_judge 141 = .ok (.getfield 19, 3) := by decide +kernel
theorem dX6_judge_144 : decode cX6_judge 144 = .ok (.invokevirtual 243, 3) := by decide +kernel
theorem dX6_judge_147 : decode cX6_judge 147 = .ok (.iload 7, 2) := by decide +kernel
theorem dX6_judge_149 : decode cX6_judge 149 = .ok (.if_icmp .ge 6, 3) := by decide +kernel
theorem dX6_judge_152 : decode cX6_judge 152 = .ok (.iload 6, 2) := by decide +kernel
theorem dX6_judge_154 : decode cX6_judge 154 = .ok (.ireturn, 1) := by decide +kernel
theorem dX6_judge_155 : decode cX6_judge 155 = .ok (.iinc 6 1, 3) := by decide +kernel
theorem dX6_judge_158 : decode cX6_judge 158 = .ok (.goto (-65), 3) := by decide +kernel
theorem dX6_judge_161 : decode cX6_judge 161 = .ok (.bipush (-9), 2) := by decide +kernel
theorem dX6_judge_163 : decode cX6_judge 163 = .ok (.ireturn, 1) := by decide +kernel
theorem dX6_hear_0 : decode cX6_hear 0 = .ok (.aload_n 0, 1) := by decide +kernel
theorem dX6_hear_1 : decode cX6_hear 1 = .ok (.getfield 19, 3) := by decide +kernel
theorem dX6_hear_4 : decode cX6_hear 4 = .ok (.iload_n 1, 1) := by decide +kernel
theorem dX6_hear_5 : decode cX6_hear 5 = .ok (.invokevirtual 107, 3) := by decide +kernel
theorem dX6_hear_8 : decode cX6_hear 8 = .ok (.ifCond .ne 5, 3) := by decide +kernel
theorem dX6_hear_11 : decode cX6_hear 11 = .ok (.iconst (-1), 1) := by decide +kernel
theorem dX6_hear_12 : decode cX6_hear 12 = .ok (.ireturn, 1) := by decide +kernel
theorem dX6_hear_13 : decode cX6_hear 13 = .ok (.iload_n 2, 1) := by decide +kernel
theorem dX6_hear_14 : decode cX6_hear 14 = .ok (.invokestatic 153, 3) := by decide +kernel
theorem dX6_hear_17 : decode cX6_hear 17 = .ok (.ifCond .eq 13, 3) := by decide +kernel
theorem dX6_hear_20 : decode cX6_hear 20 = .ok (.iload_n 3, 1) := by decide +kernel
theorem dX6_hear_21 : decode cX6_hear 21 = .ok (.iconst 0, 1) := by decide +kernel
theorem dX6_hear_22 : decode cX6_hear 22 = .ok (.bipush 8, 2) := by decide +kernel
theorem dX6_hear_24 : decode cX6_hear 24 = .ok (.invokestatic 78, 3) := by decide +kernel
theorem dX6_hear_27 : decode cX6_hear 27 = .ok (.ifCond .eq 6, 3) := by decide +kernel
theorem dX6_hear_30 : decode cX6_hear 30 = .ok (.bipush (-2), 2) := by decide +kernel
theorem dX6_hear_32 : decode cX6_hear 32 = .ok (.ireturn, 1) := by decide +kernel
theorem dX6_hear_33 : decode cX6_hear 33 = .ok (.aload_n 0, 1) := by decide +kernel
theorem dX6_hear_34 : decode cX6_hear 34 = .ok (.getfield 46, 3) := by decide +kernel
theorem dX6_hear_37 : decode cX6_hear 37 = .ok (.iload_n 1, 1) := by decide +kernel
theorem dX6_hear_38 : decode cX6_hear 38 = .ok (.iload_n 2, 1) := by decide +kernel
theorem dX6_hear_39 : decode cX6_hear 39 = .ok (.iload_n 3, 1) := by decide +kernel
theorem dX6_hear_40 : decode cX6_hear 40 = .ok (.iload 4, 2) := by decide +kernel
theorem dX6_hear_42 : decode cX6_hear 42 = .ok (.invokevirtual 249, 3) := by decide +kernel
theorem dX6_hear_45 : decode cX6_hear 45 = .ok (.ireturn, 1) := by decide +kernel
theorem dX6_unhear_0 : decode cX6_unhear 0 = .ok (.aload_n 0, 1) := by decide +kernel
theorem dX6_unhear_1 : decode cX6_unhear 1 = .ok (.getfield 46, 3) := by decide +kernel
theorem dX6_unhear_4 : decode cX6_unhear 4 = .ok (.getfield 252, 3) := by decide +kernel
theorem dX6_unhear_7 : decode cX6_unhear 7 = .ok (.istore_n 1, 1) := by decide +kernel
theorem dX6_unhear_8 : decode cX6_unhear 8 = .ok (.aload_n 0, 1) := by decide +kernel
theorem dX6_unhear_9 : decode cX6_unhear 9 = .ok (.getfield 46, 3) := by decide +kernel
theorem dX6_unhear_12 : decode cX6_unhear 12 = .ok (.iconst 0, 1) := by decide +kernel
theorem dX6_unhear_13 : decode cX6_unhear 13 = .ok (.putfield 252, 3) := by decide +kernel
theorem dX6_unhear_16 : decode cX6_unhear 16 = .ok (.iload_n 1, 1) := by decide +kernel
theorem dX6_unhear_17 : decode cX6_unhear 17 = .ok (.ireturn, 1) := by decide +kernel
theorem dX6_where_0 : decode cX6_where 0 = .ok (.aload_n 0, 1) := by decide +kernel
theorem dX6_where_1 : decode cX6_where 1 = .ok (.getfield 19, 3) := by decide +kernel
theorem dX6_where_4 : decode cX6_where 4 = .ok (.iload_n 1, 1) := by decide +kernel
theorem dX6_where_5 : decode cX6_where 5 = .ok (.invokevirtual 107, 3) := by decide +kernel
theorem dX6_where_8 : decode cX6_where 8 = .ok (.ifCond .ne 5, 3) := by decide +kernel
theorem dX6_where_11 : decode cX6_where 11 = .ok (.iconst (-1), 1) := by decide +kernel
theorem dX6_where_12 : decode cX6_where 12 = .ok (.ireturn, 1) := by decide +kernel
theorem dX6_where_13 : decode cX6_where 13 = .ok (.iload_n 2, 1) := by decide +kernel
theorem dX6_where_14 : decode cX6_where 14 = .ok (.iconst 0, 1) := by decide +kernel
theorem dX6_where_15 : decode cX6_where 15 = .ok (.iconst 2, 1) := by decide +kernel
theorem dX6_where_16 : decode cX6_where 16 = .ok (.invokestatic 78, 3) := by decide +kernel
theorem dX6_where_19 : decode cX6_where 19 = .ok (.ifCond .eq 6, 3) := by decide +kernel
theorem dX6_where_22 : decode cX6_where 22 = .ok (.bipush (-2), 2) := by decide +kernel
theorem dX6_where_24 : decode cX6_where 24 = .ok (.ireturn, 1) := by decide +kernel
theorem dX6_where_25 : decode cX6_where 25 = .ok (.iconst 0, 1) := by decide +kernel
theorem dX6_where_26 : decode cX6_where 26 = .ok (.istore_n 3, 1) := by decide +kernel
theorem dX6_where_27 : decode cX6_where 27 = .ok (.bipush 63, 2) := by decide +kernel
theorem dX6_where_29 : decode cX6_where 29 = .ok (.istore 4, 2) := by decide +kernel
theorem dX6_where_31 : decode cX6_where 31 = .ok (.iconst 0, 1) := by decide +kernel
theorem dX6_where_32 : decode cX6_where 32 = .ok (.istore 5, 2) := by decide +kernel
theorem dX6_where_34 : decode cX6_where 34 = .ok (.iconst 0, 1) := by decide +kernel
theorem dX6_where_35 : decode cX6_where 35 = .ok (.istore 6, 2) := by decide +kernel
theorem dX6_where_37 : decode cX6_where 37 = .ok (.iload 6, 2) := by decide +kernel
theorem dX6_where_39 : decode cX6_where 39 = .ok (.bipush 63, 2) := by decide +kernel
theorem dX6_where_41 : decode cX6_where 41 = .ok (.if_icmp .gt 50, 3) := by decide +kernel
theorem dX6_where_44 : decode cX6_where 44 = .ok (.iload 6, 2) := by decide +kernel
theorem dX6_where_46 : decode cX6_where 46 = .ok (.aload_n 0, 1) := by decide +kernel
theorem dX6_where_47 : decode cX6_where 47 = .ok (.getfield 29, 3) := by decide +kernel
theorem dX6_where_50 : decode cX6_where 50 = .ok (.iload_n 1, 1) := by decide +kernel
theorem dX6_where_51 : decode cX6_where 51 = .ok (.invokevirtual 123, 3) := by decide +kernel
theorem dX6_where_54 : decode cX6_where 54 = .ok (.iand, 1) := by decide +kernel
theorem dX6_where_55 : decode cX6_where 55 = .ok (.ifCond .ne 30, 3) := by decide +kernel
theorem dX6_where_58 : decode cX6_where 58 = .ok (.aload_n 0, 1) := by decide +kernel
theorem dX6_where_59 : decode cX6_where 59 = .ok (.iload_n 1, 1) := by decide +kernel
theorem dX6_where_60 : decode cX6_where 60 = .ok (.iload 6, 2) := by decide +kernel
theorem dX6_where_62 : decode cX6_where 62 = .ok (.invokevirtual 253, 3) := by decide +kernel
theorem dX6_where_65 : decode cX6_where 65 = .ok (.ifCond .eq 20, 3) := by decide +kernel
theorem dX6_where_68 : decode cX6_where 68 = .ok (.iinc 3 1, 3) := by decide +kernel
theorem dX6_where_71 : decode cX6_where 71 = .ok (.iload 4, 2) := by decide +kernel
theorem dX6_where_73 : decode cX6_where 73 = .ok (.iload 6, 2) := by decide +kernel
theorem dX6_where_75 : decode cX6_where 75 = .ok (.iand, 1) := by decide +kernel
theorem dX6_where_76 : decode cX6_where 76 = .ok (.istore 4, 2) := by decide +kernel
theorem dX6_where_78 : decode cX6_where 78 = .ok (.iload 5, 2) := by decide +kernel
theorem dX6_where_80 : decode cX6_where 80 = .ok (.iload 6, 2) := by decide +kernel
theorem dX6_where_82 : decode cX6_where 82 = .ok (.ior, 1) := by decide +kernel
theorem dX6_where_83 : decode cX6_where 83 = .ok (.istore 5, 2) := by decide +kernel
theorem dX6_where_85 : decode cX6_where 85 = .ok (.iinc 6 1, 3) := by decide +kernel
theorem dX6_where_88 : decode cX6_where 88 = .ok (.goto (-51), 3) := by decide +kernel
theorem dX6_where_91 : decode cX6_where 91 = .ok (.iload_n 2, 1) := by decide +kernel
theorem dX6_where_92 : decode cX6_where 92 = .ok (.ifCond .ne 5, 3) := by decide +kernel
theorem dX6_where_95 : decode cX6_where 95 = .ok (.iload_n 3, 1) := by decide +kernel
theorem dX6_where_96 : decode cX6_where 96 = .ok (.ireturn, 1) := by decide +kernel
theorem dX6_where_97 : decode cX6_where 97 = .ok (.iload_n 3, 1) := by decide +kernel
theorem dX6_where_98 : decode cX6_where 98 = .ok (.ifCond .ne 6, 3) := by decide +kernel
theorem dX6_where_101 : decode cX6_where 101 = .ok (.bipush (-9), 2) := by decide +kernel
theorem dX6_where_103 : decode cX6_where 103 = .ok (.ireturn, 1) := by decide +kernel
theorem dX6_where_104 : decode cX6_where 104 = .ok (.iload_n 2, 1) := by decide +kernel
theorem dX6_where_105 : decode cX6_where 105 = .ok (.iconst 1, 1) := by decide +kernel
theorem dX6_where_106 : decode cX6_where 106 = .ok (.if_icmp .ne 8, 3) := by decide +kernel
theorem dX6_where_109 : decode cX6_where 109 = .ok (.iload 4, 2) := by decide +kernel
theorem dX6_where_111 : decode cX6_where 111 = .ok (.goto 10, 3) := by decide +kernel
theorem dX6_where_114 : decode cX6_where 114 = .ok (.bipush 63, 2) := by decide +kernel
theorem dX6_where_116 : decode cX6_where 116 = .ok (.iload 5, 2) := by decide +kernel
theorem dX6_where_118 : decode cX6_where 118 = .ok (.iconst (-1), 1) := by decide +kernel
theorem dX6_where_119 : decode cX6_where 119 = .ok (.ixor, 1) := by decide +kernel
theorem dX6_where_120 : decode cX6_where 120 = .ok (.iand, 1) := by decide +kernel
theorem dX6_where_121 : decode cX6_where 121 = .ok (.ireturn, 1) := by decide +kernel
theorem dX6_share_0 : decode cX6_share 0 = .ok (.aload_n 0, 1) := by decide +kernel
theorem dX6_share_1 : decode cX6_share 1 = .ok (.getfield 19, 3) := by decide +kernel
theorem dX6_share_4 : decode cX6_share 4 = .ok (.iload_n 2, 1) := by decide +kernel
theorem dX6_share_5 : decode cX6_share 5 = .ok (.invokevirtual 107, 3) := by decide +kernel
theorem dX6_share_8 : decode cX6_share 8 = .ok (.ifCond .ne 5, 3) := by decide +kernel
theorem dX6_share_11 : decode cX6_share 11 = .ok (.iconst (-1), 1) := by decide +kernel
theorem dX6_share_12 : decode cX6_share 12 = .ok (.ireturn, 1) := by decide +kernel
theorem dX6_share_13 : decode cX6_share 13 = .ok (.iload_n 1, 1) := by decide +kernel
theorem dX6_share_14 : decode cX6_share 14 = .ok (.invokestatic 153, 3) := by decide +kernel
theorem dX6_share_17 : decode cX6_share 17 = .ok (.ifCond .eq 13, 3) := by decide +kernel
theorem dX6_share_20 : decode cX6_share 20 = .ok (.iload_n 3, 1) := by decide +kernel
theorem dX6_share_21 : decode cX6_share 21 = .ok (.iconst 0, 1) := by decide +kernel
theorem dX6_share_22 : decode cX6_share 22 = .ok (.bipush 8, 2) := by decide +kernel
theorem dX6_share_24 : decode cX6_share 24 = .ok (.invokestatic 78, 3) := by decide +kernel
theorem dX6_share_27 : decode cX6_share 27 = .ok (.ifCond .eq 6, 3) := by decide +kernel
theorem dX6_share_30 : decode cX6_share 30 = .ok (.bipush (-2), 2) := by decide +kernel
theorem dX6_share_32 : decode cX6_share 32 = .ok (.ireturn, 1) := by decide +kernel
theorem dX6_share_33 : decode cX6_share 33 = .ok (.aload_n 0, 1) := by decide +kernel
theorem dX6_share_34 : decode cX6_share 34 = .ok (.getfield 29, 3) := by decide +kernel
theorem dX6_share_37 : decode cX6_share 37 = .ok (.iload_n 2, 1) := by decide +kernel
theorem dX6_share_38 : decode cX6_share 38 = .ok (.invokevirtual 120, 3) := by decide +kernel
theorem dX6_share_41 : decode cX6_share 41 = .ok (.istore 5, 2) := by decide +kernel
theorem dX6_share_43 : decode cX6_share 43 = .ok (.iload 5, 2) := by decide +kernel
theorem dX6_share_45 : decode cX6_share 45 = .ok (.iload_n 1, 1) := by decide +kernel
theorem dX6_share_46 : decode cX6_share 46 = .ok (.invokestatic 209, 3) := by decide +kernel
theorem dX6_share_49 : decode cX6_share 49 = .ok (.ifCond .ne 11, 3) := by decide +kernel
theorem dX6_share_52 : decode cX6_share 52 = .ok (.iconst 0, 1) := by decide +kernel
theorem dX6_share_53 : decode cX6_share 53 = .ok (.iconst 1, 1) := by decide +kernel
theorem dX6_share_54 : decode cX6_share 54 = .ok (.iload 4, 2) := by decide +kernel
theorem dX6_share_56 : decode cX6_share 56 = .ok (.invokestatic 256, 3) := by decide +kernel
theorem dX6_share_59 : decode cX6_share 59 = .ok (.ireturn, 1) := by decide +kernel
theorem dX6_share_60 : decode cX6_share 60 = .ok (.iload 5, 2) := by decide +kernel
theorem dX6_share_62 : decode cX6_share 62 = .ok (.iconst 1, 1) := by decide +kernel
theorem dX6_share_63 : decode cX6_share 63 = .ok (.iload_n 1, 1) := by decide +kernel
theorem dX6_share_64 : decode cX6_share 64 = .ok (.ishl, 1) := by decide +kernel
theorem dX6_share_65 : decode cX6_share 65 = .ok (.iconst (-1), 1) := by decide +kernel
theorem dX6_share_66 : decode cX6_share 66 = .ok (.ixor, 1) := by decide +kernel
theorem dX6_share_67 : decode cX6_share 67 = .ok (.iand, 1) := by decide +kernel
theorem dX6_share_68 : decode cX6_share 68 = .ok (.istore 6, 2) := by decide +kernel
theorem dX6_share_70 : decode cX6_share 70 = .ok (.iload 6, 2) := by decide +kernel
theorem dX6_share_72 : decode cX6_share 72 = .ok (.invokestatic 164, 3) := by decide +kernel
theorem dX6_share_75 : decode cX6_share 75 = .ok (.istore 7, 2) := by decide +kernel
theorem dX6_share_77 : decode cX6_share 77 = .ok (.iconst 0, 1) := by decide +kernel
theorem dX6_share_78 : decode cX6_share 78 = .ok (.istore 8, 2) := by decide +kernel
theorem dX6_share_80 : decode cX6_share 80 = .ok (.iconst 0, 1) := by decide +kernel
theorem dX6_share_81 : decode cX6_share 81 = .ok (.istore 9, 2) := by decide +kernel
theorem dX6_share_83 : decode cX6_share 83 = .ok (.iload 9, 2) := by decide +kernel
theorem dX6_share_85 : decode cX6_share 85 = .ok (.bipush 63, 2) := by decide +kernel
theorem dX6_share_87 : decode cX6_share 87 = .ok (.if_icmp .gt 71, 3) := by decide +kernel
theorem dX6_share_90 : decode cX6_share 90 = .ok (.iload 9, 2) := by decide +kernel
theorem dX6_share_92 : decode cX6_share 92 = .ok (.iload 6, 2) := by decide +kernel
theorem dX6_share_94 : decode cX6_share 94 = .ok (.iconst (-1), 1) := by decide +kernel
theorem dX6_share_95 : decode cX6_share 95 = .ok (.ixor, 1) := by decide +kernel
theorem dX6_share_96 : decode cX6_share 96 = .ok (.iand, 1) := by decide +kernel
theorem dX6_share_97 : decode cX6_share 97 = .ok (.ifCond .ne 55, 3) := by decide +kernel
theorem dX6_share_100 : decode cX6_share 100 = .ok (.iload 9, 2) := by decide +kernel
theorem dX6_share_102 : decode cX6_share 102 = .ok (.invokestatic 164, 3) := by decide +kernel
theorem dX6_share_105 : decode cX6_share 105 = .ok (.istore 10, 2) := by decide +kernel
theorem dX6_share_107 : decode cX6_share 107 = .ok (.aload_n 0, 1) := by decide +kernel
theorem dX6_share_108 : decode cX6_share 108 = .ok (.iload_n 2, 1) := by decide +kernel
theorem dX6_share_109 : decode cX6_share 109 = .ok (.iload 9, 2) := by decide +kernel
theorem dX6_share_111 : decode cX6_share 111 = .ok (.iconst 1, 1) := by decide +kernel
theorem dX6_share_112 : decode cX6_share 112 = .ok (.iload_n 1, 1) := by decide +kernel
theorem dX6_share_113 : decode cX6_share 113 = .ok (.ishl, 1) := by decide +kernel
theorem dX6_share_114 : decode cX6_share 114 = .ok (.ior, 1) := by decide +kernel
theorem dX6_share_115 : decode cX6_share 115 = .ok (.iload_n 3, 1) := by decide +kernel
theorem dX6_share_116 : decode cX6_share 116 = .ok (.invokevirtual 190, 3) := by decide +kernel
theorem dX6_share_119 : decode cX6_share 119 = .ok (.aload_n 0, 1) := by decide +kernel
theorem dX6_share_120 : decode cX6_share 120 = .ok (.iload_n 2, 1) := by decide +kernel
theorem dX6_share_121 : decode cX6_share 121 = .ok (.iload 9, 2) := by decide +kernel
theorem dX6_share_123 : decode cX6_share 123 = .ok (.iload_n 3, 1) := by decide +kernel
theorem dX6_share_124 : decode cX6_share 124 = .ok (.invokevirtual 190, 3) := by decide +kernel
theorem dX6_share_127 : decode cX6_share 127 = .ok (.isub, 1) := by decide +kernel
theorem dX6_share_128 : decode cX6_share 128 = .ok (.istore 11, 2) := by decide +kernel
theorem dX6_share_130 : decode cX6_share 130 = .ok (.iload 8, 2) := by decide +kernel
theorem dX6_share_132 : decode cX6_share 132 = .ok (.iload 10, 2) := by decide +kernel
theorem dX6_share_134 : decode cX6_share 134 = .ok (.invokestatic 260, 3) := by decide +kernel
theorem dX6_share_137 : decode cX6_share 137 = .ok (.iload 7, 2) := by decide +kernel
theorem dX6_share_139 : decode cX6_share 139 = .ok (.iload 10, 2) := by decide +kernel
theorem dX6_share_141 : decode cX6_share 141 = .ok (.isub, 1) := by decide +kernel
theorem dX6_share_142 : decode cX6_share 142 = .ok (.invokestatic 260, 3) := by decide +kernel
theorem dX6_share_145 : decode cX6_share 145 = .ok (.imul, 1) := by decide +kernel
theorem dX6_share_146 : decode cX6_share 146 = .ok (.iload 11, 2) := by decide +kernel
theorem dX6_share_148 : decode cX6_share 148 = .ok (.imul, 1) := by decide +kernel
theorem dX6_share_149 : decode cX6_share 149 = .ok (.iadd, 1) := by decide +kernel
theorem dX6_share_150 : decode cX6_share 150 = .ok (.istore 8, 2) := by decide +kernel
theorem dX6_share_152 : decode cX6_share 152 = .ok (.iinc 9 1, 3) := by decide +kernel
theorem dX6_share_155 : decode cX6_share 155 = .ok (.goto (-72), 3) := by decide +kernel
theorem dX6_share_158 : decode cX6_share 158 = .ok (.iload 8, 2) := by decide +kernel
theorem dX6_share_160 : decode cX6_share 160 = .ok (.iload 7, 2) := by decide +kernel
theorem dX6_share_162 : decode cX6_share 162 = .ok (.iconst 1, 1) := by decide +kernel
theorem dX6_share_163 : decode cX6_share 163 = .ok (.iadd, 1) := by decide +kernel
theorem dX6_share_164 : decode cX6_share 164 = .ok (.invokestatic 260, 3) := by decide +kernel
theorem dX6_share_167 : decode cX6_share 167 = .ok (.iload 4, 2) := by decide +kernel
theorem dX6_share_169 : decode cX6_share 169 = .ok (.invokestatic 256, 3) := by decide +kernel
theorem dX6_share_172 : decode cX6_share 172 = .ok (.ireturn, 1) := by decide +kernel
theorem dX6_rests_0 : decode cX6_rests 0 = .ok (.aload_n 0, 1) := by decide +kernel
theorem dX6_rests_1 : decode cX6_rests 1 = .ok (.getfield 19, 3) := by decide +kernel
theorem dX6_rests_4 : decode cX6_rests 4 = .ok (.iload_n 1, 1) := by decide +kernel
theorem dX6_rests_5 : decode cX6_rests 5 = .ok (.invokevirtual 136, 3) := by decide +kernel
theorem dX6_rests_8 : decode cX6_rests 8 = .ok (.ifCond .eq 14, 3) := by decide +kernel
theorem dX6_rests_11 : decode cX6_rests 11 = .ok (.aload_n 0, 1) := by decide +kernel
theorem dX6_rests_12 : decode cX6_rests 12 = .ok (.getfield 19, 3) := by decide +kernel
theorem dX6_rests_15 : decode cX6_rests 15 = .ok (.iload_n 2, 1) := by decide +kernel
theorem dX6_rests_16 : decode cX6_rests 16 = .ok (.invokevirtual 136, 3) := by decide +kernel
theorem dX6_rests_19 : decode cX6_rests 19 = .ok (.ifCond .ne 5, 3) := by decide +kernel
theorem dX6_rests_22 : decode cX6_rests 22 = .ok (.iconst (-1), 1) := by decide +kernel
theorem dX6_rests_23 : decode cX6_rests 23 = .ok (.ireturn, 1) := by decide +kernel
theorem dX6_rests_24 : decode cX6_rests 24 = .ok (.iload_n 1, 1) := by decide +kernel
theorem dX6_rests_25 : decode cX6_rests 25 = .ok (.iload_n 2, 1) := by decide +kernel
theorem dX6_rests_26 : decode cX6_rests 26 = .ok (.if_icmp .eq 23, 3) := by decide +kernel
theorem dX6_rests_29 : decode cX6_rests 29 = .ok (.iload_n 3, 1) := by decide +kernel
theorem dX6_rests_30 : decode cX6_rests 30 = .ok (.iconst 0, 1) := by decide +kernel
theorem dX6_rests_31 : decode cX6_rests 31 = .ok (.bipush 8, 2) := by decide +kernel
theorem dX6_rests_33 : decode cX6_rests 33 = .ok (.invokestatic 78, 3) := by decide +kernel
theorem dX6_rests_36 : decode cX6_rests 36 = .ok (.ifCond .ne 13, 3) := by decide +kernel
theorem dX6_rests_39 : decode cX6_rests 39 = .ok (.iload 4, 2) := by decide +kernel
theorem dX6_rests_41 : decode cX6_rests 41 = .ok (.iconst 0, 1) := by decide +kernel
theorem dX6_rests_42 : decode cX6_rests 42 = .ok (.iconst 1, 1) := by decide +kernel
theorem dX6_rests_43 : decode cX6_rests 43 = .ok (.invokestatic 78, 3) := by decide +kernel
theorem dX6_rests_46 : decode cX6_rests 46 = .ok (.ifCond .eq 6, 3) := by decide +kernel
theorem dX6_rests_49 : decode cX6_rests 49 = .ok (.bipush (-2), 2) := by decide +kernel
theorem dX6_rests_51 : decode cX6_rests 51 = .ok (.ireturn, 1) := by decide +kernel
theorem dX6_rests_52 : decode cX6_rests 52 = .ok (.aload_n 0, 1) := by decide +kernel
theorem dX6_rests_53 : decode cX6_rests 53 = .ok (.iload_n 1, 1) := by decide +kernel
theorem dX6_rests_54 : decode cX6_rests 54 = .ok (.iload_n 2, 1) := by decide +kernel
theorem dX6_rests_55 : decode cX6_rests 55 = .ok (.iload_n 3, 1) := by decide +kernel
theorem dX6_rests_56 : decode cX6_rests 56 = .ok (.invokevirtual 263, 3) := by decide +kernel
theorem dX6_rests_59 : decode cX6_rests 59 = .ok (.iconst 0, 1) := by decide +kernel
theorem dX6_rests_60 : decode cX6_rests 60 = .ok (.istore 5, 2) := by decide +kernel
theorem dX6_rests_62 : decode cX6_rests 62 = .ok (.bipush (-9), 2) := by decide +kernel
theorem dX6_rests_64 : decode cX6_rests 64 = .ok (.istore 6, 2) := by decide +kernel
theorem dX6_rests_66 : decode cX6_rests 66 = .ok (.iconst 0, 1) := by decide +kernel
theorem dX6_rests_67 : decode cX6_rests 67 = .ok (.istore 7, 2) := by decide +kernel
theorem dX6_rests_69 : decode cX6_rests 69 = .ok (.iload 7, 2) := by decide +kernel
theorem dX6_rests_71 : decode cX6_rests 71 = .ok (.bipush 6, 2) := by decide +kernel
theorem dX6_rests_73 : decode cX6_rests 73 = .ok (.if_icmp .ge 81, 3) := by decide +kernel
theorem dX6_rests_76 : decode cX6_rests 76 = .ok (.iconst 0, 1) := by decide +kernel
theorem dX6_rests_77 : decode cX6_rests 77 = .ok (.istore 8, 2) := by decide +kernel
theorem dX6_rests_79 : decode cX6_rests 79 = .ok (.iload 8, 2) := by decide +kernel
theorem dX6_rests_81 : decode cX6_rests 81 = .ok (.bipush 6, 2) := by decide +kernel
theorem dX6_rests_83 : decode cX6_rests 83 = .ok (.if_icmp .ge 65, 3) := by decide +kernel
theorem dX6_rests_86 : decode cX6_rests 86 = .ok (.aload_n 0, 1) := by decide +kernel
theorem dX6_rests_87 : decode cX6_rests 87 = .ok (.iload_n 1, 1) := by decide +kernel
theorem dX6_rests_88 : decode cX6_rests 88 = .ok (.iload 7, 2) := by decide +kernel
theorem dX6_rests_90 : decode cX6_rests 90 = .ok (.invokevirtual 266, 3) := by decide +kernel
theorem dX6_rests_93 : decode cX6_rests 93 = .ok (.ifCond .eq 49, 3) := by decide +kernel
theorem dX6_rests_96 : decode cX6_rests 96 = .ok (.aload_n 0, 1) := by decide +kernel
theorem dX6_rests_97 : decode cX6_rests 97 = .ok (.iload_n 2, 1) := by decide +kernel
theorem dX6_rests_98 : decode cX6_rests 98 = .ok (.iload 8, 2) := by decide +kernel
theorem dX6_rests_100 : decode cX6_rests 100 = .ok (.invokevirtual 266, 3) := by decide +kernel
theorem dX6_rests_103 : decode cX6_rests 103 = .ok (.ifCond .eq 39, 3) := by decide +kernel
theorem dX6_rests_106 : decode cX6_rests 106 = .ok (.aload_n 0, 1) := by decide +kernel
theorem dX6_rests_107 : decode cX6_rests 107 = .ok (.iload_n 1, 1) := by decide +kernel
theorem dX6_rests_108 : decode cX6_rests 108 = .ok (.iload 7, 2) := by decide +kernel
theorem dX6_rests_110 : decode cX6_rests 110 = .ok (.iload_n 2, 1) := by decide +kernel
theorem dX6_rests_111 : decode cX6_rests 111 = .ok (.iload 8, 2) := by decide +kernel
theorem dX6_rests_113 : decode cX6_rests 113 = .ok (.invokevirtual 269, 3) := by decide +kernel
theorem dX6_rests_116 : decode cX6_rests 116 = .ok (.ifCond .eq 26, 3) := by decide +kernel
theorem dX6_rests_119 : decode cX6_rests 119 = .ok (.iload 5, 2) := by decide +kernel
theorem dX6_rests_121 : decode cX6_rests 121 = .ok (.ifCond .ne 14, 3) := by decide +kernel
theorem dX6_rests_124 : decode cX6_rests 124 = .ok (.bipush 10, 2) := by decide +kernel
theorem dX6_rests_126 : decode cX6_rests 126 = .ok (.iload 7, 2) := by decide +kernel
theorem dX6_rests_128 : decode cX6_rests 128 = .ok (.imul, 1) := by decide +kernel
theorem dX6_rests_129 : decode cX6_rests 129 = .ok (.iload 8, 2) := by decide +kernel
theorem dX6_rests_131 : decode cX6_rests 131 = .ok (.iadd, 1) := by decide +kernel
theorem dX6_rests_132 : decode cX6_rests 132 = .ok (.goto 5, 3) := by decide +kernel
theorem dX6_rests_135 : decode cX6_rests 135 = .ok (.iload 6, 2) := by decide +kernel
theorem dX6_rests_137 : decode cX6_rests 137 = .ok (.istore 6, 2) := by decide +kernel
theorem dX6_rests_139 : decode cX6_rests 139 = .ok (.iinc 5 1, 3) := by decide +kernel
theorem dX6_rests_142 : decode cX6_rests 142 = .ok (.iinc 8 1, 3) := by decide +kernel
theorem dX6_rests_145 : decode cX6_rests 145 = .ok (.goto (-66), 3) := by decide +kernel
theorem dX6_rests_148 : decode cX6_rests 148 = .ok (.iinc 7 1, 3) := by decide +kernel
theorem dX6_rests_151 : decode cX6_rests 151 = .ok (.goto (-82), 3) := by decide +kernel
theorem dX6_rests_154 : decode cX6_rests 154 = .ok (.iload 4, 2) := by decide +kernel
theorem dX6_rests_156 : decode cX6_rests 156 = .ok (.ifCond .ne 8, 3) := by decide +kernel
theorem dX6_rests_159 : decode cX6_rests 159 = .ok (.iload 5, 2) := by decide +kernel
theorem dX6_rests_161 : decode cX6_rests 161 = .ok (.goto 5, 3) := by decide +kernel
theorem dX6_rests_164 : decode cX6_rests 164 = .ok (.iload 6, 2) := by decide +kernel
theorem dX6_rests_166 : decode cX6_rests 166 = .ok (.ireturn, 1) := by decide +kernel
theorem dX6_chance_0 : decode cX6_chance 0 = .ok (.aload_n 0, 1) := by decide +kernel
theorem dX6_chance_1 : decode cX6_chance 1 = .ok (.getfield 19, 3) := by decide +kernel
theorem dX6_chance_4 : decode cX6_chance 4 = .ok (.iload_n 1, 1) := by decide +kernel
theorem dX6_chance_5 : decode cX6_chance 5 = .ok (.invokevirtual 107, 3) := by decide +kernel
theorem dX6_chance_8 : decode cX6_chance 8 = .ok (.ifCond .ne 5, 3) := by decide +kernel
theorem dX6_chance_11 : decode cX6_chance 11 = .ok (.iconst (-1), 1) := by decide +kernel
theorem dX6_chance_12 : decode cX6_chance 12 = .ok (.ireturn, 1) := by decide +kernel
theorem dX6_chance_13 : decode cX6_chance 13 = .ok (.iload_n 2, 1) := by decide +kernel
theorem dX6_chance_14 : decode cX6_chance 14 = .ok (.iconst 0, 1) := by decide +kernel
theorem dX6_chance_15 : decode cX6_chance 15 = .ok (.bipush 20, 2) := by decide +kernel
theorem dX6_chance_17 : decode cX6_chance 17 = .ok (.invokestatic 78, 3) := by decide +kernel
theorem dX6_chance_20 : decode cX6_chance 20 = .ok (.ifCond .ne 13, 3) := by decide +kernel
theorem dX6_chance_23 : decode cX6_chance 23 = .ok (.iload_n 3, 1) := by decide +kernel
theorem dX6_chance_24 : decode cX6_chance 24 = .ok (.iconst 0, 1) := by decide +kernel
theorem dX6_chance_25 : decode cX6_chance 25 = .ok (.bipush 10, 2) := by decide +kernel
theorem dX6_chance_27 : decode cX6_chance 27 = .ok (.invokestatic 78, 3) := by decide +kernel
theorem dX6_chance_30 : decode cX6_chance 30 = .ok (.ifCond .eq 6, 3) := by decide +kernel
theorem dX6_chance_33 : decode cX6_chance 33 = .ok (.bipush (-2), 2) := by decide +kernel
theorem dX6_chance_35 : decode cX6_chance 35 = .ok (.ireturn, 1) := by decide +kernel
theorem dX6_chance_36 : decode cX6_chance 36 = .ok (.aload_n 0, 1) := by decide +kernel
theorem dX6_chance_37 : decode cX6_chance 37 = .ok (.getfield 19, 3) := by decide +kernel
theorem dX6_chance_40 : decode cX6_chance 40 = .ok (.iload_n 1, 1) := by decide +kernel
theorem dX6_chance_41 : decode cX6_chance 41 = .ok (.aload_n 0, 1) := by decide +kernel
theorem dX6_chance_42 : decode cX6_chance 42 = .ok (.getfield 29, 3) := by decide +kernel
theorem dX6_chance_45 : decode cX6_chance 45 = .ok (.getfield 129, 3) := by decide +kernel
theorem dX6_chance_48 : decode cX6_chance 48 = .ok (.invokevirtual 273, 3) := by decide +kernel
theorem dX6_chance_51 : decode cX6_chance 51 = .ok (.ifCond .eq 7, 3) := by decide +kernel
theorem dX6_chance_54 : decode cX6_chance 54 = .ok (.iconst 0, 1) := by decide +kernel
theorem dX6_chance_55 : decode cX6_chance 55 = .ok (.goto 11, 3) := by decide +kernel
theorem dX6_chance_58 : decode cX6_chance 58 = .ok (.aload_n 0, 1) := by decide +kernel
theorem dX6_chance_59 : decode cX6_chance 59 = .ok (.getfield 29, 3) := by decide +kernel
theorem dX6_chance_62 : decode cX6_chance 62 = .ok (.iload_n 1, 1) := by decide +kernel
theorem dX6_chance_63 : decode cX6_chance 63 = .ok (.invokevirtual 120, 3) := by decide +kernel
theorem dX6_chance_66 : decode cX6_chance 66 = .ok (.istore 5, 2) := by decide +kernel
theorem dX6_chance_68 : decode cX6_chance 68 = .ok (.iload 5, 2) := by decide +kernel
theorem dX6_chance_70 : decode cX6_chance 70 = .ok (.invokestatic 164, 3) := by decide +kernel
theorem dX6_chance_73 : decode cX6_chance 73 = .ok (.istore 6, 2) := by decide +kernel
theorem dX6_chance_75 : decode cX6_chance 75 = .ok (.iconst 0, 1) := by decide +kernel
theorem dX6_chance_76 : decode cX6_chance 76 = .ok (.istore 7, 2) := by decide +kernel
theorem dX6_chance_78 : decode cX6_chance 78 = .ok (.iconst 0, 1) := by decide +kernel
theorem dX6_chance_79 : decode cX6_chance 79 = .ok (.istore 8, 2) := by decide +kernel
theorem dX6_chance_81 : decode cX6_chance 81 = .ok (.iload 8, 2) := by decide +kernel
theorem dX6_chance_83 : decode cX6_chance 83 = .ok (.bipush 63, 2) := by decide +kernel
theorem dX6_chance_85 : decode cX6_chance 85 = .ok (.if_icmp .gt 61, 3) := by decide +kernel
theorem dX6_chance_88 : decode cX6_chance 88 = .ok (.iload 8, 2) := by decide +kernel
theorem dX6_chance_90 : decode cX6_chance 90 = .ok (.iload 5, 2) := by decide +kernel
theorem dX6_chance_92 : decode cX6_chance 92 = .ok (.iconst (-1), 1) := by decide +kernel
theorem dX6_chance_93 : decode cX6_chance 93 = .ok (.ixor, 1) := by decide +kernel
theorem dX6_chance_94 : decode cX6_chance 94 = .ok (.iand, 1) := by decide +kernel
theorem dX6_chance_95 : decode cX6_chance 95 = .ok (.ifCond .ne 45, 3) := by decide +kernel
theorem dX6_chance_98 : decode cX6_chance 98 = .ok (.aload_n 0, 1) := by decide +kernel
theorem dX6_chance_99 : decode cX6_chance 99 = .ok (.iload_n 1, 1) := by decide +kernel
theorem dX6_chance_100 : decode cX6_chance 100 = .ok (.iload 8, 2) := by decide +kernel
theorem dX6_chance_102 : decode cX6_chance 102 = .ok (.invokevirtual 276, 3) := by decide +kernel
theorem dX6_chance_105 : decode cX6_chance 105 = .ok (.iload_n 2, 1) := by decide +kernel
theorem dX6_chance_106 : decode cX6_chance 106 = .ok (.if_icmp .lt 34, 3) := by decide +kernel
theorem dX6_chance_109 : decode cX6_chance 109 = .ok (.iload 8, 2) := by decide +kernel
theorem dX6_chance_111 : decode cX6_chance 111 = .ok (.invokestatic 164, 3) := by decide +kernel
theorem dX6_chance_114 : decode cX6_chance 114 = .ok (.istore 9, 2) := by decide +kernel
theorem dX6_chance_116 : decode cX6_chance 116 = .ok (.iload 7, 2) := by decide +kernel
theorem dX6_chance_118 : decode cX6_chance 118 = .ok (.iload_n 3, 1) := by decide +kernel
theorem dX6_chance_119 : decode cX6_chance 119 = .ok (.iload 9, 2) := by decide +kernel
theorem dX6_chance_121 : decode cX6_chance 121 = .ok (.invokestatic 279, 3) := by decide +kernel
theorem dX6_chance_124 : decode cX6_chance 124 = .ok (.bipush 10, 2) := by decide +kernel
theorem dX6_chance_126 : decode cX6_chance 126 = .ok (.iload_n 3, 1) := by decide +kernel
end
section
theorem dX6_chance_127 : decode cX6_chance 127 = .ok (.isub, 1) := by decide +kernel
theorem dX6_chance_128 : decode cX6_chance 128 = .ok (.iload 6, 2) := by decide +kernel
theorem dX6_chance_130 : decode cX6_chance 130 = .ok (.iload 9, 2) := by decide +kernel
theorem dX6_chance_132 : decode cX6_chance 132 = .ok (.isub, 1) := by decide +kernel
theorem dX6_chance_133 : decode cX6_chance 133 = .ok (.invokestatic 279, 3) := by decide +kernel
theorem dX6_chance_136 : decode cX6_chance 136 = .ok (.imul, 1) := by decide +kernel
theorem dX6_chance_137 : decode cX6_chance 137 = .ok (.iadd, 1) := by decide +kernel
theorem dX6_chance_138 : decode cX6_chance 138 = .ok (.istore 7, 2) := by decide +kernel
theorem dX6_chance_140 : decode cX6_chance 140 = .ok (.iinc 8 1, 3) := by decide +kernel
theorem dX6_chance_143 : decode cX6_chance 143 = .ok (.goto (-62), 3) := by decide +kernel
theorem dX6_chance_146 : decode cX6_chance 146 = .ok (.iload 7, 2) := by decide +kernel
theorem dX6_chance_148 : decode cX6_chance 148 = .ok (.bipush 10, 2) := by decide +kernel
theorem dX6_chance_150 : decode cX6_chance 150 = .ok (.iload 6, 2) := by decide +kernel
theorem dX6_chance_152 : decode cX6_chance 152 = .ok (.invokestatic 279, 3) := by decide +kernel
theorem dX6_chance_155 : decode cX6_chance 155 = .ok (.iload 4, 2) := by decide +kernel
theorem dX6_chance_157 : decode cX6_chance 157 = .ok (.invokestatic 256, 3) := by decide +kernel
theorem dX6_chance_160 : decode cX6_chance 160 = .ok (.ireturn, 1) := by decide +kernel
theorem dX6_seed_0 : decode cX6_seed 0 = .ok (.aload_n 0, 1) := by decide +kernel
theorem dX6_seed_1 : decode cX6_seed 1 = .ok (.getfield 282, 3) := by decide +kernel
theorem dX6_seed_4 : decode cX6_seed 4 = .ok (.lstore_n 3, 1) := by decide +kernel
theorem dX6_seed_5 : decode cX6_seed 5 = .ok (.aload_n 0, 1) := by decide +kernel
theorem dX6_seed_6 : decode cX6_seed 6 = .ok (.lload_n 1, 1) := by decide +kernel
theorem dX6_seed_7 : decode cX6_seed 7 = .ok (.putfield 282, 3) := by decide +kernel
theorem dX6_seed_10 : decode cX6_seed 10 = .ok (.lload_n 3, 1) := by decide +kernel
theorem dX6_seed_11 : decode cX6_seed 11 = .ok (.lreturn, 1) := by decide +kernel
theorem dX6_weeks_0 : decode cX6_weeks 0 = .ok (.iload_n 1, 1) := by decide +kernel
theorem dX6_weeks_1 : decode cX6_weeks 1 = .ok (.iconst 1, 1) := by decide +kernel
theorem dX6_weeks_2 : decode cX6_weeks 2 = .ok (.bipush 20, 2) := by decide +kernel
theorem dX6_weeks_4 : decode cX6_weeks 4 = .ok (.invokestatic 78, 3) := by decide +kernel
theorem dX6_weeks_7 : decode cX6_weeks 7 = .ok (.ifCond .eq 6, 3) := by decide +kernel
theorem dX6_weeks_10 : decode cX6_weeks 10 = .ok (.bipush (-2), 2) := by decide +kernel
theorem dX6_weeks_12 : decode cX6_weeks 12 = .ok (.ireturn, 1) := by decide +kernel
theorem dX6_weeks_13 : decode cX6_weeks 13 = .ok (.aload_n 0, 1) := by decide +kernel
theorem dX6_weeks_14 : decode cX6_weeks 14 = .ok (.getfield 33, 3) := by decide +kernel
theorem dX6_weeks_17 : decode cX6_weeks 17 = .ok (.aload_n 0, 1) := by decide +kernel
theorem dX6_weeks_18 : decode cX6_weeks 18 = .ok (.getfield 29, 3) := by decide +kernel
theorem dX6_weeks_21 : decode cX6_weeks 21 = .ok (.invokevirtual 240, 3) := by decide +kernel
theorem dX6_weeks_24 : decode cX6_weeks 24 = .ok (.iconst 0, 1) := by decide +kernel
theorem dX6_weeks_25 : decode cX6_weeks 25 = .ok (.istore_n 2, 1) := by decide +kernel
theorem dX6_weeks_26 : decode cX6_weeks 26 = .ok (.iload_n 2, 1) := by decide +kernel
theorem dX6_weeks_27 : decode cX6_weeks 27 = .ok (.iload_n 1, 1) := by decide +kernel
theorem dX6_weeks_28 : decode cX6_weeks 28 = .ok (.if_icmp .ge 62, 3) := by decide +kernel
theorem dX6_weeks_31 : decode cX6_weeks 31 = .ok (.aload_n 0, 1) := by decide +kernel
theorem dX6_weeks_32 : decode cX6_weeks 32 = .ok (.aload_n 0, 1) := by decide +kernel
theorem dX6_weeks_33 : decode cX6_weeks 33 = .ok (.getfield 282, 3) := by decide +kernel
theorem dX6_weeks_36 : decode cX6_weeks 36 = .ok (.ldc2_w 286, 3) := by decide +kernel
theorem dX6_weeks_39 : decode cX6_weeks 39 = .ok (.lmul, 1) := by decide +kernel
theorem dX6_weeks_40 : decode cX6_weeks 40 = .ok (.ldc2_w 288, 3) := by decide +kernel
theorem dX6_weeks_43 : decode cX6_weeks 43 = .ok (.ladd, 1) := by decide +kernel
theorem dX6_weeks_44 : decode cX6_weeks 44 = .ok (.putfield 282, 3) := by decide +kernel
theorem dX6_weeks_47 : decode cX6_weeks 47 = .ok (.aload_n 0, 1) := by decide +kernel
theorem dX6_weeks_48 : decode cX6_weeks 48 = .ok (.getfield 282, 3) := by decide +kernel
theorem dX6_weeks_51 : decode cX6_weeks 51 = .ok (.bipush 33, 2) := by decide +kernel
theorem dX6_weeks_53 : decode cX6_weeks 53 = .ok (.lushr, 1) := by decide +kernel
theorem dX6_weeks_54 : decode cX6_weeks 54 = .ok (.l2i, 1) := by decide +kernel
theorem dX6_weeks_55 : decode cX6_weeks 55 = .ok (.bipush 60, 2) := by decide +kernel
theorem dX6_weeks_57 : decode cX6_weeks 57 = .ok (.irem, 1) := by decide +kernel
theorem dX6_weeks_58 : decode cX6_weeks 58 = .ok (.istore_n 3, 1) := by decide +kernel
theorem dX6_weeks_59 : decode cX6_weeks 59 = .ok (.aload_n 0, 1) := by decide +kernel
theorem dX6_weeks_60 : decode cX6_weeks 60 = .ok (.iload_n 3, 1) := by decide +kernel
theorem dX6_weeks_61 : decode cX6_weeks 61 = .ok (.bipush 10, 2) := by decide +kernel
theorem dX6_weeks_63 : decode cX6_weeks 63 = .ok (.idiv, 1) := by decide +kernel
theorem dX6_weeks_64 : decode cX6_weeks 64 = .ok (.iload_n 3, 1) := by decide +kernel
theorem dX6_weeks_65 : decode cX6_weeks 65 = .ok (.bipush 10, 2) := by decide +kernel
theorem dX6_weeks_67 : decode cX6_weeks 67 = .ok (.irem, 1) := by decide +kernel
theorem dX6_weeks_68 : decode cX6_weeks 68 = .ok (.invokevirtual 290, 3) := by decide +kernel
theorem dX6_weeks_71 : decode cX6_weeks 71 = .ok (.pop, 1) := by decide +kernel
theorem dX6_weeks_72 : decode cX6_weeks 72 = .ok (.aload_n 0, 1) := by decide +kernel
theorem dX6_weeks_73 : decode cX6_weeks 73 = .ok (.getfield 33, 3) := by decide +kernel
theorem dX6_weeks_76 : decode cX6_weeks 76 = .ok (.aload_n 0, 1) := by decide +kernel
theorem dX6_weeks_77 : decode cX6_weeks 77 = .ok (.getfield 19, 3) := by decide +kernel
theorem dX6_weeks_80 : decode cX6_weeks 80 = .ok (.invokevirtual 150, 3) := by decide +kernel
theorem dX6_weeks_83 : decode cX6_weeks 83 = .ok (.pop, 1) := by decide +kernel
theorem dX6_weeks_84 : decode cX6_weeks 84 = .ok (.iinc 2 1, 3) := by decide +kernel
theorem dX6_weeks_87 : decode cX6_weeks 87 = .ok (.goto (-61), 3) := by decide +kernel
theorem dX6_weeks_90 : decode cX6_weeks 90 = .ok (.aload_n 0, 1) := by decide +kernel
theorem dX6_weeks_91 : decode cX6_weeks 91 = .ok (.getfield 33, 3) := by decide +kernel
theorem dX6_weeks_94 : decode cX6_weeks 94 = .ok (.aload_n 0, 1) := by decide +kernel
theorem dX6_weeks_95 : decode cX6_weeks 95 = .ok (.getfield 19, 3) := by decide +kernel
theorem dX6_weeks_98 : decode cX6_weeks 98 = .ok (.invokevirtual 293, 3) := by decide +kernel
theorem dX6_weeks_101 : decode cX6_weeks 101 = .ok (.ireturn, 1) := by decide +kernel
theorem dX6_keep_0 : decode cX6_keep 0 = .ok (.aload_n 0, 1) := by decide +kernel
theorem dX6_keep_1 : decode cX6_keep 1 = .ok (.iload_n 1, 1) := by decide +kernel
theorem dX6_keep_2 : decode cX6_keep 2 = .ok (.invokevirtual 296, 3) := by decide +kernel
theorem dX6_keep_5 : decode cX6_keep 5 = .ok (.astore_n 2, 1) := by decide +kernel
theorem dX6_keep_6 : decode cX6_keep 6 = .ok (.aload_n 2, 1) := by decide +kernel
theorem dX6_keep_7 : decode cX6_keep 7 = .ok (.ifnonnull 5, 3) := by decide +kernel
theorem dX6_keep_10 : decode cX6_keep 10 = .ok (.iconst (-1), 1) := by decide +kernel
theorem dX6_keep_11 : decode cX6_keep 11 = .ok (.ireturn, 1) := by decide +kernel
theorem dX6_keep_12 : decode cX6_keep 12 = .ok (.aload_n 2, 1) := by decide +kernel
theorem dX6_keep_13 : decode cX6_keep 13 = .ok (.aload_n 0, 1) := by decide +kernel
theorem dX6_keep_14 : decode cX6_keep 14 = .ok (.getfield 29, 3) := by decide +kernel
theorem dX6_keep_17 : decode cX6_keep 17 = .ok (.invokevirtual 240, 3) := by decide +kernel
theorem dX6_keep_20 : decode cX6_keep 20 = .ok (.aload_n 0, 1) := by decide +kernel
theorem dX6_keep_21 : decode cX6_keep 21 = .ok (.getfield 54, 3) := by decide +kernel
theorem dX6_keep_24 : decode cX6_keep 24 = .ok (.iload_n 1, 1) := by decide +kernel
theorem dX6_keep_25 : decode cX6_keep 25 = .ok (.iconst 1, 1) := by decide +kernel
theorem dX6_keep_26 : decode cX6_keep 26 = .ok (.bastore, 1) := by decide +kernel
theorem dX6_keep_27 : decode cX6_keep 27 = .ok (.aload_n 0, 1) := by decide +kernel
theorem dX6_keep_28 : decode cX6_keep 28 = .ok (.getfield 29, 3) := by decide +kernel
theorem dX6_keep_31 : decode cX6_keep 31 = .ok (.getfield 129, 3) := by decide +kernel
theorem dX6_keep_34 : decode cX6_keep 34 = .ok (.ireturn, 1) := by decide +kernel
theorem dX6_again_0 : decode cX6_again 0 = .ok (.aload_n 0, 1) := by decide +kernel
theorem dX6_again_1 : decode cX6_again 1 = .ok (.iload_n 1, 1) := by decide +kernel
theorem dX6_again_2 : decode cX6_again 2 = .ok (.invokevirtual 296, 3) := by decide +kernel
theorem dX6_again_5 : decode cX6_again 5 = .ok (.astore_n 2, 1) := by decide +kernel
theorem dX6_again_6 : decode cX6_again 6 = .ok (.aload_n 2, 1) := by decide +kernel
theorem dX6_again_7 : decode cX6_again 7 = .ok (.ifnonnull 5, 3) := by decide +kernel
theorem dX6_again_10 : decode cX6_again 10 = .ok (.iconst (-1), 1) := by decide +kernel
theorem dX6_again_11 : decode cX6_again 11 = .ok (.ireturn, 1) := by decide +kernel
theorem dX6_again_12 : decode cX6_again 12 = .ok (.aload_n 0, 1) := by decide +kernel
theorem dX6_again_13 : decode cX6_again 13 = .ok (.getfield 54, 3) := by decide +kernel
theorem dX6_again_16 : decode cX6_again 16 = .ok (.iload_n 1, 1) := by decide +kernel
theorem dX6_again_17 : decode cX6_again 17 = .ok (.baload, 1) := by decide +kernel
theorem dX6_again_18 : decode cX6_again 18 = .ok (.ifCond .ne 6, 3) := by decide +kernel
theorem dX6_again_21 : decode cX6_again 21 = .ok (.bipush (-3), 2) := by decide +kernel
theorem dX6_again_23 : decode cX6_again 23 = .ok (.ireturn, 1) := by decide +kernel
theorem dX6_again_24 : decode cX6_again 24 = .ok (.aload_n 0, 1) := by decide +kernel
theorem dX6_again_25 : decode cX6_again 25 = .ok (.getfield 29, 3) := by decide +kernel
theorem dX6_again_28 : decode cX6_again 28 = .ok (.aload_n 2, 1) := by decide +kernel
theorem dX6_again_29 : decode cX6_again 29 = .ok (.invokevirtual 240, 3) := by decide +kernel
theorem dX6_again_32 : decode cX6_again 32 = .ok (.aload_n 0, 1) := by decide +kernel
theorem dX6_again_33 : decode cX6_again 33 = .ok (.getfield 39, 3) := by decide +kernel
theorem dX6_again_36 : decode cX6_again 36 = .ok (.iconst 0, 1) := by decide +kernel
theorem dX6_again_37 : decode cX6_again 37 = .ok (.putfield 98, 3) := by decide +kernel
theorem dX6_again_40 : decode cX6_again 40 = .ok (.aload_n 0, 1) := by decide +kernel
theorem dX6_again_41 : decode cX6_again 41 = .ok (.getfield 29, 3) := by decide +kernel
theorem dX6_again_44 : decode cX6_again 44 = .ok (.getfield 129, 3) := by decide +kernel
theorem dX6_again_47 : decode cX6_again 47 = .ok (.ireturn, 1) := by decide +kernel
theorem dX6_count_0 : decode cX6_count 0 = .ok (.iload_n 1, 1) := by decide +kernel
theorem dX6_count_1 : decode cX6_count 1 = .ok (.tableswitch 127 0 8 #[51, 59, 67, 75, 83, 91, 103, 111, 119], 51) := by decide +kernel
theorem dX6_count_52 : decode cX6_count 52 = .ok (.aload_n 0, 1) := by decide +kernel
theorem dX6_count_53 : decode cX6_count 53 = .ok (.getfield 12, 3) := by decide +kernel
theorem dX6_count_56 : decode cX6_count 56 = .ok (.getfield 86, 3) := by decide +kernel
theorem dX6_count_59 : decode cX6_count 59 = .ok (.ireturn, 1) := by decide +kernel
theorem dX6_count_60 : decode cX6_count 60 = .ok (.aload_n 0, 1) := by decide +kernel
theorem dX6_count_61 : decode cX6_count 61 = .ok (.getfield 19, 3) := by decide +kernel
theorem dX6_count_64 : decode cX6_count 64 = .ok (.getfield 101, 3) := by decide +kernel
theorem dX6_count_67 : decode cX6_count 67 = .ok (.ireturn, 1) := by decide +kernel
theorem dX6_count_68 : decode cX6_count 68 = .ok (.aload_n 0, 1) := by decide +kernel
theorem dX6_count_69 : decode cX6_count 69 = .ok (.getfield 19, 3) := by decide +kernel
theorem dX6_count_72 : decode cX6_count 72 = .ok (.getfield 104, 3) := by decide +kernel
theorem dX6_count_75 : decode cX6_count 75 = .ok (.ireturn, 1) := by decide +kernel
theorem dX6_count_76 : decode cX6_count 76 = .ok (.aload_n 0, 1) := by decide +kernel
theorem dX6_count_77 : decode cX6_count 77 = .ok (.getfield 29, 3) := by decide +kernel
theorem dX6_count_80 : decode cX6_count 80 = .ok (.getfield 129, 3) := by decide +kernel
theorem dX6_count_83 : decode cX6_count 83 = .ok (.ireturn, 1) := by decide +kernel
theorem dX6_count_84 : decode cX6_count 84 = .ok (.aload_n 0, 1) := by decide +kernel
theorem dX6_count_85 : decode cX6_count 85 = .ok (.getfield 29, 3) := by decide +kernel
theorem dX6_count_88 : decode cX6_count 88 = .ok (.invokevirtual 300, 3) := by decide +kernel
theorem dX6_count_91 : decode cX6_count 91 = .ok (.ireturn, 1) := by decide +kernel
theorem dX6_count_92 : decode cX6_count 92 = .ok (.aload_n 0, 1) := by decide +kernel
theorem dX6_count_93 : decode cX6_count 93 = .ok (.getfield 29, 3) := by decide +kernel
theorem dX6_count_96 : decode cX6_count 96 = .ok (.aload_n 0, 1) := by decide +kernel
theorem dX6_count_97 : decode cX6_count 97 = .ok (.getfield 19, 3) := by decide +kernel
theorem dX6_count_100 : decode cX6_count 100 = .ok (.invokevirtual 293, 3) := by decide +kernel
theorem dX6_count_103 : decode cX6_count 103 = .ok (.ireturn, 1) := by decide +kernel
theorem dX6_count_104 : decode cX6_count 104 = .ok (.aload_n 0, 1) := by decide +kernel
theorem dX6_count_105 : decode cX6_count 105 = .ok (.getfield 29, 3) := by decide +kernel
theorem dX6_count_108 : decode cX6_count 108 = .ok (.invokevirtual 304, 3) := by decide +kernel
theorem dX6_count_111 : decode cX6_count 111 = .ok (.ireturn, 1) := by decide +kernel
theorem dX6_count_112 : decode cX6_count 112 = .ok (.aload_n 0, 1) := by decide +kernel
theorem dX6_count_113 : decode cX6_count 113 = .ok (.getfield 39, 3) := by decide +kernel
theorem dX6_count_116 : decode cX6_count 116 = .ok (.getfield 98, 3) := by decide +kernel
theorem dX6_count_119 : decode cX6_count 119 = .ok (.ireturn, 1) := by decide +kernel
theorem dX6_count_120 : decode cX6_count 120 = .ok (.aload_n 0, 1) := by decide +kernel
theorem dX6_count_121 : decode cX6_count 121 = .ok (.getfield 46, 3) := by decide +kernel
theorem dX6_count_124 : decode cX6_count 124 = .ok (.getfield 252, 3) := by decide +kernel
theorem dX6_count_127 : decode cX6_count 127 = .ok (.ireturn, 1) := by decide +kernel
theorem dX6_count_128 : decode cX6_count 128 = .ok (.bipush (-2), 2) := by decide +kernel
theorem dX6_count_130 : decode cX6_count 130 = .ok (.ireturn, 1) := by decide +kernel
theorem dX6_saidIn_0 : decode cX6_saidIn 0 = .ok (.iload_n 2, 1) := by decide +kernel
theorem dX6_saidIn_1 : decode cX6_saidIn 1 = .ok (.istore 4, 2) := by decide +kernel
theorem dX6_saidIn_3 : decode cX6_saidIn 3 = .ok (.iconst 0, 1) := by decide +kernel
theorem dX6_saidIn_4 : decode cX6_saidIn 4 = .ok (.istore 5, 2) := by decide +kernel
theorem dX6_saidIn_6 : decode cX6_saidIn 6 = .ok (.iload 5, 2) := by decide +kernel
theorem dX6_saidIn_8 : decode cX6_saidIn 8 = .ok (.iload_n 3, 1) := by decide +kernel
theorem dX6_saidIn_9 : decode cX6_saidIn 9 = .ok (.if_icmp .ge 46, 3) := by decide +kernel
theorem dX6_saidIn_12 : decode cX6_saidIn 12 = .ok (.iload 5, 2) := by decide +kernel
theorem dX6_saidIn_14 : decode cX6_saidIn 14 = .ok (.bipush 8, 2) := by decide +kernel
theorem dX6_saidIn_16 : decode cX6_saidIn 16 = .ok (.if_icmp .ge 39, 3) := by decide +kernel
theorem dX6_saidIn_19 : decode cX6_saidIn 19 = .ok (.aload_n 0, 1) := by decide +kernel
theorem dX6_saidIn_20 : decode cX6_saidIn 20 = .ok (.getfield 19, 3) := by decide +kernel
theorem dX6_saidIn_23 : decode cX6_saidIn 23 = .ok (.iload_n 1, 1) := by decide +kernel
theorem dX6_saidIn_24 : decode cX6_saidIn 24 = .ok (.iload 4, 2) := by decide +kernel
theorem dX6_saidIn_26 : decode cX6_saidIn 26 = .ok (.aload_n 0, 1) := by decide +kernel
theorem dX6_saidIn_27 : decode cX6_saidIn 27 = .ok (.getfield 29, 3) := by decide +kernel
theorem dX6_saidIn_30 : decode cX6_saidIn 30 = .ok (.iload_n 1, 1) := by decide +kernel
theorem dX6_saidIn_31 : decode cX6_saidIn 31 = .ok (.invokevirtual 123, 3) := by decide +kernel
theorem dX6_saidIn_34 : decode cX6_saidIn 34 = .ok (.aload_n 0, 1) := by decide +kernel
theorem dX6_saidIn_35 : decode cX6_saidIn 35 = .ok (.getfield 29, 3) := by decide +kernel
theorem dX6_saidIn_38 : decode cX6_saidIn 38 = .ok (.getfield 129, 3) := by decide +kernel
theorem dX6_saidIn_41 : decode cX6_saidIn 41 = .ok (.iload 5, 2) := by decide +kernel
theorem dX6_saidIn_43 : decode cX6_saidIn 43 = .ok (.iadd, 1) := by decide +kernel
theorem dX6_saidIn_44 : decode cX6_saidIn 44 = .ok (.invokevirtual 307, 3) := by decide +kernel
theorem dX6_saidIn_47 : decode cX6_saidIn 47 = .ok (.istore 4, 2) := by decide +kernel
theorem dX6_saidIn_49 : decode cX6_saidIn 49 = .ok (.iinc 5 1, 3) := by decide +kernel
theorem dX6_saidIn_52 : decode cX6_saidIn 52 = .ok (.goto (-46), 3) := by decide +kernel
theorem dX6_saidIn_55 : decode cX6_saidIn 55 = .ok (.iload 4, 2) := by decide +kernel
theorem dX6_saidIn_57 : decode cX6_saidIn 57 = .ok (.ireturn, 1) := by decide +kernel
theorem dX6_valueIn_0 : decode cX6_valueIn 0 = .ok (.aload_n 0, 1) := by decide +kernel
theorem dX6_valueIn_1 : decode cX6_valueIn 1 = .ok (.getfield 19, 3) := by decide +kernel
theorem dX6_valueIn_4 : decode cX6_valueIn 4 = .ok (.aload_n 0, 1) := by decide +kernel
theorem dX6_valueIn_5 : decode cX6_valueIn 5 = .ok (.getfield 29, 3) := by decide +kernel
theorem dX6_valueIn_8 : decode cX6_valueIn 8 = .ok (.getfield 129, 3) := by decide +kernel
theorem dX6_valueIn_11 : decode cX6_valueIn 11 = .ok (.iload_n 3, 1) := by decide +kernel
theorem dX6_valueIn_12 : decode cX6_valueIn 12 = .ok (.iadd, 1) := by decide +kernel
theorem dX6_valueIn_13 : decode cX6_valueIn 13 = .ok (.iload_n 1, 1) := by decide +kernel
theorem dX6_valueIn_14 : decode cX6_valueIn 14 = .ok (.aload_n 0, 1) := by decide +kernel
theorem dX6_valueIn_15 : decode cX6_valueIn 15 = .ok (.iload_n 1, 1) := by decide +kernel
theorem dX6_valueIn_16 : decode cX6_valueIn 16 = .ok (.iload_n 2, 1) := by decide +kernel
theorem dX6_valueIn_17 : decode cX6_valueIn 17 = .ok (.iload_n 3, 1) := by decide +kernel
theorem dX6_valueIn_18 : decode cX6_valueIn 18 = .ok (.invokevirtual 206, 3) := by decide +kernel
theorem dX6_valueIn_21 : decode cX6_valueIn 21 = .ok (.aload_n 0, 1) := by decide +kernel
theorem dX6_valueIn_22 : decode cX6_valueIn 22 = .ok (.getfield 29, 3) := by decide +kernel
theorem dX6_valueIn_25 : decode cX6_valueIn 25 = .ok (.iload_n 1, 1) := by decide +kernel
theorem dX6_valueIn_26 : decode cX6_valueIn 26 = .ok (.invokevirtual 123, 3) := by decide +kernel
theorem dX6_valueIn_29 : decode cX6_valueIn 29 = .ok (.invokevirtual 310, 3) := by decide +kernel
theorem dX6_valueIn_32 : decode cX6_valueIn 32 = .ok (.ireturn, 1) := by decide +kernel
theorem dX6_coinValueIn_0 : decode cX6_coinValueIn 0 = .ok (.aload_n 0, 1) := by decide +kernel
theorem dX6_coinValueIn_1 : decode cX6_coinValueIn 1 = .ok (.getfield 29, 3) := by decide +kernel
theorem dX6_coinValueIn_4 : decode cX6_coinValueIn 4 = .ok (.iload_n 2, 1) := by decide +kernel
theorem dX6_coinValueIn_5 : decode cX6_coinValueIn 5 = .ok (.invokevirtual 123, 3) := by decide +kernel
theorem dX6_coinValueIn_8 : decode cX6_coinValueIn 8 = .ok (.istore 5, 2) := by decide +kernel
theorem dX6_coinValueIn_10 : decode cX6_coinValueIn 10 = .ok (.aload_n 0, 1) := by decide +kernel
theorem dX6_coinValueIn_11 : decode cX6_coinValueIn 11 = .ok (.getfield 19, 3) := by decide +kernel
theorem dX6_coinValueIn_14 : decode cX6_coinValueIn 14 = .ok (.iload_n 1, 1) := by decide +kernel
theorem dX6_coinValueIn_15 : decode cX6_coinValueIn 15 = .ok (.invokevirtual 313, 3) := by decide +kernel
theorem dX6_coinValueIn_18 : decode cX6_coinValueIn 18 = .ok (.istore 6, 2) := by decide +kernel
theorem dX6_coinValueIn_20 : decode cX6_coinValueIn 20 = .ok (.aload_n 0, 1) := by decide +kernel
theorem dX6_coinValueIn_21 : decode cX6_coinValueIn 21 = .ok (.getfield 29, 3) := by decide +kernel
theorem dX6_coinValueIn_24 : decode cX6_coinValueIn 24 = .ok (.iload_n 1, 1) := by decide +kernel
theorem dX6_coinValueIn_25 : decode cX6_coinValueIn 25 = .ok (.iload_n 2, 1) := by decide +kernel
theorem dX6_coinValueIn_26 : decode cX6_coinValueIn 26 = .ok (.invokevirtual 142, 3) := by decide +kernel
theorem dX6_coinValueIn_29 : decode cX6_coinValueIn 29 = .ok (.istore 7, 2) := by decide +kernel
theorem dX6_coinValueIn_31 : decode cX6_coinValueIn 31 = .ok (.iload_n 3, 1) := by decide +kernel
theorem dX6_coinValueIn_32 : decode cX6_coinValueIn 32 = .ok (.istore 8, 2) := by decide +kernel
theorem dX6_coinValueIn_34 : decode cX6_coinValueIn 34 = .ok (.iconst 0, 1) := by decide +kernel
theorem dX6_coinValueIn_35 : decode cX6_coinValueIn 35 = .ok (.istore 9, 2) := by decide +kernel
theorem dX6_coinValueIn_37 : decode cX6_coinValueIn 37 = .ok (.iload 9, 2) := by decide +kernel
theorem dX6_coinValueIn_39 : decode cX6_coinValueIn 39 = .ok (.iload 4, 2) := by decide +kernel
theorem dX6_coinValueIn_41 : decode cX6_coinValueIn 41 = .ok (.if_icmp .ge 60, 3) := by decide +kernel
theorem dX6_coinValueIn_44 : decode cX6_coinValueIn 44 = .ok (.iload 9, 2) := by decide +kernel
theorem dX6_coinValueIn_46 : decode cX6_coinValueIn 46 = .ok (.bipush 8, 2) := by decide +kernel
theorem dX6_coinValueIn_48 : decode cX6_coinValueIn 48 = .ok (.if_icmp .ge 53, 3) := by decide +kernel
theorem dX6_coinValueIn_51 : decode cX6_coinValueIn 51 = .ok (.iload 8, 2) := by decide +kernel
theorem dX6_coinValueIn_53 : decode cX6_coinValueIn 53 = .ok (.iload 6, 2) := by decide +kernel
theorem dX6_coinValueIn_55 : decode cX6_coinValueIn 55 = .ok (.invokestatic 209, 3) := by decide +kernel
theorem dX6_coinValueIn_58 : decode cX6_coinValueIn 58 = .ok (.ifCond .eq 13, 3) := by decide +kernel
theorem dX6_coinValueIn_61 : decode cX6_coinValueIn 61 = .ok (.iload 7, 2) := by decide +kernel
theorem dX6_coinValueIn_63 : decode cX6_coinValueIn 63 = .ok (.bipush 99, 2) := by decide +kernel
theorem dX6_coinValueIn_65 : decode cX6_coinValueIn 65 = .ok (.if_icmp .ge 6, 3) := by decide +kernel
theorem dX6_coinValueIn_68 : decode cX6_coinValueIn 68 = .ok (.iinc 7 1, 3) := by decide +kernel
theorem dX6_coinValueIn_71 : decode cX6_coinValueIn 71 = .ok (.aload_n 0, 1) := by decide +kernel
theorem dX6_coinValueIn_72 : decode cX6_coinValueIn 72 = .ok (.getfield 19, 3) := by decide +kernel
theorem dX6_coinValueIn_75 : decode cX6_coinValueIn 75 = .ok (.iload_n 2, 1) := by decide +kernel
theorem dX6_coinValueIn_76 : decode cX6_coinValueIn 76 = .ok (.iload 8, 2) := by decide +kernel
theorem dX6_coinValueIn_78 : decode cX6_coinValueIn 78 = .ok (.iload 5, 2) := by decide +kernel
theorem dX6_coinValueIn_80 : decode cX6_coinValueIn 80 = .ok (.aload_n 0, 1) := by decide +kernel
theorem dX6_coinValueIn_81 : decode cX6_coinValueIn 81 = .ok (.getfield 29, 3) := by decide +kernel
theorem dX6_coinValueIn_84 : decode cX6_coinValueIn 84 = .ok (.getfield 129, 3) := by decide +kernel
theorem dX6_coinValueIn_87 : decode cX6_coinValueIn 87 = .ok (.iload 9, 2) := by decide +kernel
theorem dX6_coinValueIn_89 : decode cX6_coinValueIn 89 = .ok (.iadd, 1) := by decide +kernel
theorem dX6_coinValueIn_90 : decode cX6_coinValueIn 90 = .ok (.invokevirtual 307, 3) := by decide +kernel
theorem dX6_coinValueIn_93 : decode cX6_coinValueIn 93 = .ok (.istore 8, 2) := by decide +kernel
theorem dX6_coinValueIn_95 : decode cX6_coinValueIn 95 = .ok (.iinc 9 1, 3) := by decide +kernel
theorem dX6_coinValueIn_98 : decode cX6_coinValueIn 98 = .ok (.goto (-61), 3) := by decide +kernel
theorem dX6_coinValueIn_101 : decode cX6_coinValueIn 101 = .ok (.iload 7, 2) := by decide +kernel
theorem dX6_coinValueIn_103 : decode cX6_coinValueIn 103 = .ok (.aload_n 0, 1) := by decide +kernel
theorem dX6_coinValueIn_104 : decode cX6_coinValueIn 104 = .ok (.getfield 19, 3) := by decide +kernel
theorem dX6_coinValueIn_107 : decode cX6_coinValueIn 107 = .ok (.aload_n 0, 1) := by decide +kernel
theorem dX6_coinValueIn_108 : decode cX6_coinValueIn 108 = .ok (.getfield 29, 3) := by decide +kernel
theorem dX6_coinValueIn_111 : decode cX6_coinValueIn 111 = .ok (.getfield 129, 3) := by decide +kernel
theorem dX6_coinValueIn_114 : decode cX6_coinValueIn 114 = .ok (.iload 4, 2) := by decide +kernel
theorem dX6_coinValueIn_116 : decode cX6_coinValueIn 116 = .ok (.iadd, 1) := by decide +kernel
theorem dX6_coinValueIn_117 : decode cX6_coinValueIn 117 = .ok (.iload_n 2, 1) := by decide +kernel
theorem dX6_coinValueIn_118 : decode cX6_coinValueIn 118 = .ok (.iload 8, 2) := by decide +kernel
theorem dX6_coinValueIn_120 : decode cX6_coinValueIn 120 = .ok (.iload 5, 2) := by decide +kernel
theorem dX6_coinValueIn_122 : decode cX6_coinValueIn 122 = .ok (.invokevirtual 310, 3) := by decide +kernel
theorem dX6_coinValueIn_125 : decode cX6_coinValueIn 125 = .ok (.imul, 1) := by decide +kernel
theorem dX6_coinValueIn_126 : decode cX6_coinValueIn 126 = .ok (.ireturn, 1) := by decide +kernel
theorem dX6_purseIn_0 : decode cX6_purseIn 0 = .ok (.iconst 0, 1) := by decide +kernel
theorem dX6_purseIn_1 : decode cX6_purseIn 1 = .ok (.istore_n 3, 1) := by decide +kernel
theorem dX6_purseIn_2 : decode cX6_purseIn 2 = .ok (.iconst 0, 1) := by decide +kernel
theorem dX6_purseIn_3 : decode cX6_purseIn 3 = .ok (.istore 4, 2) := by decide +kernel
theorem dX6_purseIn_5 : decode cX6_purseIn 5 = .ok (.iload 4, 2) := by decide +kernel
theorem dX6_purseIn_7 : decode cX6_purseIn 7 = .ok (.aload_n 0, 1) := by decide +kernel
theorem dX6_purseIn_8 : decode cX6_purseIn 8 = .ok (.getfield 19, 3) := by decide +kernel
theorem dX6_purseIn_11 : decode cX6_purseIn 11 = .ok (.getfield 101, 3) := by decide +kernel
theorem dX6_purseIn_14 : decode cX6_purseIn 14 = .ok (.if_icmp .ge 29, 3) := by decide +kernel
theorem dX6_purseIn_17 : decode cX6_purseIn 17 = .ok (.iload_n 3, 1) := by decide +kernel
theorem dX6_purseIn_18 : decode cX6_purseIn 18 = .ok (.aload_n 0, 1) := by decide +kernel
theorem dX6_purseIn_19 : decode cX6_purseIn 19 = .ok (.iload_n 1, 1) := by decide +kernel
theorem dX6_purseIn_20 : decode cX6_purseIn 20 = .ok (.iload 4, 2) := by decide +kernel
theorem dX6_purseIn_22 : decode cX6_purseIn 22 = .ok (.aload_n 0, 1) := by decide +kernel
theorem dX6_purseIn_23 : decode cX6_purseIn 23 = .ok (.getfield 29, 3) := by decide +kernel
theorem dX6_purseIn_26 : decode cX6_purseIn 26 = .ok (.iload 4, 2) := by decide +kernel
theorem dX6_purseIn_28 : decode cX6_purseIn 28 = .ok (.invokevirtual 120, 3) := by decide +kernel
theorem dX6_purseIn_31 : decode cX6_purseIn 31 = .ok (.iload_n 2, 1) := by decide +kernel
theorem dX6_purseIn_32 : decode cX6_purseIn 32 = .ok (.invokevirtual 316, 3) := by decide +kernel
theorem dX6_purseIn_35 : decode cX6_purseIn 35 = .ok (.iadd, 1) := by decide +kernel
theorem dX6_purseIn_36 : decode cX6_purseIn 36 = .ok (.istore_n 3, 1) := by decide +kernel
theorem dX6_purseIn_37 : decode cX6_purseIn 37 = .ok (.iinc 4 1, 3) := by decide +kernel
theorem dX6_purseIn_40 : decode cX6_purseIn 40 = .ok (.goto (-35), 3) := by decide +kernel
theorem dX6_purseIn_43 : decode cX6_purseIn 43 = .ok (.iload_n 3, 1) := by decide +kernel
theorem dX6_purseIn_44 : decode cX6_purseIn 44 = .ok (.ireturn, 1) := by decide +kernel
theorem dX6_valueAfterDenials_0 : decode cX6_valueAfterDenials 0 = .ok (.aload_n 0, 1) := by decide +kernel
theorem dX6_valueAfterDenials_1 : decode cX6_valueAfterDenials 1 = .ok (.getfield 29, 3) := by decide +kernel
theorem dX6_valueAfterDenials_4 : decode cX6_valueAfterDenials 4 = .ok (.iload_n 1, 1) := by decide +kernel
theorem dX6_valueAfterDenials_5 : decode cX6_valueAfterDenials 5 = .ok (.invokevirtual 120, 3) := by decide +kernel
theorem dX6_valueAfterDenials_8 : decode cX6_valueAfterDenials 8 = .ok (.iload_n 2, 1) := by decide +kernel
theorem dX6_valueAfterDenials_9 : decode cX6_valueAfterDenials 9 = .ok (.iconst (-1), 1) := by decide +kernel
theorem dX6_valueAfterDenials_10 : decode cX6_valueAfterDenials 10 = .ok (.ixor, 1) := by decide +kernel
theorem dX6_valueAfterDenials_11 : decode cX6_valueAfterDenials 11 = .ok (.iand, 1) := by decide +kernel
theorem dX6_valueAfterDenials_12 : decode cX6_valueAfterDenials 12 = .ok (.istore_n 3, 1) := by decide +kernel
theorem dX6_valueAfterDenials_13 : decode cX6_valueAfterDenials 13 = .ok (.aload_n 0, 1) := by decide +kernel
theorem dX6_valueAfterDenials_14 : decode cX6_valueAfterDenials 14 = .ok (.getfield 29, 3) := by decide +kernel
theorem dX6_valueAfterDenials_17 : decode cX6_valueAfterDenials 17 = .ok (.iload_n 1, 1) := by decide +kernel
theorem dX6_valueAfterDenials_18 : decode cX6_valueAfterDenials 18 = .ok (.invokevirtual 123, 3) := by decide +kernel
theorem dX6_valueAfterDenials_21 : decode cX6_valueAfterDenials 21 = .ok (.iload_n 2, 1) := by decide +kernel
theorem dX6_valueAfterDenials_22 : decode cX6_valueAfterDenials 22 = .ok (.ior, 1) := by decide +kernel
theorem dX6_valueAfterDenials_23 : decode cX6_valueAfterDenials 23 = .ok (.istore 4, 2) := by decide +kernel
theorem dX6_valueAfterDenials_25 : decode cX6_valueAfterDenials 25 = .ok (.aload_n 0, 1) := by decide +kernel
theorem dX6_valueAfterDenials_26 : decode cX6_valueAfterDenials 26 = .ok (.getfield 19, 3) := by decide +kernel
theorem dX6_valueAfterDenials_29 : decode cX6_valueAfterDenials 29 = .ok (.aload_n 0, 1) := by decide +kernel
theorem dX6_valueAfterDenials_30 : decode cX6_valueAfterDenials 30 = .ok (.getfield 29, 3) := by decide +kernel
theorem dX6_valueAfterDenials_33 : decode cX6_valueAfterDenials 33 = .ok (.getfield 129, 3) := by decide +kernel
theorem dX6_valueAfterDenials_36 : decode cX6_valueAfterDenials 36 = .ok (.iconst 1, 1) := by decide +kernel
theorem dX6_valueAfterDenials_37 : decode cX6_valueAfterDenials 37 = .ok (.iadd, 1) := by decide +kernel
theorem dX6_valueAfterDenials_38 : decode cX6_valueAfterDenials 38 = .ok (.iload_n 1, 1) := by decide +kernel
theorem dX6_valueAfterDenials_39 : decode cX6_valueAfterDenials 39 = .ok (.aload_n 0, 1) := by decide +kernel
theorem dX6_valueAfterDenials_40 : decode cX6_valueAfterDenials 40 = .ok (.getfield 19, 3) := by decide +kernel
theorem dX6_valueAfterDenials_43 : decode cX6_valueAfterDenials 43 = .ok (.iload_n 1, 1) := by decide +kernel
theorem dX6_valueAfterDenials_44 : decode cX6_valueAfterDenials 44 = .ok (.iload_n 3, 1) := by decide +kernel
theorem dX6_valueAfterDenials_45 : decode cX6_valueAfterDenials 45 = .ok (.iload 4, 2) := by decide +kernel
theorem dX6_valueAfterDenials_47 : decode cX6_valueAfterDenials 47 = .ok (.aload_n 0, 1) := by decide +kernel
theorem dX6_valueAfterDenials_48 : decode cX6_valueAfterDenials 48 = .ok (.getfield 29, 3) := by decide +kernel
theorem dX6_valueAfterDenials_51 : decode cX6_valueAfterDenials 51 = .ok (.getfield 129, 3) := by decide +kernel
theorem dX6_valueAfterDenials_54 : decode cX6_valueAfterDenials 54 = .ok (.invokevirtual 307, 3) := by decide +kernel
theorem dX6_valueAfterDenials_57 : decode cX6_valueAfterDenials 57 = .ok (.iload 4, 2) := by decide +kernel
theorem dX6_valueAfterDenials_59 : decode cX6_valueAfterDenials 59 = .ok (.invokevirtual 310, 3) := by decide +kernel
theorem dX6_valueAfterDenials_62 : decode cX6_valueAfterDenials 62 = .ok (.ireturn, 1) := by decide +kernel
theorem dX6_canSayThing_0 : decode cX6_canSayThing 0 = .ok (.aload_n 0, 1) := by decide +kernel
theorem dX6_canSayThing_1 : decode cX6_canSayThing 1 = .ok (.getfield 29, 3) := by decide +kernel
theorem dX6_canSayThing_4 : decode cX6_canSayThing 4 = .ok (.aload_n 0, 1) := by decide +kernel
theorem dX6_canSayThing_5 : decode cX6_canSayThing 5 = .ok (.getfield 19, 3) := by decide +kernel
theorem dX6_canSayThing_8 : decode cX6_canSayThing 8 = .ok (.iload_n 1, 1) := by decide +kernel
theorem dX6_canSayThing_9 : decode cX6_canSayThing 9 = .ok (.bipush 6, 2) := by decide +kernel
theorem dX6_canSayThing_11 : decode cX6_canSayThing 11 = .ok (.idiv, 1) := by decide +kernel
theorem dX6_canSayThing_12 : decode cX6_canSayThing 12 = .ok (.iload_n 1, 1) := by decide +kernel
theorem dX6_canSayThing_13 : decode cX6_canSayThing 13 = .ok (.bipush 6, 2) := by decide +kernel
theorem dX6_canSayThing_15 : decode cX6_canSayThing 15 = .ok (.irem, 1) := by decide +kernel
theorem dX6_canSayThing_16 : decode cX6_canSayThing 16 = .ok (.invokevirtual 156, 3) := by decide +kernel
theorem dX6_canSayThing_19 : decode cX6_canSayThing 19 = .ok (.ireturn, 1) := by decide +kernel
theorem dX6_thingBit_0 : decode cX6_thingBit 0 = .ok (.iconst 1, 1) := by decide +kernel
theorem dX6_thingBit_1 : decode cX6_thingBit 1 = .ok (.iload_n 0, 1) := by decide +kernel
theorem dX6_thingBit_2 : decode cX6_thingBit 2 = .ok (.bipush 6, 2) := by decide +kernel
theorem dX6_thingBit_4 : decode cX6_thingBit 4 = .ok (.irem, 1) := by decide +kernel
theorem dX6_thingBit_5 : decode cX6_thingBit 5 = .ok (.ishl, 1) := by decide +kernel
theorem dX6_thingBit_6 : decode cX6_thingBit 6 = .ok (.ireturn, 1) := by decide +kernel
theorem dX6_thingFigures_0 : decode cX6_thingFigures 0 = .ok (.bipush 10, 2) := by decide +kernel
theorem dX6_thingFigures_2 : decode cX6_thingFigures 2 = .ok (.iload_n 0, 1) := by decide +kernel
theorem dX6_thingFigures_3 : decode cX6_thingFigures 3 = .ok (.bipush 6, 2) := by decide +kernel
theorem dX6_thingFigures_5 : decode cX6_thingFigures 5 = .ok (.idiv, 1) := by decide +kernel
theorem dX6_thingFigures_6 : decode cX6_thingFigures 6 = .ok (.imul, 1) := by decide +kernel
theorem dX6_thingFigures_7 : decode cX6_thingFigures 7 = .ok (.iload_n 0, 1) := by decide +kernel
theorem dX6_thingFigures_8 : decode cX6_thingFigures 8 = .ok (.bipush 6, 2) := by decide +kernel
theorem dX6_thingFigures_10 : decode cX6_thingFigures 10 = .ok (.irem, 1) := by decide +kernel
theorem dX6_thingFigures_11 : decode cX6_thingFigures 11 = .ok (.iadd, 1) := by decide +kernel
theorem dX6_thingFigures_12 : decode cX6_thingFigures 12 = .ok (.ireturn, 1) := by decide +kernel
theorem dX6_gainOf_0 : decode cX6_gainOf 0 = .ok (.aload_n 0, 1) := by decide +kernel
theorem dX6_gainOf_1 : decode cX6_gainOf 1 = .ok (.getfield 29, 3) := by decide +kernel
theorem dX6_gainOf_4 : decode cX6_gainOf 4 = .ok (.iload_n 2, 1) := by decide +kernel
theorem dX6_gainOf_5 : decode cX6_gainOf 5 = .ok (.invokevirtual 120, 3) := by decide +kernel
theorem dX6_gainOf_8 : decode cX6_gainOf 8 = .ok (.istore 5, 2) := by decide +kernel
theorem dX6_gainOf_10 : decode cX6_gainOf 10 = .ok (.aload_n 0, 1) := by decide +kernel
theorem dX6_gainOf_11 : decode cX6_gainOf 11 = .ok (.iload_n 1, 1) := by decide +kernel
theorem dX6_gainOf_12 : decode cX6_gainOf 12 = .ok (.iload_n 2, 1) := by decide +kernel
theorem dX6_gainOf_13 : decode cX6_gainOf 13 = .ok (.iload 5, 2) := by decide +kernel
theorem dX6_gainOf_15 : decode cX6_gainOf 15 = .ok (.iload_n 3, 1) := by decide +kernel
theorem dX6_gainOf_16 : decode cX6_gainOf 16 = .ok (.ior, 1) := by decide +kernel
theorem dX6_gainOf_17 : decode cX6_gainOf 17 = .ok (.iload 4, 2) := by decide +kernel
theorem dX6_gainOf_19 : decode cX6_gainOf 19 = .ok (.invokevirtual 316, 3) := by decide +kernel
theorem dX6_gainOf_22 : decode cX6_gainOf 22 = .ok (.aload_n 0, 1) := by decide +kernel
theorem dX6_gainOf_23 : decode cX6_gainOf 23 = .ok (.iload_n 1, 1) := by decide +kernel
theorem dX6_gainOf_24 : decode cX6_gainOf 24 = .ok (.iload_n 2, 1) := by decide +kernel
theorem dX6_gainOf_25 : decode cX6_gainOf 25 = .ok (.iload 5, 2) := by decide +kernel
theorem dX6_gainOf_27 : decode cX6_gainOf 27 = .ok (.iload 4, 2) := by decide +kernel
theorem dX6_gainOf_29 : decode cX6_gainOf 29 = .ok (.invokevirtual 316, 3) := by decide +kernel
theorem dX6_gainOf_32 : decode cX6_gainOf 32 = .ok (.isub, 1) := by decide +kernel
theorem dX6_gainOf_33 : decode cX6_gainOf 33 = .ok (.ireturn, 1) := by decide +kernel
theorem dX6_offerOneThing_0 : decode cX6_offerOneThing 0 = .ok (.iconst 0, 1) := by decide +kernel
theorem dX6_offerOneThing_1 : decode cX6_offerOneThing 1 = .ok (.istore_n 1, 1) := by decide +kernel
theorem dX6_offerOneThing_2 : decode cX6_offerOneThing 2 = .ok (.iload_n 1, 1) := by decide +kernel
theorem dX6_offerOneThing_3 : decode cX6_offerOneThing 3 = .ok (.bipush 30, 2) := by decide +kernel
theorem dX6_offerOneThing_5 : decode cX6_offerOneThing 5 = .ok (.if_icmp .ge 39, 3) := by decide +kernel
theorem dX6_offerOneThing_8 : decode cX6_offerOneThing 8 = .ok (.aload_n 0, 1) := by decide +kernel
theorem dX6_offerOneThing_9 : decode cX6_offerOneThing 9 = .ok (.iload_n 1, 1) := by decide +kernel
theorem dX6_offerOneThing_10 : decode cX6_offerOneThing 10 = .ok (.invokevirtual 212, 3) := by decide +kernel
theorem dX6_offerOneThing_13 : decode cX6_offerOneThing 13 = .ok (.ifCond .eq 25, 3) := by decide +kernel
theorem dX6_offerOneThing_16 : decode cX6_offerOneThing 16 = .ok (.aload_n 0, 1) := by decide +kernel
theorem dX6_offerOneThing_17 : decode cX6_offerOneThing 17 = .ok (.getfield 61, 3) := by decide +kernel
theorem dX6_offerOneThing_20 : decode cX6_offerOneThing 20 = .ok (.aload_n 0, 1) := by decide +kernel
theorem dX6_offerOneThing_21 : decode cX6_offerOneThing 21 = .ok (.getfield 65, 3) := by decide +kernel
theorem dX6_offerOneThing_24 : decode cX6_offerOneThing 24 = .ok (.iload_n 1, 1) := by decide +kernel
theorem dX6_offerOneThing_25 : decode cX6_offerOneThing 25 = .ok (.invokestatic 319, 3) := by decide +kernel
theorem dX6_offerOneThing_28 : decode cX6_offerOneThing 28 = .ok (.bipush 100, 2) := by decide +kernel
theorem dX6_offerOneThing_30 : decode cX6_offerOneThing 30 = .ok (.iload_n 1, 1) := by decide +kernel
theorem dX6_offerOneThing_31 : decode cX6_offerOneThing 31 = .ok (.invokestatic 323, 3) := by decide +kernel
theorem dX6_offerOneThing_34 : decode cX6_offerOneThing 34 = .ok (.iadd, 1) := by decide +kernel
theorem dX6_offerOneThing_35 : decode cX6_offerOneThing 35 = .ok (.invokevirtual 200, 3) := by decide +kernel
theorem dX6_offerOneThing_38 : decode cX6_offerOneThing 38 = .ok (.iinc 1 1, 3) := by decide +kernel
theorem dX6_offerOneThing_41 : decode cX6_offerOneThing 41 = .ok (.goto (-39), 3) := by decide +kernel
theorem dX6_offerOneThing_44 : decode cX6_offerOneThing 44 = .ok (.return_, 1) := by decide +kernel
theorem dX6_offerTwoThings_0 : decode cX6_offerTwoThings 0 = .ok (.iconst 0, 1) := by decide +kernel
theorem dX6_offerTwoThings_1 : decode cX6_offerTwoThings 1 = .ok (.istore_n 3, 1) := by decide +kernel
theorem dX6_offerTwoThings_2 : decode cX6_offerTwoThings 2 = .ok (.iload_n 3, 1) := by decide +kernel
theorem dX6_offerTwoThings_3 : decode cX6_offerTwoThings 3 = .ok (.bipush 30, 2) := by decide +kernel
theorem dX6_offerTwoThings_5 : decode cX6_offerTwoThings 5 = .ok (.if_icmp .ge 125, 3) := by decide +kernel
theorem dX6_offerTwoThings_8 : decode cX6_offerTwoThings 8 = .ok (.iload_n 3, 1) := by decide +kernel
theorem dX6_offerTwoThings_9 : decode cX6_offerTwoThings 9 = .ok (.iconst 1, 1) := by decide +kernel
theorem dX6_offerTwoThings_10 : decode cX6_offerTwoThings 10 = .ok (.iadd, 1) := by decide +kernel
theorem dX6_offerTwoThings_11 : decode cX6_offerTwoThings 11 = .ok (.istore 4, 2) := by decide +kernel
theorem dX6_offerTwoThings_13 : decode cX6_offerTwoThings 13 = .ok (.iload 4, 2) := by decide +kernel
theorem dX6_offerTwoThings_15 : decode cX6_offerTwoThings 15 = .ok (.bipush 30, 2) := by decide +kernel
theorem dX6_offerTwoThings_17 : decode cX6_offerTwoThings 17 = .ok (.if_icmp .ge 107, 3) := by decide +kernel
theorem dX6_offerTwoThings_20 : decode cX6_offerTwoThings 20 = .ok (.aload_n 0, 1) := by decide +kernel
theorem dX6_offerTwoThings_21 : decode cX6_offerTwoThings 21 = .ok (.iload_n 3, 1) := by decide +kernel
theorem dX6_offerTwoThings_22 : decode cX6_offerTwoThings 22 = .ok (.invokevirtual 212, 3) := by decide +kernel
theorem dX6_offerTwoThings_25 : decode cX6_offerTwoThings 25 = .ok (.ifCond .eq 99, 3) := by decide +kernel
theorem dX6_offerTwoThings_28 : decode cX6_offerTwoThings 28 = .ok (.aload_n 0, 1) := by decide +kernel
theorem dX6_offerTwoThings_29 : decode cX6_offerTwoThings 29 = .ok (.iload 4, 2) := by decide +kernel
theorem dX6_offerTwoThings_31 : decode cX6_offerTwoThings 31 = .ok (.invokevirtual 212, 3) := by decide +kernel
theorem dX6_offerTwoThings_34 : decode cX6_offerTwoThings 34 = .ok (.ifCond .eq 84, 3) := by decide +kernel
theorem dX6_offerTwoThings_37 : decode cX6_offerTwoThings 37 = .ok (.iload_n 3, 1) := by decide +kernel
theorem dX6_offerTwoThings_38 : decode cX6_offerTwoThings 38 = .ok (.bipush 6, 2) := by decide +kernel
theorem dX6_offerTwoThings_40 : decode cX6_offerTwoThings 40 = .ok (.idiv, 1) := by decide +kernel
theorem dX6_offerTwoThings_41 : decode cX6_offerTwoThings 41 = .ok (.iload 4, 2) := by decide +kernel
theorem dX6_offerTwoThings_43 : decode cX6_offerTwoThings 43 = .ok (.bipush 6, 2) := by decide +kernel
theorem dX6_offerTwoThings_45 : decode cX6_offerTwoThings 45 = .ok (.idiv, 1) := by decide +kernel
theorem dX6_offerTwoThings_46 : decode cX6_offerTwoThings 46 = .ok (.if_icmp .ne 26, 3) := by decide +kernel
theorem dX6_offerTwoThings_49 : decode cX6_offerTwoThings 49 = .ok (.aload_n 0, 1) := by decide +kernel
theorem dX6_offerTwoThings_50 : decode cX6_offerTwoThings 50 = .ok (.iload_n 1, 1) := by decide +kernel
theorem dX6_offerTwoThings_51 : decode cX6_offerTwoThings 51 = .ok (.iload_n 3, 1) := by decide +kernel
theorem dX6_offerTwoThings_52 : decode cX6_offerTwoThings 52 = .ok (.bipush 6, 2) := by decide +kernel
theorem dX6_offerTwoThings_54 : decode cX6_offerTwoThings 54 = .ok (.idiv, 1) := by decide +kernel
theorem dX6_offerTwoThings_55 : decode cX6_offerTwoThings 55 = .ok (.iload_n 3, 1) := by decide +kernel
theorem dX6_offerTwoThings_56 : decode cX6_offerTwoThings 56 = .ok (.invokestatic 215, 3) := by decide +kernel
theorem dX6_offerTwoThings_59 : decode cX6_offerTwoThings 59 = .ok (.iload 4, 2) := by decide +kernel
theorem dX6_offerTwoThings_61 : decode cX6_offerTwoThings 61 = .ok (.invokestatic 215, 3) := by decide +kernel
theorem dX6_offerTwoThings_64 : decode cX6_offerTwoThings 64 = .ok (.ior, 1) := by decide +kernel
theorem dX6_offerTwoThings_65 : decode cX6_offerTwoThings 65 = .ok (.iload_n 2, 1) := by decide +kernel
theorem dX6_offerTwoThings_66 : decode cX6_offerTwoThings 66 = .ok (.invokevirtual 218, 3) := by decide +kernel
theorem dX6_offerTwoThings_69 : decode cX6_offerTwoThings 69 = .ok (.goto 21, 3) := by decide +kernel
theorem dX6_offerTwoThings_72 : decode cX6_offerTwoThings 72 = .ok (.aload_n 0, 1) := by decide +kernel
theorem dX6_offerTwoThings_73 : decode cX6_offerTwoThings 73 = .ok (.getfield 65, 3) := by decide +kernel
theorem dX6_offerTwoThings_76 : decode cX6_offerTwoThings 76 = .ok (.iload_n 3, 1) := by decide +kernel
theorem dX6_offerTwoThings_77 : decode cX6_offerTwoThings 77 = .ok (.invokestatic 319, 3) := by decide +kernel
theorem dX6_offerTwoThings_80 : decode cX6_offerTwoThings 80 = .ok (.aload_n 0, 1) := by decide +kernel
theorem dX6_offerTwoThings_81 : decode cX6_offerTwoThings 81 = .ok (.getfield 65, 3) := by decide +kernel
theorem dX6_offerTwoThings_84 : decode cX6_offerTwoThings 84 = .ok (.iload 4, 2) := by decide +kernel
theorem dX6_offerTwoThings_86 : decode cX6_offerTwoThings 86 = .ok (.invokestatic 319, 3) := by decide +kernel
theorem dX6_offerTwoThings_89 : decode cX6_offerTwoThings 89 = .ok (.iadd, 1) := by decide +kernel
theorem dX6_offerTwoThings_90 : decode cX6_offerTwoThings 90 = .ok (.istore 5, 2) := by decide +kernel
theorem dX6_offerTwoThings_92 : decode cX6_offerTwoThings 92 = .ok (.aload_n 0, 1) := by decide +kernel
theorem dX6_offerTwoThings_93 : decode cX6_offerTwoThings 93 = .ok (.getfield 61, 3) := by decide +kernel
theorem dX6_offerTwoThings_96 : decode cX6_offerTwoThings 96 = .ok (.iload 5, 2) := by decide +kernel
theorem dX6_offerTwoThings_98 : decode cX6_offerTwoThings 98 = .ok (.sipush 10000, 3) := by decide +kernel
theorem dX6_offerTwoThings_101 : decode cX6_offerTwoThings 101 = .ok (.bipush 100, 2) := by decide +kernel
theorem dX6_offerTwoThings_103 : decode cX6_offerTwoThings 103 = .ok (.iload_n 3, 1) := by decide +kernel
theorem dX6_offerTwoThings_104 : decode cX6_offerTwoThings 104 = .ok (.invokestatic 323, 3) := by decide +kernel
theorem dX6_offerTwoThings_107 : decode cX6_offerTwoThings 107 = .ok (.imul, 1) := by decide +kernel
theorem dX6_offerTwoThings_108 : decode cX6_offerTwoThings 108 = .ok (.iadd, 1) := by decide +kernel
theorem dX6_offerTwoThings_109 : decode cX6_offerTwoThings 109 = .ok (.iload 4, 2) := by decide +kernel
theorem dX6_offerTwoThings_111 : decode cX6_offerTwoThings 111 = .ok (.invokestatic 323, 3) := by decide +kernel
theorem dX6_offerTwoThings_114 : decode cX6_offerTwoThings 114 = .ok (.iadd, 1) := by decide +kernel
theorem dX6_offerTwoThings_115 : decode cX6_offerTwoThings 115 = .ok (.invokevirtual 200, 3) := by decide +kernel
theorem dX6_offerTwoThings_118 : decode cX6_offerTwoThings 118 = .ok (.iinc 4 1, 3) := by decide +kernel
theorem dX6_offerTwoThings_121 : decode cX6_offerTwoThings 121 = .ok (.goto (-108), 3) := by decide +kernel
theorem dX6_offerTwoThings_124 : decode cX6_offerTwoThings 124 = .ok (.iinc 3 1, 3) := by decide +kernel
theorem dX6_offerTwoThings_127 : decode cX6_offerTwoThings 127 = .ok (.goto (-125), 3) := by decide +kernel
theorem dX6_offerTwoThings_130 : decode cX6_offerTwoThings 130 = .ok (.return_, 1) := by decide +kernel
theorem dX6_trySaying_0 : decode cX6_trySaying 0 = .ok (.aload_n 0, 1) := by decide +kernel
theorem dX6_trySaying_1 : decode cX6_trySaying 1 = .ok (.getfield 33, 3) := by decide +kernel
theorem dX6_trySaying_4 : decode cX6_trySaying 4 = .ok (.aload_n 0, 1) := by decide +kernel
theorem dX6_trySaying_5 : decode cX6_trySaying 5 = .ok (.getfield 19, 3) := by decide +kernel
theorem dX6_trySaying_8 : decode cX6_trySaying 8 = .ok (.iload_n 1, 1) := by decide +kernel
theorem dX6_trySaying_9 : decode cX6_trySaying 9 = .ok (.iload_n 2, 1) := by decide +kernel
theorem dX6_trySaying_10 : decode cX6_trySaying 10 = .ok (.invokevirtual 156, 3) := by decide +kernel
theorem dX6_trySaying_13 : decode cX6_trySaying 13 = .ok (.ifCond .ne 5, 3) := by decide +kernel
theorem dX6_trySaying_16 : decode cX6_trySaying 16 = .ok (.iconst 0, 1) := by decide +kernel
theorem dX6_trySaying_17 : decode cX6_trySaying 17 = .ok (.ireturn, 1) := by decide +kernel
theorem dX6_trySaying_18 : decode cX6_trySaying 18 = .ok (.aload_n 0, 1) := by decide +kernel
theorem dX6_trySaying_19 : decode cX6_trySaying 19 = .ok (.getfield 33, 3) := by decide +kernel
theorem dX6_trySaying_22 : decode cX6_trySaying 22 = .ok (.iload_n 1, 1) := by decide +kernel
theorem dX6_trySaying_23 : decode cX6_trySaying 23 = .ok (.iload_n 2, 1) := by decide +kernel
theorem dX6_trySaying_24 : decode cX6_trySaying 24 = .ok (.invokevirtual 160, 3) := by decide +kernel
theorem dX6_trySaying_27 : decode cX6_trySaying 27 = .ok (.iconst 1, 1) := by decide +kernel
theorem dX6_trySaying_28 : decode cX6_trySaying 28 = .ok (.ireturn, 1) := by decide +kernel
theorem dX6_tryDenying_0 : decode cX6_tryDenying 0 = .ok (.aload_n 0, 1) := by decide +kernel
theorem dX6_tryDenying_1 : decode cX6_tryDenying 1 = .ok (.getfield 33, 3) := by decide +kernel
theorem dX6_tryDenying_4 : decode cX6_tryDenying 4 = .ok (.aload_n 0, 1) := by decide +kernel
theorem dX6_tryDenying_5 : decode cX6_tryDenying 5 = .ok (.getfield 19, 3) := by decide +kernel
theorem dX6_tryDenying_8 : decode cX6_tryDenying 8 = .ok (.iload_n 1, 1) := by decide +kernel
theorem dX6_tryDenying_9 : decode cX6_tryDenying 9 = .ok (.iload_n 2, 1) := by decide +kernel
theorem dX6_tryDenying_10 : decode cX6_tryDenying 10 = .ok (.invokevirtual 169, 3) := by decide +kernel
theorem dX6_tryDenying_13 : decode cX6_tryDenying 13 = .ok (.ifCond .ne 5, 3) := by decide +kernel
theorem dX6_tryDenying_16 : decode cX6_tryDenying 16 = .ok (.iconst 0, 1) := by decide +kernel
theorem dX6_tryDenying_17 : decode cX6_tryDenying 17 = .ok (.ireturn, 1) := by decide +kernel
theorem dX6_tryDenying_18 : decode cX6_tryDenying 18 = .ok (.aload_n 0, 1) := by decide +kernel
theorem dX6_tryDenying_19 : decode cX6_tryDenying 19 = .ok (.getfield 33, 3) := by decide +kernel
theorem dX6_tryDenying_22 : decode cX6_tryDenying 22 = .ok (.iload_n 1, 1) := by decide +kernel
theorem dX6_tryDenying_23 : decode cX6_tryDenying 23 = .ok (.iload_n 2, 1) := by decide +kernel
theorem dX6_tryDenying_24 : decode cX6_tryDenying 24 = .ok (.invokevirtual 172, 3) := by decide +kernel
theorem dX6_tryDenying_27 : decode cX6_tryDenying 27 = .ok (.iconst 1, 1) := by decide +kernel
theorem dX6_tryDenying_28 : decode cX6_tryDenying 28 = .ok (.ireturn, 1) := by decide +kernel
theorem dX6_tryThing_0 : decode cX6_tryThing 0 = .ok (.iload_n 1, 1) := by decide +kernel
theorem dX6_tryThing_1 : decode cX6_tryThing 1 = .ok (.bipush 10, 2) := by decide +kernel
theorem dX6_tryThing_3 : decode cX6_tryThing 3 = .ok (.idiv, 1) := by decide +kernel
theorem dX6_tryThing_4 : decode cX6_tryThing 4 = .ok (.bipush 10, 2) := by decide +kernel
theorem dX6_tryThing_6 : decode cX6_tryThing 6 = .ok (.irem, 1) := by decide +kernel
theorem dX6_tryThing_7 : decode cX6_tryThing 7 = .ok (.istore_n 2, 1) := by decide +kernel
theorem dX6_tryThing_8 : decode cX6_tryThing 8 = .ok (.iload_n 1, 1) := by decide +kernel
theorem dX6_tryThing_9 : decode cX6_tryThing 9 = .ok (.bipush 10, 2) := by decide +kernel
theorem dX6_tryThing_11 : decode cX6_tryThing 11 = .ok (.irem, 1) := by decide +kernel
theorem dX6_tryThing_12 : decode cX6_tryThing 12 = .ok (.istore_n 3, 1) := by decide +kernel
theorem dX6_tryThing_13 : decode cX6_tryThing 13 = .ok (.iload_n 1, 1) := by decide +kernel
theorem dX6_tryThing_14 : decode cX6_tryThing 14 = .ok (.bipush 100, 2) := by decide +kernel
theorem dX6_tryThing_16 : decode cX6_tryThing 16 = .ok (.idiv, 1) := by decide +kernel
theorem dX6_tryThing_17 : decode cX6_tryThing 17 = .ok (.tableswitch 55 0 2 #[27, 34, 41], 27) := by decide +kernel
theorem dX6_tryThing_44 : decode cX6_tryThing 44 = .ok (.aload_n 0, 1) := by decide +kernel
theorem dX6_tryThing_45 : decode cX6_tryThing 45 = .ok (.iload_n 2, 1) := by decide +kernel
theorem dX6_tryThing_46 : decode cX6_tryThing 46 = .ok (.iload_n 3, 1) := by decide +kernel
theorem dX6_tryThing_47 : decode cX6_tryThing 47 = .ok (.invokevirtual 290, 3) := by decide +kernel
theorem dX6_tryThing_50 : decode cX6_tryThing 50 = .ok (.ireturn, 1) := by decide +kernel
theorem dX6_tryThing_51 : decode cX6_tryThing 51 = .ok (.aload_n 0, 1) := by decide +kernel
theorem dX6_tryThing_52 : decode cX6_tryThing 52 = .ok (.iload_n 2, 1) := by decide +kernel
theorem dX6_tryThing_53 : decode cX6_tryThing 53 = .ok (.iload_n 3, 1) := by decide +kernel
theorem dX6_tryThing_54 : decode cX6_tryThing 54 = .ok (.invokevirtual 326, 3) := by decide +kernel
theorem dX6_tryThing_57 : decode cX6_tryThing 57 = .ok (.ireturn, 1) := by decide +kernel
theorem dX6_tryThing_58 : decode cX6_tryThing 58 = .ok (.aload_n 0, 1) := by decide +kernel
theorem dX6_tryThing_59 : decode cX6_tryThing 59 = .ok (.getfield 33, 3) := by decide +kernel
theorem dX6_tryThing_62 : decode cX6_tryThing 62 = .ok (.aload_n 0, 1) := by decide +kernel
theorem dX6_tryThing_63 : decode cX6_tryThing 63 = .ok (.getfield 19, 3) := by decide +kernel
theorem dX6_tryThing_66 : decode cX6_tryThing 66 = .ok (.invokevirtual 150, 3) := by decide +kernel
theorem dX6_tryThing_69 : decode cX6_tryThing 69 = .ok (.pop, 1) := by decide +kernel
theorem dX6_tryThing_70 : decode cX6_tryThing 70 = .ok (.iconst 1, 1) := by decide +kernel
theorem dX6_tryThing_71 : decode cX6_tryThing 71 = .ok (.ireturn, 1) := by decide +kernel
theorem dX6_tryThing_72 : decode cX6_tryThing 72 = .ok (.iconst 0, 1) := by decide +kernel
theorem dX6_tryThing_73 : decode cX6_tryThing 73 = .ok (.ireturn, 1) := by decide +kernel
theorem dX6_agreesWithHeard_0 : decode cX6_agreesWithHeard 0 = .ok (.iconst 0, 1) := by decide +kernel
theorem dX6_agreesWithHeard_1 : decode cX6_agreesWithHeard 1 = .ok (.istore_n 3, 1) := by decide +kernel
theorem dX6_agreesWithHeard_2 : decode cX6_agreesWithHeard 2 = .ok (.iload_n 3, 1) := by decide +kernel
theorem dX6_agreesWithHeard_3 : decode cX6_agreesWithHeard 3 = .ok (.aload_n 0, 1) := by decide +kernel
theorem dX6_agreesWithHeard_4 : decode cX6_agreesWithHeard 4 = .ok (.getfield 46, 3) := by decide +kernel
theorem dX6_agreesWithHeard_7 : decode cX6_agreesWithHeard 7 = .ok (.getfield 252, 3) := by decide +kernel
theorem dX6_agreesWithHeard_10 : decode cX6_agreesWithHeard 10 = .ok (.if_icmp .ge 73, 3) := by decide +kernel
theorem dX6_agreesWithHeard_13 : decode cX6_agreesWithHeard 13 = .ok (.iload_n 3, 1) := by decide +kernel
theorem dX6_agreesWithHeard_14 : decode cX6_agreesWithHeard 14 = .ok (.bipush 6, 2) := by decide +kernel
theorem dX6_agreesWithHeard_16 : decode cX6_agreesWithHeard 16 = .ok (.if_icmp .ge 67, 3) := by decide +kernel
theorem dX6_agreesWithHeard_19 : decode cX6_agreesWithHeard 19 = .ok (.aload_n 0, 1) := by decide +kernel
theorem dX6_agreesWithHeard_20 : decode cX6_agreesWithHeard 20 = .ok (.getfield 46, 3) := by decide +kernel
theorem dX6_agreesWithHeard_23 : decode cX6_agreesWithHeard 23 = .ok (.getfield 329, 3) := by decide +kernel
theorem dX6_agreesWithHeard_26 : decode cX6_agreesWithHeard 26 = .ok (.iload_n 3, 1) := by decide +kernel
theorem dX6_agreesWithHeard_27 : decode cX6_agreesWithHeard 27 = .ok (.iaload, 1) := by decide +kernel
theorem dX6_agreesWithHeard_28 : decode cX6_agreesWithHeard 28 = .ok (.iload_n 1, 1) := by decide +kernel
theorem dX6_agreesWithHeard_29 : decode cX6_agreesWithHeard 29 = .ok (.if_icmp .ne 48, 3) := by decide +kernel
theorem dX6_agreesWithHeard_32 : decode cX6_agreesWithHeard 32 = .ok (.aload_n 0, 1) := by decide +kernel
theorem dX6_agreesWithHeard_33 : decode cX6_agreesWithHeard 33 = .ok (.iload_n 1, 1) := by decide +kernel
theorem dX6_agreesWithHeard_34 : decode cX6_agreesWithHeard 34 = .ok (.iload_n 2, 1) := by decide +kernel
theorem dX6_agreesWithHeard_35 : decode cX6_agreesWithHeard 35 = .ok (.aload_n 0, 1) := by decide +kernel
theorem dX6_agreesWithHeard_36 : decode cX6_agreesWithHeard 36 = .ok (.getfield 46, 3) := by decide +kernel
theorem dX6_agreesWithHeard_39 : decode cX6_agreesWithHeard 39 = .ok (.getfield 332, 3) := by decide +kernel
theorem dX6_agreesWithHeard_42 : decode cX6_agreesWithHeard 42 = .ok (.iload_n 3, 1) := by decide +kernel
theorem dX6_agreesWithHeard_43 : decode cX6_agreesWithHeard 43 = .ok (.iaload, 1) := by decide +kernel
theorem dX6_agreesWithHeard_44 : decode cX6_agreesWithHeard 44 = .ok (.invokevirtual 206, 3) := by decide +kernel
theorem dX6_agreesWithHeard_47 : decode cX6_agreesWithHeard 47 = .ok (.aload_n 0, 1) := by decide +kernel
theorem dX6_agreesWithHeard_48 : decode cX6_agreesWithHeard 48 = .ok (.getfield 46, 3) := by decide +kernel
theorem dX6_agreesWithHeard_51 : decode cX6_agreesWithHeard 51 = .ok (.getfield 335, 3) := by decide +kernel
theorem dX6_agreesWithHeard_54 : decode cX6_agreesWithHeard 54 = .ok (.iload_n 3, 1) := by decide +kernel
theorem dX6_agreesWithHeard_55 : decode cX6_agreesWithHeard 55 = .ok (.iaload, 1) := by decide +kernel
theorem dX6_agreesWithHeard_56 : decode cX6_agreesWithHeard 56 = .ok (.invokestatic 209, 3) := by decide +kernel
theorem dX6_agreesWithHeard_59 : decode cX6_agreesWithHeard 59 = .ok (.istore 4, 2) := by decide +kernel
theorem dX6_agreesWithHeard_61 : decode cX6_agreesWithHeard 61 = .ok (.iload 4, 2) := by decide +kernel
theorem dX6_agreesWithHeard_63 : decode cX6_agreesWithHeard 63 = .ok (.aload_n 0, 1) := by decide +kernel
theorem dX6_agreesWithHeard_64 : decode cX6_agreesWithHeard 64 = .ok (.getfield 46, 3) := by decide +kernel
theorem dX6_agreesWithHeard_67 : decode cX6_agreesWithHeard 67 = .ok (.getfield 338, 3) := by decide +kernel
theorem dX6_agreesWithHeard_70 : decode cX6_agreesWithHeard 70 = .ok (.iload_n 3, 1) := by decide +kernel
theorem dX6_agreesWithHeard_71 : decode cX6_agreesWithHeard 71 = .ok (.baload, 1) := by decide +kernel
theorem dX6_agreesWithHeard_72 : decode cX6_agreesWithHeard 72 = .ok (.if_icmp .eq 5, 3) := by decide +kernel
theorem dX6_agreesWithHeard_75 : decode cX6_agreesWithHeard 75 = .ok (.iconst 0, 1) := by decide +kernel
theorem dX6_agreesWithHeard_76 : decode cX6_agreesWithHeard 76 = .ok (.ireturn, 1) := by decide +kernel
theorem dX6_agreesWithHeard_77 : decode cX6_agreesWithHeard 77 = .ok (.iinc 3 1, 3) := by decide +kernel
theorem dX6_agreesWithHeard_80 : decode cX6_agreesWithHeard 80 = .ok (.goto (-78), 3) := by decide +kernel
theorem dX6_agreesWithHeard_83 : decode cX6_agreesWithHeard 83 = .ok (.iconst 1, 1) := by decide +kernel
theorem dX6_agreesWithHeard_84 : decode cX6_agreesWithHeard 84 = .ok (.ireturn, 1) := by decide +kernel
theorem dX6_canChoose_0 : decode cX6_canChoose 0 = .ok (.iload_n 2, 1) := by decide +kernel
theorem dX6_canChoose_1 : decode cX6_canChoose 1 = .ok (.ifCond .eq 28, 3) := by decide +kernel
theorem dX6_canChoose_4 : decode cX6_canChoose 4 = .ok (.aload_n 0, 1) := by decide +kernel
theorem dX6_canChoose_5 : decode cX6_canChoose 5 = .ok (.getfield 29, 3) := by decide +kernel
theorem dX6_canChoose_8 : decode cX6_canChoose 8 = .ok (.aload_n 0, 1) := by decide +kernel
theorem dX6_canChoose_9 : decode cX6_canChoose 9 = .ok (.getfield 19, 3) := by decide +kernel
theorem dX6_canChoose_12 : decode cX6_canChoose 12 = .ok (.iload_n 2, 1) := by decide +kernel
theorem dX6_canChoose_13 : decode cX6_canChoose 13 = .ok (.iconst 1, 1) := by decide +kernel
theorem dX6_canChoose_14 : decode cX6_canChoose 14 = .ok (.isub, 1) := by decide +kernel
theorem dX6_canChoose_15 : decode cX6_canChoose 15 = .ok (.aload_n 0, 1) := by decide +kernel
theorem dX6_canChoose_16 : decode cX6_canChoose 16 = .ok (.getfield 19, 3) := by decide +kernel
theorem dX6_canChoose_19 : decode cX6_canChoose 19 = .ok (.iload_n 1, 1) := by decide +kernel
theorem dX6_canChoose_20 : decode cX6_canChoose 20 = .ok (.invokevirtual 313, 3) := by decide +kernel
theorem dX6_canChoose_23 : decode cX6_canChoose 23 = .ok (.invokevirtual 156, 3) := by decide +kernel
theorem dX6_canChoose_26 : decode cX6_canChoose 26 = .ok (.ifCond .eq 7, 3) := by decide +kernel
theorem dX6_canChoose_29 : decode cX6_canChoose 29 = .ok (.iconst 1, 1) := by decide +kernel
theorem dX6_canChoose_30 : decode cX6_canChoose 30 = .ok (.goto 4, 3) := by decide +kernel
theorem dX6_canChoose_33 : decode cX6_canChoose 33 = .ok (.iconst 0, 1) := by decide +kernel
theorem dX6_canChoose_34 : decode cX6_canChoose 34 = .ok (.ireturn, 1) := by decide +kernel
theorem dX6_pairOf_0 : decode cX6_pairOf 0 = .ok (.bipush 6, 2) := by decide +kernel
theorem dX6_pairOf_2 : decode cX6_pairOf 2 = .ok (.iload_n 0, 1) := by decide +kernel
theorem dX6_pairOf_3 : decode cX6_pairOf 3 = .ok (.imul, 1) := by decide +kernel
theorem dX6_pairOf_4 : decode cX6_pairOf 4 = .ok (.iload_n 1, 1) := by decide +kernel
theorem dX6_pairOf_5 : decode cX6_pairOf 5 = .ok (.iadd, 1) := by decide +kernel
theorem dX6_pairOf_6 : decode cX6_pairOf 6 = .ok (.ireturn, 1) := by decide +kernel
theorem dX6_weighChoices_0 : decode cX6_weighChoices 0 = .ok (.iconst 0, 1) := by decide +kernel
theorem dX6_weighChoices_1 : decode cX6_weighChoices 1 = .ok (.istore 4, 2) := by decide +kernel
theorem dX6_weighChoices_3 : decode cX6_weighChoices 3 = .ok (.iload 4, 2) := by decide +kernel
theorem dX6_weighChoices_5 : decode cX6_weighChoices 5 = .ok (.bipush 36, 2) := by decide +kernel
theorem dX6_weighChoices_7 : decode cX6_weighChoices 7 = .ok (.if_icmp .ge 159, 3) := by decide +kernel
theorem dX6_weighChoices_10 : decode cX6_weighChoices 10 = .ok (.aload_n 0, 1) := by decide +kernel
theorem dX6_weighChoices_11 : decode cX6_weighChoices 11 = .ok (.getfield 72, 3) := by decide +kernel
theorem dX6_weighChoices_14 : decode cX6_weighChoices 14 = .ok (.iload 4, 2) := by decide +kernel
theorem dX6_weighChoices_16 : decode cX6_weighChoices 16 = .ok (.iconst 0, 1) := by decide +kernel
theorem dX6_weighChoices_17 : decode cX6_weighChoices 17 = .ok (.iastore, 1) := by decide +kernel
theorem dX6_weighChoices_18 : decode cX6_weighChoices 18 = .ok (.aload_n 0, 1) := by decide +kernel
theorem dX6_weighChoices_19 : decode cX6_weighChoices 19 = .ok (.getfield 75, 3) := by decide +kernel
theorem dX6_weighChoices_22 : decode cX6_weighChoices 22 = .ok (.iload 4, 2) := by decide +kernel
theorem dX6_weighChoices_24 : decode cX6_weighChoices 24 = .ok (.iconst 0, 1) := by decide +kernel
theorem dX6_weighChoices_25 : decode cX6_weighChoices 25 = .ok (.iastore, 1) := by decide +kernel
theorem dX6_weighChoices_26 : decode cX6_weighChoices 26 = .ok (.iconst 0, 1) := by decide +kernel
theorem dX6_weighChoices_27 : decode cX6_weighChoices 27 = .ok (.istore 5, 2) := by decide +kernel
theorem dX6_weighChoices_29 : decode cX6_weighChoices 29 = .ok (.iload 5, 2) := by decide +kernel
theorem dX6_weighChoices_31 : decode cX6_weighChoices 31 = .ok (.aload_n 0, 1) := by decide +kernel
theorem dX6_weighChoices_32 : decode cX6_weighChoices 32 = .ok (.getfield 19, 3) := by decide +kernel
theorem dX6_weighChoices_35 : decode cX6_weighChoices 35 = .ok (.getfield 101, 3) := by decide +kernel
theorem dX6_weighChoices_38 : decode cX6_weighChoices 38 = .ok (.if_icmp .ge 122, 3) := by decide +kernel
theorem dX6_weighChoices_41 : decode cX6_weighChoices 41 = .ok (.aload_n 0, 1) := by decide +kernel
theorem dX6_weighChoices_42 : decode cX6_weighChoices 42 = .ok (.getfield 29, 3) := by decide +kernel
theorem dX6_weighChoices_45 : decode cX6_weighChoices 45 = .ok (.iload 5, 2) := by decide +kernel
theorem dX6_weighChoices_47 : decode cX6_weighChoices 47 = .ok (.invokevirtual 120, 3) := by decide +kernel
theorem dX6_weighChoices_50 : decode cX6_weighChoices 50 = .ok (.istore 6, 2) := by decide +kernel
theorem dX6_weighChoices_52 : decode cX6_weighChoices 52 = .ok (.iload 6, 2) := by decide +kernel
theorem dX6_weighChoices_54 : decode cX6_weighChoices 54 = .ok (.iload 4, 2) := by decide +kernel
theorem dX6_weighChoices_56 : decode cX6_weighChoices 56 = .ok (.bipush 6, 2) := by decide +kernel
theorem dX6_weighChoices_58 : decode cX6_weighChoices 58 = .ok (.idiv, 1) := by decide +kernel
theorem dX6_weighChoices_59 : decode cX6_weighChoices 59 = .ok (.iload 5, 2) := by decide +kernel
theorem dX6_weighChoices_61 : decode cX6_weighChoices 61 = .ok (.iconst 1, 1) := by decide +kernel
theorem dX6_weighChoices_62 : decode cX6_weighChoices 62 = .ok (.iadd, 1) := by decide +kernel
theorem dX6_weighChoices_63 : decode cX6_weighChoices 63 = .ok (.if_icmp .ne 16, 3) := by decide +kernel
theorem dX6_weighChoices_66 : decode cX6_weighChoices 66 = .ok (.iconst 1, 1) := by decide +kernel
theorem dX6_weighChoices_67 : decode cX6_weighChoices 67 = .ok (.aload_n 0, 1) := by decide +kernel
theorem dX6_weighChoices_68 : decode cX6_weighChoices 68 = .ok (.getfield 19, 3) := by decide +kernel
theorem dX6_weighChoices_71 : decode cX6_weighChoices 71 = .ok (.iload_n 1, 1) := by decide +kernel
theorem dX6_weighChoices_72 : decode cX6_weighChoices 72 = .ok (.invokevirtual 313, 3) := by decide +kernel
theorem dX6_weighChoices_75 : decode cX6_weighChoices 75 = .ok (.ishl, 1) := by decide +kernel
theorem dX6_weighChoices_76 : decode cX6_weighChoices 76 = .ok (.goto 4, 3) := by decide +kernel
theorem dX6_weighChoices_79 : decode cX6_weighChoices 79 = .ok (.iconst 0, 1) := by decide +kernel
theorem dX6_weighChoices_80 : decode cX6_weighChoices 80 = .ok (.ior, 1) := by decide +kernel
theorem dX6_weighChoices_81 : decode cX6_weighChoices 81 = .ok (.istore 6, 2) := by decide +kernel
theorem dX6_weighChoices_83 : decode cX6_weighChoices 83 = .ok (.iload 6, 2) := by decide +kernel
theorem dX6_weighChoices_85 : decode cX6_weighChoices 85 = .ok (.iload 4, 2) := by decide +kernel
theorem dX6_weighChoices_87 : decode cX6_weighChoices 87 = .ok (.bipush 6, 2) := by decide +kernel
theorem dX6_weighChoices_89 : decode cX6_weighChoices 89 = .ok (.irem, 1) := by decide +kernel
theorem dX6_weighChoices_90 : decode cX6_weighChoices 90 = .ok (.iload 5, 2) := by decide +kernel
theorem dX6_weighChoices_92 : decode cX6_weighChoices 92 = .ok (.iconst 1, 1) := by decide +kernel
theorem dX6_weighChoices_93 : decode cX6_weighChoices 93 = .ok (.iadd, 1) := by decide +kernel
theorem dX6_weighChoices_94 : decode cX6_weighChoices 94 = .ok (.if_icmp .ne 16, 3) := by decide +kernel
theorem dX6_weighChoices_97 : decode cX6_weighChoices 97 = .ok (.iconst 1, 1) := by decide +kernel
theorem dX6_weighChoices_98 : decode cX6_weighChoices 98 = .ok (.aload_n 0, 1) := by decide +kernel
theorem dX6_weighChoices_99 : decode cX6_weighChoices 99 = .ok (.getfield 19, 3) := by decide +kernel
theorem dX6_weighChoices_102 : decode cX6_weighChoices 102 = .ok (.iload_n 2, 1) := by decide +kernel
theorem dX6_weighChoices_103 : decode cX6_weighChoices 103 = .ok (.invokevirtual 313, 3) := by decide +kernel
theorem dX6_weighChoices_106 : decode cX6_weighChoices 106 = .ok (.ishl, 1) := by decide +kernel
theorem dX6_weighChoices_107 : decode cX6_weighChoices 107 = .ok (.goto 4, 3) := by decide +kernel
theorem dX6_weighChoices_110 : decode cX6_weighChoices 110 = .ok (.iconst 0, 1) := by decide +kernel
theorem dX6_weighChoices_111 : decode cX6_weighChoices 111 = .ok (.ior, 1) := by decide +kernel
theorem dX6_weighChoices_112 : decode cX6_weighChoices 112 = .ok (.istore 6, 2) := by decide +kernel
theorem dX6_weighChoices_114 : decode cX6_weighChoices 114 = .ok (.aload_n 0, 1) := by decide +kernel
theorem dX6_weighChoices_115 : decode cX6_weighChoices 115 = .ok (.getfield 72, 3) := by decide +kernel
theorem dX6_weighChoices_118 : decode cX6_weighChoices 118 = .ok (.iload 4, 2) := by decide +kernel
theorem dX6_weighChoices_120 : decode cX6_weighChoices 120 = .ok (.dup2, 1) := by decide +kernel
theorem dX6_weighChoices_121 : decode cX6_weighChoices 121 = .ok (.iaload, 1) := by decide +kernel
theorem dX6_weighChoices_122 : decode cX6_weighChoices 122 = .ok (.aload_n 0, 1) := by decide +kernel
theorem dX6_weighChoices_123 : decode cX6_weighChoices 123 = .ok (.iload_n 1, 1) := by decide +kernel
theorem dX6_weighChoices_124 : decode cX6_weighChoices 124 = .ok (.iload 5, 2) := by decide +kernel
theorem dX6_weighChoices_126 : decode cX6_weighChoices 126 = .ok (.iload 6, 2) := by decide +kernel
theorem dX6_weighChoices_128 : decode cX6_weighChoices 128 = .ok (.iload_n 3, 1) := by decide +kernel
theorem dX6_weighChoices_129 : decode cX6_weighChoices 129 = .ok (.invokevirtual 316, 3) := by decide +kernel
theorem dX6_weighChoices_132 : decode cX6_weighChoices 132 = .ok (.iadd, 1) := by decide +kernel
theorem dX6_weighChoices_133 : decode cX6_weighChoices 133 = .ok (.iastore, 1) := by decide +kernel
theorem dX6_weighChoices_134 : decode cX6_weighChoices 134 = .ok (.aload_n 0, 1) := by decide +kernel
theorem dX6_weighChoices_135 : decode cX6_weighChoices 135 = .ok (.getfield 75, 3) := by decide +kernel
theorem dX6_weighChoices_138 : decode cX6_weighChoices 138 = .ok (.iload 4, 2) := by decide +kernel
theorem dX6_weighChoices_140 : decode cX6_weighChoices 140 = .ok (.dup2, 1) := by decide +kernel
theorem dX6_weighChoices_141 : decode cX6_weighChoices 141 = .ok (.iaload, 1) := by decide +kernel
theorem dX6_weighChoices_142 : decode cX6_weighChoices 142 = .ok (.aload_n 0, 1) := by decide +kernel
theorem dX6_weighChoices_143 : decode cX6_weighChoices 143 = .ok (.iload_n 2, 1) := by decide +kernel
theorem dX6_weighChoices_144 : decode cX6_weighChoices 144 = .ok (.iload 5, 2) := by decide +kernel
theorem dX6_weighChoices_146 : decode cX6_weighChoices 146 = .ok (.iload 6, 2) := by decide +kernel
theorem dX6_weighChoices_148 : decode cX6_weighChoices 148 = .ok (.iload_n 3, 1) := by decide +kernel
theorem dX6_weighChoices_149 : decode cX6_weighChoices 149 = .ok (.invokevirtual 316, 3) := by decide +kernel
theorem dX6_weighChoices_152 : decode cX6_weighChoices 152 = .ok (.iadd, 1) := by decide +kernel
theorem dX6_weighChoices_153 : decode cX6_weighChoices 153 = .ok (.iastore, 1) := by decide +kernel
theorem dX6_weighChoices_154 : decode cX6_weighChoices 154 = .ok (.iinc 5 1, 3) := by decide +kernel
theorem dX6_weighChoices_157 : decode cX6_weighChoices 157 = .ok (.goto (-128), 3) := by decide +kernel
theorem dX6_weighChoices_160 : decode cX6_weighChoices 160 = .ok (.iinc 4 1, 3) := by decide +kernel
theorem dX6_weighChoices_163 : decode cX6_weighChoices 163 = .ok (.goto (-160), 3) := by decide +kernel
theorem dX6_weighChoices_166 : decode cX6_weighChoices 166 = .ok (.return_, 1) := by decide +kernel
theorem dX6_isAtRest_0 : decode cX6_isAtRest 0 = .ok (.iconst 0, 1) := by decide +kernel
theorem dX6_isAtRest_1 : decode cX6_isAtRest 1 = .ok (.istore 5, 2) := by decide +kernel
theorem dX6_isAtRest_3 : decode cX6_isAtRest 3 = .ok (.iload 5, 2) := by decide +kernel
theorem dX6_isAtRest_5 : decode cX6_isAtRest 5 = .ok (.bipush 6, 2) := by decide +kernel
theorem dX6_isAtRest_7 : decode cX6_isAtRest 7 = .ok (.if_icmp .ge 92, 3) := by decide +kernel
theorem dX6_isAtRest_10 : decode cX6_isAtRest 10 = .ok (.aload_n 0, 1) := by decide +kernel
theorem dX6_isAtRest_11 : decode cX6_isAtRest 11 = .ok (.iload_n 1, 1) := by decide +kernel
theorem dX6_isAtRest_12 : decode cX6_isAtRest 12 = .ok (.iload 5, 2) := by decide +kernel
theorem dX6_isAtRest_14 : decode cX6_isAtRest 14 = .ok (.invokevirtual 266, 3) := by decide +kernel
theorem dX6_isAtRest_17 : decode cX6_isAtRest 17 = .ok (.ifCond .eq 35, 3) := by decide +kernel
theorem dX6_isAtRest_20 : decode cX6_isAtRest 20 = .ok (.aload_n 0, 1) := by decide +kernel
theorem dX6_isAtRest_21 : decode cX6_isAtRest 21 = .ok (.getfield 72, 3) := by decide +kernel
theorem dX6_isAtRest_24 : decode cX6_isAtRest 24 = .ok (.iload 5, 2) := by decide +kernel
theorem dX6_isAtRest_26 : decode cX6_isAtRest 26 = .ok (.iload 4, 2) := by decide +kernel
theorem dX6_isAtRest_28 : decode cX6_isAtRest 28 = .ok (.invokestatic 341, 3) := by decide +kernel
theorem dX6_isAtRest_31 : decode cX6_isAtRest 31 = .ok (.invokestatic 319, 3) := by decide +kernel
theorem dX6_isAtRest_34 : decode cX6_isAtRest 34 = .ok (.aload_n 0, 1) := by decide +kernel
theorem dX6_isAtRest_35 : decode cX6_isAtRest 35 = .ok (.getfield 72, 3) := by decide +kernel
theorem dX6_isAtRest_38 : decode cX6_isAtRest 38 = .ok (.iload_n 2, 1) := by decide +kernel
theorem dX6_isAtRest_39 : decode cX6_isAtRest 39 = .ok (.iload 4, 2) := by decide +kernel
theorem dX6_isAtRest_41 : decode cX6_isAtRest 41 = .ok (.invokestatic 341, 3) := by decide +kernel
theorem dX6_isAtRest_44 : decode cX6_isAtRest 44 = .ok (.invokestatic 319, 3) := by decide +kernel
theorem dX6_isAtRest_47 : decode cX6_isAtRest 47 = .ok (.if_icmp .le 5, 3) := by decide +kernel
theorem dX6_isAtRest_50 : decode cX6_isAtRest 50 = .ok (.iconst 0, 1) := by decide +kernel
theorem dX6_isAtRest_51 : decode cX6_isAtRest 51 = .ok (.ireturn, 1) := by decide +kernel
theorem dX6_isAtRest_52 : decode cX6_isAtRest 52 = .ok (.aload_n 0, 1) := by decide +kernel
theorem dX6_isAtRest_53 : decode cX6_isAtRest 53 = .ok (.iload_n 3, 1) := by decide +kernel
theorem dX6_isAtRest_54 : decode cX6_isAtRest 54 = .ok (.iload 5, 2) := by decide +kernel
theorem dX6_isAtRest_56 : decode cX6_isAtRest 56 = .ok (.invokevirtual 266, 3) := by decide +kernel
theorem dX6_isAtRest_59 : decode cX6_isAtRest 59 = .ok (.ifCond .eq 34, 3) := by decide +kernel
theorem dX6_isAtRest_62 : decode cX6_isAtRest 62 = .ok (.aload_n 0, 1) := by decide +kernel
theorem dX6_isAtRest_63 : decode cX6_isAtRest 63 = .ok (.getfield 75, 3) := by decide +kernel
theorem dX6_isAtRest_66 : decode cX6_isAtRest 66 = .ok (.iload_n 2, 1) := by decide +kernel
theorem dX6_isAtRest_67 : decode cX6_isAtRest 67 = .ok (.iload 5, 2) := by decide +kernel
theorem dX6_isAtRest_69 : decode cX6_isAtRest 69 = .ok (.invokestatic 341, 3) := by decide +kernel
theorem dX6_isAtRest_72 : decode cX6_isAtRest 72 = .ok (.invokestatic 319, 3) := by decide +kernel
theorem dX6_isAtRest_75 : decode cX6_isAtRest 75 = .ok (.aload_n 0, 1) := by decide +kernel
theorem dX6_isAtRest_76 : decode cX6_isAtRest 76 = .ok (.getfield 75, 3) := by decide +kernel
theorem dX6_isAtRest_79 : decode cX6_isAtRest 79 = .ok (.iload_n 2, 1) := by decide +kernel
theorem dX6_isAtRest_80 : decode cX6_isAtRest 80 = .ok (.iload 4, 2) := by decide +kernel
theorem dX6_isAtRest_82 : decode cX6_isAtRest 82 = .ok (.invokestatic 341, 3) := by decide +kernel
theorem dX6_isAtRest_85 : decode cX6_isAtRest 85 = .ok (.invokestatic 319, 3) := by decide +kernel
theorem dX6_isAtRest_88 : decode cX6_isAtRest 88 = .ok (.if_icmp .le 5, 3) := by decide +kernel
theorem dX6_isAtRest_91 : decode cX6_isAtRest 91 = .ok (.iconst 0, 1) := by decide +kernel
theorem dX6_isAtRest_92 : decode cX6_isAtRest 92 = .ok (.ireturn, 1) := by decide +kernel
theorem dX6_isAtRest_93 : decode cX6_isAtRest 93 = .ok (.iinc 5 1, 3) := by decide +kernel
theorem dX6_isAtRest_96 : decode cX6_isAtRest 96 = .ok (.goto (-93), 3) := by decide +kernel
theorem dX6_isAtRest_99 : decode cX6_isAtRest 99 = .ok (.iconst 1, 1) := by decide +kernel
theorem dX6_isAtRest_100 : decode cX6_isAtRest 100 = .ok (.ireturn, 1) := by decide +kernel
theorem dX6_slotAt_0 : decode cX6_slotAt 0 = .ok (.iload_n 1, 1) := by decide +kernel
theorem dX6_slotAt_1 : decode cX6_slotAt 1 = .ok (.aload_n 0, 1) := by decide +kernel
theorem dX6_slotAt_2 : decode cX6_slotAt 2 = .ok (.getfield 50, 3) := by decide +kernel
theorem dX6_slotAt_5 : decode cX6_slotAt 5 = .ok (.arraylength, 1) := by decide +kernel
theorem dX6_slotAt_6 : decode cX6_slotAt 6 = .ok (.invokestatic 344, 3) := by decide +kernel
theorem dX6_slotAt_9 : decode cX6_slotAt 9 = .ok (.ifCond .eq 24, 3) := by decide +kernel
theorem dX6_slotAt_12 : decode cX6_slotAt 12 = .ok (.iload_n 1, 1) := by decide +kernel
theorem dX6_slotAt_13 : decode cX6_slotAt 13 = .ok (.aload_n 0, 1) := by decide +kernel
theorem dX6_slotAt_14 : decode cX6_slotAt 14 = .ok (.getfield 54, 3) := by decide +kernel
theorem dX6_slotAt_17 : decode cX6_slotAt 17 = .ok (.arraylength, 1) := by decide +kernel
theorem dX6_slotAt_18 : decode cX6_slotAt 18 = .ok (.invokestatic 344, 3) := by decide +kernel
theorem dX6_slotAt_21 : decode cX6_slotAt 21 = .ok (.ifCond .eq 12, 3) := by decide +kernel
theorem dX6_slotAt_24 : decode cX6_slotAt 24 = .ok (.aload_n 0, 1) := by decide +kernel
theorem dX6_slotAt_25 : decode cX6_slotAt 25 = .ok (.getfield 50, 3) := by decide +kernel
theorem dX6_slotAt_28 : decode cX6_slotAt 28 = .ok (.iload_n 1, 1) := by decide +kernel
theorem dX6_slotAt_29 : decode cX6_slotAt 29 = .ok (.aaload, 1) := by decide +kernel
theorem dX6_slotAt_30 : decode cX6_slotAt 30 = .ok (.goto 4, 3) := by decide +kernel
theorem dX6_slotAt_33 : decode cX6_slotAt 33 = .ok (.aconst_null, 1) := by decide +kernel
theorem dX6_slotAt_34 : decode cX6_slotAt 34 = .ok (.areturn, 1) := by decide +kernel
theorem dX6_isOutside_0 : decode cX6_isOutside 0 = .ok (.iload_n 0, 1) := by decide +kernel
theorem dX6_isOutside_1 : decode cX6_isOutside 1 = .ok (.iload_n 1, 1) := by decide +kernel
theorem dX6_isOutside_2 : decode cX6_isOutside 2 = .ok (.if_icmp .lt 8, 3) := by decide +kernel
theorem dX6_isOutside_5 : decode cX6_isOutside 5 = .ok (.iload_n 0, 1) := by decide +kernel
theorem dX6_isOutside_6 : decode cX6_isOutside 6 = .ok (.iload_n 2, 1) := by decide +kernel
theorem dX6_isOutside_7 : decode cX6_isOutside 7 = .ok (.if_icmp .le 7, 3) := by decide +kernel
theorem dX6_isOutside_10 : decode cX6_isOutside 10 = .ok (.iconst 1, 1) := by decide +kernel
theorem dX6_isOutside_11 : decode cX6_isOutside 11 = .ok (.goto 4, 3) := by decide +kernel
theorem dX6_isOutside_14 : decode cX6_isOutside 14 = .ok (.iconst 0, 1) := by decide +kernel
theorem dX6_isOutside_15 : decode cX6_isOutside 15 = .ok (.ireturn, 1) := by decide +kernel
theorem dX6_isTable_0 : decode cX6_isTable 0 = .ok (.iload_n 0, 1) := by decide +kernel
theorem dX6_isTable_1 : decode cX6_isTable 1 = .ok (.ifCond .lt 13, 3) := by decide +kernel
theorem dX6_isTable_4 : decode cX6_isTable 4 = .ok (.iload_n 0, 1) := by decide +kernel
theorem dX6_isTable_5 : decode cX6_isTable 5 = .ok (.bipush 6, 2) := by decide +kernel
theorem dX6_isTable_7 : decode cX6_isTable 7 = .ok (.if_icmp .ge 7, 3) := by decide +kernel
theorem dX6_isTable_10 : decode cX6_isTable 10 = .ok (.iconst 1, 1) := by decide +kernel
theorem dX6_isTable_11 : decode cX6_isTable 11 = .ok (.goto 4, 3) := by decide +kernel
theorem dX6_isTable_14 : decode cX6_isTable 14 = .ok (.iconst 0, 1) := by decide +kernel
theorem dX6_isTable_15 : decode cX6_isTable 15 = .ok (.ireturn, 1) := by decide +kernel
theorem dX6_isIndex_0 : decode cX6_isIndex 0 = .ok (.iload_n 0, 1) := by decide +kernel
theorem dX6_isIndex_1 : decode cX6_isIndex 1 = .ok (.ifCond .lt 12, 3) := by decide +kernel
theorem dX6_isIndex_4 : decode cX6_isIndex 4 = .ok (.iload_n 0, 1) := by decide +kernel
theorem dX6_isIndex_5 : decode cX6_isIndex 5 = .ok (.iload_n 1, 1) := by decide +kernel
theorem dX6_isIndex_6 : decode cX6_isIndex 6 = .ok (.if_icmp .ge 7, 3) := by decide +kernel
theorem dX6_isIndex_9 : decode cX6_isIndex 9 = .ok (.iconst 1, 1) := by decide +kernel
theorem dX6_isIndex_10 : decode cX6_isIndex 10 = .ok (.goto 4, 3) := by decide +kernel
theorem dX6_isIndex_13 : decode cX6_isIndex 13 = .ok (.iconst 0, 1) := by decide +kernel
theorem dX6_isIndex_14 : decode cX6_isIndex 14 = .ok (.ireturn, 1) := by decide +kernel
theorem dX6_at_0 : decode cX6_at 0 = .ok (.iload_n 1, 1) := by decide +kernel
theorem dX6_at_1 : decode cX6_at 1 = .ok (.ifCond .lt 15, 3) := by decide +kernel
theorem dX6_at_4 : decode cX6_at 4 = .ok (.iload_n 1, 1) := by decide +kernel
theorem dX6_at_5 : decode cX6_at 5 = .ok (.aload_n 0, 1) := by decide +kernel
theorem dX6_at_6 : decode cX6_at 6 = .ok (.arraylength, 1) := by decide +kernel
theorem dX6_at_7 : decode cX6_at 7 = .ok (.if_icmp .ge 9, 3) := by decide +kernel
theorem dX6_at_10 : decode cX6_at 10 = .ok (.aload_n 0, 1) := by decide +kernel
theorem dX6_at_11 : decode cX6_at 11 = .ok (.iload_n 1, 1) := by decide +kernel
theorem dX6_at_12 : decode cX6_at 12 = .ok (.iaload, 1) := by decide +kernel
theorem dX6_at_13 : decode cX6_at 13 = .ok (.goto 4, 3) := by decide +kernel
theorem dX6_at_16 : decode cX6_at 16 = .ok (.iconst 0, 1) := by decide +kernel
theorem dX6_at_17 : decode cX6_at 17 = .ok (.ireturn, 1) := by decide +kernel
theorem dX6_hasBit_0 : decode cX6_hasBit 0 = .ok (.iload_n 1, 1) := by decide +kernel
theorem dX6_hasBit_1 : decode cX6_hasBit 1 = .ok (.ifCond .lt 21, 3) := by decide +kernel
theorem dX6_hasBit_4 : decode cX6_hasBit 4 = .ok (.iload_n 1, 1) := by decide +kernel
theorem dX6_hasBit_5 : decode cX6_hasBit 5 = .ok (.bipush 30, 2) := by decide +kernel
theorem dX6_hasBit_7 : decode cX6_hasBit 7 = .ok (.if_icmp .gt 15, 3) := by decide +kernel
theorem dX6_hasBit_10 : decode cX6_hasBit 10 = .ok (.iload_n 0, 1) := by decide +kernel
theorem dX6_hasBit_11 : decode cX6_hasBit 11 = .ok (.iload_n 1, 1) := by decide +kernel
theorem dX6_hasBit_12 : decode cX6_hasBit 12 = .ok (.ishr, 1) := by decide +kernel
theorem dX6_hasBit_13 : decode cX6_hasBit 13 = .ok (.iconst 1, 1) := by decide +kernel
theorem dX6_hasBit_14 : decode cX6_hasBit 14 = .ok (.iand, 1) := by decide +kernel
theorem dX6_hasBit_15 : decode cX6_hasBit 15 = .ok (.ifCond .eq 7, 3) := by decide +kernel
theorem dX6_hasBit_18 : decode cX6_hasBit 18 = .ok (.iconst 1, 1) := by decide +kernel
theorem dX6_hasBit_19 : decode cX6_hasBit 19 = .ok (.goto 4, 3) := by decide +kernel
theorem dX6_hasBit_22 : decode cX6_hasBit 22 = .ok (.iconst 0, 1) := by decide +kernel
theorem dX6_hasBit_23 : decode cX6_hasBit 23 = .ok (.ireturn, 1) := by decide +kernel
theorem dX6_power_0 : decode cX6_power 0 = .ok (.iconst 1, 1) := by decide +kernel
theorem dX6_power_1 : decode cX6_power 1 = .ok (.istore_n 2, 1) := by decide +kernel
theorem dX6_power_2 : decode cX6_power 2 = .ok (.iconst 0, 1) := by decide +kernel
theorem dX6_power_3 : decode cX6_power 3 = .ok (.istore_n 3, 1) := by decide +kernel
theorem dX6_power_4 : decode cX6_power 4 = .ok (.iload_n 3, 1) := by decide +kernel
theorem dX6_power_5 : decode cX6_power 5 = .ok (.iload_n 1, 1) := by decide +kernel
theorem dX6_power_6 : decode cX6_power 6 = .ok (.if_icmp .ge 19, 3) := by decide +kernel
theorem dX6_power_9 : decode cX6_power 9 = .ok (.iload_n 3, 1) := by decide +kernel
theorem dX6_power_10 : decode cX6_power 10 = .ok (.bipush 6, 2) := by decide +kernel
theorem dX6_power_12 : decode cX6_power 12 = .ok (.if_icmp .ge 13, 3) := by decide +kernel
theorem dX6_power_15 : decode cX6_power 15 = .ok (.iload_n 2, 1) := by decide +kernel
theorem dX6_power_16 : decode cX6_power 16 = .ok (.iload_n 0, 1) := by decide +kernel
theorem dX6_power_17 : decode cX6_power 17 = .ok (.imul, 1) := by decide +kernel
theorem dX6_power_18 : decode cX6_power 18 = .ok (.istore_n 2, 1) := by decide +kernel
theorem dX6_power_19 : decode cX6_power 19 = .ok (.iinc 3 1, 3) := by decide +kernel
theorem dX6_power_22 : decode cX6_power 22 = .ok (.goto (-18), 3) := by decide +kernel
theorem dX6_power_25 : decode cX6_power 25 = .ok (.iload_n 2, 1) := by decide +kernel
theorem dX6_power_26 : decode cX6_power 26 = .ok (.ireturn, 1) := by decide +kernel
theorem dX6_factorial_0 : decode cX6_factorial 0 = .ok (.iconst 1, 1) := by decide +kernel
theorem dX6_factorial_1 : decode cX6_factorial 1 = .ok (.istore_n 1, 1) := by decide +kernel
theorem dX6_factorial_2 : decode cX6_factorial 2 = .ok (.iconst 2, 1) := by decide +kernel
theorem dX6_factorial_3 : decode cX6_factorial 3 = .ok (.istore_n 2, 1) := by decide +kernel
theorem dX6_factorial_4 : decode cX6_factorial 4 = .ok (.iload_n 2, 1) := by decide +kernel
theorem dX6_factorial_5 : decode cX6_factorial 5 = .ok (.iload_n 0, 1) := by decide +kernel
theorem dX6_factorial_6 : decode cX6_factorial 6 = .ok (.if_icmp .gt 19, 3) := by decide +kernel
theorem dX6_factorial_9 : decode cX6_factorial 9 = .ok (.iload_n 2, 1) := by decide +kernel
theorem dX6_factorial_10 : decode cX6_factorial 10 = .ok (.bipush 6, 2) := by decide +kernel
theorem dX6_factorial_12 : decode cX6_factorial 12 = .ok (.if_icmp .gt 13, 3) := by decide +kernel
theorem dX6_factorial_15 : decode cX6_factorial 15 = .ok (.iload_n 1, 1) := by decide +kernel
theorem dX6_factorial_16 : decode cX6_factorial 16 = .ok (.iload_n 2, 1) := by decide +kernel
theorem dX6_factorial_17 : decode cX6_factorial 17 = .ok (.imul, 1) := by decide +kernel
theorem dX6_factorial_18 : decode cX6_factorial 18 = .ok (.istore_n 1, 1) := by decide +kernel
theorem dX6_factorial_19 : decode cX6_factorial 19 = .ok (.iinc 2 1, 3) := by decide +kernel
theorem dX6_factorial_22 : decode cX6_factorial 22 = .ok (.goto (-18), 3) := by decide +kernel
theorem dX6_factorial_25 : decode cX6_factorial 25 = .ok (.iload_n 1, 1) := by decide +kernel
theorem dX6_factorial_26 : decode cX6_factorial 26 = .ok (.ireturn, 1) := by decide +kernel
theorem dX6_fraction_0 : decode cX6_fraction 0 = .ok (.iload_n 0, 1) := by decide +kernel
theorem dX6_fraction_1 : decode cX6_fraction 1 = .ok (.invokestatic 347, 3) := by decide +kernel
theorem dX6_fraction_4 : decode cX6_fraction 4 = .ok (.iload_n 1, 1) := by decide +kernel
theorem dX6_fraction_5 : decode cX6_fraction 5 = .ok (.invokestatic 352, 3) := by decide +kernel
theorem dX6_fraction_8 : decode cX6_fraction 8 = .ok (.istore_n 3, 1) := by decide +kernel
theorem dX6_fraction_9 : decode cX6_fraction 9 = .ok (.iload_n 3, 1) := by decide +kernel
theorem dX6_fraction_10 : decode cX6_fraction 10 = .ok (.iconst 1, 1) := by decide +kernel
theorem dX6_fraction_11 : decode cX6_fraction 11 = .ok (.if_icmp .ge 13, 3) := by decide +kernel
theorem dX6_fraction_14 : decode cX6_fraction 14 = .ok (.iload_n 2, 1) := by decide +kernel
theorem dX6_fraction_15 : decode cX6_fraction 15 = .ok (.ifCond .eq 7, 3) := by decide +kernel
theorem dX6_fraction_18 : decode cX6_fraction 18 = .ok (.iload_n 0, 1) := by decide +kernel
theorem dX6_fraction_19 : decode cX6_fraction 19 = .ok (.goto 4, 3) := by decide +kernel
theorem dX6_fraction_22 : decode cX6_fraction 22 = .ok (.iload_n 1, 1) := by decide +kernel
theorem dX6_fraction_23 : decode cX6_fraction 23 = .ok (.ireturn, 1) := by decide +kernel
theorem dX6_fraction_24 : decode cX6_fraction 24 = .ok (.iload_n 2, 1) := by decide +kernel
theorem dX6_fraction_25 : decode cX6_fraction 25 = .ok (.ifCond .eq 9, 3) := by decide +kernel
theorem dX6_fraction_28 : decode cX6_fraction 28 = .ok (.iload_n 0, 1) := by decide +kernel
theorem dX6_fraction_29 : decode cX6_fraction 29 = .ok (.iload_n 3, 1) := by decide +kernel
theorem dX6_fraction_30 : decode cX6_fraction 30 = .ok (.idiv, 1) := by decide +kernel
theorem dX6_fraction_31 : decode cX6_fraction 31 = .ok (.goto 6, 3) := by decide +kernel
theorem dX6_fraction_34 : decode cX6_fraction 34 = .ok (.iload_n 1, 1) := by decide +kernel
theorem dX6_fraction_35 : decode cX6_fraction 35 = .ok (.iload_n 3, 1) := by decide +kernel
theorem dX6_fraction_36 : decode cX6_fraction 36 = .ok (.idiv, 1) := by decide +kernel
theorem dX6_fraction_37 : decode cX6_fraction 37 = .ok (.ireturn, 1) := by decide +kernel
theorem dX6_commonDivisor_0 : decode cX6_commonDivisor 0 = .ok (.iload_n 0, 1) := by decide +kernel
theorem dX6_commonDivisor_1 : decode cX6_commonDivisor 1 = .ok (.istore_n 2, 1) := by decide +kernel
theorem dX6_commonDivisor_2 : decode cX6_commonDivisor 2 = .ok (.iload_n 1, 1) := by decide +kernel
theorem dX6_commonDivisor_3 : decode cX6_commonDivisor 3 = .ok (.istore_n 3, 1) := by decide +kernel
theorem dX6_commonDivisor_4 : decode cX6_commonDivisor 4 = .ok (.iconst 0, 1) := by decide +kernel
theorem dX6_commonDivisor_5 : decode cX6_commonDivisor 5 = .ok (.istore 4, 2) := by decide +kernel
theorem dX6_commonDivisor_7 : decode cX6_commonDivisor 7 = .ok (.iload 4, 2) := by decide +kernel
theorem dX6_commonDivisor_9 : decode cX6_commonDivisor 9 = .ok (.bipush 64, 2) := by decide +kernel
theorem dX6_commonDivisor_11 : decode cX6_commonDivisor 11 = .ok (.if_icmp .ge 23, 3) := by decide +kernel
theorem dX6_commonDivisor_14 : decode cX6_commonDivisor 14 = .ok (.iload_n 3, 1) := by decide +kernel
theorem dX6_commonDivisor_15 : decode cX6_commonDivisor 15 = .ok (.ifCond .eq 19, 3) := by decide +kernel
theorem dX6_commonDivisor_18 : decode cX6_commonDivisor 18 = .ok (.iload_n 2, 1) := by decide +kernel
theorem dX6_commonDivisor_19 : decode cX6_commonDivisor 19 = .ok (.iload_n 3, 1) := by decide +kernel
theorem dX6_commonDivisor_20 : decode cX6_commonDivisor 20 = .ok (.irem, 1) := by decide +kernel
theorem dX6_commonDivisor_21 : decode cX6_commonDivisor 21 = .ok (.istore 5, 2) := by decide +kernel
theorem dX6_commonDivisor_23 : decode cX6_commonDivisor 23 = .ok (.iload_n 3, 1) := by decide +kernel
theorem dX6_commonDivisor_24 : decode cX6_commonDivisor 24 = .ok (.istore_n 2, 1) := by decide +kernel
theorem dX6_commonDivisor_25 : decode cX6_commonDivisor 25 = .ok (.iload 5, 2) := by decide +kernel
theorem dX6_commonDivisor_27 : decode cX6_commonDivisor 27 = .ok (.istore_n 3, 1) := by decide +kernel
theorem dX6_commonDivisor_28 : decode cX6_commonDivisor 28 = .ok (.iinc 4 1, 3) := by decide +kernel
theorem dX6_commonDivisor_31 : decode cX6_commonDivisor 31 = .ok (.goto (-24), 3) := by decide +kernel
theorem dX6_commonDivisor_34 : decode cX6_commonDivisor 34 = .ok (.iload_n 2, 1) := by decide +kernel
theorem dX6_commonDivisor_35 : decode cX6_commonDivisor 35 = .ok (.ireturn, 1) := by decide +kernel
theorem dX7_init_0 : decode cX7_init 0 = .ok (.aload_n 0, 1) := by decide +kernel
theorem dX7_init_1 : decode cX7_init 1 = .ok (.invokespecial 1, 3) := by decide +kernel
theorem dX7_init_4 : decode cX7_init 4 = .ok (.aload_n 0, 1) := by decide +kernel
theorem dX7_init_5 : decode cX7_init 5 = .ok (.iconst 5, 1) := by decide +kernel
theorem dX7_init_6 : decode cX7_init 6 = .ok (.newarray .int, 2) := by decide +kernel
theorem dX7_init_8 : decode cX7_init 8 = .ok (.putfield 7, 3) := by decide +kernel
theorem dX7_init_11 : decode cX7_init 11 = .ok (.aload_n 0, 1) := by decide +kernel
theorem dX7_init_12 : decode cX7_init 12 = .ok (.iconst 5, 1) := by decide +kernel
theorem dX7_init_13 : decode cX7_init 13 = .ok (.newarray .int, 2) := by decide +kernel
theorem dX7_init_15 : decode cX7_init 15 = .ok (.putfield 13, 3) := by decide +kernel
theorem dX7_init_18 : decode cX7_init 18 = .ok (.aload_n 0, 1) := by decide +kernel
theorem dX7_init_19 : decode cX7_init 19 = .ok (.iconst 5, 1) := by decide +kernel
theorem dX7_init_20 : decode cX7_init 20 = .ok (.newarray .int, 2) := by decide +kernel
theorem dX7_init_22 : decode cX7_init 22 = .ok (.putfield 16, 3) := by decide +kernel
theorem dX7_init_25 : decode cX7_init 25 = .ok (.aload_n 0, 1) := by decide +kernel
theorem dX7_init_26 : decode cX7_init 26 = .ok (.iconst 5, 1) := by decide +kernel
theorem dX7_init_27 : decode cX7_init 27 = .ok (.newarray .int, 2) := by decide +kernel
theorem dX7_init_29 : decode cX7_init 29 = .ok (.putfield 19, 3) := by decide +kernel
theorem dX7_init_32 : decode cX7_init 32 = .ok (.aload_n 0, 1) := by decide +kernel
theorem dX7_init_33 : decode cX7_init 33 = .ok (.iconst 4, 1) := by decide +kernel
theorem dX7_init_34 : decode cX7_init 34 = .ok (.newarray .int, 2) := by decide +kernel
theorem dX7_init_36 : decode cX7_init 36 = .ok (.putfield 22, 3) := by decide +kernel
theorem dX7_init_39 : decode cX7_init 39 = .ok (.aload_n 0, 1) := by decide +kernel
theorem dX7_init_40 : decode cX7_init 40 = .ok (.bipush 62, 2) := by decide +kernel
theorem dX7_init_42 : decode cX7_init 42 = .ok (.newarray .int, 2) := by decide +kernel
theorem dX7_init_44 : decode cX7_init 44 = .ok (.putfield 25, 3) := by decide +kernel
theorem dX7_init_47 : decode cX7_init 47 = .ok (.aload_n 0, 1) := by decide +kernel
theorem dX7_init_48 : decode cX7_init 48 = .ok (.iconst 5, 1) := by decide +kernel
theorem dX7_init_49 : decode cX7_init 49 = .ok (.newarray .int, 2) := by decide +kernel
theorem dX7_init_51 : decode cX7_init 51 = .ok (.putfield 28, 3) := by decide +kernel
theorem dX7_init_54 : decode cX7_init 54 = .ok (.aload_n 0, 1) := by decide +kernel
theorem dX7_init_55 : decode cX7_init 55 = .ok (.iconst 5, 1) := by decide +kernel
theorem dX7_init_56 : decode cX7_init 56 = .ok (.newarray .int, 2) := by decide +kernel
theorem dX7_init_58 : decode cX7_init 58 = .ok (.putfield 31, 3) := by decide +kernel
theorem dX7_init_61 : decode cX7_init 61 = .ok (.aload_n 0, 1) := by decide +kernel
theorem dX7_init_62 : decode cX7_init 62 = .ok (.iconst 5, 1) := by decide +kernel
theorem dX7_init_63 : decode cX7_init 63 = .ok (.newarray .int, 2) := by decide +kernel
theorem dX7_init_65 : decode cX7_init 65 = .ok (.putfield 34, 3) := by decide +kernel
theorem dX7_init_68 : decode cX7_init 68 = .ok (.aload_n 0, 1) := by decide +kernel
theorem dX7_init_69 : decode cX7_init 69 = .ok (.iconst 5, 1) := by decide +kernel
theorem dX7_init_70 : decode cX7_init 70 = .ok (.newarray .int, 2) := by decide +kernel
theorem dX7_init_72 : decode cX7_init 72 = .ok (.putfield 37, 3) := by decide +kernel
theorem dX7_init_75 : decode cX7_init 75 = .ok (.aload_n 0, 1) := by decide +kernel
theorem dX7_init_76 : decode cX7_init 76 = .ok (.iconst 5, 1) := by decide +kernel
theorem dX7_init_77 : decode cX7_init 77 = .ok (.newarray .int, 2) := by decide +kernel
theorem dX7_init_79 : decode cX7_init 79 = .ok (.putfield 40, 3) := by decide +kernel
theorem dX7_init_82 : decode cX7_init 82 = .ok (.aload_n 0, 1) := by decide +kernel
theorem dX7_init_83 : decode cX7_init 83 = .ok (.iconst 4, 1) := by decide +kernel
theorem dX7_init_84 : decode cX7_init 84 = .ok (.newarray .int, 2) := by decide +kernel
theorem dX7_init_86 : decode cX7_init 86 = .ok (.putfield 43, 3) := by decide +kernel
theorem dX7_init_89 : decode cX7_init 89 = .ok (.aload_n 0, 1) := by decide +kernel
theorem dX7_init_90 : decode cX7_init 90 = .ok (.bipush 48, 2) := by decide +kernel
theorem dX7_init_92 : decode cX7_init 92 = .ok (.newarray .int, 2) := by decide +kernel
theorem dX7_init_94 : decode cX7_init 94 = .ok (.putfield 46, 3) := by decide +kernel
theorem dX7_init_97 : decode cX7_init 97 = .ok (.aload_n 0, 1) := by decide +kernel
theorem dX7_init_98 : decode cX7_init 98 = .ok (.sipush 434, 3) := by decide +kernel
theorem dX7_init_101 : decode cX7_init 101 = .ok (.newarray .int, 2) := by decide +kernel
theorem dX7_init_103 : decode cX7_init 103 = .ok (.putfield 49, 3) := by decide +kernel
theorem dX7_init_106 : decode cX7_init 106 = .ok (.aload_n 0, 1) := by decide +kernel
theorem dX7_init_107 : decode cX7_init 107 = .ok (.bipush 6, 2) := by decide +kernel
theorem dX7_init_109 : decode cX7_init 109 = .ok (.newarray .int, 2) := by decide +kernel
theorem dX7_init_111 : decode cX7_init 111 = .ok (.putfield 52, 3) := by decide +kernel
theorem dX7_init_114 : decode cX7_init 114 = .ok (.aload_n 0, 1) := by decide +kernel
theorem dX7_init_115 : decode cX7_init 115 = .ok (.bipush 6, 2) := by decide +kernel
theorem dX7_init_117 : decode cX7_init 117 = .ok (.newarray .int, 2) := by decide +kernel
theorem dX7_init_119 : decode cX7_init 119 = .ok (.putfield 55, 3) := by decide +kernel
theorem dX7_init_122 : decode cX7_init 122 = .ok (.aload_n 0, 1) := by decide +kernel
theorem dX7_init_123 : decode cX7_init 123 = .ok (.bipush 6, 2) := by decide +kernel
theorem dX7_init_125 : decode cX7_init 125 = .ok (.newarray .int, 2) := by decide +kernel
theorem dX7_init_127 : decode cX7_init 127 = .ok (.putfield 58, 3) := by decide +kernel
theorem dX7_init_130 : decode cX7_init 130 = .ok (.aload_n 0, 1) := by decide +kernel
theorem dX7_init_131 : decode cX7_init 131 = .ok (.bipush 6, 2) := by decide +kernel
theorem dX7_init_133 : decode cX7_init 133 = .ok (.newarray .boolean, 2) := by decide +kernel
theorem dX7_init_135 : decode cX7_init 135 = .ok (.putfield 61, 3) := by decide +kernel
theorem dX7_init_138 : decode cX7_init 138 = .ok (.aload_n 0, 1) := by decide +kernel
theorem dX7_init_139 : decode cX7_init 139 = .ok (.bipush 36, 2) := by decide +kernel
theorem dX7_init_141 : decode cX7_init 141 = .ok (.newarray .int, 2) := by decide +kernel
theorem dX7_init_143 : decode cX7_init 143 = .ok (.putfield 65, 3) := by decide +kernel
theorem dX7_init_146 : decode cX7_init 146 = .ok (.aload_n 0, 1) := by decide +kernel
theorem dX7_init_147 : decode cX7_init 147 = .ok (.bipush 36, 2) := by decide +kernel
theorem dX7_init_149 : decode cX7_init 149 = .ok (.newarray .int, 2) := by decide +kernel
theorem dX7_init_151 : decode cX7_init 151 = .ok (.putfield 68, 3) := by decide +kernel
theorem dX7_init_154 : decode cX7_init 154 = .ok (.aload_n 0, 1) := by decide +kernel
theorem dX7_init_155 : decode cX7_init 155 = .ok (.iconst 2, 1) := by decide +kernel
theorem dX7_init_156 : decode cX7_init 156 = .ok (.newarray .boolean, 2) := by decide +kernel
theorem dX7_init_158 : decode cX7_init 158 = .ok (.putfield 71, 3) := by decide +kernel
theorem dX7_init_161 : decode cX7_init 161 = .ok (.aload_n 0, 1) := by decide +kernel
theorem dX7_init_162 : decode cX7_init 162 = .ok (.bipush 62, 2) := by decide +kernel
theorem dX7_init_164 : decode cX7_init 164 = .ok (.newarray .int, 2) := by decide +kernel
theorem dX7_init_166 : decode cX7_init 166 = .ok (.putfield 74, 3) := by decide +kernel
theorem dX7_init_169 : decode cX7_init 169 = .ok (.aload_n 0, 1) := by decide +kernel
theorem dX7_init_170 : decode cX7_init 170 = .ok (.iconst 0, 1) := by decide +kernel
theorem dX7_init_171 : decode cX7_init 171 = .ok (.putfield 77, 3) := by decide +kernel
theorem dX7_init_174 : decode cX7_init 174 = .ok (.return_, 1) := by decide +kernel
theorem dX7_in_0 : decode cX7_in 0 = .ok (.lload_n 0, 1) := by decide +kernel
theorem dX7_in_1 : decode cX7_in 1 = .ok (.lload_n 2, 1) := by decide +kernel
theorem dX7_in_2 : decode cX7_in 2 = .ok (.lcmp, 1) := by decide +kernel
theorem dX7_in_3 : decode cX7_in 3 = .ok (.ifCond .lt 14, 3) := by decide +kernel
theorem dX7_in_6 : decode cX7_in 6 = .ok (.lload_n 0, 1) := by decide +kernel
theorem dX7_in_7 : decode cX7_in 7 = .ok (.lload 4, 2) := by decide +kernel
theorem dX7_in_9 : decode cX7_in 9 = .ok (.lcmp, 1) := by decide +kernel
theorem dX7_in_10 : decode cX7_in 10 = .ok (.ifCond .gt 7, 3) := by decide +kernel
theorem dX7_in_13 : decode cX7_in 13 = .ok (.iconst 1, 1) := by decide +kernel
theorem dX7_in_14 : decode cX7_in 14 = .ok (.goto 4, 3) := by decide +kernel
theorem dX7_in_17 : decode cX7_in 17 = .ok (.iconst 0, 1) := by decide +kernel
theorem dX7_in_18 : decode cX7_in 18 = .ok (.ireturn, 1) := by decide +kernel
theorem dX7_has_0 : decode cX7_has 0 = .ok (.iload_n 0, 1) := by decide +kernel
theorem dX7_has_1 : decode cX7_has 1 = .ok (.iload_n 1, 1) := by decide +kernel
theorem dX7_has_2 : decode cX7_has 2 = .ok (.ishr, 1) := by decide +kernel
theorem dX7_has_3 : decode cX7_has 3 = .ok (.iconst 1, 1) := by decide +kernel
theorem dX7_has_4 : decode cX7_has 4 = .ok (.iand, 1) := by decide +kernel
theorem dX7_has_5 : decode cX7_has 5 = .ok (.iconst 1, 1) := by decide +kernel
theorem dX7_has_6 : decode cX7_has 6 = .ok (.if_icmp .ne 7, 3) := by decide +kernel
theorem dX7_has_9 : decode cX7_has 9 = .ok (.iconst 1, 1) := by decide +kernel
theorem dX7_has_10 : decode cX7_has 10 = .ok (.goto 4, 3) := by decide +kernel
theorem dX7_has_13 : decode cX7_has 13 = .ok (.iconst 0, 1) := by decide +kernel
theorem dX7_has_14 : decode cX7_has 14 = .ok (.ireturn, 1) := by decide +kernel
theorem dX7_ones_0 : decode cX7_ones 0 = .ok (.iconst 0, 1) := by decide +kernel
theorem dX7_ones_1 : decode cX7_ones 1 = .ok (.istore_n 1, 1) := by decide +kernel
theorem dX7_ones_2 : decode cX7_ones 2 = .ok (.iconst 0, 1) := by decide +kernel
theorem dX7_ones_3 : decode cX7_ones 3 = .ok (.istore_n 2, 1) := by decide +kernel
theorem dX7_ones_4 : decode cX7_ones 4 = .ok (.iload_n 2, 1) := by decide +kernel
theorem dX7_ones_5 : decode cX7_ones 5 = .ok (.bipush 6, 2) := by decide +kernel
theorem dX7_ones_7 : decode cX7_ones 7 = .ok (.if_icmp .ge 17, 3) := by decide +kernel
theorem dX7_ones_10 : decode cX7_ones 10 = .ok (.iload_n 1, 1) := by decide +kernel
theorem dX7_ones_11 : decode cX7_ones 11 = .ok (.iload_n 0, 1) := by decide +kernel
theorem dX7_ones_12 : decode cX7_ones 12 = .ok (.iload_n 2, 1) := by decide +kernel
theorem dX7_ones_13 : decode cX7_ones 13 = .ok (.ishr, 1) := by decide +kernel
theorem dX7_ones_14 : decode cX7_ones 14 = .ok (.iconst 1, 1) := by decide +kernel
theorem dX7_ones_15 : decode cX7_ones 15 = .ok (.iand, 1) := by decide +kernel
theorem dX7_ones_16 : decode cX7_ones 16 = .ok (.iadd, 1) := by decide +kernel
theorem dX7_ones_17 : decode cX7_ones 17 = .ok (.istore_n 1, 1) := by decide +kernel
theorem dX7_ones_18 : decode cX7_ones 18 = .ok (.iinc 2 1, 3) := by decide +kernel
theorem dX7_ones_21 : decode cX7_ones 21 = .ok (.goto (-17), 3) := by decide +kernel
theorem dX7_ones_24 : decode cX7_ones 24 = .ok (.iload_n 1, 1) := by decide +kernel
theorem dX7_ones_25 : decode cX7_ones 25 = .ok (.ireturn, 1) := by decide +kernel
theorem dX7_write_0 : decode cX7_write 0 = .ok (.iload_n 1, 1) := by decide +kernel
theorem dX7_write_1 : decode cX7_write 1 = .ok (.i2l, 1) := by decide +kernel
theorem dX7_write_2 : decode cX7_write 2 = .ok (.lconst 0, 1) := by decide +kernel
theorem dX7_write_3 : decode cX7_write 3 = .ok (.ldc2_w 81, 3) := by decide +kernel
theorem dX7_write_6 : decode cX7_write 6 = .ok (.invokestatic 83, 3) := by decide +kernel
theorem dX7_write_9 : decode cX7_write 9 = .ok (.ifCond .ne 6, 3) := by decide +kernel
theorem dX7_write_12 : decode cX7_write 12 = .ok (.bipush (-2), 2) := by decide +kernel
theorem dX7_write_14 : decode cX7_write 14 = .ok (.ireturn, 1) := by decide +kernel
theorem dX7_write_15 : decode cX7_write 15 = .ok (.aload_n 0, 1) := by decide +kernel
theorem dX7_write_16 : decode cX7_write 16 = .ok (.getfield 87, 3) := by decide +kernel
theorem dX7_write_19 : decode cX7_write 19 = .ok (.bipush 48, 2) := by decide +kernel
theorem dX7_write_21 : decode cX7_write 21 = .ok (.if_icmp .ne 6, 3) := by decide +kernel
theorem dX7_write_24 : decode cX7_write 24 = .ok (.bipush (-4), 2) := by decide +kernel
theorem dX7_write_26 : decode cX7_write 26 = .ok (.ireturn, 1) := by decide +kernel
theorem dX7_write_27 : decode cX7_write 27 = .ok (.aload_n 0, 1) := by decide +kernel
theorem dX7_write_28 : decode cX7_write 28 = .ok (.getfield 46, 3) := by decide +kernel
theorem dX7_write_31 : decode cX7_write 31 = .ok (.aload_n 0, 1) := by decide +kernel
theorem dX7_write_32 : decode cX7_write 32 = .ok (.getfield 87, 3) := by decide +kernel
theorem dX7_write_35 : decode cX7_write 35 = .ok (.iload_n 1, 1) := by decide +kernel
theorem dX7_write_36 : decode cX7_write 36 = .ok (.iastore, 1) := by decide +kernel
theorem dX7_write_37 : decode cX7_write 37 = .ok (.aload_n 0, 1) := by decide +kernel
theorem dX7_write_38 : decode cX7_write 38 = .ok (.dup, 1) := by decide +kernel
theorem dX7_write_39 : decode cX7_write 39 = .ok (.getfield 87, 3) := by decide +kernel
theorem dX7_write_42 : decode cX7_write 42 = .ok (.iconst 1, 1) := by decide +kernel
theorem dX7_write_43 : decode cX7_write 43 = .ok (.iadd, 1) := by decide +kernel
theorem dX7_write_44 : decode cX7_write 44 = .ok (.putfield 87, 3) := by decide +kernel
theorem dX7_write_47 : decode cX7_write 47 = .ok (.aload_n 0, 1) := by decide +kernel
theorem dX7_write_48 : decode cX7_write 48 = .ok (.getfield 87, 3) := by decide +kernel
theorem dX7_write_51 : decode cX7_write 51 = .ok (.ireturn, 1) := by decide +kernel
theorem dX7_wipe_0 : decode cX7_wipe 0 = .ok (.aload_n 0, 1) := by decide +kernel
theorem dX7_wipe_1 : decode cX7_wipe 1 = .ok (.getfield 87, 3) := by decide +kernel
theorem dX7_wipe_4 : decode cX7_wipe 4 = .ok (.istore_n 1, 1) := by decide +kernel
theorem dX7_wipe_5 : decode cX7_wipe 5 = .ok (.aload_n 0, 1) := by decide +kernel
theorem dX7_wipe_6 : decode cX7_wipe 6 = .ok (.iconst 0, 1) := by decide +kernel
theorem dX7_wipe_7 : decode cX7_wipe 7 = .ok (.putfield 87, 3) := by decide +kernel
theorem dX7_wipe_10 : decode cX7_wipe 10 = .ok (.iload_n 1, 1) := by decide +kernel
theorem dX7_wipe_11 : decode cX7_wipe 11 = .ok (.ireturn, 1) := by decide +kernel
theorem dX7_figureOf_0 : decode cX7_figureOf 0 = .ok (.aload_n 0, 1) := by decide +kernel
theorem dX7_figureOf_1 : decode cX7_figureOf 1 = .ok (.getfield 90, 3) := by decide +kernel
theorem dX7_figureOf_4 : decode cX7_figureOf 4 = .ok (.bipush (-9), 2) := by decide +kernel
theorem dX7_figureOf_6 : decode cX7_figureOf 6 = .ok (.if_icmp .ne 29, 3) := by decide +kernel
theorem dX7_figureOf_9 : decode cX7_figureOf 9 = .ok (.aload_n 0, 1) := by decide +kernel
theorem dX7_figureOf_10 : decode cX7_figureOf 10 = .ok (.getfield 93, 3) := by decide +kernel
theorem dX7_figureOf_13 : decode cX7_figureOf 13 = .ok (.aload_n 0, 1) := by decide +kernel
theorem dX7_figureOf_14 : decode cX7_figureOf 14 = .ok (.getfield 87, 3) := by decide +kernel
theorem dX7_figureOf_17 : decode cX7_figureOf 17 = .ok (.if_icmp .ge 18, 3) := by decide +kernel
theorem dX7_figureOf_20 : decode cX7_figureOf 20 = .ok (.aload_n 0, 1) := by decide +kernel
theorem dX7_figureOf_21 : decode cX7_figureOf 21 = .ok (.getfield 46, 3) := by decide +kernel
theorem dX7_figureOf_24 : decode cX7_figureOf 24 = .ok (.aload_n 0, 1) := by decide +kernel
theorem dX7_figureOf_25 : decode cX7_figureOf 25 = .ok (.getfield 93, 3) := by decide +kernel
theorem dX7_figureOf_28 : decode cX7_figureOf 28 = .ok (.iaload, 1) := by decide +kernel
theorem dX7_figureOf_29 : decode cX7_figureOf 29 = .ok (.bipush 48, 2) := by decide +kernel
theorem dX7_figureOf_31 : decode cX7_figureOf 31 = .ok (.isub, 1) := by decide +kernel
theorem dX7_figureOf_32 : decode cX7_figureOf 32 = .ok (.goto 5, 3) := by decide +kernel
theorem dX7_figureOf_35 : decode cX7_figureOf 35 = .ok (.bipush (-9), 2) := by decide +kernel
theorem dX7_figureOf_37 : decode cX7_figureOf 37 = .ok (.istore_n 2, 1) := by decide +kernel
theorem dX7_figureOf_38 : decode cX7_figureOf 38 = .ok (.iload_n 2, 1) := by decide +kernel
theorem dX7_figureOf_39 : decode cX7_figureOf 39 = .ok (.i2l, 1) := by decide +kernel
theorem dX7_figureOf_40 : decode cX7_figureOf 40 = .ok (.lconst 0, 1) := by decide +kernel
theorem dX7_figureOf_41 : decode cX7_figureOf 41 = .ok (.ldc2_w 96, 3) := by decide +kernel
theorem dX7_figureOf_44 : decode cX7_figureOf 44 = .ok (.invokestatic 83, 3) := by decide +kernel
theorem dX7_figureOf_47 : decode cX7_figureOf 47 = .ok (.ifCond .eq 11, 3) := by decide +kernel
theorem dX7_figureOf_50 : decode cX7_figureOf 50 = .ok (.iload_n 1, 1) := by decide +kernel
theorem dX7_figureOf_51 : decode cX7_figureOf 51 = .ok (.iload_n 2, 1) := by decide +kernel
theorem dX7_figureOf_52 : decode cX7_figureOf 52 = .ok (.invokestatic 98, 3) := by decide +kernel
theorem dX7_figureOf_55 : decode cX7_figureOf 55 = .ok (.ifCond .ne 29, 3) := by decide +kernel
theorem dX7_figureOf_58 : decode cX7_figureOf 58 = .ok (.aload_n 0, 1) := by decide +kernel
theorem dX7_figureOf_59 : decode cX7_figureOf 59 = .ok (.aload_n 0, 1) := by decide +kernel
theorem dX7_figureOf_60 : decode cX7_figureOf 60 = .ok (.getfield 90, 3) := by decide +kernel
theorem dX7_figureOf_63 : decode cX7_figureOf 63 = .ok (.bipush (-9), 2) := by decide +kernel
theorem dX7_figureOf_65 : decode cX7_figureOf 65 = .ok (.if_icmp .ne 10, 3) := by decide +kernel
theorem dX7_figureOf_68 : decode cX7_figureOf 68 = .ok (.aload_n 0, 1) := by decide +kernel
theorem dX7_figureOf_69 : decode cX7_figureOf 69 = .ok (.getfield 93, 3) := by decide +kernel
theorem dX7_figureOf_72 : decode cX7_figureOf 72 = .ok (.goto 7, 3) := by decide +kernel
theorem dX7_figureOf_75 : decode cX7_figureOf 75 = .ok (.aload_n 0, 1) := by decide +kernel
theorem dX7_figureOf_76 : decode cX7_figureOf 76 = .ok (.getfield 90, 3) := by decide +kernel
theorem dX7_figureOf_79 : decode cX7_figureOf 79 = .ok (.putfield 90, 3) := by decide +kernel
theorem dX7_figureOf_82 : decode cX7_figureOf 82 = .ok (.iconst 0, 1) := by decide +kernel
theorem dX7_figureOf_83 : decode cX7_figureOf 83 = .ok (.ireturn, 1) := by decide +kernel
theorem dX7_figureOf_84 : decode cX7_figureOf 84 = .ok (.aload_n 0, 1) := by decide +kernel
theorem dX7_figureOf_85 : decode cX7_figureOf 85 = .ok (.dup, 1) := by decide +kernel
theorem dX7_figureOf_86 : decode cX7_figureOf 86 = .ok (.getfield 93, 3) := by decide +kernel
theorem dX7_figureOf_89 : decode cX7_figureOf 89 = .ok (.iconst 1, 1) := by decide +kernel
theorem dX7_figureOf_90 : decode cX7_figureOf 90 = .ok (.iadd, 1) := by decide +kernel
theorem dX7_figureOf_91 : decode cX7_figureOf 91 = .ok (.putfield 93, 3) := by decide +kernel
theorem dX7_figureOf_94 : decode cX7_figureOf 94 = .ok (.iload_n 2, 1) := by decide +kernel
theorem dX7_figureOf_95 : decode cX7_figureOf 95 = .ok (.ireturn, 1) := by decide +kernel
theorem dX7_pairsLeft_0 : decode cX7_pairsLeft 0 = .ok (.iconst 0, 1) := by decide +kernel
theorem dX7_pairsLeft_1 : decode cX7_pairsLeft 1 = .ok (.istore_n 2, 1) := by decide +kernel
theorem dX7_pairsLeft_2 : decode cX7_pairsLeft 2 = .ok (.iload_n 1, 1) := by decide +kernel
theorem dX7_pairsLeft_3 : decode cX7_pairsLeft 3 = .ok (.iconst 1, 1) := by decide +kernel
theorem dX7_pairsLeft_4 : decode cX7_pairsLeft 4 = .ok (.iadd, 1) := by decide +kernel
theorem dX7_pairsLeft_5 : decode cX7_pairsLeft 5 = .ok (.istore_n 3, 1) := by decide +kernel
theorem dX7_pairsLeft_6 : decode cX7_pairsLeft 6 = .ok (.iload_n 3, 1) := by decide +kernel
theorem dX7_pairsLeft_7 : decode cX7_pairsLeft 7 = .ok (.aload_n 0, 1) := by decide +kernel
theorem dX7_pairsLeft_8 : decode cX7_pairsLeft 8 = .ok (.getfield 102, 3) := by decide +kernel
theorem dX7_pairsLeft_11 : decode cX7_pairsLeft 11 = .ok (.if_icmp .ge 32, 3) := by decide +kernel
theorem dX7_pairsLeft_14 : decode cX7_pairsLeft 14 = .ok (.iload_n 2, 1) := by decide +kernel
theorem dX7_pairsLeft_15 : decode cX7_pairsLeft 15 = .ok (.aload_n 0, 1) := by decide +kernel
theorem dX7_pairsLeft_16 : decode cX7_pairsLeft 16 = .ok (.getfield 37, 3) := by decide +kernel
theorem dX7_pairsLeft_19 : decode cX7_pairsLeft 19 = .ok (.iload_n 1, 1) := by decide +kernel
theorem dX7_pairsLeft_20 : decode cX7_pairsLeft 20 = .ok (.iaload, 1) := by decide +kernel
theorem dX7_pairsLeft_21 : decode cX7_pairsLeft 21 = .ok (.iload_n 3, 1) := by decide +kernel
theorem dX7_pairsLeft_22 : decode cX7_pairsLeft 22 = .ok (.invokestatic 98, 3) := by decide +kernel
theorem dX7_pairsLeft_25 : decode cX7_pairsLeft 25 = .ok (.ifCond .eq 7, 3) := by decide +kernel
theorem dX7_pairsLeft_28 : decode cX7_pairsLeft 28 = .ok (.iconst 0, 1) := by decide +kernel
theorem dX7_pairsLeft_29 : decode cX7_pairsLeft 29 = .ok (.goto 6, 3) := by decide +kernel
theorem dX7_pairsLeft_32 : decode cX7_pairsLeft 32 = .ok (.iconst 1, 1) := by decide +kernel
theorem dX7_pairsLeft_33 : decode cX7_pairsLeft 33 = .ok (.iload_n 3, 1) := by decide +kernel
theorem dX7_pairsLeft_34 : decode cX7_pairsLeft 34 = .ok (.ishl, 1) := by decide +kernel
theorem dX7_pairsLeft_35 : decode cX7_pairsLeft 35 = .ok (.ior, 1) := by decide +kernel
theorem dX7_pairsLeft_36 : decode cX7_pairsLeft 36 = .ok (.istore_n 2, 1) := by decide +kernel
theorem dX7_pairsLeft_37 : decode cX7_pairsLeft 37 = .ok (.iinc 3 1, 3) := by decide +kernel
theorem dX7_pairsLeft_40 : decode cX7_pairsLeft 40 = .ok (.goto (-34), 3) := by decide +kernel
theorem dX7_pairsLeft_43 : decode cX7_pairsLeft 43 = .ok (.iload_n 2, 1) := by decide +kernel
theorem dX7_pairsLeft_44 : decode cX7_pairsLeft 44 = .ok (.ireturn, 1) := by decide +kernel
theorem dX7_firstsLeft_0 : decode cX7_firstsLeft 0 = .ok (.iconst 0, 1) := by decide +kernel
theorem dX7_firstsLeft_1 : decode cX7_firstsLeft 1 = .ok (.istore_n 1, 1) := by decide +kernel
theorem dX7_firstsLeft_2 : decode cX7_firstsLeft 2 = .ok (.iconst 0, 1) := by decide +kernel
theorem dX7_firstsLeft_3 : decode cX7_firstsLeft 3 = .ok (.istore_n 2, 1) := by decide +kernel
theorem dX7_firstsLeft_4 : decode cX7_firstsLeft 4 = .ok (.iload_n 2, 1) := by decide +kernel
theorem dX7_firstsLeft_5 : decode cX7_firstsLeft 5 = .ok (.aload_n 0, 1) := by decide +kernel
theorem dX7_firstsLeft_6 : decode cX7_firstsLeft 6 = .ok (.getfield 102, 3) := by decide +kernel
theorem dX7_firstsLeft_9 : decode cX7_firstsLeft 9 = .ok (.if_icmp .ge 27, 3) := by decide +kernel
theorem dX7_firstsLeft_12 : decode cX7_firstsLeft 12 = .ok (.iload_n 1, 1) := by decide +kernel
theorem dX7_firstsLeft_13 : decode cX7_firstsLeft 13 = .ok (.aload_n 0, 1) := by decide +kernel
theorem dX7_firstsLeft_14 : decode cX7_firstsLeft 14 = .ok (.iload_n 2, 1) := by decide +kernel
theorem dX7_firstsLeft_15 : decode cX7_firstsLeft 15 = .ok (.invokevirtual 105, 3) := by decide +kernel
theorem dX7_firstsLeft_18 : decode cX7_firstsLeft 18 = .ok (.ifCond .eq 9, 3) := by decide +kernel
theorem dX7_firstsLeft_21 : decode cX7_firstsLeft 21 = .ok (.iconst 1, 1) := by decide +kernel
theorem dX7_firstsLeft_22 : decode cX7_firstsLeft 22 = .ok (.iload_n 2, 1) := by decide +kernel
theorem dX7_firstsLeft_23 : decode cX7_firstsLeft 23 = .ok (.ishl, 1) := by decide +kernel
theorem dX7_firstsLeft_24 : decode cX7_firstsLeft 24 = .ok (.goto 4, 3) := by decide +kernel
theorem dX7_firstsLeft_27 : decode cX7_firstsLeft 27 = .ok (.iconst 0, 1) := by decide +kernel
theorem dX7_firstsLeft_28 : decode cX7_firstsLeft 28 = .ok (.ior, 1) := by decide +kernel
theorem dX7_firstsLeft_29 : decode cX7_firstsLeft 29 = .ok (.istore_n 1, 1) := by decide +kernel
theorem dX7_firstsLeft_30 : decode cX7_firstsLeft 30 = .ok (.iinc 2 1, 3) := by decide +kernel
theorem dX7_firstsLeft_33 : decode cX7_firstsLeft 33 = .ok (.goto (-29), 3) := by decide +kernel
theorem dX7_firstsLeft_36 : decode cX7_firstsLeft 36 = .ok (.iload_n 1, 1) := by decide +kernel
theorem dX7_firstsLeft_37 : decode cX7_firstsLeft 37 = .ok (.ireturn, 1) := by decide +kernel
theorem dX7_saidLeft_0 : decode cX7_saidLeft 0 = .ok (.iconst 0, 1) := by decide +kernel
theorem dX7_saidLeft_1 : decode cX7_saidLeft 1 = .ok (.istore_n 1, 1) := by decide +kernel
theorem dX7_saidLeft_2 : decode cX7_saidLeft 2 = .ok (.iconst 0, 1) := by decide +kernel
end
section
theorem dX7_saidLeft_3 : decode cX7_saidLeft 3 = .ok (.istore_n 2, 1) := by decide +kernel
theorem dX7_saidLeft_4 : decode cX7_saidLeft 4 = .ok (.iload_n 2, 1) := by decide +kernel
theorem dX7_saidLeft_5 : decode cX7_saidLeft 5 = .ok (.aload_n 0, 1) := by decide +kernel
theorem dX7_saidLeft_6 : decode cX7_saidLeft 6 = .ok (.getfield 102, 3) := by decide +kernel
theorem dX7_saidLeft_9 : decode cX7_saidLeft 9 = .ok (.if_icmp .ge 30, 3) := by decide +kernel
theorem dX7_saidLeft_12 : decode cX7_saidLeft 12 = .ok (.iload_n 1, 1) := by decide +kernel
theorem dX7_saidLeft_13 : decode cX7_saidLeft 13 = .ok (.aload_n 0, 1) := by decide +kernel
theorem dX7_saidLeft_14 : decode cX7_saidLeft 14 = .ok (.getfield 40, 3) := by decide +kernel
theorem dX7_saidLeft_17 : decode cX7_saidLeft 17 = .ok (.iload_n 2, 1) := by decide +kernel
theorem dX7_saidLeft_18 : decode cX7_saidLeft 18 = .ok (.iaload, 1) := by decide +kernel
theorem dX7_saidLeft_19 : decode cX7_saidLeft 19 = .ok (.bipush 63, 2) := by decide +kernel
theorem dX7_saidLeft_21 : decode cX7_saidLeft 21 = .ok (.if_icmp .eq 9, 3) := by decide +kernel
theorem dX7_saidLeft_24 : decode cX7_saidLeft 24 = .ok (.iconst 1, 1) := by decide +kernel
theorem dX7_saidLeft_25 : decode cX7_saidLeft 25 = .ok (.iload_n 2, 1) := by decide +kernel
theorem dX7_saidLeft_26 : decode cX7_saidLeft 26 = .ok (.ishl, 1) := by decide +kernel
theorem dX7_saidLeft_27 : decode cX7_saidLeft 27 = .ok (.goto 4, 3) := by decide +kernel
theorem dX7_saidLeft_30 : decode cX7_saidLeft 30 = .ok (.iconst 0, 1) := by decide +kernel
theorem dX7_saidLeft_31 : decode cX7_saidLeft 31 = .ok (.ior, 1) := by decide +kernel
theorem dX7_saidLeft_32 : decode cX7_saidLeft 32 = .ok (.istore_n 1, 1) := by decide +kernel
theorem dX7_saidLeft_33 : decode cX7_saidLeft 33 = .ok (.iinc 2 1, 3) := by decide +kernel
theorem dX7_saidLeft_36 : decode cX7_saidLeft 36 = .ok (.goto (-32), 3) := by decide +kernel
theorem dX7_saidLeft_39 : decode cX7_saidLeft 39 = .ok (.iload_n 1, 1) := by decide +kernel
theorem dX7_saidLeft_40 : decode cX7_saidLeft 40 = .ok (.ireturn, 1) := by decide +kernel
theorem dX7_readText_0 : decode cX7_readText 0 = .ok (.aload_n 0, 1) := by decide +kernel
theorem dX7_readText_1 : decode cX7_readText 1 = .ok (.iconst 0, 1) := by decide +kernel
theorem dX7_readText_2 : decode cX7_readText 2 = .ok (.putfield 93, 3) := by decide +kernel
theorem dX7_readText_5 : decode cX7_readText 5 = .ok (.aload_n 0, 1) := by decide +kernel
theorem dX7_readText_6 : decode cX7_readText 6 = .ok (.bipush (-9), 2) := by decide +kernel
theorem dX7_readText_8 : decode cX7_readText 8 = .ok (.putfield 90, 3) := by decide +kernel
theorem dX7_readText_11 : decode cX7_readText 11 = .ok (.aload_n 0, 1) := by decide +kernel
theorem dX7_readText_12 : decode cX7_readText 12 = .ok (.iconst 0, 1) := by decide +kernel
theorem dX7_readText_13 : decode cX7_readText 13 = .ok (.putfield 102, 3) := by decide +kernel
theorem dX7_readText_16 : decode cX7_readText 16 = .ok (.aload_n 0, 1) := by decide +kernel
theorem dX7_readText_17 : decode cX7_readText 17 = .ok (.iconst 0, 1) := by decide +kernel
theorem dX7_readText_18 : decode cX7_readText 18 = .ok (.putfield 109, 3) := by decide +kernel
theorem dX7_readText_21 : decode cX7_readText 21 = .ok (.iconst 0, 1) := by decide +kernel
theorem dX7_readText_22 : decode cX7_readText 22 = .ok (.istore_n 1, 1) := by decide +kernel
theorem dX7_readText_23 : decode cX7_readText 23 = .ok (.iload_n 1, 1) := by decide +kernel
theorem dX7_readText_24 : decode cX7_readText 24 = .ok (.iconst 5, 1) := by decide +kernel
theorem dX7_readText_25 : decode cX7_readText 25 = .ok (.if_icmp .ge 23, 3) := by decide +kernel
theorem dX7_readText_28 : decode cX7_readText 28 = .ok (.aload_n 0, 1) := by decide +kernel
theorem dX7_readText_29 : decode cX7_readText 29 = .ok (.getfield 37, 3) := by decide +kernel
theorem dX7_readText_32 : decode cX7_readText 32 = .ok (.iload_n 1, 1) := by decide +kernel
theorem dX7_readText_33 : decode cX7_readText 33 = .ok (.iconst 0, 1) := by decide +kernel
theorem dX7_readText_34 : decode cX7_readText 34 = .ok (.iastore, 1) := by decide +kernel
theorem dX7_readText_35 : decode cX7_readText 35 = .ok (.aload_n 0, 1) := by decide +kernel
theorem dX7_readText_36 : decode cX7_readText 36 = .ok (.getfield 40, 3) := by decide +kernel
theorem dX7_readText_39 : decode cX7_readText 39 = .ok (.iload_n 1, 1) := by decide +kernel
theorem dX7_readText_40 : decode cX7_readText 40 = .ok (.iconst 0, 1) := by decide +kernel
theorem dX7_readText_41 : decode cX7_readText 41 = .ok (.iastore, 1) := by decide +kernel
theorem dX7_readText_42 : decode cX7_readText 42 = .ok (.iinc 1 1, 3) := by decide +kernel
theorem dX7_readText_45 : decode cX7_readText 45 = .ok (.goto (-22), 3) := by decide +kernel
theorem dX7_readText_48 : decode cX7_readText 48 = .ok (.aload_n 0, 1) := by decide +kernel
theorem dX7_readText_49 : decode cX7_readText 49 = .ok (.getfield 87, 3) := by decide +kernel
theorem dX7_readText_52 : decode cX7_readText 52 = .ok (.ifCond .eq 14, 3) := by decide +kernel
theorem dX7_readText_55 : decode cX7_readText 55 = .ok (.aload_n 0, 1) := by decide +kernel
theorem dX7_readText_56 : decode cX7_readText 56 = .ok (.getfield 46, 3) := by decide +kernel
theorem dX7_readText_59 : decode cX7_readText 59 = .ok (.iconst 0, 1) := by decide +kernel
theorem dX7_readText_60 : decode cX7_readText 60 = .ok (.iaload, 1) := by decide +kernel
theorem dX7_readText_61 : decode cX7_readText 61 = .ok (.bipush 89, 2) := by decide +kernel
theorem dX7_readText_63 : decode cX7_readText 63 = .ok (.if_icmp .eq 5, 3) := by decide +kernel
theorem dX7_readText_66 : decode cX7_readText 66 = .ok (.iconst 0, 1) := by decide +kernel
theorem dX7_readText_67 : decode cX7_readText 67 = .ok (.ireturn, 1) := by decide +kernel
theorem dX7_readText_68 : decode cX7_readText 68 = .ok (.aload_n 0, 1) := by decide +kernel
theorem dX7_readText_69 : decode cX7_readText 69 = .ok (.iconst 1, 1) := by decide +kernel
theorem dX7_readText_70 : decode cX7_readText 70 = .ok (.putfield 93, 3) := by decide +kernel
theorem dX7_readText_73 : decode cX7_readText 73 = .ok (.aload_n 0, 1) := by decide +kernel
theorem dX7_readText_74 : decode cX7_readText 74 = .ok (.getfield 90, 3) := by decide +kernel
theorem dX7_readText_77 : decode cX7_readText 77 = .ok (.bipush (-9), 2) := by decide +kernel
theorem dX7_readText_79 : decode cX7_readText 79 = .ok (.if_icmp .ne 30, 3) := by decide +kernel
theorem dX7_readText_82 : decode cX7_readText 82 = .ok (.aload_n 0, 1) := by decide +kernel
theorem dX7_readText_83 : decode cX7_readText 83 = .ok (.getfield 93, 3) := by decide +kernel
theorem dX7_readText_86 : decode cX7_readText 86 = .ok (.aload_n 0, 1) := by decide +kernel
theorem dX7_readText_87 : decode cX7_readText 87 = .ok (.getfield 87, 3) := by decide +kernel
theorem dX7_readText_90 : decode cX7_readText 90 = .ok (.if_icmp .ge 19, 3) := by decide +kernel
theorem dX7_readText_93 : decode cX7_readText 93 = .ok (.aload_n 0, 1) := by decide +kernel
theorem dX7_readText_94 : decode cX7_readText 94 = .ok (.aload_n 0, 1) := by decide +kernel
theorem dX7_readText_95 : decode cX7_readText 95 = .ok (.getfield 46, 3) := by decide +kernel
theorem dX7_readText_98 : decode cX7_readText 98 = .ok (.aload_n 0, 1) := by decide +kernel
theorem dX7_readText_99 : decode cX7_readText 99 = .ok (.getfield 93, 3) := by decide +kernel
theorem dX7_readText_102 : decode cX7_readText 102 = .ok (.iaload, 1) := by decide +kernel
theorem dX7_readText_103 : decode cX7_readText 103 = .ok (.invokevirtual 112, 3) := by decide +kernel
theorem dX7_readText_106 : decode cX7_readText 106 = .ok (.goto (-33), 3) := by decide +kernel
theorem dX7_readText_109 : decode cX7_readText 109 = .ok (.aload_n 0, 1) := by decide +kernel
theorem dX7_readText_110 : decode cX7_readText 110 = .ok (.getfield 90, 3) := by decide +kernel
theorem dX7_readText_113 : decode cX7_readText 113 = .ok (.ireturn, 1) := by decide +kernel
theorem dX7_readPart_0 : decode cX7_readPart 0 = .ok (.iload_n 1, 1) := by decide +kernel
theorem dX7_readPart_1 : decode cX7_readPart 1 = .ok (.bipush 82, 2) := by decide +kernel
theorem dX7_readPart_3 : decode cX7_readPart 3 = .ok (.if_icmp .ne 80, 3) := by decide +kernel
theorem dX7_readPart_6 : decode cX7_readPart 6 = .ok (.aload_n 0, 1) := by decide +kernel
theorem dX7_readPart_7 : decode cX7_readPart 7 = .ok (.getfield 102, 3) := by decide +kernel
theorem dX7_readPart_10 : decode cX7_readPart 10 = .ok (.iconst 5, 1) := by decide +kernel
theorem dX7_readPart_11 : decode cX7_readPart 11 = .ok (.if_icmp .ge 72, 3) := by decide +kernel
theorem dX7_readPart_14 : decode cX7_readPart 14 = .ok (.aload_n 0, 1) := by decide +kernel
theorem dX7_readPart_15 : decode cX7_readPart 15 = .ok (.dup, 1) := by decide +kernel
theorem dX7_readPart_16 : decode cX7_readPart 16 = .ok (.getfield 93, 3) := by decide +kernel
theorem dX7_readPart_19 : decode cX7_readPart 19 = .ok (.iconst 1, 1) := by decide +kernel
theorem dX7_readPart_20 : decode cX7_readPart 20 = .ok (.iadd, 1) := by decide +kernel
theorem dX7_readPart_21 : decode cX7_readPart 21 = .ok (.putfield 93, 3) := by decide +kernel
theorem dX7_readPart_24 : decode cX7_readPart 24 = .ok (.aload_n 0, 1) := by decide +kernel
theorem dX7_readPart_25 : decode cX7_readPart 25 = .ok (.getfield 28, 3) := by decide +kernel
theorem dX7_readPart_28 : decode cX7_readPart 28 = .ok (.aload_n 0, 1) := by decide +kernel
theorem dX7_readPart_29 : decode cX7_readPart 29 = .ok (.getfield 102, 3) := by decide +kernel
theorem dX7_readPart_32 : decode cX7_readPart 32 = .ok (.aload_n 0, 1) := by decide +kernel
theorem dX7_readPart_33 : decode cX7_readPart 33 = .ok (.sipush 1022, 3) := by decide +kernel
theorem dX7_readPart_36 : decode cX7_readPart 36 = .ok (.invokevirtual 116, 3) := by decide +kernel
theorem dX7_readPart_39 : decode cX7_readPart 39 = .ok (.iastore, 1) := by decide +kernel
theorem dX7_readPart_40 : decode cX7_readPart 40 = .ok (.aload_n 0, 1) := by decide +kernel
theorem dX7_readPart_41 : decode cX7_readPart 41 = .ok (.getfield 31, 3) := by decide +kernel
theorem dX7_readPart_44 : decode cX7_readPart 44 = .ok (.aload_n 0, 1) := by decide +kernel
theorem dX7_readPart_45 : decode cX7_readPart 45 = .ok (.getfield 102, 3) := by decide +kernel
theorem dX7_readPart_48 : decode cX7_readPart 48 = .ok (.aload_n 0, 1) := by decide +kernel
theorem dX7_readPart_49 : decode cX7_readPart 49 = .ok (.iconst 3, 1) := by decide +kernel
theorem dX7_readPart_50 : decode cX7_readPart 50 = .ok (.invokevirtual 116, 3) := by decide +kernel
theorem dX7_readPart_53 : decode cX7_readPart 53 = .ok (.iastore, 1) := by decide +kernel
theorem dX7_readPart_54 : decode cX7_readPart 54 = .ok (.aload_n 0, 1) := by decide +kernel
theorem dX7_readPart_55 : decode cX7_readPart 55 = .ok (.getfield 34, 3) := by decide +kernel
theorem dX7_readPart_58 : decode cX7_readPart 58 = .ok (.aload_n 0, 1) := by decide +kernel
theorem dX7_readPart_59 : decode cX7_readPart 59 = .ok (.getfield 102, 3) := by decide +kernel
theorem dX7_readPart_62 : decode cX7_readPart 62 = .ok (.aload_n 0, 1) := by decide +kernel
theorem dX7_readPart_63 : decode cX7_readPart 63 = .ok (.sipush 1023, 3) := by decide +kernel
theorem dX7_readPart_66 : decode cX7_readPart 66 = .ok (.invokevirtual 116, 3) := by decide +kernel
theorem dX7_readPart_69 : decode cX7_readPart 69 = .ok (.iastore, 1) := by decide +kernel
theorem dX7_readPart_70 : decode cX7_readPart 70 = .ok (.aload_n 0, 1) := by decide +kernel
theorem dX7_readPart_71 : decode cX7_readPart 71 = .ok (.dup, 1) := by decide +kernel
theorem dX7_readPart_72 : decode cX7_readPart 72 = .ok (.getfield 102, 3) := by decide +kernel
theorem dX7_readPart_75 : decode cX7_readPart 75 = .ok (.iconst 1, 1) := by decide +kernel
theorem dX7_readPart_76 : decode cX7_readPart 76 = .ok (.iadd, 1) := by decide +kernel
theorem dX7_readPart_77 : decode cX7_readPart 77 = .ok (.putfield 102, 3) := by decide +kernel
theorem dX7_readPart_80 : decode cX7_readPart 80 = .ok (.goto 217, 3) := by decide +kernel
theorem dX7_readPart_83 : decode cX7_readPart 83 = .ok (.iload_n 1, 1) := by decide +kernel
theorem dX7_readPart_84 : decode cX7_readPart 84 = .ok (.bipush 88, 2) := by decide +kernel
theorem dX7_readPart_86 : decode cX7_readPart 86 = .ok (.if_icmp .ne 75, 3) := by decide +kernel
theorem dX7_readPart_89 : decode cX7_readPart 89 = .ok (.aload_n 0, 1) := by decide +kernel
theorem dX7_readPart_90 : decode cX7_readPart 90 = .ok (.invokevirtual 119, 3) := by decide +kernel
theorem dX7_readPart_93 : decode cX7_readPart 93 = .ok (.ifCond .eq 68, 3) := by decide +kernel
theorem dX7_readPart_96 : decode cX7_readPart 96 = .ok (.aload_n 0, 1) := by decide +kernel
theorem dX7_readPart_97 : decode cX7_readPart 97 = .ok (.dup, 1) := by decide +kernel
theorem dX7_readPart_98 : decode cX7_readPart 98 = .ok (.getfield 93, 3) := by decide +kernel
theorem dX7_readPart_101 : decode cX7_readPart 101 = .ok (.iconst 1, 1) := by decide +kernel
theorem dX7_readPart_102 : decode cX7_readPart 102 = .ok (.iadd, 1) := by decide +kernel
theorem dX7_readPart_103 : decode cX7_readPart 103 = .ok (.putfield 93, 3) := by decide +kernel
theorem dX7_readPart_106 : decode cX7_readPart 106 = .ok (.aload_n 0, 1) := by decide +kernel
theorem dX7_readPart_107 : decode cX7_readPart 107 = .ok (.aload_n 0, 1) := by decide +kernel
theorem dX7_readPart_108 : decode cX7_readPart 108 = .ok (.invokevirtual 119, 3) := by decide +kernel
theorem dX7_readPart_111 : decode cX7_readPart 111 = .ok (.invokevirtual 116, 3) := by decide +kernel
theorem dX7_readPart_114 : decode cX7_readPart 114 = .ok (.istore_n 2, 1) := by decide +kernel
theorem dX7_readPart_115 : decode cX7_readPart 115 = .ok (.aload_n 0, 1) := by decide +kernel
theorem dX7_readPart_116 : decode cX7_readPart 116 = .ok (.aload_n 0, 1) := by decide +kernel
theorem dX7_readPart_117 : decode cX7_readPart 117 = .ok (.iload_n 2, 1) := by decide +kernel
theorem dX7_readPart_118 : decode cX7_readPart 118 = .ok (.invokevirtual 105, 3) := by decide +kernel
theorem dX7_readPart_121 : decode cX7_readPart 121 = .ok (.invokevirtual 116, 3) := by decide +kernel
theorem dX7_readPart_124 : decode cX7_readPart 124 = .ok (.istore_n 3, 1) := by decide +kernel
theorem dX7_readPart_125 : decode cX7_readPart 125 = .ok (.aload_n 0, 1) := by decide +kernel
theorem dX7_readPart_126 : decode cX7_readPart 126 = .ok (.getfield 90, 3) := by decide +kernel
theorem dX7_readPart_129 : decode cX7_readPart 129 = .ok (.bipush (-9), 2) := by decide +kernel
theorem dX7_readPart_131 : decode cX7_readPart 131 = .ok (.if_icmp .ne 27, 3) := by decide +kernel
theorem dX7_readPart_134 : decode cX7_readPart 134 = .ok (.aload_n 0, 1) := by decide +kernel
theorem dX7_readPart_135 : decode cX7_readPart 135 = .ok (.getfield 37, 3) := by decide +kernel
theorem dX7_readPart_138 : decode cX7_readPart 138 = .ok (.iload_n 2, 1) := by decide +kernel
theorem dX7_readPart_139 : decode cX7_readPart 139 = .ok (.dup2, 1) := by decide +kernel
theorem dX7_readPart_140 : decode cX7_readPart 140 = .ok (.iaload, 1) := by decide +kernel
theorem dX7_readPart_141 : decode cX7_readPart 141 = .ok (.iconst 1, 1) := by decide +kernel
theorem dX7_readPart_142 : decode cX7_readPart 142 = .ok (.iload_n 3, 1) := by decide +kernel
theorem dX7_readPart_143 : decode cX7_readPart 143 = .ok (.ishl, 1) := by decide +kernel
theorem dX7_readPart_144 : decode cX7_readPart 144 = .ok (.ior, 1) := by decide +kernel
theorem dX7_readPart_145 : decode cX7_readPart 145 = .ok (.iastore, 1) := by decide +kernel
theorem dX7_readPart_146 : decode cX7_readPart 146 = .ok (.aload_n 0, 1) := by decide +kernel
theorem dX7_readPart_147 : decode cX7_readPart 147 = .ok (.getfield 37, 3) := by decide +kernel
theorem dX7_readPart_150 : decode cX7_readPart 150 = .ok (.iload_n 3, 1) := by decide +kernel
theorem dX7_readPart_151 : decode cX7_readPart 151 = .ok (.dup2, 1) := by decide +kernel
theorem dX7_readPart_152 : decode cX7_readPart 152 = .ok (.iaload, 1) := by decide +kernel
theorem dX7_readPart_153 : decode cX7_readPart 153 = .ok (.iconst 1, 1) := by decide +kernel
theorem dX7_readPart_154 : decode cX7_readPart 154 = .ok (.iload_n 2, 1) := by decide +kernel
theorem dX7_readPart_155 : decode cX7_readPart 155 = .ok (.ishl, 1) := by decide +kernel
theorem dX7_readPart_156 : decode cX7_readPart 156 = .ok (.ior, 1) := by decide +kernel
theorem dX7_readPart_157 : decode cX7_readPart 157 = .ok (.iastore, 1) := by decide +kernel
theorem dX7_readPart_158 : decode cX7_readPart 158 = .ok (.goto 139, 3) := by decide +kernel
theorem dX7_readPart_161 : decode cX7_readPart 161 = .ok (.iload_n 1, 1) := by decide +kernel
theorem dX7_readPart_162 : decode cX7_readPart 162 = .ok (.bipush 80, 2) := by decide +kernel
theorem dX7_readPart_164 : decode cX7_readPart 164 = .ok (.if_icmp .ne 49, 3) := by decide +kernel
theorem dX7_readPart_167 : decode cX7_readPart 167 = .ok (.aload_n 0, 1) := by decide +kernel
theorem dX7_readPart_168 : decode cX7_readPart 168 = .ok (.getfield 109, 3) := by decide +kernel
theorem dX7_readPart_171 : decode cX7_readPart 171 = .ok (.iconst 4, 1) := by decide +kernel
theorem dX7_readPart_172 : decode cX7_readPart 172 = .ok (.if_icmp .ge 41, 3) := by decide +kernel
theorem dX7_readPart_175 : decode cX7_readPart 175 = .ok (.aload_n 0, 1) := by decide +kernel
theorem dX7_readPart_176 : decode cX7_readPart 176 = .ok (.dup, 1) := by decide +kernel
theorem dX7_readPart_177 : decode cX7_readPart 177 = .ok (.getfield 93, 3) := by decide +kernel
theorem dX7_readPart_180 : decode cX7_readPart 180 = .ok (.iconst 1, 1) := by decide +kernel
theorem dX7_readPart_181 : decode cX7_readPart 181 = .ok (.iadd, 1) := by decide +kernel
theorem dX7_readPart_182 : decode cX7_readPart 182 = .ok (.putfield 93, 3) := by decide +kernel
theorem dX7_readPart_185 : decode cX7_readPart 185 = .ok (.aload_n 0, 1) := by decide +kernel
theorem dX7_readPart_186 : decode cX7_readPart 186 = .ok (.getfield 43, 3) := by decide +kernel
theorem dX7_readPart_189 : decode cX7_readPart 189 = .ok (.aload_n 0, 1) := by decide +kernel
theorem dX7_readPart_190 : decode cX7_readPart 190 = .ok (.getfield 109, 3) := by decide +kernel
theorem dX7_readPart_193 : decode cX7_readPart 193 = .ok (.aload_n 0, 1) := by decide +kernel
theorem dX7_readPart_194 : decode cX7_readPart 194 = .ok (.bipush 63, 2) := by decide +kernel
theorem dX7_readPart_196 : decode cX7_readPart 196 = .ok (.invokevirtual 116, 3) := by decide +kernel
theorem dX7_readPart_199 : decode cX7_readPart 199 = .ok (.iastore, 1) := by decide +kernel
theorem dX7_readPart_200 : decode cX7_readPart 200 = .ok (.aload_n 0, 1) := by decide +kernel
theorem dX7_readPart_201 : decode cX7_readPart 201 = .ok (.dup, 1) := by decide +kernel
theorem dX7_readPart_202 : decode cX7_readPart 202 = .ok (.getfield 109, 3) := by decide +kernel
theorem dX7_readPart_205 : decode cX7_readPart 205 = .ok (.iconst 1, 1) := by decide +kernel
theorem dX7_readPart_206 : decode cX7_readPart 206 = .ok (.iadd, 1) := by decide +kernel
theorem dX7_readPart_207 : decode cX7_readPart 207 = .ok (.putfield 109, 3) := by decide +kernel
theorem dX7_readPart_210 : decode cX7_readPart 210 = .ok (.goto 87, 3) := by decide +kernel
theorem dX7_readPart_213 : decode cX7_readPart 213 = .ok (.iload_n 1, 1) := by decide +kernel
theorem dX7_readPart_214 : decode cX7_readPart 214 = .ok (.bipush 83, 2) := by decide +kernel
theorem dX7_readPart_216 : decode cX7_readPart 216 = .ok (.if_icmp .ne 73, 3) := by decide +kernel
theorem dX7_readPart_219 : decode cX7_readPart 219 = .ok (.aload_n 0, 1) := by decide +kernel
theorem dX7_readPart_220 : decode cX7_readPart 220 = .ok (.invokevirtual 123, 3) := by decide +kernel
theorem dX7_readPart_223 : decode cX7_readPart 223 = .ok (.ifCond .eq 66, 3) := by decide +kernel
theorem dX7_readPart_226 : decode cX7_readPart 226 = .ok (.aload_n 0, 1) := by decide +kernel
theorem dX7_readPart_227 : decode cX7_readPart 227 = .ok (.dup, 1) := by decide +kernel
theorem dX7_readPart_228 : decode cX7_readPart 228 = .ok (.getfield 93, 3) := by decide +kernel
theorem dX7_readPart_231 : decode cX7_readPart 231 = .ok (.iconst 1, 1) := by decide +kernel
theorem dX7_readPart_232 : decode cX7_readPart 232 = .ok (.iadd, 1) := by decide +kernel
theorem dX7_readPart_233 : decode cX7_readPart 233 = .ok (.putfield 93, 3) := by decide +kernel
theorem dX7_readPart_236 : decode cX7_readPart 236 = .ok (.aload_n 0, 1) := by decide +kernel
theorem dX7_readPart_237 : decode cX7_readPart 237 = .ok (.aload_n 0, 1) := by decide +kernel
theorem dX7_readPart_238 : decode cX7_readPart 238 = .ok (.invokevirtual 123, 3) := by decide +kernel
theorem dX7_readPart_241 : decode cX7_readPart 241 = .ok (.invokevirtual 116, 3) := by decide +kernel
theorem dX7_readPart_244 : decode cX7_readPart 244 = .ok (.istore_n 2, 1) := by decide +kernel
theorem dX7_readPart_245 : decode cX7_readPart 245 = .ok (.aload_n 0, 1) := by decide +kernel
theorem dX7_readPart_246 : decode cX7_readPart 246 = .ok (.bipush 63, 2) := by decide +kernel
theorem dX7_readPart_248 : decode cX7_readPart 248 = .ok (.aload_n 0, 1) := by decide +kernel
theorem dX7_readPart_249 : decode cX7_readPart 249 = .ok (.getfield 40, 3) := by decide +kernel
theorem dX7_readPart_252 : decode cX7_readPart 252 = .ok (.iload_n 2, 1) := by decide +kernel
theorem dX7_readPart_253 : decode cX7_readPart 253 = .ok (.iaload, 1) := by decide +kernel
theorem dX7_readPart_254 : decode cX7_readPart 254 = .ok (.iconst (-1), 1) := by decide +kernel
theorem dX7_readPart_255 : decode cX7_readPart 255 = .ok (.ixor, 1) := by decide +kernel
theorem dX7_readPart_256 : decode cX7_readPart 256 = .ok (.iand, 1) := by decide +kernel
theorem dX7_readPart_257 : decode cX7_readPart 257 = .ok (.invokevirtual 116, 3) := by decide +kernel
theorem dX7_readPart_260 : decode cX7_readPart 260 = .ok (.istore_n 3, 1) := by decide +kernel
theorem dX7_readPart_261 : decode cX7_readPart 261 = .ok (.aload_n 0, 1) := by decide +kernel
theorem dX7_readPart_262 : decode cX7_readPart 262 = .ok (.getfield 40, 3) := by decide +kernel
theorem dX7_readPart_265 : decode cX7_readPart 265 = .ok (.iload_n 2, 1) := by decide +kernel
theorem dX7_readPart_266 : decode cX7_readPart 266 = .ok (.dup2, 1) := by decide +kernel
theorem dX7_readPart_267 : decode cX7_readPart 267 = .ok (.iaload, 1) := by decide +kernel
theorem dX7_readPart_268 : decode cX7_readPart 268 = .ok (.aload_n 0, 1) := by decide +kernel
theorem dX7_readPart_269 : decode cX7_readPart 269 = .ok (.getfield 90, 3) := by decide +kernel
theorem dX7_readPart_272 : decode cX7_readPart 272 = .ok (.bipush (-9), 2) := by decide +kernel
theorem dX7_readPart_274 : decode cX7_readPart 274 = .ok (.if_icmp .ne 9, 3) := by decide +kernel
theorem dX7_readPart_277 : decode cX7_readPart 277 = .ok (.iconst 1, 1) := by decide +kernel
theorem dX7_readPart_278 : decode cX7_readPart 278 = .ok (.iload_n 3, 1) := by decide +kernel
theorem dX7_readPart_279 : decode cX7_readPart 279 = .ok (.ishl, 1) := by decide +kernel
theorem dX7_readPart_280 : decode cX7_readPart 280 = .ok (.goto 4, 3) := by decide +kernel
theorem dX7_readPart_283 : decode cX7_readPart 283 = .ok (.iconst 0, 1) := by decide +kernel
theorem dX7_readPart_284 : decode cX7_readPart 284 = .ok (.ior, 1) := by decide +kernel
theorem dX7_readPart_285 : decode cX7_readPart 285 = .ok (.iastore, 1) := by decide +kernel
theorem dX7_readPart_286 : decode cX7_readPart 286 = .ok (.goto 11, 3) := by decide +kernel
theorem dX7_readPart_289 : decode cX7_readPart 289 = .ok (.aload_n 0, 1) := by decide +kernel
theorem dX7_readPart_290 : decode cX7_readPart 290 = .ok (.aload_n 0, 1) := by decide +kernel
theorem dX7_readPart_291 : decode cX7_readPart 291 = .ok (.getfield 93, 3) := by decide +kernel
theorem dX7_readPart_294 : decode cX7_readPart 294 = .ok (.putfield 90, 3) := by decide +kernel
theorem dX7_readPart_297 : decode cX7_readPart 297 = .ok (.return_, 1) := by decide +kernel
theorem dX7_fault_0 : decode cX7_fault 0 = .ok (.aload_n 0, 1) := by decide +kernel
theorem dX7_fault_1 : decode cX7_fault 1 = .ok (.invokevirtual 126, 3) := by decide +kernel
theorem dX7_fault_4 : decode cX7_fault 4 = .ok (.ireturn, 1) := by decide +kernel
theorem dX7_town_0 : decode cX7_town 0 = .ok (.aload_n 0, 1) := by decide +kernel
theorem dX7_town_1 : decode cX7_town 1 = .ok (.invokevirtual 126, 3) := by decide +kernel
theorem dX7_town_4 : decode cX7_town 4 = .ok (.bipush (-9), 2) := by decide +kernel
theorem dX7_town_6 : decode cX7_town 6 = .ok (.if_icmp .eq 6, 3) := by decide +kernel
theorem dX7_town_9 : decode cX7_town 9 = .ok (.bipush (-3), 2) := by decide +kernel
theorem dX7_town_11 : decode cX7_town 11 = .ok (.ireturn, 1) := by decide +kernel
theorem dX7_town_12 : decode cX7_town 12 = .ok (.aload_n 0, 1) := by decide +kernel
theorem dX7_town_13 : decode cX7_town 13 = .ok (.aload_n 0, 1) := by decide +kernel
theorem dX7_town_14 : decode cX7_town 14 = .ok (.getfield 102, 3) := by decide +kernel
theorem dX7_town_17 : decode cX7_town 17 = .ok (.putfield 77, 3) := by decide +kernel
theorem dX7_town_20 : decode cX7_town 20 = .ok (.aload_n 0, 1) := by decide +kernel
theorem dX7_town_21 : decode cX7_town 21 = .ok (.aload_n 0, 1) := by decide +kernel
theorem dX7_town_22 : decode cX7_town 22 = .ok (.getfield 109, 3) := by decide +kernel
theorem dX7_town_25 : decode cX7_town 25 = .ok (.putfield 129, 3) := by decide +kernel
theorem dX7_town_28 : decode cX7_town 28 = .ok (.iconst 0, 1) := by decide +kernel
theorem dX7_town_29 : decode cX7_town 29 = .ok (.istore_n 1, 1) := by decide +kernel
theorem dX7_town_30 : decode cX7_town 30 = .ok (.iload_n 1, 1) := by decide +kernel
theorem dX7_town_31 : decode cX7_town 31 = .ok (.bipush 31, 2) := by decide +kernel
theorem dX7_town_33 : decode cX7_town 33 = .ok (.if_icmp .ge 16, 3) := by decide +kernel
theorem dX7_town_36 : decode cX7_town 36 = .ok (.aload_n 0, 1) := by decide +kernel
theorem dX7_town_37 : decode cX7_town 37 = .ok (.getfield 25, 3) := by decide +kernel
theorem dX7_town_40 : decode cX7_town 40 = .ok (.iload_n 1, 1) := by decide +kernel
theorem dX7_town_41 : decode cX7_town 41 = .ok (.iconst 0, 1) := by decide +kernel
theorem dX7_town_42 : decode cX7_town 42 = .ok (.iastore, 1) := by decide +kernel
theorem dX7_town_43 : decode cX7_town 43 = .ok (.iinc 1 1, 3) := by decide +kernel
theorem dX7_town_46 : decode cX7_town 46 = .ok (.goto (-16), 3) := by decide +kernel
theorem dX7_town_49 : decode cX7_town 49 = .ok (.iconst 0, 1) := by decide +kernel
theorem dX7_town_50 : decode cX7_town 50 = .ok (.istore_n 1, 1) := by decide +kernel
theorem dX7_town_51 : decode cX7_town 51 = .ok (.iload_n 1, 1) := by decide +kernel
theorem dX7_town_52 : decode cX7_town 52 = .ok (.iconst 5, 1) := by decide +kernel
theorem dX7_town_53 : decode cX7_town 53 = .ok (.if_icmp .ge 81, 3) := by decide +kernel
theorem dX7_town_56 : decode cX7_town 56 = .ok (.aload_n 0, 1) := by decide +kernel
theorem dX7_town_57 : decode cX7_town 57 = .ok (.getfield 7, 3) := by decide +kernel
theorem dX7_town_60 : decode cX7_town 60 = .ok (.iload_n 1, 1) := by decide +kernel
theorem dX7_town_61 : decode cX7_town 61 = .ok (.aload_n 0, 1) := by decide +kernel
theorem dX7_town_62 : decode cX7_town 62 = .ok (.getfield 28, 3) := by decide +kernel
theorem dX7_town_65 : decode cX7_town 65 = .ok (.iload_n 1, 1) := by decide +kernel
theorem dX7_town_66 : decode cX7_town 66 = .ok (.iaload, 1) := by decide +kernel
theorem dX7_town_67 : decode cX7_town 67 = .ok (.iastore, 1) := by decide +kernel
theorem dX7_town_68 : decode cX7_town 68 = .ok (.aload_n 0, 1) := by decide +kernel
theorem dX7_town_69 : decode cX7_town 69 = .ok (.getfield 13, 3) := by decide +kernel
theorem dX7_town_72 : decode cX7_town 72 = .ok (.iload_n 1, 1) := by decide +kernel
theorem dX7_town_73 : decode cX7_town 73 = .ok (.aload_n 0, 1) := by decide +kernel
theorem dX7_town_74 : decode cX7_town 74 = .ok (.getfield 31, 3) := by decide +kernel
theorem dX7_town_77 : decode cX7_town 77 = .ok (.iload_n 1, 1) := by decide +kernel
theorem dX7_town_78 : decode cX7_town 78 = .ok (.iaload, 1) := by decide +kernel
theorem dX7_town_79 : decode cX7_town 79 = .ok (.iastore, 1) := by decide +kernel
theorem dX7_town_80 : decode cX7_town 80 = .ok (.aload_n 0, 1) := by decide +kernel
theorem dX7_town_81 : decode cX7_town 81 = .ok (.getfield 16, 3) := by decide +kernel
theorem dX7_town_84 : decode cX7_town 84 = .ok (.iload_n 1, 1) := by decide +kernel
theorem dX7_town_85 : decode cX7_town 85 = .ok (.aload_n 0, 1) := by decide +kernel
theorem dX7_town_86 : decode cX7_town 86 = .ok (.getfield 34, 3) := by decide +kernel
theorem dX7_town_89 : decode cX7_town 89 = .ok (.iload_n 1, 1) := by decide +kernel
theorem dX7_town_90 : decode cX7_town 90 = .ok (.iaload, 1) := by decide +kernel
theorem dX7_town_91 : decode cX7_town 91 = .ok (.iastore, 1) := by decide +kernel
theorem dX7_town_92 : decode cX7_town 92 = .ok (.aload_n 0, 1) := by decide +kernel
theorem dX7_town_93 : decode cX7_town 93 = .ok (.getfield 19, 3) := by decide +kernel
theorem dX7_town_96 : decode cX7_town 96 = .ok (.iload_n 1, 1) := by decide +kernel
theorem dX7_town_97 : decode cX7_town 97 = .ok (.aload_n 0, 1) := by decide +kernel
theorem dX7_town_98 : decode cX7_town 98 = .ok (.getfield 37, 3) := by decide +kernel
theorem dX7_town_101 : decode cX7_town 101 = .ok (.iload_n 1, 1) := by decide +kernel
theorem dX7_town_102 : decode cX7_town 102 = .ok (.iaload, 1) := by decide +kernel
theorem dX7_town_103 : decode cX7_town 103 = .ok (.iastore, 1) := by decide +kernel
theorem dX7_town_104 : decode cX7_town 104 = .ok (.aload_n 0, 1) := by decide +kernel
theorem dX7_town_105 : decode cX7_town 105 = .ok (.getfield 25, 3) := by decide +kernel
theorem dX7_town_108 : decode cX7_town 108 = .ok (.iload_n 1, 1) := by decide +kernel
theorem dX7_town_109 : decode cX7_town 109 = .ok (.iload_n 1, 1) := by decide +kernel
theorem dX7_town_110 : decode cX7_town 110 = .ok (.aload_n 0, 1) := by decide +kernel
theorem dX7_town_111 : decode cX7_town 111 = .ok (.getfield 77, 3) := by decide +kernel
theorem dX7_town_114 : decode cX7_town 114 = .ok (.if_icmp .ge 12, 3) := by decide +kernel
theorem dX7_town_117 : decode cX7_town 117 = .ok (.aload_n 0, 1) := by decide +kernel
theorem dX7_town_118 : decode cX7_town 118 = .ok (.getfield 40, 3) := by decide +kernel
theorem dX7_town_121 : decode cX7_town 121 = .ok (.iload_n 1, 1) := by decide +kernel
theorem dX7_town_122 : decode cX7_town 122 = .ok (.iaload, 1) := by decide +kernel
theorem dX7_town_123 : decode cX7_town 123 = .ok (.goto 4, 3) := by decide +kernel
theorem dX7_town_126 : decode cX7_town 126 = .ok (.iconst 0, 1) := by decide +kernel
theorem dX7_town_127 : decode cX7_town 127 = .ok (.iastore, 1) := by decide +kernel
theorem dX7_town_128 : decode cX7_town 128 = .ok (.iinc 1 1, 3) := by decide +kernel
theorem dX7_town_131 : decode cX7_town 131 = .ok (.goto (-80), 3) := by decide +kernel
theorem dX7_town_134 : decode cX7_town 134 = .ok (.iconst 0, 1) := by decide +kernel
theorem dX7_town_135 : decode cX7_town 135 = .ok (.istore_n 1, 1) := by decide +kernel
theorem dX7_town_136 : decode cX7_town 136 = .ok (.iload_n 1, 1) := by decide +kernel
theorem dX7_town_137 : decode cX7_town 137 = .ok (.iconst 4, 1) := by decide +kernel
theorem dX7_town_138 : decode cX7_town 138 = .ok (.if_icmp .ge 21, 3) := by decide +kernel
theorem dX7_town_141 : decode cX7_town 141 = .ok (.aload_n 0, 1) := by decide +kernel
theorem dX7_town_142 : decode cX7_town 142 = .ok (.getfield 22, 3) := by decide +kernel
theorem dX7_town_145 : decode cX7_town 145 = .ok (.iload_n 1, 1) := by decide +kernel
theorem dX7_town_146 : decode cX7_town 146 = .ok (.aload_n 0, 1) := by decide +kernel
theorem dX7_town_147 : decode cX7_town 147 = .ok (.getfield 43, 3) := by decide +kernel
theorem dX7_town_150 : decode cX7_town 150 = .ok (.iload_n 1, 1) := by decide +kernel
theorem dX7_town_151 : decode cX7_town 151 = .ok (.iaload, 1) := by decide +kernel
theorem dX7_town_152 : decode cX7_town 152 = .ok (.iastore, 1) := by decide +kernel
theorem dX7_town_153 : decode cX7_town 153 = .ok (.iinc 1 1, 3) := by decide +kernel
theorem dX7_town_156 : decode cX7_town 156 = .ok (.goto (-20), 3) := by decide +kernel
theorem dX7_town_159 : decode cX7_town 159 = .ok (.aload_n 0, 1) := by decide +kernel
theorem dX7_town_160 : decode cX7_town 160 = .ok (.iconst 0, 1) := by decide +kernel
theorem dX7_town_161 : decode cX7_town 161 = .ok (.putfield 132, 3) := by decide +kernel
theorem dX7_town_164 : decode cX7_town 164 = .ok (.aload_n 0, 1) := by decide +kernel
theorem dX7_town_165 : decode cX7_town 165 = .ok (.getfield 71, 3) := by decide +kernel
theorem dX7_town_168 : decode cX7_town 168 = .ok (.iconst 0, 1) := by decide +kernel
theorem dX7_town_169 : decode cX7_town 169 = .ok (.iconst 0, 1) := by decide +kernel
theorem dX7_town_170 : decode cX7_town 170 = .ok (.bastore, 1) := by decide +kernel
theorem dX7_town_171 : decode cX7_town 171 = .ok (.aload_n 0, 1) := by decide +kernel
theorem dX7_town_172 : decode cX7_town 172 = .ok (.getfield 71, 3) := by decide +kernel
theorem dX7_town_175 : decode cX7_town 175 = .ok (.iconst 1, 1) := by decide +kernel
theorem dX7_town_176 : decode cX7_town 176 = .ok (.iconst 0, 1) := by decide +kernel
theorem dX7_town_177 : decode cX7_town 177 = .ok (.bastore, 1) := by decide +kernel
theorem dX7_town_178 : decode cX7_town 178 = .ok (.bipush 10, 2) := by decide +kernel
theorem dX7_town_180 : decode cX7_town 180 = .ok (.aload_n 0, 1) := by decide +kernel
theorem dX7_town_181 : decode cX7_town 181 = .ok (.getfield 77, 3) := by decide +kernel
theorem dX7_town_184 : decode cX7_town 184 = .ok (.imul, 1) := by decide +kernel
theorem dX7_town_185 : decode cX7_town 185 = .ok (.aload_n 0, 1) := by decide +kernel
theorem dX7_town_186 : decode cX7_town 186 = .ok (.getfield 129, 3) := by decide +kernel
theorem dX7_town_189 : decode cX7_town 189 = .ok (.iadd, 1) := by decide +kernel
theorem dX7_town_190 : decode cX7_town 190 = .ok (.ireturn, 1) := by decide +kernel
theorem dX7_isRumour_0 : decode cX7_isRumour 0 = .ok (.iload_n 1, 1) := by decide +kernel
theorem dX7_isRumour_1 : decode cX7_isRumour 1 = .ok (.i2l, 1) := by decide +kernel
theorem dX7_isRumour_2 : decode cX7_isRumour 2 = .ok (.lconst 0, 1) := by decide +kernel
theorem dX7_isRumour_3 : decode cX7_isRumour 3 = .ok (.aload_n 0, 1) := by decide +kernel
theorem dX7_isRumour_4 : decode cX7_isRumour 4 = .ok (.getfield 77, 3) := by decide +kernel
theorem dX7_isRumour_7 : decode cX7_isRumour 7 = .ok (.iconst 1, 1) := by decide +kernel
theorem dX7_isRumour_8 : decode cX7_isRumour 8 = .ok (.isub, 1) := by decide +kernel
theorem dX7_isRumour_9 : decode cX7_isRumour 9 = .ok (.i2l, 1) := by decide +kernel
theorem dX7_isRumour_10 : decode cX7_isRumour 10 = .ok (.invokestatic 83, 3) := by decide +kernel
theorem dX7_isRumour_13 : decode cX7_isRumour 13 = .ok (.ireturn, 1) := by decide +kernel
theorem dX7_isPerson_0 : decode cX7_isPerson 0 = .ok (.iload_n 1, 1) := by decide +kernel
theorem dX7_isPerson_1 : decode cX7_isPerson 1 = .ok (.i2l, 1) := by decide +kernel
theorem dX7_isPerson_2 : decode cX7_isPerson 2 = .ok (.lconst 0, 1) := by decide +kernel
theorem dX7_isPerson_3 : decode cX7_isPerson 3 = .ok (.aload_n 0, 1) := by decide +kernel
theorem dX7_isPerson_4 : decode cX7_isPerson 4 = .ok (.getfield 129, 3) := by decide +kernel
theorem dX7_isPerson_7 : decode cX7_isPerson 7 = .ok (.iconst 1, 1) := by decide +kernel
theorem dX7_isPerson_8 : decode cX7_isPerson 8 = .ok (.isub, 1) := by decide +kernel
theorem dX7_isPerson_9 : decode cX7_isPerson 9 = .ok (.i2l, 1) := by decide +kernel
theorem dX7_isPerson_10 : decode cX7_isPerson 10 = .ok (.invokestatic 83, 3) := by decide +kernel
theorem dX7_isPerson_13 : decode cX7_isPerson 13 = .ok (.ireturn, 1) := by decide +kernel
theorem dX7_isTable_0 : decode cX7_isTable 0 = .ok (.iload_n 0, 1) := by decide +kernel
theorem dX7_isTable_1 : decode cX7_isTable 1 = .ok (.i2l, 1) := by decide +kernel
theorem dX7_isTable_2 : decode cX7_isTable 2 = .ok (.lconst 0, 1) := by decide +kernel
theorem dX7_isTable_3 : decode cX7_isTable 3 = .ok (.ldc2_w 135, 3) := by decide +kernel
theorem dX7_isTable_6 : decode cX7_isTable 6 = .ok (.invokestatic 83, 3) := by decide +kernel
theorem dX7_isTable_9 : decode cX7_isTable 9 = .ok (.ireturn, 1) := by decide +kernel
theorem dX7_isProved_0 : decode cX7_isProved 0 = .ok (.aload_n 0, 1) := by decide +kernel
theorem dX7_isProved_1 : decode cX7_isProved 1 = .ok (.getfield 16, 3) := by decide +kernel
theorem dX7_isProved_4 : decode cX7_isProved 4 = .ok (.iload_n 2, 1) := by decide +kernel
theorem dX7_isProved_5 : decode cX7_isProved 5 = .ok (.iaload, 1) := by decide +kernel
theorem dX7_isProved_6 : decode cX7_isProved 6 = .ok (.ifCond .le 28, 3) := by decide +kernel
theorem dX7_isProved_9 : decode cX7_isProved 9 = .ok (.aload_n 0, 1) := by decide +kernel
theorem dX7_isProved_10 : decode cX7_isProved 10 = .ok (.getfield 25, 3) := by decide +kernel
theorem dX7_isProved_13 : decode cX7_isProved 13 = .ok (.bipush 31, 2) := by decide +kernel
theorem dX7_isProved_15 : decode cX7_isProved 15 = .ok (.iload_n 1, 1) := by decide +kernel
theorem dX7_isProved_16 : decode cX7_isProved 16 = .ok (.imul, 1) := by decide +kernel
theorem dX7_isProved_17 : decode cX7_isProved 17 = .ok (.bipush 30, 2) := by decide +kernel
theorem dX7_isProved_19 : decode cX7_isProved 19 = .ok (.iadd, 1) := by decide +kernel
theorem dX7_isProved_20 : decode cX7_isProved 20 = .ok (.iaload, 1) := by decide +kernel
theorem dX7_isProved_21 : decode cX7_isProved 21 = .ok (.aload_n 0, 1) := by decide +kernel
theorem dX7_isProved_22 : decode cX7_isProved 22 = .ok (.getfield 16, 3) := by decide +kernel
theorem dX7_isProved_25 : decode cX7_isProved 25 = .ok (.iload_n 2, 1) := by decide +kernel
theorem dX7_isProved_26 : decode cX7_isProved 26 = .ok (.iaload, 1) := by decide +kernel
theorem dX7_isProved_27 : decode cX7_isProved 27 = .ok (.if_icmp .lt 7, 3) := by decide +kernel
theorem dX7_isProved_30 : decode cX7_isProved 30 = .ok (.iconst 1, 1) := by decide +kernel
theorem dX7_isProved_31 : decode cX7_isProved 31 = .ok (.goto 4, 3) := by decide +kernel
theorem dX7_isProved_34 : decode cX7_isProved 34 = .ok (.iconst 0, 1) := by decide +kernel
theorem dX7_isProved_35 : decode cX7_isProved 35 = .ok (.ireturn, 1) := by decide +kernel
theorem dX7_worthOf_0 : decode cX7_worthOf 0 = .ok (.aload_n 0, 1) := by decide +kernel
theorem dX7_worthOf_1 : decode cX7_worthOf 1 = .ok (.iload_n 1, 1) := by decide +kernel
theorem dX7_worthOf_2 : decode cX7_worthOf 2 = .ok (.iload_n 2, 1) := by decide +kernel
theorem dX7_worthOf_3 : decode cX7_worthOf 3 = .ok (.invokevirtual 137, 3) := by decide +kernel
theorem dX7_worthOf_6 : decode cX7_worthOf 6 = .ok (.ifCond .eq 26, 3) := by decide +kernel
theorem dX7_worthOf_9 : decode cX7_worthOf 9 = .ok (.aload_n 0, 1) := by decide +kernel
theorem dX7_worthOf_10 : decode cX7_worthOf 10 = .ok (.getfield 13, 3) := by decide +kernel
theorem dX7_worthOf_13 : decode cX7_worthOf 13 = .ok (.iload_n 2, 1) := by decide +kernel
theorem dX7_worthOf_14 : decode cX7_worthOf 14 = .ok (.iaload, 1) := by decide +kernel
theorem dX7_worthOf_15 : decode cX7_worthOf 15 = .ok (.iconst 1, 1) := by decide +kernel
theorem dX7_worthOf_16 : decode cX7_worthOf 16 = .ok (.if_icmp .ne 7, 3) := by decide +kernel
theorem dX7_worthOf_19 : decode cX7_worthOf 19 = .ok (.iconst 0, 1) := by decide +kernel
theorem dX7_worthOf_20 : decode cX7_worthOf 20 = .ok (.goto 11, 3) := by decide +kernel
theorem dX7_worthOf_23 : decode cX7_worthOf 23 = .ok (.iconst 2, 1) := by decide +kernel
theorem dX7_worthOf_24 : decode cX7_worthOf 24 = .ok (.aload_n 0, 1) := by decide +kernel
theorem dX7_worthOf_25 : decode cX7_worthOf 25 = .ok (.getfield 7, 3) := by decide +kernel
theorem dX7_worthOf_28 : decode cX7_worthOf 28 = .ok (.iload_n 2, 1) := by decide +kernel
theorem dX7_worthOf_29 : decode cX7_worthOf 29 = .ok (.iaload, 1) := by decide +kernel
theorem dX7_worthOf_30 : decode cX7_worthOf 30 = .ok (.imul, 1) := by decide +kernel
theorem dX7_worthOf_31 : decode cX7_worthOf 31 = .ok (.ireturn, 1) := by decide +kernel
theorem dX7_worthOf_32 : decode cX7_worthOf 32 = .ok (.aload_n 0, 1) := by decide +kernel
theorem dX7_worthOf_33 : decode cX7_worthOf 33 = .ok (.getfield 7, 3) := by decide +kernel
theorem dX7_worthOf_36 : decode cX7_worthOf 36 = .ok (.iload_n 2, 1) := by decide +kernel
theorem dX7_worthOf_37 : decode cX7_worthOf 37 = .ok (.iaload, 1) := by decide +kernel
theorem dX7_worthOf_38 : decode cX7_worthOf 38 = .ok (.aload_n 0, 1) := by decide +kernel
theorem dX7_worthOf_39 : decode cX7_worthOf 39 = .ok (.getfield 25, 3) := by decide +kernel
theorem dX7_worthOf_42 : decode cX7_worthOf 42 = .ok (.bipush 31, 2) := by decide +kernel
theorem dX7_worthOf_44 : decode cX7_worthOf 44 = .ok (.iload_n 1, 1) := by decide +kernel
theorem dX7_worthOf_45 : decode cX7_worthOf 45 = .ok (.imul, 1) := by decide +kernel
theorem dX7_worthOf_46 : decode cX7_worthOf 46 = .ok (.iload_n 2, 1) := by decide +kernel
theorem dX7_worthOf_47 : decode cX7_worthOf 47 = .ok (.iadd, 1) := by decide +kernel
theorem dX7_worthOf_48 : decode cX7_worthOf 48 = .ok (.iaload, 1) := by decide +kernel
theorem dX7_worthOf_49 : decode cX7_worthOf 49 = .ok (.invokestatic 140, 3) := by decide +kernel
theorem dX7_worthOf_52 : decode cX7_worthOf 52 = .ok (.iadd, 1) := by decide +kernel
theorem dX7_worthOf_53 : decode cX7_worthOf 53 = .ok (.aload_n 0, 1) := by decide +kernel
theorem dX7_worthOf_54 : decode cX7_worthOf 54 = .ok (.getfield 25, 3) := by decide +kernel
theorem dX7_worthOf_57 : decode cX7_worthOf 57 = .ok (.bipush 31, 2) := by decide +kernel
theorem dX7_worthOf_59 : decode cX7_worthOf 59 = .ok (.iload_n 1, 1) := by decide +kernel
theorem dX7_worthOf_60 : decode cX7_worthOf 60 = .ok (.imul, 1) := by decide +kernel
theorem dX7_worthOf_61 : decode cX7_worthOf 61 = .ok (.iconst 5, 1) := by decide +kernel
theorem dX7_worthOf_62 : decode cX7_worthOf 62 = .ok (.iadd, 1) := by decide +kernel
theorem dX7_worthOf_63 : decode cX7_worthOf 63 = .ok (.iload_n 2, 1) := by decide +kernel
theorem dX7_worthOf_64 : decode cX7_worthOf 64 = .ok (.iadd, 1) := by decide +kernel
theorem dX7_worthOf_65 : decode cX7_worthOf 65 = .ok (.iaload, 1) := by decide +kernel
theorem dX7_worthOf_66 : decode cX7_worthOf 66 = .ok (.invokestatic 140, 3) := by decide +kernel
theorem dX7_worthOf_69 : decode cX7_worthOf 69 = .ok (.isub, 1) := by decide +kernel
theorem dX7_worthOf_70 : decode cX7_worthOf 70 = .ok (.istore_n 3, 1) := by decide +kernel
theorem dX7_worthOf_71 : decode cX7_worthOf 71 = .ok (.iload_n 3, 1) := by decide +kernel
theorem dX7_worthOf_72 : decode cX7_worthOf 72 = .ok (.ifCond .ge 7, 3) := by decide +kernel
theorem dX7_worthOf_75 : decode cX7_worthOf 75 = .ok (.iconst 0, 1) := by decide +kernel
theorem dX7_worthOf_76 : decode cX7_worthOf 76 = .ok (.goto 4, 3) := by decide +kernel
theorem dX7_worthOf_79 : decode cX7_worthOf 79 = .ok (.iload_n 3, 1) := by decide +kernel
theorem dX7_worthOf_80 : decode cX7_worthOf 80 = .ok (.ireturn, 1) := by decide +kernel
theorem dX7_rumour_0 : decode cX7_rumour 0 = .ok (.aload_n 0, 1) := by decide +kernel
theorem dX7_rumour_1 : decode cX7_rumour 1 = .ok (.iload_n 1, 1) := by decide +kernel
theorem dX7_rumour_2 : decode cX7_rumour 2 = .ok (.invokevirtual 143, 3) := by decide +kernel
theorem dX7_rumour_5 : decode cX7_rumour 5 = .ok (.ifCond .ne 5, 3) := by decide +kernel
theorem dX7_rumour_8 : decode cX7_rumour 8 = .ok (.iconst (-1), 1) := by decide +kernel
theorem dX7_rumour_9 : decode cX7_rumour 9 = .ok (.ireturn, 1) := by decide +kernel
theorem dX7_rumour_10 : decode cX7_rumour 10 = .ok (.iload_n 2, 1) := by decide +kernel
theorem dX7_rumour_11 : decode cX7_rumour 11 = .ok (.tableswitch 100 0 6 #[41, 48, 55, 62, 69, 78, 85], 41) := by decide +kernel
theorem dX7_rumour_52 : decode cX7_rumour 52 = .ok (.aload_n 0, 1) := by decide +kernel
theorem dX7_rumour_53 : decode cX7_rumour 53 = .ok (.getfield 7, 3) := by decide +kernel
theorem dX7_rumour_56 : decode cX7_rumour 56 = .ok (.iload_n 1, 1) := by decide +kernel
theorem dX7_rumour_57 : decode cX7_rumour 57 = .ok (.iaload, 1) := by decide +kernel
theorem dX7_rumour_58 : decode cX7_rumour 58 = .ok (.ireturn, 1) := by decide +kernel
theorem dX7_rumour_59 : decode cX7_rumour 59 = .ok (.aload_n 0, 1) := by decide +kernel
theorem dX7_rumour_60 : decode cX7_rumour 60 = .ok (.getfield 13, 3) := by decide +kernel
theorem dX7_rumour_63 : decode cX7_rumour 63 = .ok (.iload_n 1, 1) := by decide +kernel
theorem dX7_rumour_64 : decode cX7_rumour 64 = .ok (.iaload, 1) := by decide +kernel
theorem dX7_rumour_65 : decode cX7_rumour 65 = .ok (.ireturn, 1) := by decide +kernel
theorem dX7_rumour_66 : decode cX7_rumour 66 = .ok (.aload_n 0, 1) := by decide +kernel
theorem dX7_rumour_67 : decode cX7_rumour 67 = .ok (.getfield 16, 3) := by decide +kernel
theorem dX7_rumour_70 : decode cX7_rumour 70 = .ok (.iload_n 1, 1) := by decide +kernel
theorem dX7_rumour_71 : decode cX7_rumour 71 = .ok (.iaload, 1) := by decide +kernel
theorem dX7_rumour_72 : decode cX7_rumour 72 = .ok (.ireturn, 1) := by decide +kernel
theorem dX7_rumour_73 : decode cX7_rumour 73 = .ok (.aload_n 0, 1) := by decide +kernel
theorem dX7_rumour_74 : decode cX7_rumour 74 = .ok (.getfield 25, 3) := by decide +kernel
theorem dX7_rumour_77 : decode cX7_rumour 77 = .ok (.iload_n 1, 1) := by decide +kernel
theorem dX7_rumour_78 : decode cX7_rumour 78 = .ok (.iaload, 1) := by decide +kernel
theorem dX7_rumour_79 : decode cX7_rumour 79 = .ok (.ireturn, 1) := by decide +kernel
theorem dX7_rumour_80 : decode cX7_rumour 80 = .ok (.aload_n 0, 1) := by decide +kernel
theorem dX7_rumour_81 : decode cX7_rumour 81 = .ok (.getfield 25, 3) := by decide +kernel
theorem dX7_rumour_84 : decode cX7_rumour 84 = .ok (.iconst 5, 1) := by decide +kernel
theorem dX7_rumour_85 : decode cX7_rumour 85 = .ok (.iload_n 1, 1) := by decide +kernel
theorem dX7_rumour_86 : decode cX7_rumour 86 = .ok (.iadd, 1) := by decide +kernel
theorem dX7_rumour_87 : decode cX7_rumour 87 = .ok (.iaload, 1) := by decide +kernel
theorem dX7_rumour_88 : decode cX7_rumour 88 = .ok (.ireturn, 1) := by decide +kernel
theorem dX7_rumour_89 : decode cX7_rumour 89 = .ok (.aload_n 0, 1) := by decide +kernel
theorem dX7_rumour_90 : decode cX7_rumour 90 = .ok (.getfield 19, 3) := by decide +kernel
theorem dX7_rumour_93 : decode cX7_rumour 93 = .ok (.iload_n 1, 1) := by decide +kernel
theorem dX7_rumour_94 : decode cX7_rumour 94 = .ok (.iaload, 1) := by decide +kernel
theorem dX7_rumour_95 : decode cX7_rumour 95 = .ok (.ireturn, 1) := by decide +kernel
theorem dX7_rumour_96 : decode cX7_rumour 96 = .ok (.aload_n 0, 1) := by decide +kernel
theorem dX7_rumour_97 : decode cX7_rumour 97 = .ok (.iconst 0, 1) := by decide +kernel
theorem dX7_rumour_98 : decode cX7_rumour 98 = .ok (.iload_n 1, 1) := by decide +kernel
theorem dX7_rumour_99 : decode cX7_rumour 99 = .ok (.invokevirtual 137, 3) := by decide +kernel
theorem dX7_rumour_102 : decode cX7_rumour 102 = .ok (.ifCond .eq 7, 3) := by decide +kernel
theorem dX7_rumour_105 : decode cX7_rumour 105 = .ok (.iconst 1, 1) := by decide +kernel
theorem dX7_rumour_106 : decode cX7_rumour 106 = .ok (.goto 4, 3) := by decide +kernel
theorem dX7_rumour_109 : decode cX7_rumour 109 = .ok (.iconst 0, 1) := by decide +kernel
theorem dX7_rumour_110 : decode cX7_rumour 110 = .ok (.ireturn, 1) := by decide +kernel
theorem dX7_rumour_111 : decode cX7_rumour 111 = .ok (.bipush (-2), 2) := by decide +kernel
theorem dX7_rumour_113 : decode cX7_rumour 113 = .ok (.ireturn, 1) := by decide +kernel
theorem dX7_table_0 : decode cX7_table 0 = .ok (.aload_n 0, 1) := by decide +kernel
theorem dX7_table_1 : decode cX7_table 1 = .ok (.iload_n 1, 1) := by decide +kernel
theorem dX7_table_2 : decode cX7_table 2 = .ok (.invokevirtual 147, 3) := by decide +kernel
theorem dX7_table_5 : decode cX7_table 5 = .ok (.ifCond .eq 12, 3) := by decide +kernel
theorem dX7_table_8 : decode cX7_table 8 = .ok (.aload_n 0, 1) := by decide +kernel
theorem dX7_table_9 : decode cX7_table 9 = .ok (.getfield 22, 3) := by decide +kernel
theorem dX7_table_12 : decode cX7_table 12 = .ok (.iload_n 1, 1) := by decide +kernel
theorem dX7_table_13 : decode cX7_table 13 = .ok (.iaload, 1) := by decide +kernel
theorem dX7_table_14 : decode cX7_table 14 = .ok (.goto 4, 3) := by decide +kernel
theorem dX7_table_17 : decode cX7_table 17 = .ok (.iconst (-1), 1) := by decide +kernel
theorem dX7_table_18 : decode cX7_table 18 = .ok (.ireturn, 1) := by decide +kernel
theorem dX7_coinAt_0 : decode cX7_coinAt 0 = .ok (.bipush 31, 2) := by decide +kernel
theorem dX7_coinAt_2 : decode cX7_coinAt 2 = .ok (.iload_n 1, 1) := by decide +kernel
theorem dX7_coinAt_3 : decode cX7_coinAt 3 = .ok (.imul, 1) := by decide +kernel
theorem dX7_coinAt_4 : decode cX7_coinAt 4 = .ok (.bipush 10, 2) := by decide +kernel
theorem dX7_coinAt_6 : decode cX7_coinAt 6 = .ok (.iadd, 1) := by decide +kernel
theorem dX7_coinAt_7 : decode cX7_coinAt 7 = .ok (.iconst 5, 1) := by decide +kernel
theorem dX7_coinAt_8 : decode cX7_coinAt 8 = .ok (.iload_n 2, 1) := by decide +kernel
theorem dX7_coinAt_9 : decode cX7_coinAt 9 = .ok (.imul, 1) := by decide +kernel
theorem dX7_coinAt_10 : decode cX7_coinAt 10 = .ok (.iadd, 1) := by decide +kernel
theorem dX7_coinAt_11 : decode cX7_coinAt 11 = .ok (.iload_n 3, 1) := by decide +kernel
theorem dX7_coinAt_12 : decode cX7_coinAt 12 = .ok (.iadd, 1) := by decide +kernel
theorem dX7_coinAt_13 : decode cX7_coinAt 13 = .ok (.ireturn, 1) := by decide +kernel
theorem dX7_coins_0 : decode cX7_coins 0 = .ok (.aload_n 0, 1) := by decide +kernel
theorem dX7_coins_1 : decode cX7_coins 1 = .ok (.iload_n 1, 1) := by decide +kernel
theorem dX7_coins_2 : decode cX7_coins 2 = .ok (.invokevirtual 147, 3) := by decide +kernel
theorem dX7_coins_5 : decode cX7_coins 5 = .ok (.ifCond .eq 26, 3) := by decide +kernel
theorem dX7_coins_8 : decode cX7_coins 8 = .ok (.aload_n 0, 1) := by decide +kernel
theorem dX7_coins_9 : decode cX7_coins 9 = .ok (.iload_n 2, 1) := by decide +kernel
theorem dX7_coins_10 : decode cX7_coins 10 = .ok (.invokevirtual 143, 3) := by decide +kernel
theorem dX7_coins_13 : decode cX7_coins 13 = .ok (.ifCond .eq 18, 3) := by decide +kernel
theorem dX7_coins_16 : decode cX7_coins 16 = .ok (.aload_n 0, 1) := by decide +kernel
theorem dX7_coins_17 : decode cX7_coins 17 = .ok (.getfield 25, 3) := by decide +kernel
theorem dX7_coins_20 : decode cX7_coins 20 = .ok (.aload_n 0, 1) := by decide +kernel
theorem dX7_coins_21 : decode cX7_coins 21 = .ok (.iconst 0, 1) := by decide +kernel
theorem dX7_coins_22 : decode cX7_coins 22 = .ok (.iload_n 1, 1) := by decide +kernel
theorem dX7_coins_23 : decode cX7_coins 23 = .ok (.iload_n 2, 1) := by decide +kernel
theorem dX7_coins_24 : decode cX7_coins 24 = .ok (.invokevirtual 150, 3) := by decide +kernel
theorem dX7_coins_27 : decode cX7_coins 27 = .ok (.iaload, 1) := by decide +kernel
theorem dX7_coins_28 : decode cX7_coins 28 = .ok (.goto 4, 3) := by decide +kernel
theorem dX7_coins_31 : decode cX7_coins 31 = .ok (.iconst (-1), 1) := by decide +kernel
theorem dX7_coins_32 : decode cX7_coins 32 = .ok (.ireturn, 1) := by decide +kernel
theorem dX7_dawnOn_0 : decode cX7_dawnOn 0 = .ok (.bipush 31, 2) := by decide +kernel
theorem dX7_dawnOn_2 : decode cX7_dawnOn 2 = .ok (.iload_n 1, 1) := by decide +kernel
theorem dX7_dawnOn_3 : decode cX7_dawnOn 3 = .ok (.imul, 1) := by decide +kernel
theorem dX7_dawnOn_4 : decode cX7_dawnOn 4 = .ok (.istore_n 2, 1) := by decide +kernel
theorem dX7_dawnOn_5 : decode cX7_dawnOn 5 = .ok (.iconst 0, 1) := by decide +kernel
theorem dX7_dawnOn_6 : decode cX7_dawnOn 6 = .ok (.istore_n 3, 1) := by decide +kernel
theorem dX7_dawnOn_7 : decode cX7_dawnOn 7 = .ok (.iconst 0, 1) := by decide +kernel
theorem dX7_dawnOn_8 : decode cX7_dawnOn 8 = .ok (.istore 4, 2) := by decide +kernel
theorem dX7_dawnOn_10 : decode cX7_dawnOn 10 = .ok (.iload 4, 2) := by decide +kernel
theorem dX7_dawnOn_12 : decode cX7_dawnOn 12 = .ok (.aload_n 0, 1) := by decide +kernel
theorem dX7_dawnOn_13 : decode cX7_dawnOn 13 = .ok (.getfield 129, 3) := by decide +kernel
theorem dX7_dawnOn_16 : decode cX7_dawnOn 16 = .ok (.if_icmp .ge 115, 3) := by decide +kernel
theorem dX7_dawnOn_19 : decode cX7_dawnOn 19 = .ok (.iconst 0, 1) := by decide +kernel
theorem dX7_dawnOn_20 : decode cX7_dawnOn 20 = .ok (.istore 5, 2) := by decide +kernel
theorem dX7_dawnOn_22 : decode cX7_dawnOn 22 = .ok (.iload 5, 2) := by decide +kernel
theorem dX7_dawnOn_24 : decode cX7_dawnOn 24 = .ok (.aload_n 0, 1) := by decide +kernel
theorem dX7_dawnOn_25 : decode cX7_dawnOn 25 = .ok (.getfield 77, 3) := by decide +kernel
theorem dX7_dawnOn_28 : decode cX7_dawnOn 28 = .ok (.if_icmp .ge 97, 3) := by decide +kernel
theorem dX7_dawnOn_31 : decode cX7_dawnOn 31 = .ok (.aload_n 0, 1) := by decide +kernel
theorem dX7_dawnOn_32 : decode cX7_dawnOn 32 = .ok (.getfield 25, 3) := by decide +kernel
theorem dX7_dawnOn_35 : decode cX7_dawnOn 35 = .ok (.iload_n 2, 1) := by decide +kernel
theorem dX7_dawnOn_36 : decode cX7_dawnOn 36 = .ok (.iload 5, 2) := by decide +kernel
theorem dX7_dawnOn_38 : decode cX7_dawnOn 38 = .ok (.iadd, 1) := by decide +kernel
theorem dX7_dawnOn_39 : decode cX7_dawnOn 39 = .ok (.iaload, 1) := by decide +kernel
theorem dX7_dawnOn_40 : decode cX7_dawnOn 40 = .ok (.aload_n 0, 1) := by decide +kernel
theorem dX7_dawnOn_41 : decode cX7_dawnOn 41 = .ok (.getfield 22, 3) := by decide +kernel
theorem dX7_dawnOn_44 : decode cX7_dawnOn 44 = .ok (.iload 4, 2) := by decide +kernel
theorem dX7_dawnOn_46 : decode cX7_dawnOn 46 = .ok (.iaload, 1) := by decide +kernel
theorem dX7_dawnOn_47 : decode cX7_dawnOn 47 = .ok (.invokestatic 98, 3) := by decide +kernel
theorem dX7_dawnOn_50 : decode cX7_dawnOn 50 = .ok (.ifCond .eq 26, 3) := by decide +kernel
theorem dX7_dawnOn_53 : decode cX7_dawnOn 53 = .ok (.aload_n 0, 1) := by decide +kernel
theorem dX7_dawnOn_54 : decode cX7_dawnOn 54 = .ok (.getfield 25, 3) := by decide +kernel
theorem dX7_dawnOn_57 : decode cX7_dawnOn 57 = .ok (.aload_n 0, 1) := by decide +kernel
theorem dX7_dawnOn_58 : decode cX7_dawnOn 58 = .ok (.iload_n 1, 1) := by decide +kernel
theorem dX7_dawnOn_59 : decode cX7_dawnOn 59 = .ok (.iload 4, 2) := by decide +kernel
theorem dX7_dawnOn_61 : decode cX7_dawnOn 61 = .ok (.iload 5, 2) := by decide +kernel
theorem dX7_dawnOn_63 : decode cX7_dawnOn 63 = .ok (.invokevirtual 150, 3) := by decide +kernel
theorem dX7_dawnOn_66 : decode cX7_dawnOn 66 = .ok (.iaload, 1) := by decide +kernel
theorem dX7_dawnOn_67 : decode cX7_dawnOn 67 = .ok (.bipush 99, 2) := by decide +kernel
theorem dX7_dawnOn_69 : decode cX7_dawnOn 69 = .ok (.if_icmp .ge 7, 3) := by decide +kernel
theorem dX7_dawnOn_72 : decode cX7_dawnOn 72 = .ok (.iconst 1, 1) := by decide +kernel
theorem dX7_dawnOn_73 : decode cX7_dawnOn 73 = .ok (.goto 4, 3) := by decide +kernel
theorem dX7_dawnOn_76 : decode cX7_dawnOn 76 = .ok (.iconst 0, 1) := by decide +kernel
theorem dX7_dawnOn_77 : decode cX7_dawnOn 77 = .ok (.istore 6, 2) := by decide +kernel
theorem dX7_dawnOn_79 : decode cX7_dawnOn 79 = .ok (.aload_n 0, 1) := by decide +kernel
theorem dX7_dawnOn_80 : decode cX7_dawnOn 80 = .ok (.getfield 25, 3) := by decide +kernel
theorem dX7_dawnOn_83 : decode cX7_dawnOn 83 = .ok (.aload_n 0, 1) := by decide +kernel
theorem dX7_dawnOn_84 : decode cX7_dawnOn 84 = .ok (.iload_n 1, 1) := by decide +kernel
theorem dX7_dawnOn_85 : decode cX7_dawnOn 85 = .ok (.iload 4, 2) := by decide +kernel
theorem dX7_dawnOn_87 : decode cX7_dawnOn 87 = .ok (.iload 5, 2) := by decide +kernel
theorem dX7_dawnOn_89 : decode cX7_dawnOn 89 = .ok (.invokevirtual 150, 3) := by decide +kernel
theorem dX7_dawnOn_92 : decode cX7_dawnOn 92 = .ok (.dup2, 1) := by decide +kernel
theorem dX7_dawnOn_93 : decode cX7_dawnOn 93 = .ok (.iaload, 1) := by decide +kernel
theorem dX7_dawnOn_94 : decode cX7_dawnOn 94 = .ok (.iload 6, 2) := by decide +kernel
theorem dX7_dawnOn_96 : decode cX7_dawnOn 96 = .ok (.ifCond .eq 7, 3) := by decide +kernel
theorem dX7_dawnOn_99 : decode cX7_dawnOn 99 = .ok (.iconst 1, 1) := by decide +kernel
theorem dX7_dawnOn_100 : decode cX7_dawnOn 100 = .ok (.goto 4, 3) := by decide +kernel
theorem dX7_dawnOn_103 : decode cX7_dawnOn 103 = .ok (.iconst 0, 1) := by decide +kernel
theorem dX7_dawnOn_104 : decode cX7_dawnOn 104 = .ok (.iadd, 1) := by decide +kernel
theorem dX7_dawnOn_105 : decode cX7_dawnOn 105 = .ok (.iastore, 1) := by decide +kernel
theorem dX7_dawnOn_106 : decode cX7_dawnOn 106 = .ok (.iload_n 3, 1) := by decide +kernel
theorem dX7_dawnOn_107 : decode cX7_dawnOn 107 = .ok (.iload 6, 2) := by decide +kernel
theorem dX7_dawnOn_109 : decode cX7_dawnOn 109 = .ok (.ifCond .eq 7, 3) := by decide +kernel
theorem dX7_dawnOn_112 : decode cX7_dawnOn 112 = .ok (.iconst 1, 1) := by decide +kernel
theorem dX7_dawnOn_113 : decode cX7_dawnOn 113 = .ok (.goto 4, 3) := by decide +kernel
theorem dX7_dawnOn_116 : decode cX7_dawnOn 116 = .ok (.iconst 0, 1) := by decide +kernel
theorem dX7_dawnOn_117 : decode cX7_dawnOn 117 = .ok (.iadd, 1) := by decide +kernel
theorem dX7_dawnOn_118 : decode cX7_dawnOn 118 = .ok (.istore_n 3, 1) := by decide +kernel
theorem dX7_dawnOn_119 : decode cX7_dawnOn 119 = .ok (.iinc 5 1, 3) := by decide +kernel
theorem dX7_dawnOn_122 : decode cX7_dawnOn 122 = .ok (.goto (-100), 3) := by decide +kernel
theorem dX7_dawnOn_125 : decode cX7_dawnOn 125 = .ok (.iinc 4 1, 3) := by decide +kernel
theorem dX7_dawnOn_128 : decode cX7_dawnOn 128 = .ok (.goto (-118), 3) := by decide +kernel
theorem dX7_dawnOn_131 : decode cX7_dawnOn 131 = .ok (.aload_n 0, 1) := by decide +kernel
theorem dX7_dawnOn_132 : decode cX7_dawnOn 132 = .ok (.getfield 25, 3) := by decide +kernel
theorem dX7_dawnOn_135 : decode cX7_dawnOn 135 = .ok (.iload_n 2, 1) := by decide +kernel
theorem dX7_dawnOn_136 : decode cX7_dawnOn 136 = .ok (.bipush 30, 2) := by decide +kernel
theorem dX7_dawnOn_138 : decode cX7_dawnOn 138 = .ok (.iadd, 1) := by decide +kernel
theorem dX7_dawnOn_139 : decode cX7_dawnOn 139 = .ok (.dup2, 1) := by decide +kernel
theorem dX7_dawnOn_140 : decode cX7_dawnOn 140 = .ok (.iaload, 1) := by decide +kernel
theorem dX7_dawnOn_141 : decode cX7_dawnOn 141 = .ok (.iconst 1, 1) := by decide +kernel
theorem dX7_dawnOn_142 : decode cX7_dawnOn 142 = .ok (.iadd, 1) := by decide +kernel
theorem dX7_dawnOn_143 : decode cX7_dawnOn 143 = .ok (.iastore, 1) := by decide +kernel
theorem dX7_dawnOn_144 : decode cX7_dawnOn 144 = .ok (.iconst 0, 1) := by decide +kernel
theorem dX7_dawnOn_145 : decode cX7_dawnOn 145 = .ok (.istore 4, 2) := by decide +kernel
theorem dX7_dawnOn_147 : decode cX7_dawnOn 147 = .ok (.iload 4, 2) := by decide +kernel
theorem dX7_dawnOn_149 : decode cX7_dawnOn 149 = .ok (.aload_n 0, 1) := by decide +kernel
theorem dX7_dawnOn_150 : decode cX7_dawnOn 150 = .ok (.getfield 77, 3) := by decide +kernel
theorem dX7_dawnOn_153 : decode cX7_dawnOn 153 = .ok (.if_icmp .ge 87, 3) := by decide +kernel
theorem dX7_dawnOn_156 : decode cX7_dawnOn 156 = .ok (.aload_n 0, 1) := by decide +kernel
theorem dX7_dawnOn_157 : decode cX7_dawnOn 157 = .ok (.getfield 25, 3) := by decide +kernel
theorem dX7_dawnOn_160 : decode cX7_dawnOn 160 = .ok (.iload_n 2, 1) := by decide +kernel
theorem dX7_dawnOn_161 : decode cX7_dawnOn 161 = .ok (.iload 4, 2) := by decide +kernel
theorem dX7_dawnOn_163 : decode cX7_dawnOn 163 = .ok (.iadd, 1) := by decide +kernel
theorem dX7_dawnOn_164 : decode cX7_dawnOn 164 = .ok (.iaload, 1) := by decide +kernel
theorem dX7_dawnOn_165 : decode cX7_dawnOn 165 = .ok (.istore 5, 2) := by decide +kernel
theorem dX7_dawnOn_167 : decode cX7_dawnOn 167 = .ok (.iload 5, 2) := by decide +kernel
theorem dX7_dawnOn_169 : decode cX7_dawnOn 169 = .ok (.iload 5, 2) := by decide +kernel
theorem dX7_dawnOn_171 : decode cX7_dawnOn 171 = .ok (.iconst 1, 1) := by decide +kernel
theorem dX7_dawnOn_172 : decode cX7_dawnOn 172 = .ok (.ishl, 1) := by decide +kernel
theorem dX7_dawnOn_173 : decode cX7_dawnOn 173 = .ok (.ior, 1) := by decide +kernel
theorem dX7_dawnOn_174 : decode cX7_dawnOn 174 = .ok (.iload 5, 2) := by decide +kernel
theorem dX7_dawnOn_176 : decode cX7_dawnOn 176 = .ok (.iconst 1, 1) := by decide +kernel
theorem dX7_dawnOn_177 : decode cX7_dawnOn 177 = .ok (.ishr, 1) := by decide +kernel
theorem dX7_dawnOn_178 : decode cX7_dawnOn 178 = .ok (.ior, 1) := by decide +kernel
theorem dX7_dawnOn_179 : decode cX7_dawnOn 179 = .ok (.bipush 63, 2) := by decide +kernel
theorem dX7_dawnOn_181 : decode cX7_dawnOn 181 = .ok (.iand, 1) := by decide +kernel
theorem dX7_dawnOn_182 : decode cX7_dawnOn 182 = .ok (.aload_n 0, 1) := by decide +kernel
theorem dX7_dawnOn_183 : decode cX7_dawnOn 183 = .ok (.getfield 25, 3) := by decide +kernel
theorem dX7_dawnOn_186 : decode cX7_dawnOn 186 = .ok (.iload_n 2, 1) := by decide +kernel
theorem dX7_dawnOn_187 : decode cX7_dawnOn 187 = .ok (.iconst 5, 1) := by decide +kernel
theorem dX7_dawnOn_188 : decode cX7_dawnOn 188 = .ok (.iadd, 1) := by decide +kernel
theorem dX7_dawnOn_189 : decode cX7_dawnOn 189 = .ok (.iload 4, 2) := by decide +kernel
theorem dX7_dawnOn_191 : decode cX7_dawnOn 191 = .ok (.iadd, 1) := by decide +kernel
theorem dX7_dawnOn_192 : decode cX7_dawnOn 192 = .ok (.iaload, 1) := by decide +kernel
theorem dX7_dawnOn_193 : decode cX7_dawnOn 193 = .ok (.iconst (-1), 1) := by decide +kernel
theorem dX7_dawnOn_194 : decode cX7_dawnOn 194 = .ok (.ixor, 1) := by decide +kernel
theorem dX7_dawnOn_195 : decode cX7_dawnOn 195 = .ok (.iand, 1) := by decide +kernel
theorem dX7_dawnOn_196 : decode cX7_dawnOn 196 = .ok (.istore 6, 2) := by decide +kernel
theorem dX7_dawnOn_198 : decode cX7_dawnOn 198 = .ok (.aload_n 0, 1) := by decide +kernel
theorem dX7_dawnOn_199 : decode cX7_dawnOn 199 = .ok (.getfield 25, 3) := by decide +kernel
theorem dX7_dawnOn_202 : decode cX7_dawnOn 202 = .ok (.iload_n 2, 1) := by decide +kernel
theorem dX7_dawnOn_203 : decode cX7_dawnOn 203 = .ok (.iload 4, 2) := by decide +kernel
theorem dX7_dawnOn_205 : decode cX7_dawnOn 205 = .ok (.iadd, 1) := by decide +kernel
theorem dX7_dawnOn_206 : decode cX7_dawnOn 206 = .ok (.aload_n 0, 1) := by decide +kernel
theorem dX7_dawnOn_207 : decode cX7_dawnOn 207 = .ok (.getfield 13, 3) := by decide +kernel
theorem dX7_dawnOn_210 : decode cX7_dawnOn 210 = .ok (.iload 4, 2) := by decide +kernel
theorem dX7_dawnOn_212 : decode cX7_dawnOn 212 = .ok (.iaload, 1) := by decide +kernel
theorem dX7_dawnOn_213 : decode cX7_dawnOn 213 = .ok (.iconst 1, 1) := by decide +kernel
theorem dX7_dawnOn_214 : decode cX7_dawnOn 214 = .ok (.if_icmp .ne 17, 3) := by decide +kernel
theorem dX7_dawnOn_217 : decode cX7_dawnOn 217 = .ok (.aload_n 0, 1) := by decide +kernel
theorem dX7_dawnOn_218 : decode cX7_dawnOn 218 = .ok (.iload_n 1, 1) := by decide +kernel
theorem dX7_dawnOn_219 : decode cX7_dawnOn 219 = .ok (.iload 4, 2) := by decide +kernel
theorem dX7_dawnOn_221 : decode cX7_dawnOn 221 = .ok (.invokevirtual 137, 3) := by decide +kernel
theorem dX7_dawnOn_224 : decode cX7_dawnOn 224 = .ok (.ifCond .eq 7, 3) := by decide +kernel
theorem dX7_dawnOn_227 : decode cX7_dawnOn 227 = .ok (.iconst 0, 1) := by decide +kernel
theorem dX7_dawnOn_228 : decode cX7_dawnOn 228 = .ok (.goto 5, 3) := by decide +kernel
theorem dX7_dawnOn_231 : decode cX7_dawnOn 231 = .ok (.iload 6, 2) := by decide +kernel
theorem dX7_dawnOn_233 : decode cX7_dawnOn 233 = .ok (.iastore, 1) := by decide +kernel
theorem dX7_dawnOn_234 : decode cX7_dawnOn 234 = .ok (.iinc 4 1, 3) := by decide +kernel
theorem dX7_dawnOn_237 : decode cX7_dawnOn 237 = .ok (.goto (-90), 3) := by decide +kernel
theorem dX7_dawnOn_240 : decode cX7_dawnOn 240 = .ok (.iload_n 3, 1) := by decide +kernel
theorem dX7_dawnOn_241 : decode cX7_dawnOn 241 = .ok (.ireturn, 1) := by decide +kernel
theorem dX7_canSay_0 : decode cX7_canSay 0 = .ok (.bipush 31, 2) := by decide +kernel
theorem dX7_canSay_2 : decode cX7_canSay 2 = .ok (.iload_n 1, 1) := by decide +kernel
theorem dX7_canSay_3 : decode cX7_canSay 3 = .ok (.imul, 1) := by decide +kernel
theorem dX7_canSay_4 : decode cX7_canSay 4 = .ok (.istore 4, 2) := by decide +kernel
theorem dX7_canSay_6 : decode cX7_canSay 6 = .ok (.aload_n 0, 1) := by decide +kernel
theorem dX7_canSay_7 : decode cX7_canSay 7 = .ok (.iload_n 1, 1) := by decide +kernel
theorem dX7_canSay_8 : decode cX7_canSay 8 = .ok (.iload_n 2, 1) := by decide +kernel
theorem dX7_canSay_9 : decode cX7_canSay 9 = .ok (.invokevirtual 137, 3) := by decide +kernel
theorem dX7_canSay_12 : decode cX7_canSay 12 = .ok (.ifCond .ne 41, 3) := by decide +kernel
theorem dX7_canSay_15 : decode cX7_canSay 15 = .ok (.aload_n 0, 1) := by decide +kernel
theorem dX7_canSay_16 : decode cX7_canSay 16 = .ok (.getfield 25, 3) := by decide +kernel
theorem dX7_canSay_19 : decode cX7_canSay 19 = .ok (.iload 4, 2) := by decide +kernel
theorem dX7_canSay_21 : decode cX7_canSay 21 = .ok (.iload_n 2, 1) := by decide +kernel
theorem dX7_canSay_22 : decode cX7_canSay 22 = .ok (.iadd, 1) := by decide +kernel
theorem dX7_canSay_23 : decode cX7_canSay 23 = .ok (.iaload, 1) := by decide +kernel
theorem dX7_canSay_24 : decode cX7_canSay 24 = .ok (.iload_n 3, 1) := by decide +kernel
theorem dX7_canSay_25 : decode cX7_canSay 25 = .ok (.invokestatic 98, 3) := by decide +kernel
theorem dX7_canSay_28 : decode cX7_canSay 28 = .ok (.ifCond .ne 25, 3) := by decide +kernel
theorem dX7_canSay_31 : decode cX7_canSay 31 = .ok (.aload_n 0, 1) := by decide +kernel
theorem dX7_canSay_32 : decode cX7_canSay 32 = .ok (.getfield 25, 3) := by decide +kernel
theorem dX7_canSay_35 : decode cX7_canSay 35 = .ok (.iload 4, 2) := by decide +kernel
theorem dX7_canSay_37 : decode cX7_canSay 37 = .ok (.iconst 5, 1) := by decide +kernel
theorem dX7_canSay_38 : decode cX7_canSay 38 = .ok (.iadd, 1) := by decide +kernel
theorem dX7_canSay_39 : decode cX7_canSay 39 = .ok (.iload_n 2, 1) := by decide +kernel
theorem dX7_canSay_40 : decode cX7_canSay 40 = .ok (.iadd, 1) := by decide +kernel
theorem dX7_canSay_41 : decode cX7_canSay 41 = .ok (.iaload, 1) := by decide +kernel
theorem dX7_canSay_42 : decode cX7_canSay 42 = .ok (.iload_n 3, 1) := by decide +kernel
theorem dX7_canSay_43 : decode cX7_canSay 43 = .ok (.invokestatic 98, 3) := by decide +kernel
theorem dX7_canSay_46 : decode cX7_canSay 46 = .ok (.ifCond .ne 7, 3) := by decide +kernel
theorem dX7_canSay_49 : decode cX7_canSay 49 = .ok (.iconst 1, 1) := by decide +kernel
theorem dX7_canSay_50 : decode cX7_canSay 50 = .ok (.goto 4, 3) := by decide +kernel
theorem dX7_canSay_53 : decode cX7_canSay 53 = .ok (.iconst 0, 1) := by decide +kernel
theorem dX7_canSay_54 : decode cX7_canSay 54 = .ok (.ireturn, 1) := by decide +kernel
theorem dX7_canDeny_0 : decode cX7_canDeny 0 = .ok (.aload_n 0, 1) := by decide +kernel
theorem dX7_canDeny_1 : decode cX7_canDeny 1 = .ok (.iload_n 1, 1) := by decide +kernel
theorem dX7_canDeny_2 : decode cX7_canDeny 2 = .ok (.iload_n 2, 1) := by decide +kernel
theorem dX7_canDeny_3 : decode cX7_canDeny 3 = .ok (.invokevirtual 137, 3) := by decide +kernel
theorem dX7_canDeny_6 : decode cX7_canDeny 6 = .ok (.ifCond .eq 12, 3) := by decide +kernel
theorem dX7_canDeny_9 : decode cX7_canDeny 9 = .ok (.aload_n 0, 1) := by decide +kernel
theorem dX7_canDeny_10 : decode cX7_canDeny 10 = .ok (.getfield 13, 3) := by decide +kernel
theorem dX7_canDeny_13 : decode cX7_canDeny 13 = .ok (.iload_n 2, 1) := by decide +kernel
theorem dX7_canDeny_14 : decode cX7_canDeny 14 = .ok (.iaload, 1) := by decide +kernel
theorem dX7_canDeny_15 : decode cX7_canDeny 15 = .ok (.ifCond .eq 27, 3) := by decide +kernel
theorem dX7_canDeny_18 : decode cX7_canDeny 18 = .ok (.aload_n 0, 1) := by decide +kernel
theorem dX7_canDeny_19 : decode cX7_canDeny 19 = .ok (.getfield 25, 3) := by decide +kernel
theorem dX7_canDeny_22 : decode cX7_canDeny 22 = .ok (.bipush 31, 2) := by decide +kernel
theorem dX7_canDeny_24 : decode cX7_canDeny 24 = .ok (.iload_n 1, 1) := by decide +kernel
theorem dX7_canDeny_25 : decode cX7_canDeny 25 = .ok (.imul, 1) := by decide +kernel
theorem dX7_canDeny_26 : decode cX7_canDeny 26 = .ok (.iconst 5, 1) := by decide +kernel
theorem dX7_canDeny_27 : decode cX7_canDeny 27 = .ok (.iadd, 1) := by decide +kernel
theorem dX7_canDeny_28 : decode cX7_canDeny 28 = .ok (.iload_n 2, 1) := by decide +kernel
theorem dX7_canDeny_29 : decode cX7_canDeny 29 = .ok (.iadd, 1) := by decide +kernel
theorem dX7_canDeny_30 : decode cX7_canDeny 30 = .ok (.iaload, 1) := by decide +kernel
theorem dX7_canDeny_31 : decode cX7_canDeny 31 = .ok (.iload_n 3, 1) := by decide +kernel
theorem dX7_canDeny_32 : decode cX7_canDeny 32 = .ok (.invokestatic 98, 3) := by decide +kernel
theorem dX7_canDeny_35 : decode cX7_canDeny 35 = .ok (.ifCond .ne 7, 3) := by decide +kernel
theorem dX7_canDeny_38 : decode cX7_canDeny 38 = .ok (.iconst 1, 1) := by decide +kernel
theorem dX7_canDeny_39 : decode cX7_canDeny 39 = .ok (.goto 4, 3) := by decide +kernel
theorem dX7_canDeny_42 : decode cX7_canDeny 42 = .ok (.iconst 0, 1) := by decide +kernel
theorem dX7_canDeny_43 : decode cX7_canDeny 43 = .ok (.ireturn, 1) := by decide +kernel
theorem dX7_denyOn_0 : decode cX7_denyOn 0 = .ok (.aload_n 0, 1) := by decide +kernel
theorem dX7_denyOn_1 : decode cX7_denyOn 1 = .ok (.getfield 25, 3) := by decide +kernel
theorem dX7_denyOn_4 : decode cX7_denyOn 4 = .ok (.bipush 31, 2) := by decide +kernel
theorem dX7_denyOn_6 : decode cX7_denyOn 6 = .ok (.iload_n 1, 1) := by decide +kernel
theorem dX7_denyOn_7 : decode cX7_denyOn 7 = .ok (.imul, 1) := by decide +kernel
theorem dX7_denyOn_8 : decode cX7_denyOn 8 = .ok (.iconst 5, 1) := by decide +kernel
theorem dX7_denyOn_9 : decode cX7_denyOn 9 = .ok (.iadd, 1) := by decide +kernel
theorem dX7_denyOn_10 : decode cX7_denyOn 10 = .ok (.iload_n 2, 1) := by decide +kernel
theorem dX7_denyOn_11 : decode cX7_denyOn 11 = .ok (.iadd, 1) := by decide +kernel
theorem dX7_denyOn_12 : decode cX7_denyOn 12 = .ok (.dup2, 1) := by decide +kernel
theorem dX7_denyOn_13 : decode cX7_denyOn 13 = .ok (.iaload, 1) := by decide +kernel
theorem dX7_denyOn_14 : decode cX7_denyOn 14 = .ok (.iconst 1, 1) := by decide +kernel
theorem dX7_denyOn_15 : decode cX7_denyOn 15 = .ok (.iload_n 3, 1) := by decide +kernel
theorem dX7_denyOn_16 : decode cX7_denyOn 16 = .ok (.ishl, 1) := by decide +kernel
theorem dX7_denyOn_17 : decode cX7_denyOn 17 = .ok (.ior, 1) := by decide +kernel
theorem dX7_denyOn_18 : decode cX7_denyOn 18 = .ok (.iastore, 1) := by decide +kernel
theorem dX7_denyOn_19 : decode cX7_denyOn 19 = .ok (.aload_n 0, 1) := by decide +kernel
theorem dX7_denyOn_20 : decode cX7_denyOn 20 = .ok (.getfield 25, 3) := by decide +kernel
theorem dX7_denyOn_23 : decode cX7_denyOn 23 = .ok (.bipush 31, 2) := by decide +kernel
theorem dX7_denyOn_25 : decode cX7_denyOn 25 = .ok (.iload_n 1, 1) := by decide +kernel
theorem dX7_denyOn_26 : decode cX7_denyOn 26 = .ok (.imul, 1) := by decide +kernel
theorem dX7_denyOn_27 : decode cX7_denyOn 27 = .ok (.iload_n 2, 1) := by decide +kernel
theorem dX7_denyOn_28 : decode cX7_denyOn 28 = .ok (.iadd, 1) := by decide +kernel
theorem dX7_denyOn_29 : decode cX7_denyOn 29 = .ok (.dup2, 1) := by decide +kernel
theorem dX7_denyOn_30 : decode cX7_denyOn 30 = .ok (.iaload, 1) := by decide +kernel
theorem dX7_denyOn_31 : decode cX7_denyOn 31 = .ok (.iconst 1, 1) := by decide +kernel
theorem dX7_denyOn_32 : decode cX7_denyOn 32 = .ok (.iload_n 3, 1) := by decide +kernel
theorem dX7_denyOn_33 : decode cX7_denyOn 33 = .ok (.ishl, 1) := by decide +kernel
theorem dX7_denyOn_34 : decode cX7_denyOn 34 = .ok (.iconst (-1), 1) := by decide +kernel
theorem dX7_denyOn_35 : decode cX7_denyOn 35 = .ok (.ixor, 1) := by decide +kernel
theorem dX7_denyOn_36 : decode cX7_denyOn 36 = .ok (.iand, 1) := by decide +kernel
theorem dX7_denyOn_37 : decode cX7_denyOn 37 = .ok (.iastore, 1) := by decide +kernel
theorem dX7_denyOn_38 : decode cX7_denyOn 38 = .ok (.return_, 1) := by decide +kernel
theorem dX7_keepAct_0 : decode cX7_keepAct 0 = .ok (.iconst 0, 1) := by decide +kernel
theorem dX7_keepAct_1 : decode cX7_keepAct 1 = .ok (.istore_n 1, 1) := by decide +kernel
theorem dX7_keepAct_2 : decode cX7_keepAct 2 = .ok (.iload_n 1, 1) := by decide +kernel
theorem dX7_keepAct_3 : decode cX7_keepAct 3 = .ok (.bipush 31, 2) := by decide +kernel
theorem dX7_keepAct_5 : decode cX7_keepAct 5 = .ok (.if_icmp .ge 29, 3) := by decide +kernel
theorem dX7_keepAct_8 : decode cX7_keepAct 8 = .ok (.aload_n 0, 1) := by decide +kernel
theorem dX7_keepAct_9 : decode cX7_keepAct 9 = .ok (.getfield 49, 3) := by decide +kernel
theorem dX7_keepAct_12 : decode cX7_keepAct 12 = .ok (.bipush 31, 2) := by decide +kernel
theorem dX7_keepAct_14 : decode cX7_keepAct 14 = .ok (.aload_n 0, 1) := by decide +kernel
theorem dX7_keepAct_15 : decode cX7_keepAct 15 = .ok (.getfield 154, 3) := by decide +kernel
theorem dX7_keepAct_18 : decode cX7_keepAct 18 = .ok (.imul, 1) := by decide +kernel
theorem dX7_keepAct_19 : decode cX7_keepAct 19 = .ok (.iload_n 1, 1) := by decide +kernel
theorem dX7_keepAct_20 : decode cX7_keepAct 20 = .ok (.iadd, 1) := by decide +kernel
theorem dX7_keepAct_21 : decode cX7_keepAct 21 = .ok (.aload_n 0, 1) := by decide +kernel
theorem dX7_keepAct_22 : decode cX7_keepAct 22 = .ok (.getfield 25, 3) := by decide +kernel
theorem dX7_keepAct_25 : decode cX7_keepAct 25 = .ok (.iload_n 1, 1) := by decide +kernel
theorem dX7_keepAct_26 : decode cX7_keepAct 26 = .ok (.iaload, 1) := by decide +kernel
theorem dX7_keepAct_27 : decode cX7_keepAct 27 = .ok (.iastore, 1) := by decide +kernel
theorem dX7_keepAct_28 : decode cX7_keepAct 28 = .ok (.iinc 1 1, 3) := by decide +kernel
theorem dX7_keepAct_31 : decode cX7_keepAct 31 = .ok (.goto (-29), 3) := by decide +kernel
theorem dX7_keepAct_34 : decode cX7_keepAct 34 = .ok (.aload_n 0, 1) := by decide +kernel
theorem dX7_keepAct_35 : decode cX7_keepAct 35 = .ok (.aload_n 0, 1) := by decide +kernel
theorem dX7_keepAct_36 : decode cX7_keepAct 36 = .ok (.getfield 154, 3) := by decide +kernel
theorem dX7_keepAct_39 : decode cX7_keepAct 39 = .ok (.iconst 1, 1) := by decide +kernel
theorem dX7_keepAct_40 : decode cX7_keepAct 40 = .ok (.iadd, 1) := by decide +kernel
theorem dX7_keepAct_41 : decode cX7_keepAct 41 = .ok (.bipush 14, 2) := by decide +kernel
theorem dX7_keepAct_43 : decode cX7_keepAct 43 = .ok (.irem, 1) := by decide +kernel
theorem dX7_keepAct_44 : decode cX7_keepAct 44 = .ok (.putfield 154, 3) := by decide +kernel
theorem dX7_keepAct_47 : decode cX7_keepAct 47 = .ok (.aload_n 0, 1) := by decide +kernel
theorem dX7_keepAct_48 : decode cX7_keepAct 48 = .ok (.aload_n 0, 1) := by decide +kernel
theorem dX7_keepAct_49 : decode cX7_keepAct 49 = .ok (.getfield 132, 3) := by decide +kernel
theorem dX7_keepAct_52 : decode cX7_keepAct 52 = .ok (.bipush 14, 2) := by decide +kernel
theorem dX7_keepAct_54 : decode cX7_keepAct 54 = .ok (.if_icmp .ge 12, 3) := by decide +kernel
theorem dX7_keepAct_57 : decode cX7_keepAct 57 = .ok (.aload_n 0, 1) := by decide +kernel
theorem dX7_keepAct_58 : decode cX7_keepAct 58 = .ok (.getfield 132, 3) := by decide +kernel
theorem dX7_keepAct_61 : decode cX7_keepAct 61 = .ok (.iconst 1, 1) := by decide +kernel
theorem dX7_keepAct_62 : decode cX7_keepAct 62 = .ok (.iadd, 1) := by decide +kernel
theorem dX7_keepAct_63 : decode cX7_keepAct 63 = .ok (.goto 5, 3) := by decide +kernel
theorem dX7_keepAct_66 : decode cX7_keepAct 66 = .ok (.bipush 14, 2) := by decide +kernel
theorem dX7_keepAct_68 : decode cX7_keepAct 68 = .ok (.putfield 132, 3) := by decide +kernel
theorem dX7_keepAct_71 : decode cX7_keepAct 71 = .ok (.return_, 1) := by decide +kernel
theorem dX7_dawn_0 : decode cX7_dawn 0 = .ok (.aload_n 0, 1) := by decide +kernel
theorem dX7_dawn_1 : decode cX7_dawn 1 = .ok (.invokevirtual 157, 3) := by decide +kernel
theorem dX7_dawn_4 : decode cX7_dawn 4 = .ok (.aload_n 0, 1) := by decide +kernel
theorem dX7_dawn_5 : decode cX7_dawn 5 = .ok (.iconst 0, 1) := by decide +kernel
theorem dX7_dawn_6 : decode cX7_dawn 6 = .ok (.invokevirtual 160, 3) := by decide +kernel
theorem dX7_dawn_9 : decode cX7_dawn 9 = .ok (.ireturn, 1) := by decide +kernel
theorem dX7_say_0 : decode cX7_say 0 = .ok (.aload_n 0, 1) := by decide +kernel
theorem dX7_say_1 : decode cX7_say 1 = .ok (.iload_n 1, 1) := by decide +kernel
theorem dX7_say_2 : decode cX7_say 2 = .ok (.invokevirtual 143, 3) := by decide +kernel
theorem dX7_say_5 : decode cX7_say 5 = .ok (.ifCond .ne 5, 3) := by decide +kernel
theorem dX7_say_8 : decode cX7_say 8 = .ok (.iconst (-1), 1) := by decide +kernel
theorem dX7_say_9 : decode cX7_say 9 = .ok (.ireturn, 1) := by decide +kernel
theorem dX7_say_10 : decode cX7_say 10 = .ok (.iload_n 2, 1) := by decide +kernel
theorem dX7_say_11 : decode cX7_say 11 = .ok (.invokestatic 163, 3) := by decide +kernel
theorem dX7_say_14 : decode cX7_say 14 = .ok (.ifCond .ne 6, 3) := by decide +kernel
theorem dX7_say_17 : decode cX7_say 17 = .ok (.bipush (-2), 2) := by decide +kernel
theorem dX7_say_19 : decode cX7_say 19 = .ok (.ireturn, 1) := by decide +kernel
theorem dX7_say_20 : decode cX7_say 20 = .ok (.aload_n 0, 1) := by decide +kernel
theorem dX7_say_21 : decode cX7_say 21 = .ok (.iconst 0, 1) := by decide +kernel
theorem dX7_say_22 : decode cX7_say 22 = .ok (.iload_n 1, 1) := by decide +kernel
theorem dX7_say_23 : decode cX7_say 23 = .ok (.iload_n 2, 1) := by decide +kernel
theorem dX7_say_24 : decode cX7_say 24 = .ok (.invokevirtual 166, 3) := by decide +kernel
theorem dX7_say_27 : decode cX7_say 27 = .ok (.ifCond .ne 6, 3) := by decide +kernel
theorem dX7_say_30 : decode cX7_say 30 = .ok (.bipush (-3), 2) := by decide +kernel
theorem dX7_say_32 : decode cX7_say 32 = .ok (.ireturn, 1) := by decide +kernel
theorem dX7_say_33 : decode cX7_say 33 = .ok (.aload_n 0, 1) := by decide +kernel
theorem dX7_say_34 : decode cX7_say 34 = .ok (.invokevirtual 157, 3) := by decide +kernel
theorem dX7_say_37 : decode cX7_say 37 = .ok (.aload_n 0, 1) := by decide +kernel
theorem dX7_say_38 : decode cX7_say 38 = .ok (.getfield 25, 3) := by decide +kernel
theorem dX7_say_41 : decode cX7_say 41 = .ok (.iload_n 1, 1) := by decide +kernel
theorem dX7_say_42 : decode cX7_say 42 = .ok (.dup2, 1) := by decide +kernel
theorem dX7_say_43 : decode cX7_say 43 = .ok (.iaload, 1) := by decide +kernel
theorem dX7_say_44 : decode cX7_say 44 = .ok (.iconst 1, 1) := by decide +kernel
theorem dX7_say_45 : decode cX7_say 45 = .ok (.iload_n 2, 1) := by decide +kernel
theorem dX7_say_46 : decode cX7_say 46 = .ok (.ishl, 1) := by decide +kernel
theorem dX7_say_47 : decode cX7_say 47 = .ok (.ior, 1) := by decide +kernel
theorem dX7_say_48 : decode cX7_say 48 = .ok (.iastore, 1) := by decide +kernel
theorem dX7_say_49 : decode cX7_say 49 = .ok (.aload_n 0, 1) := by decide +kernel
theorem dX7_say_50 : decode cX7_say 50 = .ok (.getfield 25, 3) := by decide +kernel
theorem dX7_say_53 : decode cX7_say 53 = .ok (.iload_n 1, 1) := by decide +kernel
theorem dX7_say_54 : decode cX7_say 54 = .ok (.iaload, 1) := by decide +kernel
theorem dX7_say_55 : decode cX7_say 55 = .ok (.invokestatic 140, 3) := by decide +kernel
theorem dX7_say_58 : decode cX7_say 58 = .ok (.ireturn, 1) := by decide +kernel
theorem dX7_deny_0 : decode cX7_deny 0 = .ok (.aload_n 0, 1) := by decide +kernel
theorem dX7_deny_1 : decode cX7_deny 1 = .ok (.iload_n 1, 1) := by decide +kernel
theorem dX7_deny_2 : decode cX7_deny 2 = .ok (.invokevirtual 143, 3) := by decide +kernel
theorem dX7_deny_5 : decode cX7_deny 5 = .ok (.ifCond .ne 5, 3) := by decide +kernel
theorem dX7_deny_8 : decode cX7_deny 8 = .ok (.iconst (-1), 1) := by decide +kernel
theorem dX7_deny_9 : decode cX7_deny 9 = .ok (.ireturn, 1) := by decide +kernel
theorem dX7_deny_10 : decode cX7_deny 10 = .ok (.iload_n 2, 1) := by decide +kernel
theorem dX7_deny_11 : decode cX7_deny 11 = .ok (.invokestatic 163, 3) := by decide +kernel
theorem dX7_deny_14 : decode cX7_deny 14 = .ok (.ifCond .ne 6, 3) := by decide +kernel
theorem dX7_deny_17 : decode cX7_deny 17 = .ok (.bipush (-2), 2) := by decide +kernel
theorem dX7_deny_19 : decode cX7_deny 19 = .ok (.ireturn, 1) := by decide +kernel
theorem dX7_deny_20 : decode cX7_deny 20 = .ok (.aload_n 0, 1) := by decide +kernel
theorem dX7_deny_21 : decode cX7_deny 21 = .ok (.iconst 0, 1) := by decide +kernel
theorem dX7_deny_22 : decode cX7_deny 22 = .ok (.iload_n 1, 1) := by decide +kernel
theorem dX7_deny_23 : decode cX7_deny 23 = .ok (.iload_n 2, 1) := by decide +kernel
theorem dX7_deny_24 : decode cX7_deny 24 = .ok (.invokevirtual 170, 3) := by decide +kernel
theorem dX7_deny_27 : decode cX7_deny 27 = .ok (.ifCond .ne 6, 3) := by decide +kernel
theorem dX7_deny_30 : decode cX7_deny 30 = .ok (.bipush (-3), 2) := by decide +kernel
theorem dX7_deny_32 : decode cX7_deny 32 = .ok (.ireturn, 1) := by decide +kernel
theorem dX7_deny_33 : decode cX7_deny 33 = .ok (.aload_n 0, 1) := by decide +kernel
theorem dX7_deny_34 : decode cX7_deny 34 = .ok (.invokevirtual 157, 3) := by decide +kernel
theorem dX7_deny_37 : decode cX7_deny 37 = .ok (.aload_n 0, 1) := by decide +kernel
theorem dX7_deny_38 : decode cX7_deny 38 = .ok (.iconst 0, 1) := by decide +kernel
theorem dX7_deny_39 : decode cX7_deny 39 = .ok (.iload_n 1, 1) := by decide +kernel
theorem dX7_deny_40 : decode cX7_deny 40 = .ok (.iload_n 2, 1) := by decide +kernel
theorem dX7_deny_41 : decode cX7_deny 41 = .ok (.invokevirtual 173, 3) := by decide +kernel
theorem dX7_deny_44 : decode cX7_deny 44 = .ok (.aload_n 0, 1) := by decide +kernel
theorem dX7_deny_45 : decode cX7_deny 45 = .ok (.getfield 25, 3) := by decide +kernel
theorem dX7_deny_48 : decode cX7_deny 48 = .ok (.iload_n 1, 1) := by decide +kernel
theorem dX7_deny_49 : decode cX7_deny 49 = .ok (.iaload, 1) := by decide +kernel
theorem dX7_deny_50 : decode cX7_deny 50 = .ok (.invokestatic 140, 3) := by decide +kernel
theorem dX7_deny_53 : decode cX7_deny 53 = .ok (.ireturn, 1) := by decide +kernel
theorem dX7_takes_0 : decode cX7_takes 0 = .ok (.aload_n 0, 1) := by decide +kernel
theorem dX7_takes_1 : decode cX7_takes 1 = .ok (.iconst 0, 1) := by decide +kernel
theorem dX7_takes_2 : decode cX7_takes 2 = .ok (.iload_n 2, 1) := by decide +kernel
theorem dX7_takes_3 : decode cX7_takes 3 = .ok (.invokevirtual 177, 3) := by decide +kernel
theorem dX7_takes_6 : decode cX7_takes 6 = .ok (.ifCond .le 24, 3) := by decide +kernel
theorem dX7_takes_9 : decode cX7_takes 9 = .ok (.aload_n 0, 1) := by decide +kernel
theorem dX7_takes_10 : decode cX7_takes 10 = .ok (.getfield 25, 3) := by decide +kernel
theorem dX7_takes_13 : decode cX7_takes 13 = .ok (.aload_n 0, 1) := by decide +kernel
theorem dX7_takes_14 : decode cX7_takes 14 = .ok (.iconst 0, 1) := by decide +kernel
theorem dX7_takes_15 : decode cX7_takes 15 = .ok (.iload_n 1, 1) := by decide +kernel
theorem dX7_takes_16 : decode cX7_takes 16 = .ok (.iload_n 2, 1) := by decide +kernel
theorem dX7_takes_17 : decode cX7_takes 17 = .ok (.invokevirtual 150, 3) := by decide +kernel
theorem dX7_takes_20 : decode cX7_takes 20 = .ok (.iaload, 1) := by decide +kernel
theorem dX7_takes_21 : decode cX7_takes 21 = .ok (.bipush 99, 2) := by decide +kernel
theorem dX7_takes_23 : decode cX7_takes 23 = .ok (.if_icmp .ge 7, 3) := by decide +kernel
theorem dX7_takes_26 : decode cX7_takes 26 = .ok (.iconst 1, 1) := by decide +kernel
theorem dX7_takes_27 : decode cX7_takes 27 = .ok (.goto 4, 3) := by decide +kernel
theorem dX7_takes_30 : decode cX7_takes 30 = .ok (.iconst 0, 1) := by decide +kernel
theorem dX7_takes_31 : decode cX7_takes 31 = .ok (.istore_n 3, 1) := by decide +kernel
theorem dX7_takes_32 : decode cX7_takes 32 = .ok (.iconst 0, 1) := by decide +kernel
theorem dX7_takes_33 : decode cX7_takes 33 = .ok (.istore 4, 2) := by decide +kernel
theorem dX7_takes_35 : decode cX7_takes 35 = .ok (.iload 4, 2) := by decide +kernel
theorem dX7_takes_37 : decode cX7_takes 37 = .ok (.aload_n 0, 1) := by decide +kernel
theorem dX7_takes_38 : decode cX7_takes 38 = .ok (.getfield 77, 3) := by decide +kernel
theorem dX7_takes_41 : decode cX7_takes 41 = .ok (.if_icmp .ge 49, 3) := by decide +kernel
theorem dX7_takes_44 : decode cX7_takes 44 = .ok (.iload_n 3, 1) := by decide +kernel
theorem dX7_takes_45 : decode cX7_takes 45 = .ok (.ifCond .eq 37, 3) := by decide +kernel
theorem dX7_takes_48 : decode cX7_takes 48 = .ok (.aload_n 0, 1) := by decide +kernel
theorem dX7_takes_49 : decode cX7_takes 49 = .ok (.getfield 19, 3) := by decide +kernel
theorem dX7_takes_52 : decode cX7_takes 52 = .ok (.iload_n 2, 1) := by decide +kernel
theorem dX7_takes_53 : decode cX7_takes 53 = .ok (.iaload, 1) := by decide +kernel
theorem dX7_takes_54 : decode cX7_takes 54 = .ok (.iload 4, 2) := by decide +kernel
theorem dX7_takes_56 : decode cX7_takes 56 = .ok (.invokestatic 98, 3) := by decide +kernel
theorem dX7_takes_59 : decode cX7_takes 59 = .ok (.ifCond .eq 19, 3) := by decide +kernel
theorem dX7_takes_62 : decode cX7_takes 62 = .ok (.aload_n 0, 1) := by decide +kernel
theorem dX7_takes_63 : decode cX7_takes 63 = .ok (.getfield 25, 3) := by decide +kernel
theorem dX7_takes_66 : decode cX7_takes 66 = .ok (.aload_n 0, 1) := by decide +kernel
theorem dX7_takes_67 : decode cX7_takes 67 = .ok (.iconst 0, 1) := by decide +kernel
theorem dX7_takes_68 : decode cX7_takes 68 = .ok (.iload_n 1, 1) := by decide +kernel
theorem dX7_takes_69 : decode cX7_takes 69 = .ok (.iload 4, 2) := by decide +kernel
theorem dX7_takes_71 : decode cX7_takes 71 = .ok (.invokevirtual 150, 3) := by decide +kernel
theorem dX7_takes_74 : decode cX7_takes 74 = .ok (.iaload, 1) := by decide +kernel
theorem dX7_takes_75 : decode cX7_takes 75 = .ok (.ifCond .gt 7, 3) := by decide +kernel
theorem dX7_takes_78 : decode cX7_takes 78 = .ok (.iconst 1, 1) := by decide +kernel
theorem dX7_takes_79 : decode cX7_takes 79 = .ok (.goto 4, 3) := by decide +kernel
theorem dX7_takes_82 : decode cX7_takes 82 = .ok (.iconst 0, 1) := by decide +kernel
theorem dX7_takes_83 : decode cX7_takes 83 = .ok (.istore_n 3, 1) := by decide +kernel
theorem dX7_takes_84 : decode cX7_takes 84 = .ok (.iinc 4 1, 3) := by decide +kernel
theorem dX7_takes_87 : decode cX7_takes 87 = .ok (.goto (-52), 3) := by decide +kernel
theorem dX7_takes_90 : decode cX7_takes 90 = .ok (.iload_n 3, 1) := by decide +kernel
theorem dX7_takes_91 : decode cX7_takes 91 = .ok (.ireturn, 1) := by decide +kernel
theorem dX7_pay_0 : decode cX7_pay 0 = .ok (.aload_n 0, 1) := by decide +kernel
theorem dX7_pay_1 : decode cX7_pay 1 = .ok (.iload_n 1, 1) := by decide +kernel
theorem dX7_pay_2 : decode cX7_pay 2 = .ok (.invokevirtual 147, 3) := by decide +kernel
theorem dX7_pay_5 : decode cX7_pay 5 = .ok (.ifCond .eq 19, 3) := by decide +kernel
theorem dX7_pay_8 : decode cX7_pay 8 = .ok (.aload_n 0, 1) := by decide +kernel
theorem dX7_pay_9 : decode cX7_pay 9 = .ok (.iload_n 2, 1) := by decide +kernel
theorem dX7_pay_10 : decode cX7_pay 10 = .ok (.invokevirtual 147, 3) := by decide +kernel
theorem dX7_pay_13 : decode cX7_pay 13 = .ok (.ifCond .eq 11, 3) := by decide +kernel
theorem dX7_pay_16 : decode cX7_pay 16 = .ok (.aload_n 0, 1) := by decide +kernel
theorem dX7_pay_17 : decode cX7_pay 17 = .ok (.iload_n 3, 1) := by decide +kernel
theorem dX7_pay_18 : decode cX7_pay 18 = .ok (.invokevirtual 143, 3) := by decide +kernel
theorem dX7_pay_21 : decode cX7_pay 21 = .ok (.ifCond .ne 5, 3) := by decide +kernel
theorem dX7_pay_24 : decode cX7_pay 24 = .ok (.iconst (-1), 1) := by decide +kernel
theorem dX7_pay_25 : decode cX7_pay 25 = .ok (.ireturn, 1) := by decide +kernel
theorem dX7_pay_26 : decode cX7_pay 26 = .ok (.iload_n 1, 1) := by decide +kernel
theorem dX7_pay_27 : decode cX7_pay 27 = .ok (.iload_n 2, 1) := by decide +kernel
theorem dX7_pay_28 : decode cX7_pay 28 = .ok (.if_icmp .ne 6, 3) := by decide +kernel
theorem dX7_pay_31 : decode cX7_pay 31 = .ok (.bipush (-2), 2) := by decide +kernel
theorem dX7_pay_33 : decode cX7_pay 33 = .ok (.ireturn, 1) := by decide +kernel
theorem dX7_pay_34 : decode cX7_pay 34 = .ok (.aload_n 0, 1) := by decide +kernel
theorem dX7_pay_35 : decode cX7_pay 35 = .ok (.getfield 25, 3) := by decide +kernel
theorem dX7_pay_38 : decode cX7_pay 38 = .ok (.aload_n 0, 1) := by decide +kernel
theorem dX7_pay_39 : decode cX7_pay 39 = .ok (.iconst 0, 1) := by decide +kernel
theorem dX7_pay_40 : decode cX7_pay 40 = .ok (.iload_n 1, 1) := by decide +kernel
theorem dX7_pay_41 : decode cX7_pay 41 = .ok (.iload_n 3, 1) := by decide +kernel
theorem dX7_pay_42 : decode cX7_pay 42 = .ok (.invokevirtual 150, 3) := by decide +kernel
theorem dX7_pay_45 : decode cX7_pay 45 = .ok (.iaload, 1) := by decide +kernel
theorem dX7_pay_46 : decode cX7_pay 46 = .ok (.ifCond .eq 12, 3) := by decide +kernel
theorem dX7_pay_49 : decode cX7_pay 49 = .ok (.aload_n 0, 1) := by decide +kernel
theorem dX7_pay_50 : decode cX7_pay 50 = .ok (.iload_n 2, 1) := by decide +kernel
theorem dX7_pay_51 : decode cX7_pay 51 = .ok (.iload_n 3, 1) := by decide +kernel
theorem dX7_pay_52 : decode cX7_pay 52 = .ok (.invokevirtual 181, 3) := by decide +kernel
theorem dX7_pay_55 : decode cX7_pay 55 = .ok (.ifCond .ne 6, 3) := by decide +kernel
theorem dX7_pay_58 : decode cX7_pay 58 = .ok (.bipush (-3), 2) := by decide +kernel
theorem dX7_pay_60 : decode cX7_pay 60 = .ok (.ireturn, 1) := by decide +kernel
theorem dX7_pay_61 : decode cX7_pay 61 = .ok (.aload_n 0, 1) := by decide +kernel
theorem dX7_pay_62 : decode cX7_pay 62 = .ok (.invokevirtual 157, 3) := by decide +kernel
theorem dX7_pay_65 : decode cX7_pay 65 = .ok (.aload_n 0, 1) := by decide +kernel
theorem dX7_pay_66 : decode cX7_pay 66 = .ok (.getfield 25, 3) := by decide +kernel
theorem dX7_pay_69 : decode cX7_pay 69 = .ok (.aload_n 0, 1) := by decide +kernel
theorem dX7_pay_70 : decode cX7_pay 70 = .ok (.iconst 0, 1) := by decide +kernel
theorem dX7_pay_71 : decode cX7_pay 71 = .ok (.iload_n 1, 1) := by decide +kernel
theorem dX7_pay_72 : decode cX7_pay 72 = .ok (.iload_n 3, 1) := by decide +kernel
theorem dX7_pay_73 : decode cX7_pay 73 = .ok (.invokevirtual 150, 3) := by decide +kernel
theorem dX7_pay_76 : decode cX7_pay 76 = .ok (.dup2, 1) := by decide +kernel
theorem dX7_pay_77 : decode cX7_pay 77 = .ok (.iaload, 1) := by decide +kernel
theorem dX7_pay_78 : decode cX7_pay 78 = .ok (.iconst 1, 1) := by decide +kernel
theorem dX7_pay_79 : decode cX7_pay 79 = .ok (.isub, 1) := by decide +kernel
theorem dX7_pay_80 : decode cX7_pay 80 = .ok (.iastore, 1) := by decide +kernel
theorem dX7_pay_81 : decode cX7_pay 81 = .ok (.aload_n 0, 1) := by decide +kernel
theorem dX7_pay_82 : decode cX7_pay 82 = .ok (.getfield 25, 3) := by decide +kernel
theorem dX7_pay_85 : decode cX7_pay 85 = .ok (.aload_n 0, 1) := by decide +kernel
theorem dX7_pay_86 : decode cX7_pay 86 = .ok (.iconst 0, 1) := by decide +kernel
theorem dX7_pay_87 : decode cX7_pay 87 = .ok (.iload_n 2, 1) := by decide +kernel
theorem dX7_pay_88 : decode cX7_pay 88 = .ok (.iload_n 3, 1) := by decide +kernel
theorem dX7_pay_89 : decode cX7_pay 89 = .ok (.invokevirtual 150, 3) := by decide +kernel
theorem dX7_pay_92 : decode cX7_pay 92 = .ok (.dup2, 1) := by decide +kernel
theorem dX7_pay_93 : decode cX7_pay 93 = .ok (.iaload, 1) := by decide +kernel
theorem dX7_pay_94 : decode cX7_pay 94 = .ok (.iconst 1, 1) := by decide +kernel
theorem dX7_pay_95 : decode cX7_pay 95 = .ok (.iadd, 1) := by decide +kernel
theorem dX7_pay_96 : decode cX7_pay 96 = .ok (.iastore, 1) := by decide +kernel
theorem dX7_pay_97 : decode cX7_pay 97 = .ok (.aload_n 0, 1) := by decide +kernel
theorem dX7_pay_98 : decode cX7_pay 98 = .ok (.iconst 0, 1) := by decide +kernel
theorem dX7_pay_99 : decode cX7_pay 99 = .ok (.iload_n 3, 1) := by decide +kernel
theorem dX7_pay_100 : decode cX7_pay 100 = .ok (.invokevirtual 177, 3) := by decide +kernel
theorem dX7_pay_103 : decode cX7_pay 103 = .ok (.ireturn, 1) := by decide +kernel
theorem dX7_undo_0 : decode cX7_undo 0 = .ok (.aload_n 0, 1) := by decide +kernel
theorem dX7_undo_1 : decode cX7_undo 1 = .ok (.getfield 132, 3) := by decide +kernel
theorem dX7_undo_4 : decode cX7_undo 4 = .ok (.ifCond .ne 6, 3) := by decide +kernel
theorem dX7_undo_7 : decode cX7_undo 7 = .ok (.bipush (-3), 2) := by decide +kernel
theorem dX7_undo_9 : decode cX7_undo 9 = .ok (.ireturn, 1) := by decide +kernel
theorem dX7_undo_10 : decode cX7_undo 10 = .ok (.aload_n 0, 1) := by decide +kernel
theorem dX7_undo_11 : decode cX7_undo 11 = .ok (.dup, 1) := by decide +kernel
theorem dX7_undo_12 : decode cX7_undo 12 = .ok (.getfield 132, 3) := by decide +kernel
theorem dX7_undo_15 : decode cX7_undo 15 = .ok (.iconst 1, 1) := by decide +kernel
theorem dX7_undo_16 : decode cX7_undo 16 = .ok (.isub, 1) := by decide +kernel
theorem dX7_undo_17 : decode cX7_undo 17 = .ok (.putfield 132, 3) := by decide +kernel
theorem dX7_undo_20 : decode cX7_undo 20 = .ok (.aload_n 0, 1) := by decide +kernel
theorem dX7_undo_21 : decode cX7_undo 21 = .ok (.aload_n 0, 1) := by decide +kernel
theorem dX7_undo_22 : decode cX7_undo 22 = .ok (.getfield 154, 3) := by decide +kernel
theorem dX7_undo_25 : decode cX7_undo 25 = .ok (.bipush 13, 2) := by decide +kernel
theorem dX7_undo_27 : decode cX7_undo 27 = .ok (.iadd, 1) := by decide +kernel
theorem dX7_undo_28 : decode cX7_undo 28 = .ok (.bipush 14, 2) := by decide +kernel
theorem dX7_undo_30 : decode cX7_undo 30 = .ok (.irem, 1) := by decide +kernel
theorem dX7_undo_31 : decode cX7_undo 31 = .ok (.putfield 154, 3) := by decide +kernel
theorem dX7_undo_34 : decode cX7_undo 34 = .ok (.iconst 0, 1) := by decide +kernel
theorem dX7_undo_35 : decode cX7_undo 35 = .ok (.istore_n 1, 1) := by decide +kernel
theorem dX7_undo_36 : decode cX7_undo 36 = .ok (.iload_n 1, 1) := by decide +kernel
theorem dX7_undo_37 : decode cX7_undo 37 = .ok (.bipush 31, 2) := by decide +kernel
theorem dX7_undo_39 : decode cX7_undo 39 = .ok (.if_icmp .ge 29, 3) := by decide +kernel
theorem dX7_undo_42 : decode cX7_undo 42 = .ok (.aload_n 0, 1) := by decide +kernel
theorem dX7_undo_43 : decode cX7_undo 43 = .ok (.getfield 25, 3) := by decide +kernel
theorem dX7_undo_46 : decode cX7_undo 46 = .ok (.iload_n 1, 1) := by decide +kernel
theorem dX7_undo_47 : decode cX7_undo 47 = .ok (.aload_n 0, 1) := by decide +kernel
theorem dX7_undo_48 : decode cX7_undo 48 = .ok (.getfield 49, 3) := by decide +kernel
theorem dX7_undo_51 : decode cX7_undo 51 = .ok (.bipush 31, 2) := by decide +kernel
theorem dX7_undo_53 : decode cX7_undo 53 = .ok (.aload_n 0, 1) := by decide +kernel
theorem dX7_undo_54 : decode cX7_undo 54 = .ok (.getfield 154, 3) := by decide +kernel
theorem dX7_undo_57 : decode cX7_undo 57 = .ok (.imul, 1) := by decide +kernel
theorem dX7_undo_58 : decode cX7_undo 58 = .ok (.iload_n 1, 1) := by decide +kernel
theorem dX7_undo_59 : decode cX7_undo 59 = .ok (.iadd, 1) := by decide +kernel
theorem dX7_undo_60 : decode cX7_undo 60 = .ok (.iaload, 1) := by decide +kernel
theorem dX7_undo_61 : decode cX7_undo 61 = .ok (.iastore, 1) := by decide +kernel
theorem dX7_undo_62 : decode cX7_undo 62 = .ok (.iinc 1 1, 3) := by decide +kernel
theorem dX7_undo_65 : decode cX7_undo 65 = .ok (.goto (-29), 3) := by decide +kernel
theorem dX7_undo_68 : decode cX7_undo 68 = .ok (.aload_n 0, 1) := by decide +kernel
theorem dX7_undo_69 : decode cX7_undo 69 = .ok (.getfield 132, 3) := by decide +kernel
theorem dX7_undo_72 : decode cX7_undo 72 = .ok (.ireturn, 1) := by decide +kernel
theorem dX7_layTrial_0 : decode cX7_layTrial 0 = .ok (.iconst 0, 1) := by decide +kernel
theorem dX7_layTrial_1 : decode cX7_layTrial 1 = .ok (.istore_n 1, 1) := by decide +kernel
theorem dX7_layTrial_2 : decode cX7_layTrial 2 = .ok (.iload_n 1, 1) := by decide +kernel
theorem dX7_layTrial_3 : decode cX7_layTrial 3 = .ok (.bipush 31, 2) := by decide +kernel
theorem dX7_layTrial_5 : decode cX7_layTrial 5 = .ok (.if_icmp .ge 24, 3) := by decide +kernel
theorem dX7_layTrial_8 : decode cX7_layTrial 8 = .ok (.aload_n 0, 1) := by decide +kernel
theorem dX7_layTrial_9 : decode cX7_layTrial 9 = .ok (.getfield 25, 3) := by decide +kernel
theorem dX7_layTrial_12 : decode cX7_layTrial 12 = .ok (.bipush 31, 2) := by decide +kernel
theorem dX7_layTrial_14 : decode cX7_layTrial 14 = .ok (.iload_n 1, 1) := by decide +kernel
theorem dX7_layTrial_15 : decode cX7_layTrial 15 = .ok (.iadd, 1) := by decide +kernel
theorem dX7_layTrial_16 : decode cX7_layTrial 16 = .ok (.aload_n 0, 1) := by decide +kernel
theorem dX7_layTrial_17 : decode cX7_layTrial 17 = .ok (.getfield 25, 3) := by decide +kernel
theorem dX7_layTrial_20 : decode cX7_layTrial 20 = .ok (.iload_n 1, 1) := by decide +kernel
theorem dX7_layTrial_21 : decode cX7_layTrial 21 = .ok (.iaload, 1) := by decide +kernel
theorem dX7_layTrial_22 : decode cX7_layTrial 22 = .ok (.iastore, 1) := by decide +kernel
theorem dX7_layTrial_23 : decode cX7_layTrial 23 = .ok (.iinc 1 1, 3) := by decide +kernel
theorem dX7_layTrial_26 : decode cX7_layTrial 26 = .ok (.goto (-24), 3) := by decide +kernel
theorem dX7_layTrial_29 : decode cX7_layTrial 29 = .ok (.return_, 1) := by decide +kernel
theorem dX7_dawnTrial_0 : decode cX7_dawnTrial 0 = .ok (.iconst 0, 1) := by decide +kernel
theorem dX7_dawnTrial_1 : decode cX7_dawnTrial 1 = .ok (.istore_n 2, 1) := by decide +kernel
theorem dX7_dawnTrial_2 : decode cX7_dawnTrial 2 = .ok (.iload_n 2, 1) := by decide +kernel
theorem dX7_dawnTrial_3 : decode cX7_dawnTrial 3 = .ok (.iload_n 1, 1) := by decide +kernel
theorem dX7_dawnTrial_4 : decode cX7_dawnTrial 4 = .ok (.if_icmp .ge 15, 3) := by decide +kernel
theorem dX7_dawnTrial_7 : decode cX7_dawnTrial 7 = .ok (.aload_n 0, 1) := by decide +kernel
theorem dX7_dawnTrial_8 : decode cX7_dawnTrial 8 = .ok (.iconst 1, 1) := by decide +kernel
theorem dX7_dawnTrial_9 : decode cX7_dawnTrial 9 = .ok (.invokevirtual 160, 3) := by decide +kernel
theorem dX7_dawnTrial_12 : decode cX7_dawnTrial 12 = .ok (.pop, 1) := by decide +kernel
theorem dX7_dawnTrial_13 : decode cX7_dawnTrial 13 = .ok (.iinc 2 1, 3) := by decide +kernel
theorem dX7_dawnTrial_16 : decode cX7_dawnTrial 16 = .ok (.goto (-14), 3) := by decide +kernel
theorem dX7_dawnTrial_19 : decode cX7_dawnTrial 19 = .ok (.return_, 1) := by decide +kernel
theorem dX7_purseOf_0 : decode cX7_purseOf 0 = .ok (.iconst 0, 1) := by decide +kernel
theorem dX7_purseOf_1 : decode cX7_purseOf 1 = .ok (.istore_n 3, 1) := by decide +kernel
theorem dX7_purseOf_2 : decode cX7_purseOf 2 = .ok (.iconst 0, 1) := by decide +kernel
theorem dX7_purseOf_3 : decode cX7_purseOf 3 = .ok (.istore 4, 2) := by decide +kernel
theorem dX7_purseOf_5 : decode cX7_purseOf 5 = .ok (.iload 4, 2) := by decide +kernel
theorem dX7_purseOf_7 : decode cX7_purseOf 7 = .ok (.aload_n 0, 1) := by decide +kernel
theorem dX7_purseOf_8 : decode cX7_purseOf 8 = .ok (.getfield 77, 3) := by decide +kernel
theorem dX7_purseOf_11 : decode cX7_purseOf 11 = .ok (.if_icmp .ge 33, 3) := by decide +kernel
theorem dX7_purseOf_14 : decode cX7_purseOf 14 = .ok (.iload_n 3, 1) := by decide +kernel
theorem dX7_purseOf_15 : decode cX7_purseOf 15 = .ok (.aload_n 0, 1) := by decide +kernel
theorem dX7_purseOf_16 : decode cX7_purseOf 16 = .ok (.getfield 25, 3) := by decide +kernel
theorem dX7_purseOf_19 : decode cX7_purseOf 19 = .ok (.aload_n 0, 1) := by decide +kernel
theorem dX7_purseOf_20 : decode cX7_purseOf 20 = .ok (.iload_n 1, 1) := by decide +kernel
theorem dX7_purseOf_21 : decode cX7_purseOf 21 = .ok (.iload_n 2, 1) := by decide +kernel
theorem dX7_purseOf_22 : decode cX7_purseOf 22 = .ok (.iload 4, 2) := by decide +kernel
theorem dX7_purseOf_24 : decode cX7_purseOf 24 = .ok (.invokevirtual 150, 3) := by decide +kernel
theorem dX7_purseOf_27 : decode cX7_purseOf 27 = .ok (.iaload, 1) := by decide +kernel
theorem dX7_purseOf_28 : decode cX7_purseOf 28 = .ok (.aload_n 0, 1) := by decide +kernel
theorem dX7_purseOf_29 : decode cX7_purseOf 29 = .ok (.iload_n 1, 1) := by decide +kernel
theorem dX7_purseOf_30 : decode cX7_purseOf 30 = .ok (.iload 4, 2) := by decide +kernel
theorem dX7_purseOf_32 : decode cX7_purseOf 32 = .ok (.invokevirtual 177, 3) := by decide +kernel
theorem dX7_purseOf_35 : decode cX7_purseOf 35 = .ok (.imul, 1) := by decide +kernel
theorem dX7_purseOf_36 : decode cX7_purseOf 36 = .ok (.iadd, 1) := by decide +kernel
theorem dX7_purseOf_37 : decode cX7_purseOf 37 = .ok (.istore_n 3, 1) := by decide +kernel
theorem dX7_purseOf_38 : decode cX7_purseOf 38 = .ok (.iinc 4 1, 3) := by decide +kernel
theorem dX7_purseOf_41 : decode cX7_purseOf 41 = .ok (.goto (-36), 3) := by decide +kernel
theorem dX7_purseOf_44 : decode cX7_purseOf 44 = .ok (.iload_n 3, 1) := by decide +kernel
theorem dX7_purseOf_45 : decode cX7_purseOf 45 = .ok (.ireturn, 1) := by decide +kernel
theorem dX7_worth_0 : decode cX7_worth 0 = .ok (.aload_n 0, 1) := by decide +kernel
theorem dX7_worth_1 : decode cX7_worth 1 = .ok (.iload_n 1, 1) := by decide +kernel
theorem dX7_worth_2 : decode cX7_worth 2 = .ok (.invokevirtual 143, 3) := by decide +kernel
theorem dX7_worth_5 : decode cX7_worth 5 = .ok (.ifCond .ne 5, 3) := by decide +kernel
theorem dX7_worth_8 : decode cX7_worth 8 = .ok (.iconst (-1), 1) := by decide +kernel
theorem dX7_worth_9 : decode cX7_worth 9 = .ok (.ireturn, 1) := by decide +kernel
theorem dX7_worth_10 : decode cX7_worth 10 = .ok (.iload_n 2, 1) := by decide +kernel
theorem dX7_worth_11 : decode cX7_worth 11 = .ok (.i2l, 1) := by decide +kernel
theorem dX7_worth_12 : decode cX7_worth 12 = .ok (.lconst 0, 1) := by decide +kernel
theorem dX7_worth_13 : decode cX7_worth 13 = .ok (.ldc2_w 184, 3) := by decide +kernel
theorem dX7_worth_16 : decode cX7_worth 16 = .ok (.invokestatic 83, 3) := by decide +kernel
theorem dX7_worth_19 : decode cX7_worth 19 = .ok (.ifCond .ne 6, 3) := by decide +kernel
theorem dX7_worth_22 : decode cX7_worth 22 = .ok (.bipush (-2), 2) := by decide +kernel
theorem dX7_worth_24 : decode cX7_worth 24 = .ok (.ireturn, 1) := by decide +kernel
theorem dX7_worth_25 : decode cX7_worth 25 = .ok (.aload_n 0, 1) := by decide +kernel
theorem dX7_worth_26 : decode cX7_worth 26 = .ok (.invokevirtual 186, 3) := by decide +kernel
theorem dX7_worth_29 : decode cX7_worth 29 = .ok (.aload_n 0, 1) := by decide +kernel
theorem dX7_worth_30 : decode cX7_worth 30 = .ok (.iload_n 2, 1) := by decide +kernel
theorem dX7_worth_31 : decode cX7_worth 31 = .ok (.invokevirtual 189, 3) := by decide +kernel
theorem dX7_worth_34 : decode cX7_worth 34 = .ok (.aload_n 0, 1) := by decide +kernel
theorem dX7_worth_35 : decode cX7_worth 35 = .ok (.iconst 1, 1) := by decide +kernel
theorem dX7_worth_36 : decode cX7_worth 36 = .ok (.iload_n 1, 1) := by decide +kernel
theorem dX7_worth_37 : decode cX7_worth 37 = .ok (.invokevirtual 177, 3) := by decide +kernel
theorem dX7_worth_40 : decode cX7_worth 40 = .ok (.ireturn, 1) := by decide +kernel
theorem dX7_purse_0 : decode cX7_purse 0 = .ok (.aload_n 0, 1) := by decide +kernel
theorem dX7_purse_1 : decode cX7_purse 1 = .ok (.iload_n 1, 1) := by decide +kernel
theorem dX7_purse_2 : decode cX7_purse 2 = .ok (.invokevirtual 147, 3) := by decide +kernel
theorem dX7_purse_5 : decode cX7_purse 5 = .ok (.ifCond .ne 5, 3) := by decide +kernel
theorem dX7_purse_8 : decode cX7_purse 8 = .ok (.iconst (-1), 1) := by decide +kernel
theorem dX7_purse_9 : decode cX7_purse 9 = .ok (.ireturn, 1) := by decide +kernel
theorem dX7_purse_10 : decode cX7_purse 10 = .ok (.iload_n 2, 1) := by decide +kernel
theorem dX7_purse_11 : decode cX7_purse 11 = .ok (.i2l, 1) := by decide +kernel
theorem dX7_purse_12 : decode cX7_purse 12 = .ok (.lconst 0, 1) := by decide +kernel
theorem dX7_purse_13 : decode cX7_purse 13 = .ok (.ldc2_w 184, 3) := by decide +kernel
theorem dX7_purse_16 : decode cX7_purse 16 = .ok (.invokestatic 83, 3) := by decide +kernel
theorem dX7_purse_19 : decode cX7_purse 19 = .ok (.ifCond .ne 6, 3) := by decide +kernel
theorem dX7_purse_22 : decode cX7_purse 22 = .ok (.bipush (-2), 2) := by decide +kernel
theorem dX7_purse_24 : decode cX7_purse 24 = .ok (.ireturn, 1) := by decide +kernel
theorem dX7_purse_25 : decode cX7_purse 25 = .ok (.aload_n 0, 1) := by decide +kernel
theorem dX7_purse_26 : decode cX7_purse 26 = .ok (.invokevirtual 186, 3) := by decide +kernel
theorem dX7_purse_29 : decode cX7_purse 29 = .ok (.aload_n 0, 1) := by decide +kernel
theorem dX7_purse_30 : decode cX7_purse 30 = .ok (.iload_n 2, 1) := by decide +kernel
theorem dX7_purse_31 : decode cX7_purse 31 = .ok (.invokevirtual 189, 3) := by decide +kernel
theorem dX7_purse_34 : decode cX7_purse 34 = .ok (.aload_n 0, 1) := by decide +kernel
theorem dX7_purse_35 : decode cX7_purse 35 = .ok (.iconst 1, 1) := by decide +kernel
theorem dX7_purse_36 : decode cX7_purse 36 = .ok (.iload_n 1, 1) := by decide +kernel
theorem dX7_purse_37 : decode cX7_purse 37 = .ok (.invokevirtual 192, 3) := by decide +kernel
theorem dX7_purse_40 : decode cX7_purse 40 = .ok (.ireturn, 1) := by decide +kernel
theorem dX7_bestDay_0 : decode cX7_bestDay 0 = .ok (.aload_n 0, 1) := by decide +kernel
theorem dX7_bestDay_1 : decode cX7_bestDay 1 = .ok (.iload_n 1, 1) := by decide +kernel
theorem dX7_bestDay_2 : decode cX7_bestDay 2 = .ok (.invokevirtual 147, 3) := by decide +kernel
theorem dX7_bestDay_5 : decode cX7_bestDay 5 = .ok (.ifCond .ne 5, 3) := by decide +kernel
theorem dX7_bestDay_8 : decode cX7_bestDay 8 = .ok (.iconst (-1), 1) := by decide +kernel
theorem dX7_bestDay_9 : decode cX7_bestDay 9 = .ok (.ireturn, 1) := by decide +kernel
theorem dX7_bestDay_10 : decode cX7_bestDay 10 = .ok (.aload_n 0, 1) := by decide +kernel
theorem dX7_bestDay_11 : decode cX7_bestDay 11 = .ok (.invokevirtual 186, 3) := by decide +kernel
theorem dX7_bestDay_14 : decode cX7_bestDay 14 = .ok (.iconst 0, 1) := by decide +kernel
theorem dX7_bestDay_15 : decode cX7_bestDay 15 = .ok (.istore_n 2, 1) := by decide +kernel
theorem dX7_bestDay_16 : decode cX7_bestDay 16 = .ok (.aload_n 0, 1) := by decide +kernel
theorem dX7_bestDay_17 : decode cX7_bestDay 17 = .ok (.iconst 1, 1) := by decide +kernel
theorem dX7_bestDay_18 : decode cX7_bestDay 18 = .ok (.iload_n 1, 1) := by decide +kernel
theorem dX7_bestDay_19 : decode cX7_bestDay 19 = .ok (.invokevirtual 192, 3) := by decide +kernel
theorem dX7_bestDay_22 : decode cX7_bestDay 22 = .ok (.istore_n 3, 1) := by decide +kernel
theorem dX7_bestDay_23 : decode cX7_bestDay 23 = .ok (.iconst 1, 1) := by decide +kernel
end
section
theorem dX7_bestDay_24 : decode cX7_bestDay 24 = .ok (.istore 4, 2) := by decide +kernel
theorem dX7_bestDay_26 : decode cX7_bestDay 26 = .ok (.iload 4, 2) := by decide +kernel
theorem dX7_bestDay_28 : decode cX7_bestDay 28 = .ok (.bipush 8, 2) := by decide +kernel
theorem dX7_bestDay_30 : decode cX7_bestDay 30 = .ok (.if_icmp .gt 53, 3) := by decide +kernel
theorem dX7_bestDay_33 : decode cX7_bestDay 33 = .ok (.aload_n 0, 1) := by decide +kernel
theorem dX7_bestDay_34 : decode cX7_bestDay 34 = .ok (.iconst 1, 1) := by decide +kernel
theorem dX7_bestDay_35 : decode cX7_bestDay 35 = .ok (.invokevirtual 160, 3) := by decide +kernel
theorem dX7_bestDay_38 : decode cX7_bestDay 38 = .ok (.pop, 1) := by decide +kernel
theorem dX7_bestDay_39 : decode cX7_bestDay 39 = .ok (.aload_n 0, 1) := by decide +kernel
theorem dX7_bestDay_40 : decode cX7_bestDay 40 = .ok (.iconst 1, 1) := by decide +kernel
theorem dX7_bestDay_41 : decode cX7_bestDay 41 = .ok (.iload_n 1, 1) := by decide +kernel
theorem dX7_bestDay_42 : decode cX7_bestDay 42 = .ok (.invokevirtual 192, 3) := by decide +kernel
theorem dX7_bestDay_45 : decode cX7_bestDay 45 = .ok (.iload_n 3, 1) := by decide +kernel
theorem dX7_bestDay_46 : decode cX7_bestDay 46 = .ok (.if_icmp .le 8, 3) := by decide +kernel
theorem dX7_bestDay_49 : decode cX7_bestDay 49 = .ok (.iload 4, 2) := by decide +kernel
theorem dX7_bestDay_51 : decode cX7_bestDay 51 = .ok (.goto 4, 3) := by decide +kernel
theorem dX7_bestDay_54 : decode cX7_bestDay 54 = .ok (.iload_n 2, 1) := by decide +kernel
theorem dX7_bestDay_55 : decode cX7_bestDay 55 = .ok (.istore_n 2, 1) := by decide +kernel
theorem dX7_bestDay_56 : decode cX7_bestDay 56 = .ok (.aload_n 0, 1) := by decide +kernel
theorem dX7_bestDay_57 : decode cX7_bestDay 57 = .ok (.iconst 1, 1) := by decide +kernel
theorem dX7_bestDay_58 : decode cX7_bestDay 58 = .ok (.iload_n 1, 1) := by decide +kernel
theorem dX7_bestDay_59 : decode cX7_bestDay 59 = .ok (.invokevirtual 192, 3) := by decide +kernel
theorem dX7_bestDay_62 : decode cX7_bestDay 62 = .ok (.iload_n 3, 1) := by decide +kernel
theorem dX7_bestDay_63 : decode cX7_bestDay 63 = .ok (.if_icmp .le 12, 3) := by decide +kernel
theorem dX7_bestDay_66 : decode cX7_bestDay 66 = .ok (.aload_n 0, 1) := by decide +kernel
theorem dX7_bestDay_67 : decode cX7_bestDay 67 = .ok (.iconst 1, 1) := by decide +kernel
theorem dX7_bestDay_68 : decode cX7_bestDay 68 = .ok (.iload_n 1, 1) := by decide +kernel
theorem dX7_bestDay_69 : decode cX7_bestDay 69 = .ok (.invokevirtual 192, 3) := by decide +kernel
theorem dX7_bestDay_72 : decode cX7_bestDay 72 = .ok (.goto 4, 3) := by decide +kernel
theorem dX7_bestDay_75 : decode cX7_bestDay 75 = .ok (.iload_n 3, 1) := by decide +kernel
theorem dX7_bestDay_76 : decode cX7_bestDay 76 = .ok (.istore_n 3, 1) := by decide +kernel
theorem dX7_bestDay_77 : decode cX7_bestDay 77 = .ok (.iinc 4 1, 3) := by decide +kernel
theorem dX7_bestDay_80 : decode cX7_bestDay 80 = .ok (.goto (-54), 3) := by decide +kernel
theorem dX7_bestDay_83 : decode cX7_bestDay 83 = .ok (.iload_n 2, 1) := by decide +kernel
theorem dX7_bestDay_84 : decode cX7_bestDay 84 = .ok (.ireturn, 1) := by decide +kernel
theorem dX7_reach_0 : decode cX7_reach 0 = .ok (.aload_n 0, 1) := by decide +kernel
theorem dX7_reach_1 : decode cX7_reach 1 = .ok (.iload_n 1, 1) := by decide +kernel
theorem dX7_reach_2 : decode cX7_reach 2 = .ok (.invokevirtual 143, 3) := by decide +kernel
theorem dX7_reach_5 : decode cX7_reach 5 = .ok (.ifCond .ne 5, 3) := by decide +kernel
theorem dX7_reach_8 : decode cX7_reach 8 = .ok (.iconst (-1), 1) := by decide +kernel
theorem dX7_reach_9 : decode cX7_reach 9 = .ok (.ireturn, 1) := by decide +kernel
theorem dX7_reach_10 : decode cX7_reach 10 = .ok (.iload_n 2, 1) := by decide +kernel
theorem dX7_reach_11 : decode cX7_reach 11 = .ok (.invokestatic 163, 3) := by decide +kernel
theorem dX7_reach_14 : decode cX7_reach 14 = .ok (.ifCond .ne 6, 3) := by decide +kernel
theorem dX7_reach_17 : decode cX7_reach 17 = .ok (.bipush (-2), 2) := by decide +kernel
theorem dX7_reach_19 : decode cX7_reach 19 = .ok (.ireturn, 1) := by decide +kernel
theorem dX7_reach_20 : decode cX7_reach 20 = .ok (.aload_n 0, 1) := by decide +kernel
theorem dX7_reach_21 : decode cX7_reach 21 = .ok (.invokevirtual 186, 3) := by decide +kernel
theorem dX7_reach_24 : decode cX7_reach 24 = .ok (.iconst 0, 1) := by decide +kernel
theorem dX7_reach_25 : decode cX7_reach 25 = .ok (.istore_n 3, 1) := by decide +kernel
theorem dX7_reach_26 : decode cX7_reach 26 = .ok (.iload_n 3, 1) := by decide +kernel
theorem dX7_reach_27 : decode cX7_reach 27 = .ok (.bipush 8, 2) := by decide +kernel
theorem dX7_reach_29 : decode cX7_reach 29 = .ok (.if_icmp .gt 33, 3) := by decide +kernel
theorem dX7_reach_32 : decode cX7_reach 32 = .ok (.aload_n 0, 1) := by decide +kernel
theorem dX7_reach_33 : decode cX7_reach 33 = .ok (.getfield 25, 3) := by decide +kernel
theorem dX7_reach_36 : decode cX7_reach 36 = .ok (.bipush 31, 2) := by decide +kernel
theorem dX7_reach_38 : decode cX7_reach 38 = .ok (.iload_n 1, 1) := by decide +kernel
theorem dX7_reach_39 : decode cX7_reach 39 = .ok (.iadd, 1) := by decide +kernel
theorem dX7_reach_40 : decode cX7_reach 40 = .ok (.iaload, 1) := by decide +kernel
theorem dX7_reach_41 : decode cX7_reach 41 = .ok (.iload_n 2, 1) := by decide +kernel
theorem dX7_reach_42 : decode cX7_reach 42 = .ok (.invokestatic 98, 3) := by decide +kernel
theorem dX7_reach_45 : decode cX7_reach 45 = .ok (.ifCond .eq 5, 3) := by decide +kernel
theorem dX7_reach_48 : decode cX7_reach 48 = .ok (.iload_n 3, 1) := by decide +kernel
theorem dX7_reach_49 : decode cX7_reach 49 = .ok (.ireturn, 1) := by decide +kernel
theorem dX7_reach_50 : decode cX7_reach 50 = .ok (.aload_n 0, 1) := by decide +kernel
theorem dX7_reach_51 : decode cX7_reach 51 = .ok (.iconst 1, 1) := by decide +kernel
theorem dX7_reach_52 : decode cX7_reach 52 = .ok (.invokevirtual 160, 3) := by decide +kernel
theorem dX7_reach_55 : decode cX7_reach 55 = .ok (.pop, 1) := by decide +kernel
theorem dX7_reach_56 : decode cX7_reach 56 = .ok (.iinc 3 1, 3) := by decide +kernel
theorem dX7_reach_59 : decode cX7_reach 59 = .ok (.goto (-33), 3) := by decide +kernel
theorem dX7_reach_62 : decode cX7_reach 62 = .ok (.bipush (-9), 2) := by decide +kernel
theorem dX7_reach_64 : decode cX7_reach 64 = .ok (.ireturn, 1) := by decide +kernel
theorem dX7_sayTrial_0 : decode cX7_sayTrial 0 = .ok (.aload_n 0, 1) := by decide +kernel
theorem dX7_sayTrial_1 : decode cX7_sayTrial 1 = .ok (.iload_n 1, 1) := by decide +kernel
theorem dX7_sayTrial_2 : decode cX7_sayTrial 2 = .ok (.invokevirtual 143, 3) := by decide +kernel
theorem dX7_sayTrial_5 : decode cX7_sayTrial 5 = .ok (.ifCond .eq 24, 3) := by decide +kernel
theorem dX7_sayTrial_8 : decode cX7_sayTrial 8 = .ok (.iload_n 2, 1) := by decide +kernel
theorem dX7_sayTrial_9 : decode cX7_sayTrial 9 = .ok (.invokestatic 163, 3) := by decide +kernel
theorem dX7_sayTrial_12 : decode cX7_sayTrial 12 = .ok (.ifCond .eq 17, 3) := by decide +kernel
theorem dX7_sayTrial_15 : decode cX7_sayTrial 15 = .ok (.aload_n 0, 1) := by decide +kernel
theorem dX7_sayTrial_16 : decode cX7_sayTrial 16 = .ok (.iconst 1, 1) := by decide +kernel
theorem dX7_sayTrial_17 : decode cX7_sayTrial 17 = .ok (.iload_n 1, 1) := by decide +kernel
theorem dX7_sayTrial_18 : decode cX7_sayTrial 18 = .ok (.iload_n 2, 1) := by decide +kernel
theorem dX7_sayTrial_19 : decode cX7_sayTrial 19 = .ok (.invokevirtual 166, 3) := by decide +kernel
theorem dX7_sayTrial_22 : decode cX7_sayTrial 22 = .ok (.ifCond .eq 7, 3) := by decide +kernel
theorem dX7_sayTrial_25 : decode cX7_sayTrial 25 = .ok (.iconst 1, 1) := by decide +kernel
theorem dX7_sayTrial_26 : decode cX7_sayTrial 26 = .ok (.goto 4, 3) := by decide +kernel
theorem dX7_sayTrial_29 : decode cX7_sayTrial 29 = .ok (.iconst 0, 1) := by decide +kernel
theorem dX7_sayTrial_30 : decode cX7_sayTrial 30 = .ok (.istore_n 3, 1) := by decide +kernel
theorem dX7_sayTrial_31 : decode cX7_sayTrial 31 = .ok (.iload_n 3, 1) := by decide +kernel
theorem dX7_sayTrial_32 : decode cX7_sayTrial 32 = .ok (.ifCond .eq 18, 3) := by decide +kernel
theorem dX7_sayTrial_35 : decode cX7_sayTrial 35 = .ok (.aload_n 0, 1) := by decide +kernel
theorem dX7_sayTrial_36 : decode cX7_sayTrial 36 = .ok (.getfield 25, 3) := by decide +kernel
theorem dX7_sayTrial_39 : decode cX7_sayTrial 39 = .ok (.bipush 31, 2) := by decide +kernel
theorem dX7_sayTrial_41 : decode cX7_sayTrial 41 = .ok (.iload_n 1, 1) := by decide +kernel
theorem dX7_sayTrial_42 : decode cX7_sayTrial 42 = .ok (.iadd, 1) := by decide +kernel
theorem dX7_sayTrial_43 : decode cX7_sayTrial 43 = .ok (.dup2, 1) := by decide +kernel
theorem dX7_sayTrial_44 : decode cX7_sayTrial 44 = .ok (.iaload, 1) := by decide +kernel
theorem dX7_sayTrial_45 : decode cX7_sayTrial 45 = .ok (.iconst 1, 1) := by decide +kernel
theorem dX7_sayTrial_46 : decode cX7_sayTrial 46 = .ok (.iload_n 2, 1) := by decide +kernel
theorem dX7_sayTrial_47 : decode cX7_sayTrial 47 = .ok (.ishl, 1) := by decide +kernel
theorem dX7_sayTrial_48 : decode cX7_sayTrial 48 = .ok (.ior, 1) := by decide +kernel
theorem dX7_sayTrial_49 : decode cX7_sayTrial 49 = .ok (.iastore, 1) := by decide +kernel
theorem dX7_sayTrial_50 : decode cX7_sayTrial 50 = .ok (.iload_n 3, 1) := by decide +kernel
theorem dX7_sayTrial_51 : decode cX7_sayTrial 51 = .ok (.ireturn, 1) := by decide +kernel
theorem dX7_planned_0 : decode cX7_planned 0 = .ok (.aload_n 0, 1) := by decide +kernel
theorem dX7_planned_1 : decode cX7_planned 1 = .ok (.invokevirtual 186, 3) := by decide +kernel
theorem dX7_planned_4 : decode cX7_planned 4 = .ok (.iload_n 3, 1) := by decide +kernel
theorem dX7_planned_5 : decode cX7_planned 5 = .ok (.sipush 10000, 3) := by decide +kernel
theorem dX7_planned_8 : decode cX7_planned 8 = .ok (.if_icmp .lt 25, 3) := by decide +kernel
theorem dX7_planned_11 : decode cX7_planned 11 = .ok (.aload_n 0, 1) := by decide +kernel
theorem dX7_planned_12 : decode cX7_planned 12 = .ok (.iload_n 3, 1) := by decide +kernel
theorem dX7_planned_13 : decode cX7_planned 13 = .ok (.sipush 1000, 3) := by decide +kernel
theorem dX7_planned_16 : decode cX7_planned 16 = .ok (.idiv, 1) := by decide +kernel
theorem dX7_planned_17 : decode cX7_planned 17 = .ok (.bipush 10, 2) := by decide +kernel
theorem dX7_planned_19 : decode cX7_planned 19 = .ok (.irem, 1) := by decide +kernel
theorem dX7_planned_20 : decode cX7_planned 20 = .ok (.iload_n 3, 1) := by decide +kernel
theorem dX7_planned_21 : decode cX7_planned 21 = .ok (.bipush 100, 2) := by decide +kernel
theorem dX7_planned_23 : decode cX7_planned 23 = .ok (.idiv, 1) := by decide +kernel
theorem dX7_planned_24 : decode cX7_planned 24 = .ok (.bipush 10, 2) := by decide +kernel
theorem dX7_planned_26 : decode cX7_planned 26 = .ok (.irem, 1) := by decide +kernel
theorem dX7_planned_27 : decode cX7_planned 27 = .ok (.invokevirtual 195, 3) := by decide +kernel
theorem dX7_planned_30 : decode cX7_planned 30 = .ok (.ifCond .eq 7, 3) := by decide +kernel
theorem dX7_planned_33 : decode cX7_planned 33 = .ok (.iconst 1, 1) := by decide +kernel
theorem dX7_planned_34 : decode cX7_planned 34 = .ok (.goto 4, 3) := by decide +kernel
theorem dX7_planned_37 : decode cX7_planned 37 = .ok (.iconst 0, 1) := by decide +kernel
theorem dX7_planned_38 : decode cX7_planned 38 = .ok (.istore 4, 2) := by decide +kernel
theorem dX7_planned_40 : decode cX7_planned 40 = .ok (.iload 4, 2) := by decide +kernel
theorem dX7_planned_42 : decode cX7_planned 42 = .ok (.ifCond .eq 31, 3) := by decide +kernel
theorem dX7_planned_45 : decode cX7_planned 45 = .ok (.iload_n 3, 1) := by decide +kernel
theorem dX7_planned_46 : decode cX7_planned 46 = .ok (.bipush 100, 2) := by decide +kernel
theorem dX7_planned_48 : decode cX7_planned 48 = .ok (.if_icmp .lt 21, 3) := by decide +kernel
theorem dX7_planned_51 : decode cX7_planned 51 = .ok (.aload_n 0, 1) := by decide +kernel
theorem dX7_planned_52 : decode cX7_planned 52 = .ok (.iload_n 3, 1) := by decide +kernel
theorem dX7_planned_53 : decode cX7_planned 53 = .ok (.bipush 10, 2) := by decide +kernel
theorem dX7_planned_55 : decode cX7_planned 55 = .ok (.idiv, 1) := by decide +kernel
theorem dX7_planned_56 : decode cX7_planned 56 = .ok (.bipush 10, 2) := by decide +kernel
theorem dX7_planned_58 : decode cX7_planned 58 = .ok (.irem, 1) := by decide +kernel
theorem dX7_planned_59 : decode cX7_planned 59 = .ok (.iload_n 3, 1) := by decide +kernel
theorem dX7_planned_60 : decode cX7_planned 60 = .ok (.bipush 10, 2) := by decide +kernel
theorem dX7_planned_62 : decode cX7_planned 62 = .ok (.irem, 1) := by decide +kernel
theorem dX7_planned_63 : decode cX7_planned 63 = .ok (.invokevirtual 195, 3) := by decide +kernel
theorem dX7_planned_66 : decode cX7_planned 66 = .ok (.ifCond .eq 7, 3) := by decide +kernel
theorem dX7_planned_69 : decode cX7_planned 69 = .ok (.iconst 1, 1) := by decide +kernel
theorem dX7_planned_70 : decode cX7_planned 70 = .ok (.goto 4, 3) := by decide +kernel
theorem dX7_planned_73 : decode cX7_planned 73 = .ok (.iconst 0, 1) := by decide +kernel
theorem dX7_planned_74 : decode cX7_planned 74 = .ok (.istore 4, 2) := by decide +kernel
theorem dX7_planned_76 : decode cX7_planned 76 = .ok (.aload_n 0, 1) := by decide +kernel
theorem dX7_planned_77 : decode cX7_planned 77 = .ok (.iload_n 2, 1) := by decide +kernel
theorem dX7_planned_78 : decode cX7_planned 78 = .ok (.invokevirtual 189, 3) := by decide +kernel
theorem dX7_planned_81 : decode cX7_planned 81 = .ok (.iload 4, 2) := by decide +kernel
theorem dX7_planned_83 : decode cX7_planned 83 = .ok (.ifCond .eq 12, 3) := by decide +kernel
theorem dX7_planned_86 : decode cX7_planned 86 = .ok (.aload_n 0, 1) := by decide +kernel
theorem dX7_planned_87 : decode cX7_planned 87 = .ok (.iconst 1, 1) := by decide +kernel
theorem dX7_planned_88 : decode cX7_planned 88 = .ok (.iload_n 1, 1) := by decide +kernel
theorem dX7_planned_89 : decode cX7_planned 89 = .ok (.invokevirtual 192, 3) := by decide +kernel
theorem dX7_planned_92 : decode cX7_planned 92 = .ok (.goto 5, 3) := by decide +kernel
theorem dX7_planned_95 : decode cX7_planned 95 = .ok (.bipush (-9), 2) := by decide +kernel
theorem dX7_planned_97 : decode cX7_planned 97 = .ok (.ireturn, 1) := by decide +kernel
theorem dX7_plan_0 : decode cX7_plan 0 = .ok (.aload_n 0, 1) := by decide +kernel
theorem dX7_plan_1 : decode cX7_plan 1 = .ok (.iload_n 1, 1) := by decide +kernel
theorem dX7_plan_2 : decode cX7_plan 2 = .ok (.invokevirtual 147, 3) := by decide +kernel
theorem dX7_plan_5 : decode cX7_plan 5 = .ok (.ifCond .ne 5, 3) := by decide +kernel
theorem dX7_plan_8 : decode cX7_plan 8 = .ok (.iconst (-1), 1) := by decide +kernel
theorem dX7_plan_9 : decode cX7_plan 9 = .ok (.ireturn, 1) := by decide +kernel
theorem dX7_plan_10 : decode cX7_plan 10 = .ok (.iload_n 2, 1) := by decide +kernel
theorem dX7_plan_11 : decode cX7_plan 11 = .ok (.i2l, 1) := by decide +kernel
theorem dX7_plan_12 : decode cX7_plan 12 = .ok (.lconst 0, 1) := by decide +kernel
theorem dX7_plan_13 : decode cX7_plan 13 = .ok (.ldc2_w 184, 3) := by decide +kernel
theorem dX7_plan_16 : decode cX7_plan 16 = .ok (.invokestatic 83, 3) := by decide +kernel
theorem dX7_plan_19 : decode cX7_plan 19 = .ok (.ifCond .ne 6, 3) := by decide +kernel
theorem dX7_plan_22 : decode cX7_plan 22 = .ok (.bipush (-2), 2) := by decide +kernel
theorem dX7_plan_24 : decode cX7_plan 24 = .ok (.ireturn, 1) := by decide +kernel
theorem dX7_plan_25 : decode cX7_plan 25 = .ok (.iconst 1, 1) := by decide +kernel
theorem dX7_plan_26 : decode cX7_plan 26 = .ok (.istore 4, 2) := by decide +kernel
theorem dX7_plan_28 : decode cX7_plan 28 = .ok (.aload_n 0, 1) := by decide +kernel
theorem dX7_plan_29 : decode cX7_plan 29 = .ok (.iload_n 1, 1) := by decide +kernel
theorem dX7_plan_30 : decode cX7_plan 30 = .ok (.iload_n 2, 1) := by decide +kernel
theorem dX7_plan_31 : decode cX7_plan 31 = .ok (.iconst 1, 1) := by decide +kernel
theorem dX7_plan_32 : decode cX7_plan 32 = .ok (.invokevirtual 198, 3) := by decide +kernel
theorem dX7_plan_35 : decode cX7_plan 35 = .ok (.istore 5, 2) := by decide +kernel
theorem dX7_plan_37 : decode cX7_plan 37 = .ok (.iconst 0, 1) := by decide +kernel
theorem dX7_plan_38 : decode cX7_plan 38 = .ok (.istore 6, 2) := by decide +kernel
theorem dX7_plan_40 : decode cX7_plan 40 = .ok (.iload 6, 2) := by decide +kernel
theorem dX7_plan_42 : decode cX7_plan 42 = .ok (.sipush 10100, 3) := by decide +kernel
theorem dX7_plan_45 : decode cX7_plan 45 = .ok (.if_icmp .ge 77, 3) := by decide +kernel
theorem dX7_plan_48 : decode cX7_plan 48 = .ok (.iload 6, 2) := by decide +kernel
theorem dX7_plan_50 : decode cX7_plan 50 = .ok (.bipush 100, 2) := by decide +kernel
theorem dX7_plan_52 : decode cX7_plan 52 = .ok (.if_icmp .ge 11, 3) := by decide +kernel
theorem dX7_plan_55 : decode cX7_plan 55 = .ok (.bipush 100, 2) := by decide +kernel
theorem dX7_plan_57 : decode cX7_plan 57 = .ok (.iload 6, 2) := by decide +kernel
theorem dX7_plan_59 : decode cX7_plan 59 = .ok (.iadd, 1) := by decide +kernel
theorem dX7_plan_60 : decode cX7_plan 60 = .ok (.goto 12, 3) := by decide +kernel
theorem dX7_plan_63 : decode cX7_plan 63 = .ok (.sipush 10000, 3) := by decide +kernel
theorem dX7_plan_66 : decode cX7_plan 66 = .ok (.iload 6, 2) := by decide +kernel
theorem dX7_plan_68 : decode cX7_plan 68 = .ok (.iadd, 1) := by decide +kernel
theorem dX7_plan_69 : decode cX7_plan 69 = .ok (.bipush 100, 2) := by decide +kernel
theorem dX7_plan_71 : decode cX7_plan 71 = .ok (.isub, 1) := by decide +kernel
theorem dX7_plan_72 : decode cX7_plan 72 = .ok (.istore 7, 2) := by decide +kernel
theorem dX7_plan_74 : decode cX7_plan 74 = .ok (.aload_n 0, 1) := by decide +kernel
theorem dX7_plan_75 : decode cX7_plan 75 = .ok (.iload_n 1, 1) := by decide +kernel
theorem dX7_plan_76 : decode cX7_plan 76 = .ok (.iload_n 2, 1) := by decide +kernel
theorem dX7_plan_77 : decode cX7_plan 77 = .ok (.iload 7, 2) := by decide +kernel
theorem dX7_plan_79 : decode cX7_plan 79 = .ok (.invokevirtual 198, 3) := by decide +kernel
theorem dX7_plan_82 : decode cX7_plan 82 = .ok (.istore 8, 2) := by decide +kernel
theorem dX7_plan_84 : decode cX7_plan 84 = .ok (.iload 8, 2) := by decide +kernel
theorem dX7_plan_86 : decode cX7_plan 86 = .ok (.iload 5, 2) := by decide +kernel
theorem dX7_plan_88 : decode cX7_plan 88 = .ok (.if_icmp .le 8, 3) := by decide +kernel
theorem dX7_plan_91 : decode cX7_plan 91 = .ok (.iload 7, 2) := by decide +kernel
theorem dX7_plan_93 : decode cX7_plan 93 = .ok (.goto 5, 3) := by decide +kernel
theorem dX7_plan_96 : decode cX7_plan 96 = .ok (.iload 4, 2) := by decide +kernel
theorem dX7_plan_98 : decode cX7_plan 98 = .ok (.istore 4, 2) := by decide +kernel
theorem dX7_plan_100 : decode cX7_plan 100 = .ok (.iload 8, 2) := by decide +kernel
theorem dX7_plan_102 : decode cX7_plan 102 = .ok (.iload 5, 2) := by decide +kernel
theorem dX7_plan_104 : decode cX7_plan 104 = .ok (.if_icmp .le 8, 3) := by decide +kernel
theorem dX7_plan_107 : decode cX7_plan 107 = .ok (.iload 8, 2) := by decide +kernel
theorem dX7_plan_109 : decode cX7_plan 109 = .ok (.goto 5, 3) := by decide +kernel
theorem dX7_plan_112 : decode cX7_plan 112 = .ok (.iload 5, 2) := by decide +kernel
theorem dX7_plan_114 : decode cX7_plan 114 = .ok (.istore 5, 2) := by decide +kernel
theorem dX7_plan_116 : decode cX7_plan 116 = .ok (.iinc 6 1, 3) := by decide +kernel
theorem dX7_plan_119 : decode cX7_plan 119 = .ok (.goto (-79), 3) := by decide +kernel
theorem dX7_plan_122 : decode cX7_plan 122 = .ok (.iload_n 3, 1) := by decide +kernel
theorem dX7_plan_123 : decode cX7_plan 123 = .ok (.ifCond .eq 8, 3) := by decide +kernel
theorem dX7_plan_126 : decode cX7_plan 126 = .ok (.iload 4, 2) := by decide +kernel
theorem dX7_plan_128 : decode cX7_plan 128 = .ok (.goto 5, 3) := by decide +kernel
theorem dX7_plan_131 : decode cX7_plan 131 = .ok (.iload 5, 2) := by decide +kernel
theorem dX7_plan_133 : decode cX7_plan 133 = .ok (.ireturn, 1) := by decide +kernel
theorem dX7_canBe_0 : decode cX7_canBe 0 = .ok (.iconst 1, 1) := by decide +kernel
theorem dX7_canBe_1 : decode cX7_canBe 1 = .ok (.istore_n 2, 1) := by decide +kernel
theorem dX7_canBe_2 : decode cX7_canBe 2 = .ok (.iconst 0, 1) := by decide +kernel
theorem dX7_canBe_3 : decode cX7_canBe 3 = .ok (.istore_n 3, 1) := by decide +kernel
theorem dX7_canBe_4 : decode cX7_canBe 4 = .ok (.iload_n 3, 1) := by decide +kernel
theorem dX7_canBe_5 : decode cX7_canBe 5 = .ok (.aload_n 0, 1) := by decide +kernel
theorem dX7_canBe_6 : decode cX7_canBe 6 = .ok (.getfield 77, 3) := by decide +kernel
theorem dX7_canBe_9 : decode cX7_canBe 9 = .ok (.if_icmp .ge 38, 3) := by decide +kernel
theorem dX7_canBe_12 : decode cX7_canBe 12 = .ok (.iload_n 2, 1) := by decide +kernel
theorem dX7_canBe_13 : decode cX7_canBe 13 = .ok (.ifCond .eq 26, 3) := by decide +kernel
theorem dX7_canBe_16 : decode cX7_canBe 16 = .ok (.iload_n 1, 1) := by decide +kernel
theorem dX7_canBe_17 : decode cX7_canBe 17 = .ok (.iload_n 3, 1) := by decide +kernel
theorem dX7_canBe_18 : decode cX7_canBe 18 = .ok (.invokestatic 98, 3) := by decide +kernel
theorem dX7_canBe_21 : decode cX7_canBe 21 = .ok (.ifCond .eq 14, 3) := by decide +kernel
theorem dX7_canBe_24 : decode cX7_canBe 24 = .ok (.aload_n 0, 1) := by decide +kernel
theorem dX7_canBe_25 : decode cX7_canBe 25 = .ok (.getfield 19, 3) := by decide +kernel
theorem dX7_canBe_28 : decode cX7_canBe 28 = .ok (.iload_n 3, 1) := by decide +kernel
theorem dX7_canBe_29 : decode cX7_canBe 29 = .ok (.iaload, 1) := by decide +kernel
theorem dX7_canBe_30 : decode cX7_canBe 30 = .ok (.iload_n 1, 1) := by decide +kernel
theorem dX7_canBe_31 : decode cX7_canBe 31 = .ok (.iand, 1) := by decide +kernel
theorem dX7_canBe_32 : decode cX7_canBe 32 = .ok (.ifCond .ne 7, 3) := by decide +kernel
theorem dX7_canBe_35 : decode cX7_canBe 35 = .ok (.iconst 1, 1) := by decide +kernel
theorem dX7_canBe_36 : decode cX7_canBe 36 = .ok (.goto 4, 3) := by decide +kernel
theorem dX7_canBe_39 : decode cX7_canBe 39 = .ok (.iconst 0, 1) := by decide +kernel
theorem dX7_canBe_40 : decode cX7_canBe 40 = .ok (.istore_n 2, 1) := by decide +kernel
theorem dX7_canBe_41 : decode cX7_canBe 41 = .ok (.iinc 3 1, 3) := by decide +kernel
theorem dX7_canBe_44 : decode cX7_canBe 44 = .ok (.goto (-40), 3) := by decide +kernel
theorem dX7_canBe_47 : decode cX7_canBe 47 = .ok (.iload_n 2, 1) := by decide +kernel
theorem dX7_canBe_48 : decode cX7_canBe 48 = .ok (.ireturn, 1) := by decide +kernel
theorem dX7_holds_0 : decode cX7_holds 0 = .ok (.aload_n 0, 1) := by decide +kernel
theorem dX7_holds_1 : decode cX7_holds 1 = .ok (.iload_n 1, 1) := by decide +kernel
theorem dX7_holds_2 : decode cX7_holds 2 = .ok (.invokevirtual 147, 3) := by decide +kernel
theorem dX7_holds_5 : decode cX7_holds 5 = .ok (.ifCond .ne 5, 3) := by decide +kernel
theorem dX7_holds_8 : decode cX7_holds 8 = .ok (.iconst (-1), 1) := by decide +kernel
theorem dX7_holds_9 : decode cX7_holds 9 = .ok (.ireturn, 1) := by decide +kernel
theorem dX7_holds_10 : decode cX7_holds 10 = .ok (.iconst 0, 1) := by decide +kernel
theorem dX7_holds_11 : decode cX7_holds 11 = .ok (.istore_n 3, 1) := by decide +kernel
theorem dX7_holds_12 : decode cX7_holds 12 = .ok (.iconst 0, 1) := by decide +kernel
theorem dX7_holds_13 : decode cX7_holds 13 = .ok (.istore 4, 2) := by decide +kernel
theorem dX7_holds_15 : decode cX7_holds 15 = .ok (.iconst 1, 1) := by decide +kernel
theorem dX7_holds_16 : decode cX7_holds 16 = .ok (.istore 5, 2) := by decide +kernel
theorem dX7_holds_18 : decode cX7_holds 18 = .ok (.iload 5, 2) := by decide +kernel
theorem dX7_holds_20 : decode cX7_holds 20 = .ok (.iconst 1, 1) := by decide +kernel
theorem dX7_holds_21 : decode cX7_holds 21 = .ok (.aload_n 0, 1) := by decide +kernel
theorem dX7_holds_22 : decode cX7_holds 22 = .ok (.getfield 77, 3) := by decide +kernel
theorem dX7_holds_25 : decode cX7_holds 25 = .ok (.ishl, 1) := by decide +kernel
theorem dX7_holds_26 : decode cX7_holds 26 = .ok (.if_icmp .ge 138, 3) := by decide +kernel
theorem dX7_holds_29 : decode cX7_holds 29 = .ok (.iconst 0, 1) := by decide +kernel
theorem dX7_holds_30 : decode cX7_holds 30 = .ok (.istore 6, 2) := by decide +kernel
theorem dX7_holds_32 : decode cX7_holds 32 = .ok (.iconst 0, 1) := by decide +kernel
theorem dX7_holds_33 : decode cX7_holds 33 = .ok (.istore 7, 2) := by decide +kernel
theorem dX7_holds_35 : decode cX7_holds 35 = .ok (.iload 7, 2) := by decide +kernel
theorem dX7_holds_37 : decode cX7_holds 37 = .ok (.aload_n 0, 1) := by decide +kernel
theorem dX7_holds_38 : decode cX7_holds 38 = .ok (.getfield 77, 3) := by decide +kernel
theorem dX7_holds_41 : decode cX7_holds 41 = .ok (.if_icmp .ge 49, 3) := by decide +kernel
theorem dX7_holds_44 : decode cX7_holds 44 = .ok (.iload 6, 2) := by decide +kernel
theorem dX7_holds_46 : decode cX7_holds 46 = .ok (.iload 5, 2) := by decide +kernel
theorem dX7_holds_48 : decode cX7_holds 48 = .ok (.iload 7, 2) := by decide +kernel
theorem dX7_holds_50 : decode cX7_holds 50 = .ok (.invokestatic 98, 3) := by decide +kernel
theorem dX7_holds_53 : decode cX7_holds 53 = .ok (.ifCond .eq 27, 3) := by decide +kernel
theorem dX7_holds_56 : decode cX7_holds 56 = .ok (.aload_n 0, 1) := by decide +kernel
theorem dX7_holds_57 : decode cX7_holds 57 = .ok (.getfield 25, 3) := by decide +kernel
theorem dX7_holds_60 : decode cX7_holds 60 = .ok (.aload_n 0, 1) := by decide +kernel
theorem dX7_holds_61 : decode cX7_holds 61 = .ok (.iconst 0, 1) := by decide +kernel
theorem dX7_holds_62 : decode cX7_holds 62 = .ok (.iload_n 1, 1) := by decide +kernel
theorem dX7_holds_63 : decode cX7_holds 63 = .ok (.iload 7, 2) := by decide +kernel
theorem dX7_holds_65 : decode cX7_holds 65 = .ok (.invokevirtual 150, 3) := by decide +kernel
theorem dX7_holds_68 : decode cX7_holds 68 = .ok (.iaload, 1) := by decide +kernel
theorem dX7_holds_69 : decode cX7_holds 69 = .ok (.aload_n 0, 1) := by decide +kernel
theorem dX7_holds_70 : decode cX7_holds 70 = .ok (.iconst 0, 1) := by decide +kernel
theorem dX7_holds_71 : decode cX7_holds 71 = .ok (.iload 7, 2) := by decide +kernel
theorem dX7_holds_73 : decode cX7_holds 73 = .ok (.invokevirtual 177, 3) := by decide +kernel
theorem dX7_holds_76 : decode cX7_holds 76 = .ok (.imul, 1) := by decide +kernel
theorem dX7_holds_77 : decode cX7_holds 77 = .ok (.goto 4, 3) := by decide +kernel
theorem dX7_holds_80 : decode cX7_holds 80 = .ok (.iconst 0, 1) := by decide +kernel
theorem dX7_holds_81 : decode cX7_holds 81 = .ok (.iadd, 1) := by decide +kernel
theorem dX7_holds_82 : decode cX7_holds 82 = .ok (.istore 6, 2) := by decide +kernel
theorem dX7_holds_84 : decode cX7_holds 84 = .ok (.iinc 7 1, 3) := by decide +kernel
theorem dX7_holds_87 : decode cX7_holds 87 = .ok (.goto (-52), 3) := by decide +kernel
theorem dX7_holds_90 : decode cX7_holds 90 = .ok (.aload_n 0, 1) := by decide +kernel
theorem dX7_holds_91 : decode cX7_holds 91 = .ok (.iload 5, 2) := by decide +kernel
theorem dX7_holds_93 : decode cX7_holds 93 = .ok (.invokevirtual 201, 3) := by decide +kernel
theorem dX7_holds_96 : decode cX7_holds 96 = .ok (.ifCond .eq 33, 3) := by decide +kernel
theorem dX7_holds_99 : decode cX7_holds 99 = .ok (.iload 6, 2) := by decide +kernel
theorem dX7_holds_101 : decode cX7_holds 101 = .ok (.iload 4, 2) := by decide +kernel
theorem dX7_holds_103 : decode cX7_holds 103 = .ok (.if_icmp .gt 22, 3) := by decide +kernel
theorem dX7_holds_106 : decode cX7_holds 106 = .ok (.iload 6, 2) := by decide +kernel
theorem dX7_holds_108 : decode cX7_holds 108 = .ok (.iload 4, 2) := by decide +kernel
theorem dX7_holds_110 : decode cX7_holds 110 = .ok (.if_icmp .ne 19, 3) := by decide +kernel
theorem dX7_holds_113 : decode cX7_holds 113 = .ok (.iload 5, 2) := by decide +kernel
theorem dX7_holds_115 : decode cX7_holds 115 = .ok (.invokestatic 140, 3) := by decide +kernel
theorem dX7_holds_118 : decode cX7_holds 118 = .ok (.iload_n 3, 1) := by decide +kernel
theorem dX7_holds_119 : decode cX7_holds 119 = .ok (.invokestatic 140, 3) := by decide +kernel
theorem dX7_holds_122 : decode cX7_holds 122 = .ok (.if_icmp .ge 7, 3) := by decide +kernel
theorem dX7_holds_125 : decode cX7_holds 125 = .ok (.iconst 1, 1) := by decide +kernel
theorem dX7_holds_126 : decode cX7_holds 126 = .ok (.goto 4, 3) := by decide +kernel
theorem dX7_holds_129 : decode cX7_holds 129 = .ok (.iconst 0, 1) := by decide +kernel
theorem dX7_holds_130 : decode cX7_holds 130 = .ok (.istore 7, 2) := by decide +kernel
theorem dX7_holds_132 : decode cX7_holds 132 = .ok (.iload 7, 2) := by decide +kernel
theorem dX7_holds_134 : decode cX7_holds 134 = .ok (.ifCond .eq 8, 3) := by decide +kernel
theorem dX7_holds_137 : decode cX7_holds 137 = .ok (.iload 5, 2) := by decide +kernel
theorem dX7_holds_139 : decode cX7_holds 139 = .ok (.goto 4, 3) := by decide +kernel
theorem dX7_holds_142 : decode cX7_holds 142 = .ok (.iload_n 3, 1) := by decide +kernel
theorem dX7_holds_143 : decode cX7_holds 143 = .ok (.istore_n 3, 1) := by decide +kernel
theorem dX7_holds_144 : decode cX7_holds 144 = .ok (.iload 7, 2) := by decide +kernel
theorem dX7_holds_146 : decode cX7_holds 146 = .ok (.ifCond .eq 8, 3) := by decide +kernel
theorem dX7_holds_149 : decode cX7_holds 149 = .ok (.iload 6, 2) := by decide +kernel
theorem dX7_holds_151 : decode cX7_holds 151 = .ok (.goto 5, 3) := by decide +kernel
theorem dX7_holds_154 : decode cX7_holds 154 = .ok (.iload 4, 2) := by decide +kernel
theorem dX7_holds_156 : decode cX7_holds 156 = .ok (.istore 4, 2) := by decide +kernel
theorem dX7_holds_158 : decode cX7_holds 158 = .ok (.iinc 5 1, 3) := by decide +kernel
theorem dX7_holds_161 : decode cX7_holds 161 = .ok (.goto (-143), 3) := by decide +kernel
theorem dX7_holds_164 : decode cX7_holds 164 = .ok (.iload_n 2, 1) := by decide +kernel
theorem dX7_holds_165 : decode cX7_holds 165 = .ok (.ifCond .eq 7, 3) := by decide +kernel
theorem dX7_holds_168 : decode cX7_holds 168 = .ok (.iload_n 3, 1) := by decide +kernel
theorem dX7_holds_169 : decode cX7_holds 169 = .ok (.goto 5, 3) := by decide +kernel
theorem dX7_holds_172 : decode cX7_holds 172 = .ok (.iload 4, 2) := by decide +kernel
theorem dX7_holds_174 : decode cX7_holds 174 = .ok (.ireturn, 1) := by decide +kernel
theorem dX7_tenTo_0 : decode cX7_tenTo 0 = .ok (.lconst 1, 1) := by decide +kernel
theorem dX7_tenTo_1 : decode cX7_tenTo 1 = .ok (.lstore_n 1, 1) := by decide +kernel
theorem dX7_tenTo_2 : decode cX7_tenTo 2 = .ok (.iconst 0, 1) := by decide +kernel
theorem dX7_tenTo_3 : decode cX7_tenTo 3 = .ok (.istore_n 3, 1) := by decide +kernel
theorem dX7_tenTo_4 : decode cX7_tenTo 4 = .ok (.iload_n 3, 1) := by decide +kernel
theorem dX7_tenTo_5 : decode cX7_tenTo 5 = .ok (.iload_n 0, 1) := by decide +kernel
theorem dX7_tenTo_6 : decode cX7_tenTo 6 = .ok (.if_icmp .ge 15, 3) := by decide +kernel
theorem dX7_tenTo_9 : decode cX7_tenTo 9 = .ok (.lload_n 1, 1) := by decide +kernel
theorem dX7_tenTo_10 : decode cX7_tenTo 10 = .ok (.ldc2_w 204, 3) := by decide +kernel
theorem dX7_tenTo_13 : decode cX7_tenTo 13 = .ok (.lmul, 1) := by decide +kernel
theorem dX7_tenTo_14 : decode cX7_tenTo 14 = .ok (.lstore_n 1, 1) := by decide +kernel
theorem dX7_tenTo_15 : decode cX7_tenTo 15 = .ok (.iinc 3 1, 3) := by decide +kernel
theorem dX7_tenTo_18 : decode cX7_tenTo 18 = .ok (.goto (-14), 3) := by decide +kernel
theorem dX7_tenTo_21 : decode cX7_tenTo 21 = .ok (.lload_n 1, 1) := by decide +kernel
theorem dX7_tenTo_22 : decode cX7_tenTo 22 = .ok (.lreturn, 1) := by decide +kernel
theorem dX7_allWorth_0 : decode cX7_allWorth 0 = .ok (.iconst 0, 1) := by decide +kernel
theorem dX7_allWorth_1 : decode cX7_allWorth 1 = .ok (.istore_n 2, 1) := by decide +kernel
theorem dX7_allWorth_2 : decode cX7_allWorth 2 = .ok (.iconst 0, 1) := by decide +kernel
theorem dX7_allWorth_3 : decode cX7_allWorth 3 = .ok (.istore_n 3, 1) := by decide +kernel
theorem dX7_allWorth_4 : decode cX7_allWorth 4 = .ok (.iload_n 3, 1) := by decide +kernel
theorem dX7_allWorth_5 : decode cX7_allWorth 5 = .ok (.aload_n 0, 1) := by decide +kernel
theorem dX7_allWorth_6 : decode cX7_allWorth 6 = .ok (.getfield 77, 3) := by decide +kernel
theorem dX7_allWorth_9 : decode cX7_allWorth 9 = .ok (.if_icmp .ge 18, 3) := by decide +kernel
theorem dX7_allWorth_12 : decode cX7_allWorth 12 = .ok (.iload_n 2, 1) := by decide +kernel
theorem dX7_allWorth_13 : decode cX7_allWorth 13 = .ok (.aload_n 0, 1) := by decide +kernel
theorem dX7_allWorth_14 : decode cX7_allWorth 14 = .ok (.iload_n 1, 1) := by decide +kernel
theorem dX7_allWorth_15 : decode cX7_allWorth 15 = .ok (.iload_n 3, 1) := by decide +kernel
theorem dX7_allWorth_16 : decode cX7_allWorth 16 = .ok (.invokevirtual 177, 3) := by decide +kernel
theorem dX7_allWorth_19 : decode cX7_allWorth 19 = .ok (.iadd, 1) := by decide +kernel
theorem dX7_allWorth_20 : decode cX7_allWorth 20 = .ok (.istore_n 2, 1) := by decide +kernel
theorem dX7_allWorth_21 : decode cX7_allWorth 21 = .ok (.iinc 3 1, 3) := by decide +kernel
theorem dX7_allWorth_24 : decode cX7_allWorth 24 = .ok (.goto (-20), 3) := by decide +kernel
theorem dX7_allWorth_27 : decode cX7_allWorth 27 = .ok (.iload_n 2, 1) := by decide +kernel
theorem dX7_allWorth_28 : decode cX7_allWorth 28 = .ok (.ireturn, 1) := by decide +kernel
theorem dX7_tryThing_0 : decode cX7_tryThing 0 = .ok (.iload_n 1, 1) := by decide +kernel
theorem dX7_tryThing_1 : decode cX7_tryThing 1 = .ok (.bipush 10, 2) := by decide +kernel
theorem dX7_tryThing_3 : decode cX7_tryThing 3 = .ok (.idiv, 1) := by decide +kernel
theorem dX7_tryThing_4 : decode cX7_tryThing 4 = .ok (.bipush 10, 2) := by decide +kernel
theorem dX7_tryThing_6 : decode cX7_tryThing 6 = .ok (.irem, 1) := by decide +kernel
theorem dX7_tryThing_7 : decode cX7_tryThing 7 = .ok (.istore_n 2, 1) := by decide +kernel
theorem dX7_tryThing_8 : decode cX7_tryThing 8 = .ok (.iload_n 1, 1) := by decide +kernel
theorem dX7_tryThing_9 : decode cX7_tryThing 9 = .ok (.bipush 10, 2) := by decide +kernel
theorem dX7_tryThing_11 : decode cX7_tryThing 11 = .ok (.irem, 1) := by decide +kernel
theorem dX7_tryThing_12 : decode cX7_tryThing 12 = .ok (.istore_n 3, 1) := by decide +kernel
theorem dX7_tryThing_13 : decode cX7_tryThing 13 = .ok (.iload_n 1, 1) := by decide +kernel
theorem dX7_tryThing_14 : decode cX7_tryThing 14 = .ok (.bipush 100, 2) := by decide +kernel
theorem dX7_tryThing_16 : decode cX7_tryThing 16 = .ok (.idiv, 1) := by decide +kernel
theorem dX7_tryThing_17 : decode cX7_tryThing 17 = .ok (.iconst 2, 1) := by decide +kernel
theorem dX7_tryThing_18 : decode cX7_tryThing 18 = .ok (.if_icmp .ne 11, 3) := by decide +kernel
theorem dX7_tryThing_21 : decode cX7_tryThing 21 = .ok (.aload_n 0, 1) := by decide +kernel
theorem dX7_tryThing_22 : decode cX7_tryThing 22 = .ok (.iconst 1, 1) := by decide +kernel
theorem dX7_tryThing_23 : decode cX7_tryThing 23 = .ok (.invokevirtual 160, 3) := by decide +kernel
theorem dX7_tryThing_26 : decode cX7_tryThing 26 = .ok (.pop, 1) := by decide +kernel
theorem dX7_tryThing_27 : decode cX7_tryThing 27 = .ok (.iconst 1, 1) := by decide +kernel
theorem dX7_tryThing_28 : decode cX7_tryThing 28 = .ok (.ireturn, 1) := by decide +kernel
theorem dX7_tryThing_29 : decode cX7_tryThing 29 = .ok (.iload_n 1, 1) := by decide +kernel
theorem dX7_tryThing_30 : decode cX7_tryThing 30 = .ok (.bipush 100, 2) := by decide +kernel
theorem dX7_tryThing_32 : decode cX7_tryThing 32 = .ok (.idiv, 1) := by decide +kernel
theorem dX7_tryThing_33 : decode cX7_tryThing 33 = .ok (.ifCond .ne 10, 3) := by decide +kernel
theorem dX7_tryThing_36 : decode cX7_tryThing 36 = .ok (.aload_n 0, 1) := by decide +kernel
theorem dX7_tryThing_37 : decode cX7_tryThing 37 = .ok (.iload_n 2, 1) := by decide +kernel
theorem dX7_tryThing_38 : decode cX7_tryThing 38 = .ok (.iload_n 3, 1) := by decide +kernel
theorem dX7_tryThing_39 : decode cX7_tryThing 39 = .ok (.invokevirtual 195, 3) := by decide +kernel
theorem dX7_tryThing_42 : decode cX7_tryThing 42 = .ok (.ireturn, 1) := by decide +kernel
theorem dX7_tryThing_43 : decode cX7_tryThing 43 = .ok (.iload_n 1, 1) := by decide +kernel
theorem dX7_tryThing_44 : decode cX7_tryThing 44 = .ok (.bipush 100, 2) := by decide +kernel
theorem dX7_tryThing_46 : decode cX7_tryThing 46 = .ok (.idiv, 1) := by decide +kernel
theorem dX7_tryThing_47 : decode cX7_tryThing 47 = .ok (.iconst 1, 1) := by decide +kernel
theorem dX7_tryThing_48 : decode cX7_tryThing 48 = .ok (.if_icmp .ne 32, 3) := by decide +kernel
theorem dX7_tryThing_51 : decode cX7_tryThing 51 = .ok (.aload_n 0, 1) := by decide +kernel
theorem dX7_tryThing_52 : decode cX7_tryThing 52 = .ok (.iload_n 2, 1) := by decide +kernel
theorem dX7_tryThing_53 : decode cX7_tryThing 53 = .ok (.invokevirtual 143, 3) := by decide +kernel
theorem dX7_tryThing_56 : decode cX7_tryThing 56 = .ok (.ifCond .eq 24, 3) := by decide +kernel
theorem dX7_tryThing_59 : decode cX7_tryThing 59 = .ok (.iload_n 3, 1) := by decide +kernel
theorem dX7_tryThing_60 : decode cX7_tryThing 60 = .ok (.invokestatic 163, 3) := by decide +kernel
theorem dX7_tryThing_63 : decode cX7_tryThing 63 = .ok (.ifCond .eq 17, 3) := by decide +kernel
theorem dX7_tryThing_66 : decode cX7_tryThing 66 = .ok (.aload_n 0, 1) := by decide +kernel
theorem dX7_tryThing_67 : decode cX7_tryThing 67 = .ok (.iconst 1, 1) := by decide +kernel
theorem dX7_tryThing_68 : decode cX7_tryThing 68 = .ok (.iload_n 2, 1) := by decide +kernel
theorem dX7_tryThing_69 : decode cX7_tryThing 69 = .ok (.iload_n 3, 1) := by decide +kernel
theorem dX7_tryThing_70 : decode cX7_tryThing 70 = .ok (.invokevirtual 170, 3) := by decide +kernel
theorem dX7_tryThing_73 : decode cX7_tryThing 73 = .ok (.ifCond .eq 7, 3) := by decide +kernel
theorem dX7_tryThing_76 : decode cX7_tryThing 76 = .ok (.iconst 1, 1) := by decide +kernel
theorem dX7_tryThing_77 : decode cX7_tryThing 77 = .ok (.goto 4, 3) := by decide +kernel
theorem dX7_tryThing_80 : decode cX7_tryThing 80 = .ok (.iconst 0, 1) := by decide +kernel
theorem dX7_tryThing_81 : decode cX7_tryThing 81 = .ok (.istore 4, 2) := by decide +kernel
theorem dX7_tryThing_83 : decode cX7_tryThing 83 = .ok (.iload 4, 2) := by decide +kernel
theorem dX7_tryThing_85 : decode cX7_tryThing 85 = .ok (.ifCond .eq 10, 3) := by decide +kernel
theorem dX7_tryThing_88 : decode cX7_tryThing 88 = .ok (.aload_n 0, 1) := by decide +kernel
theorem dX7_tryThing_89 : decode cX7_tryThing 89 = .ok (.iconst 1, 1) := by decide +kernel
theorem dX7_tryThing_90 : decode cX7_tryThing 90 = .ok (.iload_n 2, 1) := by decide +kernel
theorem dX7_tryThing_91 : decode cX7_tryThing 91 = .ok (.iload_n 3, 1) := by decide +kernel
theorem dX7_tryThing_92 : decode cX7_tryThing 92 = .ok (.invokevirtual 173, 3) := by decide +kernel
theorem dX7_tryThing_95 : decode cX7_tryThing 95 = .ok (.iload 4, 2) := by decide +kernel
theorem dX7_tryThing_97 : decode cX7_tryThing 97 = .ok (.ireturn, 1) := by decide +kernel
theorem dX7_judge_0 : decode cX7_judge 0 = .ok (.iload_n 1, 1) := by decide +kernel
theorem dX7_judge_1 : decode cX7_judge 1 = .ok (.i2l, 1) := by decide +kernel
theorem dX7_judge_2 : decode cX7_judge 2 = .ok (.lconst 1, 1) := by decide +kernel
theorem dX7_judge_3 : decode cX7_judge 3 = .ok (.ldc2_w 206, 3) := by decide +kernel
theorem dX7_judge_6 : decode cX7_judge 6 = .ok (.invokestatic 83, 3) := by decide +kernel
theorem dX7_judge_9 : decode cX7_judge 9 = .ok (.ifCond .eq 19, 3) := by decide +kernel
theorem dX7_judge_12 : decode cX7_judge 12 = .ok (.lload_n 2, 1) := by decide +kernel
theorem dX7_judge_13 : decode cX7_judge 13 = .ok (.lconst 0, 1) := by decide +kernel
theorem dX7_judge_14 : decode cX7_judge 14 = .ok (.iconst 3, 1) := by decide +kernel
theorem dX7_judge_15 : decode cX7_judge 15 = .ok (.iload_n 1, 1) := by decide +kernel
theorem dX7_judge_16 : decode cX7_judge 16 = .ok (.imul, 1) := by decide +kernel
theorem dX7_judge_17 : decode cX7_judge 17 = .ok (.invokestatic 208, 3) := by decide +kernel
theorem dX7_judge_20 : decode cX7_judge 20 = .ok (.lconst 1, 1) := by decide +kernel
theorem dX7_judge_21 : decode cX7_judge 21 = .ok (.lsub, 1) := by decide +kernel
theorem dX7_judge_22 : decode cX7_judge 22 = .ok (.invokestatic 83, 3) := by decide +kernel
theorem dX7_judge_25 : decode cX7_judge 25 = .ok (.ifCond .ne 6, 3) := by decide +kernel
theorem dX7_judge_28 : decode cX7_judge 28 = .ok (.bipush (-2), 2) := by decide +kernel
theorem dX7_judge_30 : decode cX7_judge 30 = .ok (.ireturn, 1) := by decide +kernel
theorem dX7_judge_31 : decode cX7_judge 31 = .ok (.aload_n 0, 1) := by decide +kernel
theorem dX7_judge_32 : decode cX7_judge 32 = .ok (.invokevirtual 186, 3) := by decide +kernel
theorem dX7_judge_35 : decode cX7_judge 35 = .ok (.iconst 0, 1) := by decide +kernel
theorem dX7_judge_36 : decode cX7_judge 36 = .ok (.istore 4, 2) := by decide +kernel
theorem dX7_judge_38 : decode cX7_judge 38 = .ok (.iload 4, 2) := by decide +kernel
theorem dX7_judge_40 : decode cX7_judge 40 = .ok (.iload_n 1, 1) := by decide +kernel
theorem dX7_judge_41 : decode cX7_judge 41 = .ok (.if_icmp .ge 54, 3) := by decide +kernel
theorem dX7_judge_44 : decode cX7_judge 44 = .ok (.aload_n 0, 1) := by decide +kernel
theorem dX7_judge_45 : decode cX7_judge 45 = .ok (.iconst 1, 1) := by decide +kernel
theorem dX7_judge_46 : decode cX7_judge 46 = .ok (.invokevirtual 212, 3) := by decide +kernel
theorem dX7_judge_49 : decode cX7_judge 49 = .ok (.istore 5, 2) := by decide +kernel
theorem dX7_judge_51 : decode cX7_judge 51 = .ok (.aload_n 0, 1) := by decide +kernel
theorem dX7_judge_52 : decode cX7_judge 52 = .ok (.lload_n 2, 1) := by decide +kernel
theorem dX7_judge_53 : decode cX7_judge 53 = .ok (.iconst 3, 1) := by decide +kernel
theorem dX7_judge_54 : decode cX7_judge 54 = .ok (.iload_n 1, 1) := by decide +kernel
theorem dX7_judge_55 : decode cX7_judge 55 = .ok (.iconst 1, 1) := by decide +kernel
theorem dX7_judge_56 : decode cX7_judge 56 = .ok (.isub, 1) := by decide +kernel
theorem dX7_judge_57 : decode cX7_judge 57 = .ok (.iload 4, 2) := by decide +kernel
theorem dX7_judge_59 : decode cX7_judge 59 = .ok (.isub, 1) := by decide +kernel
theorem dX7_judge_60 : decode cX7_judge 60 = .ok (.imul, 1) := by decide +kernel
theorem dX7_judge_61 : decode cX7_judge 61 = .ok (.invokestatic 208, 3) := by decide +kernel
theorem dX7_judge_64 : decode cX7_judge 64 = .ok (.ldiv, 1) := by decide +kernel
theorem dX7_judge_65 : decode cX7_judge 65 = .ok (.ldc2_w 215, 3) := by decide +kernel
theorem dX7_judge_68 : decode cX7_judge 68 = .ok (.lrem, 1) := by decide +kernel
theorem dX7_judge_69 : decode cX7_judge 69 = .ok (.l2i, 1) := by decide +kernel
theorem dX7_judge_70 : decode cX7_judge 70 = .ok (.invokevirtual 217, 3) := by decide +kernel
theorem dX7_judge_73 : decode cX7_judge 73 = .ok (.ifCond .eq 13, 3) := by decide +kernel
theorem dX7_judge_76 : decode cX7_judge 76 = .ok (.aload_n 0, 1) := by decide +kernel
theorem dX7_judge_77 : decode cX7_judge 77 = .ok (.iconst 1, 1) := by decide +kernel
theorem dX7_judge_78 : decode cX7_judge 78 = .ok (.invokevirtual 212, 3) := by decide +kernel
theorem dX7_judge_81 : decode cX7_judge 81 = .ok (.iload 5, 2) := by decide +kernel
theorem dX7_judge_83 : decode cX7_judge 83 = .ok (.if_icmp .ge 6, 3) := by decide +kernel
theorem dX7_judge_86 : decode cX7_judge 86 = .ok (.iload 4, 2) := by decide +kernel
theorem dX7_judge_88 : decode cX7_judge 88 = .ok (.ireturn, 1) := by decide +kernel
theorem dX7_judge_89 : decode cX7_judge 89 = .ok (.iinc 4 1, 3) := by decide +kernel
theorem dX7_judge_92 : decode cX7_judge 92 = .ok (.goto (-54), 3) := by decide +kernel
theorem dX7_judge_95 : decode cX7_judge 95 = .ok (.bipush (-9), 2) := by decide +kernel
theorem dX7_judge_97 : decode cX7_judge 97 = .ok (.ireturn, 1) := by decide +kernel
theorem dX7_hear_0 : decode cX7_hear 0 = .ok (.aload_n 0, 1) := by decide +kernel
theorem dX7_hear_1 : decode cX7_hear 1 = .ok (.iload_n 1, 1) := by decide +kernel
theorem dX7_hear_2 : decode cX7_hear 2 = .ok (.invokevirtual 143, 3) := by decide +kernel
theorem dX7_hear_5 : decode cX7_hear 5 = .ok (.ifCond .ne 5, 3) := by decide +kernel
theorem dX7_hear_8 : decode cX7_hear 8 = .ok (.iconst (-1), 1) := by decide +kernel
theorem dX7_hear_9 : decode cX7_hear 9 = .ok (.ireturn, 1) := by decide +kernel
theorem dX7_hear_10 : decode cX7_hear 10 = .ok (.iload_n 2, 1) := by decide +kernel
theorem dX7_hear_11 : decode cX7_hear 11 = .ok (.invokestatic 163, 3) := by decide +kernel
theorem dX7_hear_14 : decode cX7_hear 14 = .ok (.ifCond .eq 15, 3) := by decide +kernel
theorem dX7_hear_17 : decode cX7_hear 17 = .ok (.iload_n 3, 1) := by decide +kernel
theorem dX7_hear_18 : decode cX7_hear 18 = .ok (.i2l, 1) := by decide +kernel
theorem dX7_hear_19 : decode cX7_hear 19 = .ok (.lconst 0, 1) := by decide +kernel
theorem dX7_hear_20 : decode cX7_hear 20 = .ok (.ldc2_w 184, 3) := by decide +kernel
theorem dX7_hear_23 : decode cX7_hear 23 = .ok (.invokestatic 83, 3) := by decide +kernel
theorem dX7_hear_26 : decode cX7_hear 26 = .ok (.ifCond .ne 6, 3) := by decide +kernel
theorem dX7_hear_29 : decode cX7_hear 29 = .ok (.bipush (-2), 2) := by decide +kernel
theorem dX7_hear_31 : decode cX7_hear 31 = .ok (.ireturn, 1) := by decide +kernel
theorem dX7_hear_32 : decode cX7_hear 32 = .ok (.aload_n 0, 1) := by decide +kernel
theorem dX7_hear_33 : decode cX7_hear 33 = .ok (.getfield 220, 3) := by decide +kernel
theorem dX7_hear_36 : decode cX7_hear 36 = .ok (.bipush 6, 2) := by decide +kernel
theorem dX7_hear_38 : decode cX7_hear 38 = .ok (.if_icmp .ne 6, 3) := by decide +kernel
theorem dX7_hear_41 : decode cX7_hear 41 = .ok (.bipush (-4), 2) := by decide +kernel
theorem dX7_hear_43 : decode cX7_hear 43 = .ok (.ireturn, 1) := by decide +kernel
theorem dX7_hear_44 : decode cX7_hear 44 = .ok (.aload_n 0, 1) := by decide +kernel
theorem dX7_hear_45 : decode cX7_hear 45 = .ok (.getfield 52, 3) := by decide +kernel
theorem dX7_hear_48 : decode cX7_hear 48 = .ok (.aload_n 0, 1) := by decide +kernel
theorem dX7_hear_49 : decode cX7_hear 49 = .ok (.getfield 220, 3) := by decide +kernel
theorem dX7_hear_52 : decode cX7_hear 52 = .ok (.iload_n 1, 1) := by decide +kernel
theorem dX7_hear_53 : decode cX7_hear 53 = .ok (.iastore, 1) := by decide +kernel
theorem dX7_hear_54 : decode cX7_hear 54 = .ok (.aload_n 0, 1) := by decide +kernel
theorem dX7_hear_55 : decode cX7_hear 55 = .ok (.getfield 55, 3) := by decide +kernel
theorem dX7_hear_58 : decode cX7_hear 58 = .ok (.aload_n 0, 1) := by decide +kernel
theorem dX7_hear_59 : decode cX7_hear 59 = .ok (.getfield 220, 3) := by decide +kernel
theorem dX7_hear_62 : decode cX7_hear 62 = .ok (.iload_n 2, 1) := by decide +kernel
theorem dX7_hear_63 : decode cX7_hear 63 = .ok (.iastore, 1) := by decide +kernel
theorem dX7_hear_64 : decode cX7_hear 64 = .ok (.aload_n 0, 1) := by decide +kernel
theorem dX7_hear_65 : decode cX7_hear 65 = .ok (.getfield 58, 3) := by decide +kernel
theorem dX7_hear_68 : decode cX7_hear 68 = .ok (.aload_n 0, 1) := by decide +kernel
theorem dX7_hear_69 : decode cX7_hear 69 = .ok (.getfield 220, 3) := by decide +kernel
theorem dX7_hear_72 : decode cX7_hear 72 = .ok (.iload_n 3, 1) := by decide +kernel
theorem dX7_hear_73 : decode cX7_hear 73 = .ok (.iastore, 1) := by decide +kernel
theorem dX7_hear_74 : decode cX7_hear 74 = .ok (.aload_n 0, 1) := by decide +kernel
theorem dX7_hear_75 : decode cX7_hear 75 = .ok (.getfield 61, 3) := by decide +kernel
theorem dX7_hear_78 : decode cX7_hear 78 = .ok (.aload_n 0, 1) := by decide +kernel
theorem dX7_hear_79 : decode cX7_hear 79 = .ok (.getfield 220, 3) := by decide +kernel
theorem dX7_hear_82 : decode cX7_hear 82 = .ok (.iload 4, 2) := by decide +kernel
theorem dX7_hear_84 : decode cX7_hear 84 = .ok (.bastore, 1) := by decide +kernel
theorem dX7_hear_85 : decode cX7_hear 85 = .ok (.aload_n 0, 1) := by decide +kernel
theorem dX7_hear_86 : decode cX7_hear 86 = .ok (.dup, 1) := by decide +kernel
theorem dX7_hear_87 : decode cX7_hear 87 = .ok (.getfield 220, 3) := by decide +kernel
theorem dX7_hear_90 : decode cX7_hear 90 = .ok (.iconst 1, 1) := by decide +kernel
theorem dX7_hear_91 : decode cX7_hear 91 = .ok (.iadd, 1) := by decide +kernel
theorem dX7_hear_92 : decode cX7_hear 92 = .ok (.putfield 220, 3) := by decide +kernel
theorem dX7_hear_95 : decode cX7_hear 95 = .ok (.aload_n 0, 1) := by decide +kernel
theorem dX7_hear_96 : decode cX7_hear 96 = .ok (.getfield 220, 3) := by decide +kernel
theorem dX7_hear_99 : decode cX7_hear 99 = .ok (.ireturn, 1) := by decide +kernel
theorem dX7_unhear_0 : decode cX7_unhear 0 = .ok (.aload_n 0, 1) := by decide +kernel
theorem dX7_unhear_1 : decode cX7_unhear 1 = .ok (.getfield 220, 3) := by decide +kernel
theorem dX7_unhear_4 : decode cX7_unhear 4 = .ok (.istore_n 1, 1) := by decide +kernel
theorem dX7_unhear_5 : decode cX7_unhear 5 = .ok (.aload_n 0, 1) := by decide +kernel
theorem dX7_unhear_6 : decode cX7_unhear 6 = .ok (.iconst 0, 1) := by decide +kernel
theorem dX7_unhear_7 : decode cX7_unhear 7 = .ok (.putfield 220, 3) := by decide +kernel
theorem dX7_unhear_10 : decode cX7_unhear 10 = .ok (.iload_n 1, 1) := by decide +kernel
theorem dX7_unhear_11 : decode cX7_unhear 11 = .ok (.ireturn, 1) := by decide +kernel
theorem dX7_isHeard_0 : decode cX7_isHeard 0 = .ok (.aload_n 0, 1) := by decide +kernel
theorem dX7_isHeard_1 : decode cX7_isHeard 1 = .ok (.invokevirtual 186, 3) := by decide +kernel
theorem dX7_isHeard_4 : decode cX7_isHeard 4 = .ok (.aload_n 0, 1) := by decide +kernel
theorem dX7_isHeard_5 : decode cX7_isHeard 5 = .ok (.getfield 25, 3) := by decide +kernel
theorem dX7_isHeard_8 : decode cX7_isHeard 8 = .ok (.bipush 31, 2) := by decide +kernel
theorem dX7_isHeard_10 : decode cX7_isHeard 10 = .ok (.iload_n 1, 1) := by decide +kernel
theorem dX7_isHeard_11 : decode cX7_isHeard 11 = .ok (.iadd, 1) := by decide +kernel
theorem dX7_isHeard_12 : decode cX7_isHeard 12 = .ok (.iload_n 2, 1) := by decide +kernel
theorem dX7_isHeard_13 : decode cX7_isHeard 13 = .ok (.iastore, 1) := by decide +kernel
theorem dX7_isHeard_14 : decode cX7_isHeard 14 = .ok (.iconst 1, 1) := by decide +kernel
theorem dX7_isHeard_15 : decode cX7_isHeard 15 = .ok (.istore_n 3, 1) := by decide +kernel
theorem dX7_isHeard_16 : decode cX7_isHeard 16 = .ok (.iconst 0, 1) := by decide +kernel
theorem dX7_isHeard_17 : decode cX7_isHeard 17 = .ok (.istore 4, 2) := by decide +kernel
theorem dX7_isHeard_19 : decode cX7_isHeard 19 = .ok (.iload 4, 2) := by decide +kernel
theorem dX7_isHeard_21 : decode cX7_isHeard 21 = .ok (.bipush 8, 2) := by decide +kernel
theorem dX7_isHeard_23 : decode cX7_isHeard 23 = .ok (.if_icmp .gt 107, 3) := by decide +kernel
theorem dX7_isHeard_26 : decode cX7_isHeard 26 = .ok (.iconst 0, 1) := by decide +kernel
theorem dX7_isHeard_27 : decode cX7_isHeard 27 = .ok (.istore 5, 2) := by decide +kernel
theorem dX7_isHeard_29 : decode cX7_isHeard 29 = .ok (.iload 5, 2) := by decide +kernel
theorem dX7_isHeard_31 : decode cX7_isHeard 31 = .ok (.aload_n 0, 1) := by decide +kernel
theorem dX7_isHeard_32 : decode cX7_isHeard 32 = .ok (.getfield 220, 3) := by decide +kernel
theorem dX7_isHeard_35 : decode cX7_isHeard 35 = .ok (.if_icmp .ge 83, 3) := by decide +kernel
theorem dX7_isHeard_38 : decode cX7_isHeard 38 = .ok (.aload_n 0, 1) := by decide +kernel
theorem dX7_isHeard_39 : decode cX7_isHeard 39 = .ok (.getfield 52, 3) := by decide +kernel
theorem dX7_isHeard_42 : decode cX7_isHeard 42 = .ok (.iload 5, 2) := by decide +kernel
theorem dX7_isHeard_44 : decode cX7_isHeard 44 = .ok (.iaload, 1) := by decide +kernel
theorem dX7_isHeard_45 : decode cX7_isHeard 45 = .ok (.iload_n 1, 1) := by decide +kernel
theorem dX7_isHeard_46 : decode cX7_isHeard 46 = .ok (.if_icmp .ne 19, 3) := by decide +kernel
theorem dX7_isHeard_49 : decode cX7_isHeard 49 = .ok (.aload_n 0, 1) := by decide +kernel
theorem dX7_isHeard_50 : decode cX7_isHeard 50 = .ok (.getfield 58, 3) := by decide +kernel
theorem dX7_isHeard_53 : decode cX7_isHeard 53 = .ok (.iload 5, 2) := by decide +kernel
theorem dX7_isHeard_55 : decode cX7_isHeard 55 = .ok (.iaload, 1) := by decide +kernel
theorem dX7_isHeard_56 : decode cX7_isHeard 56 = .ok (.iload 4, 2) := by decide +kernel
theorem dX7_isHeard_58 : decode cX7_isHeard 58 = .ok (.if_icmp .ne 7, 3) := by decide +kernel
theorem dX7_isHeard_61 : decode cX7_isHeard 61 = .ok (.iconst 1, 1) := by decide +kernel
theorem dX7_isHeard_62 : decode cX7_isHeard 62 = .ok (.goto 4, 3) := by decide +kernel
theorem dX7_isHeard_65 : decode cX7_isHeard 65 = .ok (.iconst 0, 1) := by decide +kernel
theorem dX7_isHeard_66 : decode cX7_isHeard 66 = .ok (.istore 6, 2) := by decide +kernel
theorem dX7_isHeard_68 : decode cX7_isHeard 68 = .ok (.iload_n 3, 1) := by decide +kernel
theorem dX7_isHeard_69 : decode cX7_isHeard 69 = .ok (.ifCond .eq 41, 3) := by decide +kernel
theorem dX7_isHeard_72 : decode cX7_isHeard 72 = .ok (.iload 6, 2) := by decide +kernel
theorem dX7_isHeard_74 : decode cX7_isHeard 74 = .ok (.ifCond .eq 32, 3) := by decide +kernel
theorem dX7_isHeard_77 : decode cX7_isHeard 77 = .ok (.aload_n 0, 1) := by decide +kernel
theorem dX7_isHeard_78 : decode cX7_isHeard 78 = .ok (.getfield 25, 3) := by decide +kernel
theorem dX7_isHeard_81 : decode cX7_isHeard 81 = .ok (.bipush 31, 2) := by decide +kernel
theorem dX7_isHeard_83 : decode cX7_isHeard 83 = .ok (.iload_n 1, 1) := by decide +kernel
theorem dX7_isHeard_84 : decode cX7_isHeard 84 = .ok (.iadd, 1) := by decide +kernel
theorem dX7_isHeard_85 : decode cX7_isHeard 85 = .ok (.iaload, 1) := by decide +kernel
theorem dX7_isHeard_86 : decode cX7_isHeard 86 = .ok (.aload_n 0, 1) := by decide +kernel
theorem dX7_isHeard_87 : decode cX7_isHeard 87 = .ok (.getfield 55, 3) := by decide +kernel
theorem dX7_isHeard_90 : decode cX7_isHeard 90 = .ok (.iload 5, 2) := by decide +kernel
theorem dX7_isHeard_92 : decode cX7_isHeard 92 = .ok (.iaload, 1) := by decide +kernel
theorem dX7_isHeard_93 : decode cX7_isHeard 93 = .ok (.invokestatic 98, 3) := by decide +kernel
theorem dX7_isHeard_96 : decode cX7_isHeard 96 = .ok (.aload_n 0, 1) := by decide +kernel
theorem dX7_isHeard_97 : decode cX7_isHeard 97 = .ok (.getfield 61, 3) := by decide +kernel
theorem dX7_isHeard_100 : decode cX7_isHeard 100 = .ok (.iload 5, 2) := by decide +kernel
theorem dX7_isHeard_102 : decode cX7_isHeard 102 = .ok (.baload, 1) := by decide +kernel
theorem dX7_isHeard_103 : decode cX7_isHeard 103 = .ok (.if_icmp .ne 7, 3) := by decide +kernel
theorem dX7_isHeard_106 : decode cX7_isHeard 106 = .ok (.iconst 1, 1) := by decide +kernel
theorem dX7_isHeard_107 : decode cX7_isHeard 107 = .ok (.goto 4, 3) := by decide +kernel
theorem dX7_isHeard_110 : decode cX7_isHeard 110 = .ok (.iconst 0, 1) := by decide +kernel
theorem dX7_isHeard_111 : decode cX7_isHeard 111 = .ok (.istore_n 3, 1) := by decide +kernel
theorem dX7_isHeard_112 : decode cX7_isHeard 112 = .ok (.iinc 5 1, 3) := by decide +kernel
theorem dX7_isHeard_115 : decode cX7_isHeard 115 = .ok (.goto (-86), 3) := by decide +kernel
theorem dX7_isHeard_118 : decode cX7_isHeard 118 = .ok (.aload_n 0, 1) := by decide +kernel
theorem dX7_isHeard_119 : decode cX7_isHeard 119 = .ok (.iconst 1, 1) := by decide +kernel
theorem dX7_isHeard_120 : decode cX7_isHeard 120 = .ok (.invokevirtual 160, 3) := by decide +kernel
theorem dX7_isHeard_123 : decode cX7_isHeard 123 = .ok (.pop, 1) := by decide +kernel
theorem dX7_isHeard_124 : decode cX7_isHeard 124 = .ok (.iinc 4 1, 3) := by decide +kernel
theorem dX7_isHeard_127 : decode cX7_isHeard 127 = .ok (.goto (-108), 3) := by decide +kernel
theorem dX7_isHeard_130 : decode cX7_isHeard 130 = .ok (.iload_n 3, 1) := by decide +kernel
theorem dX7_isHeard_131 : decode cX7_isHeard 131 = .ok (.ireturn, 1) := by decide +kernel
theorem dX7_where_0 : decode cX7_where 0 = .ok (.aload_n 0, 1) := by decide +kernel
theorem dX7_where_1 : decode cX7_where 1 = .ok (.iload_n 1, 1) := by decide +kernel
theorem dX7_where_2 : decode cX7_where 2 = .ok (.invokevirtual 143, 3) := by decide +kernel
theorem dX7_where_5 : decode cX7_where 5 = .ok (.ifCond .ne 5, 3) := by decide +kernel
theorem dX7_where_8 : decode cX7_where 8 = .ok (.iconst (-1), 1) := by decide +kernel
theorem dX7_where_9 : decode cX7_where 9 = .ok (.ireturn, 1) := by decide +kernel
theorem dX7_where_10 : decode cX7_where 10 = .ok (.iload_n 2, 1) := by decide +kernel
theorem dX7_where_11 : decode cX7_where 11 = .ok (.i2l, 1) := by decide +kernel
theorem dX7_where_12 : decode cX7_where 12 = .ok (.lconst 0, 1) := by decide +kernel
theorem dX7_where_13 : decode cX7_where 13 = .ok (.ldc2_w 223, 3) := by decide +kernel
theorem dX7_where_16 : decode cX7_where 16 = .ok (.invokestatic 83, 3) := by decide +kernel
theorem dX7_where_19 : decode cX7_where 19 = .ok (.ifCond .ne 6, 3) := by decide +kernel
theorem dX7_where_22 : decode cX7_where 22 = .ok (.bipush (-2), 2) := by decide +kernel
theorem dX7_where_24 : decode cX7_where 24 = .ok (.ireturn, 1) := by decide +kernel
theorem dX7_where_25 : decode cX7_where 25 = .ok (.iconst 0, 1) := by decide +kernel
theorem dX7_where_26 : decode cX7_where 26 = .ok (.istore_n 3, 1) := by decide +kernel
theorem dX7_where_27 : decode cX7_where 27 = .ok (.bipush 63, 2) := by decide +kernel
theorem dX7_where_29 : decode cX7_where 29 = .ok (.istore 4, 2) := by decide +kernel
theorem dX7_where_31 : decode cX7_where 31 = .ok (.iconst 0, 1) := by decide +kernel
theorem dX7_where_32 : decode cX7_where 32 = .ok (.istore 5, 2) := by decide +kernel
theorem dX7_where_34 : decode cX7_where 34 = .ok (.iconst 0, 1) := by decide +kernel
theorem dX7_where_35 : decode cX7_where 35 = .ok (.istore 6, 2) := by decide +kernel
theorem dX7_where_37 : decode cX7_where 37 = .ok (.iload 6, 2) := by decide +kernel
theorem dX7_where_39 : decode cX7_where 39 = .ok (.bipush 63, 2) := by decide +kernel
theorem dX7_where_41 : decode cX7_where 41 = .ok (.if_icmp .gt 50, 3) := by decide +kernel
theorem dX7_where_44 : decode cX7_where 44 = .ok (.iload 6, 2) := by decide +kernel
theorem dX7_where_46 : decode cX7_where 46 = .ok (.aload_n 0, 1) := by decide +kernel
theorem dX7_where_47 : decode cX7_where 47 = .ok (.getfield 25, 3) := by decide +kernel
theorem dX7_where_50 : decode cX7_where 50 = .ok (.iconst 5, 1) := by decide +kernel
theorem dX7_where_51 : decode cX7_where 51 = .ok (.iload_n 1, 1) := by decide +kernel
theorem dX7_where_52 : decode cX7_where 52 = .ok (.iadd, 1) := by decide +kernel
theorem dX7_where_53 : decode cX7_where 53 = .ok (.iaload, 1) := by decide +kernel
theorem dX7_where_54 : decode cX7_where 54 = .ok (.iand, 1) := by decide +kernel
theorem dX7_where_55 : decode cX7_where 55 = .ok (.ifCond .ne 30, 3) := by decide +kernel
theorem dX7_where_58 : decode cX7_where 58 = .ok (.aload_n 0, 1) := by decide +kernel
theorem dX7_where_59 : decode cX7_where 59 = .ok (.iload_n 1, 1) := by decide +kernel
theorem dX7_where_60 : decode cX7_where 60 = .ok (.iload 6, 2) := by decide +kernel
theorem dX7_where_62 : decode cX7_where 62 = .ok (.invokevirtual 225, 3) := by decide +kernel
theorem dX7_where_65 : decode cX7_where 65 = .ok (.ifCond .eq 20, 3) := by decide +kernel
theorem dX7_where_68 : decode cX7_where 68 = .ok (.iinc 3 1, 3) := by decide +kernel
theorem dX7_where_71 : decode cX7_where 71 = .ok (.iload 4, 2) := by decide +kernel
theorem dX7_where_73 : decode cX7_where 73 = .ok (.iload 6, 2) := by decide +kernel
theorem dX7_where_75 : decode cX7_where 75 = .ok (.iand, 1) := by decide +kernel
theorem dX7_where_76 : decode cX7_where 76 = .ok (.istore 4, 2) := by decide +kernel
theorem dX7_where_78 : decode cX7_where 78 = .ok (.iload 5, 2) := by decide +kernel
theorem dX7_where_80 : decode cX7_where 80 = .ok (.iload 6, 2) := by decide +kernel
theorem dX7_where_82 : decode cX7_where 82 = .ok (.ior, 1) := by decide +kernel
theorem dX7_where_83 : decode cX7_where 83 = .ok (.istore 5, 2) := by decide +kernel
theorem dX7_where_85 : decode cX7_where 85 = .ok (.iinc 6 1, 3) := by decide +kernel
theorem dX7_where_88 : decode cX7_where 88 = .ok (.goto (-51), 3) := by decide +kernel
theorem dX7_where_91 : decode cX7_where 91 = .ok (.iload_n 2, 1) := by decide +kernel
theorem dX7_where_92 : decode cX7_where 92 = .ok (.ifCond .ne 7, 3) := by decide +kernel
theorem dX7_where_95 : decode cX7_where 95 = .ok (.iload_n 3, 1) := by decide +kernel
theorem dX7_where_96 : decode cX7_where 96 = .ok (.goto 29, 3) := by decide +kernel
theorem dX7_where_99 : decode cX7_where 99 = .ok (.iload_n 3, 1) := by decide +kernel
theorem dX7_where_100 : decode cX7_where 100 = .ok (.ifCond .ne 8, 3) := by decide +kernel
theorem dX7_where_103 : decode cX7_where 103 = .ok (.bipush (-9), 2) := by decide +kernel
theorem dX7_where_105 : decode cX7_where 105 = .ok (.goto 20, 3) := by decide +kernel
theorem dX7_where_108 : decode cX7_where 108 = .ok (.iload_n 2, 1) := by decide +kernel
theorem dX7_where_109 : decode cX7_where 109 = .ok (.iconst 1, 1) := by decide +kernel
theorem dX7_where_110 : decode cX7_where 110 = .ok (.if_icmp .ne 8, 3) := by decide +kernel
theorem dX7_where_113 : decode cX7_where 113 = .ok (.iload 4, 2) := by decide +kernel
theorem dX7_where_115 : decode cX7_where 115 = .ok (.goto 10, 3) := by decide +kernel
theorem dX7_where_118 : decode cX7_where 118 = .ok (.bipush 63, 2) := by decide +kernel
theorem dX7_where_120 : decode cX7_where 120 = .ok (.iload 5, 2) := by decide +kernel
theorem dX7_where_122 : decode cX7_where 122 = .ok (.iconst (-1), 1) := by decide +kernel
theorem dX7_where_123 : decode cX7_where 123 = .ok (.ixor, 1) := by decide +kernel
theorem dX7_where_124 : decode cX7_where 124 = .ok (.iand, 1) := by decide +kernel
theorem dX7_where_125 : decode cX7_where 125 = .ok (.ireturn, 1) := by decide +kernel
theorem dX7_factorial_0 : decode cX7_factorial 0 = .ok (.iconst 1, 1) := by decide +kernel
theorem dX7_factorial_1 : decode cX7_factorial 1 = .ok (.istore_n 1, 1) := by decide +kernel
theorem dX7_factorial_2 : decode cX7_factorial 2 = .ok (.iconst 2, 1) := by decide +kernel
theorem dX7_factorial_3 : decode cX7_factorial 3 = .ok (.istore_n 2, 1) := by decide +kernel
theorem dX7_factorial_4 : decode cX7_factorial 4 = .ok (.iload_n 2, 1) := by decide +kernel
theorem dX7_factorial_5 : decode cX7_factorial 5 = .ok (.iload_n 0, 1) := by decide +kernel
theorem dX7_factorial_6 : decode cX7_factorial 6 = .ok (.if_icmp .gt 13, 3) := by decide +kernel
theorem dX7_factorial_9 : decode cX7_factorial 9 = .ok (.iload_n 1, 1) := by decide +kernel
theorem dX7_factorial_10 : decode cX7_factorial 10 = .ok (.iload_n 2, 1) := by decide +kernel
theorem dX7_factorial_11 : decode cX7_factorial 11 = .ok (.imul, 1) := by decide +kernel
theorem dX7_factorial_12 : decode cX7_factorial 12 = .ok (.istore_n 1, 1) := by decide +kernel
theorem dX7_factorial_13 : decode cX7_factorial 13 = .ok (.iinc 2 1, 3) := by decide +kernel
theorem dX7_factorial_16 : decode cX7_factorial 16 = .ok (.goto (-12), 3) := by decide +kernel
theorem dX7_factorial_19 : decode cX7_factorial 19 = .ok (.iload_n 1, 1) := by decide +kernel
theorem dX7_factorial_20 : decode cX7_factorial 20 = .ok (.ireturn, 1) := by decide +kernel
theorem dX7_common_0 : decode cX7_common 0 = .ok (.iload_n 0, 1) := by decide +kernel
theorem dX7_common_1 : decode cX7_common 1 = .ok (.ifCond .ge 8, 3) := by decide +kernel
theorem dX7_common_4 : decode cX7_common 4 = .ok (.iload_n 0, 1) := by decide +kernel
theorem dX7_common_5 : decode cX7_common 5 = .ok (.ineg, 1) := by decide +kernel
theorem dX7_common_6 : decode cX7_common 6 = .ok (.goto 4, 3) := by decide +kernel
theorem dX7_common_9 : decode cX7_common 9 = .ok (.iload_n 0, 1) := by decide +kernel
theorem dX7_common_10 : decode cX7_common 10 = .ok (.istore_n 2, 1) := by decide +kernel
theorem dX7_common_11 : decode cX7_common 11 = .ok (.iload_n 1, 1) := by decide +kernel
theorem dX7_common_12 : decode cX7_common 12 = .ok (.istore_n 3, 1) := by decide +kernel
theorem dX7_common_13 : decode cX7_common 13 = .ok (.iload_n 3, 1) := by decide +kernel
theorem dX7_common_14 : decode cX7_common 14 = .ok (.ifCond .eq 16, 3) := by decide +kernel
theorem dX7_common_17 : decode cX7_common 17 = .ok (.iload_n 2, 1) := by decide +kernel
theorem dX7_common_18 : decode cX7_common 18 = .ok (.iload_n 3, 1) := by decide +kernel
theorem dX7_common_19 : decode cX7_common 19 = .ok (.irem, 1) := by decide +kernel
theorem dX7_common_20 : decode cX7_common 20 = .ok (.istore 4, 2) := by decide +kernel
theorem dX7_common_22 : decode cX7_common 22 = .ok (.iload_n 3, 1) := by decide +kernel
theorem dX7_common_23 : decode cX7_common 23 = .ok (.istore_n 2, 1) := by decide +kernel
theorem dX7_common_24 : decode cX7_common 24 = .ok (.iload 4, 2) := by decide +kernel
theorem dX7_common_26 : decode cX7_common 26 = .ok (.istore_n 3, 1) := by decide +kernel
theorem dX7_common_27 : decode cX7_common 27 = .ok (.goto (-14), 3) := by decide +kernel
theorem dX7_common_30 : decode cX7_common 30 = .ok (.iload_n 2, 1) := by decide +kernel
theorem dX7_common_31 : decode cX7_common 31 = .ok (.ireturn, 1) := by decide +kernel
theorem dX7_worthBy_0 : decode cX7_worthBy 0 = .ok (.aload_n 0, 1) := by decide +kernel
theorem dX7_worthBy_1 : decode cX7_worthBy 1 = .ok (.invokevirtual 186, 3) := by decide +kernel
theorem dX7_worthBy_4 : decode cX7_worthBy 4 = .ok (.aload_n 0, 1) := by decide +kernel
theorem dX7_worthBy_5 : decode cX7_worthBy 5 = .ok (.getfield 25, 3) := by decide +kernel
theorem dX7_worthBy_8 : decode cX7_worthBy 8 = .ok (.bipush 31, 2) := by decide +kernel
theorem dX7_worthBy_10 : decode cX7_worthBy 10 = .ok (.iload_n 1, 1) := by decide +kernel
theorem dX7_worthBy_11 : decode cX7_worthBy 11 = .ok (.iadd, 1) := by decide +kernel
theorem dX7_worthBy_12 : decode cX7_worthBy 12 = .ok (.iload_n 2, 1) := by decide +kernel
theorem dX7_worthBy_13 : decode cX7_worthBy 13 = .ok (.iastore, 1) := by decide +kernel
theorem dX7_worthBy_14 : decode cX7_worthBy 14 = .ok (.aload_n 0, 1) := by decide +kernel
theorem dX7_worthBy_15 : decode cX7_worthBy 15 = .ok (.iload_n 3, 1) := by decide +kernel
theorem dX7_worthBy_16 : decode cX7_worthBy 16 = .ok (.invokevirtual 189, 3) := by decide +kernel
theorem dX7_worthBy_19 : decode cX7_worthBy 19 = .ok (.aload_n 0, 1) := by decide +kernel
theorem dX7_worthBy_20 : decode cX7_worthBy 20 = .ok (.iconst 1, 1) := by decide +kernel
theorem dX7_worthBy_21 : decode cX7_worthBy 21 = .ok (.iload_n 1, 1) := by decide +kernel
theorem dX7_worthBy_22 : decode cX7_worthBy 22 = .ok (.invokevirtual 177, 3) := by decide +kernel
theorem dX7_worthBy_25 : decode cX7_worthBy 25 = .ok (.ireturn, 1) := by decide +kernel
theorem dX7_share_0 : decode cX7_share 0 = .ok (.aload_n 0, 1) := by decide +kernel
theorem dX7_share_1 : decode cX7_share 1 = .ok (.iload_n 2, 1) := by decide +kernel
theorem dX7_share_2 : decode cX7_share 2 = .ok (.invokevirtual 143, 3) := by decide +kernel
theorem dX7_share_5 : decode cX7_share 5 = .ok (.ifCond .ne 5, 3) := by decide +kernel
theorem dX7_share_8 : decode cX7_share 8 = .ok (.iconst (-1), 1) := by decide +kernel
theorem dX7_share_9 : decode cX7_share 9 = .ok (.ireturn, 1) := by decide +kernel
theorem dX7_share_10 : decode cX7_share 10 = .ok (.iload_n 1, 1) := by decide +kernel
theorem dX7_share_11 : decode cX7_share 11 = .ok (.invokestatic 163, 3) := by decide +kernel
theorem dX7_share_14 : decode cX7_share 14 = .ok (.ifCond .eq 15, 3) := by decide +kernel
theorem dX7_share_17 : decode cX7_share 17 = .ok (.iload_n 3, 1) := by decide +kernel
theorem dX7_share_18 : decode cX7_share 18 = .ok (.i2l, 1) := by decide +kernel
theorem dX7_share_19 : decode cX7_share 19 = .ok (.lconst 0, 1) := by decide +kernel
theorem dX7_share_20 : decode cX7_share 20 = .ok (.ldc2_w 184, 3) := by decide +kernel
theorem dX7_share_23 : decode cX7_share 23 = .ok (.invokestatic 83, 3) := by decide +kernel
theorem dX7_share_26 : decode cX7_share 26 = .ok (.ifCond .ne 6, 3) := by decide +kernel
theorem dX7_share_29 : decode cX7_share 29 = .ok (.bipush (-2), 2) := by decide +kernel
theorem dX7_share_31 : decode cX7_share 31 = .ok (.ireturn, 1) := by decide +kernel
theorem dX7_share_32 : decode cX7_share 32 = .ok (.aload_n 0, 1) := by decide +kernel
theorem dX7_share_33 : decode cX7_share 33 = .ok (.getfield 25, 3) := by decide +kernel
theorem dX7_share_36 : decode cX7_share 36 = .ok (.iload_n 2, 1) := by decide +kernel
theorem dX7_share_37 : decode cX7_share 37 = .ok (.iaload, 1) := by decide +kernel
theorem dX7_share_38 : decode cX7_share 38 = .ok (.istore 5, 2) := by decide +kernel
theorem dX7_share_40 : decode cX7_share 40 = .ok (.iload 5, 2) := by decide +kernel
theorem dX7_share_42 : decode cX7_share 42 = .ok (.iload_n 1, 1) := by decide +kernel
theorem dX7_share_43 : decode cX7_share 43 = .ok (.invokestatic 98, 3) := by decide +kernel
theorem dX7_share_46 : decode cX7_share 46 = .ok (.ifCond .ne 14, 3) := by decide +kernel
theorem dX7_share_49 : decode cX7_share 49 = .ok (.iload 4, 2) := by decide +kernel
theorem dX7_share_51 : decode cX7_share 51 = .ok (.ifCond .eq 7, 3) := by decide +kernel
theorem dX7_share_54 : decode cX7_share 54 = .ok (.iconst 0, 1) := by decide +kernel
theorem dX7_share_55 : decode cX7_share 55 = .ok (.goto 4, 3) := by decide +kernel
theorem dX7_share_58 : decode cX7_share 58 = .ok (.iconst 1, 1) := by decide +kernel
theorem dX7_share_59 : decode cX7_share 59 = .ok (.ireturn, 1) := by decide +kernel
theorem dX7_share_60 : decode cX7_share 60 = .ok (.iload 5, 2) := by decide +kernel
theorem dX7_share_62 : decode cX7_share 62 = .ok (.invokestatic 140, 3) := by decide +kernel
theorem dX7_share_65 : decode cX7_share 65 = .ok (.istore 6, 2) := by decide +kernel
theorem dX7_share_67 : decode cX7_share 67 = .ok (.iconst 0, 1) := by decide +kernel
theorem dX7_share_68 : decode cX7_share 68 = .ok (.istore 7, 2) := by decide +kernel
theorem dX7_share_70 : decode cX7_share 70 = .ok (.iconst 0, 1) := by decide +kernel
theorem dX7_share_71 : decode cX7_share 71 = .ok (.istore 8, 2) := by decide +kernel
theorem dX7_share_73 : decode cX7_share 73 = .ok (.iload 8, 2) := by decide +kernel
theorem dX7_share_75 : decode cX7_share 75 = .ok (.bipush 63, 2) := by decide +kernel
theorem dX7_share_77 : decode cX7_share 77 = .ok (.if_icmp .gt 81, 3) := by decide +kernel
theorem dX7_share_80 : decode cX7_share 80 = .ok (.iload 8, 2) := by decide +kernel
theorem dX7_share_82 : decode cX7_share 82 = .ok (.iload 5, 2) := by decide +kernel
theorem dX7_share_84 : decode cX7_share 84 = .ok (.iconst (-1), 1) := by decide +kernel
theorem dX7_share_85 : decode cX7_share 85 = .ok (.ixor, 1) := by decide +kernel
theorem dX7_share_86 : decode cX7_share 86 = .ok (.iand, 1) := by decide +kernel
theorem dX7_share_87 : decode cX7_share 87 = .ok (.ifCond .ne 65, 3) := by decide +kernel
theorem dX7_share_90 : decode cX7_share 90 = .ok (.iload 8, 2) := by decide +kernel
theorem dX7_share_92 : decode cX7_share 92 = .ok (.iload_n 1, 1) := by decide +kernel
theorem dX7_share_93 : decode cX7_share 93 = .ok (.invokestatic 98, 3) := by decide +kernel
theorem dX7_share_96 : decode cX7_share 96 = .ok (.ifCond .ne 56, 3) := by decide +kernel
theorem dX7_share_99 : decode cX7_share 99 = .ok (.iload 8, 2) := by decide +kernel
theorem dX7_share_101 : decode cX7_share 101 = .ok (.invokestatic 140, 3) := by decide +kernel
theorem dX7_share_104 : decode cX7_share 104 = .ok (.invokestatic 228, 3) := by decide +kernel
theorem dX7_share_107 : decode cX7_share 107 = .ok (.iload 6, 2) := by decide +kernel
theorem dX7_share_109 : decode cX7_share 109 = .ok (.iconst 1, 1) := by decide +kernel
theorem dX7_share_110 : decode cX7_share 110 = .ok (.isub, 1) := by decide +kernel
theorem dX7_share_111 : decode cX7_share 111 = .ok (.iload 8, 2) := by decide +kernel
theorem dX7_share_113 : decode cX7_share 113 = .ok (.invokestatic 140, 3) := by decide +kernel
theorem dX7_share_116 : decode cX7_share 116 = .ok (.isub, 1) := by decide +kernel
theorem dX7_share_117 : decode cX7_share 117 = .ok (.invokestatic 228, 3) := by decide +kernel
theorem dX7_share_120 : decode cX7_share 120 = .ok (.imul, 1) := by decide +kernel
theorem dX7_share_121 : decode cX7_share 121 = .ok (.istore 9, 2) := by decide +kernel
theorem dX7_share_123 : decode cX7_share 123 = .ok (.iload 7, 2) := by decide +kernel
theorem dX7_share_125 : decode cX7_share 125 = .ok (.iload 9, 2) := by decide +kernel
theorem dX7_share_127 : decode cX7_share 127 = .ok (.aload_n 0, 1) := by decide +kernel
theorem dX7_share_128 : decode cX7_share 128 = .ok (.iload_n 2, 1) := by decide +kernel
theorem dX7_share_129 : decode cX7_share 129 = .ok (.iload 8, 2) := by decide +kernel
theorem dX7_share_131 : decode cX7_share 131 = .ok (.iconst 1, 1) := by decide +kernel
theorem dX7_share_132 : decode cX7_share 132 = .ok (.iload_n 1, 1) := by decide +kernel
theorem dX7_share_133 : decode cX7_share 133 = .ok (.ishl, 1) := by decide +kernel
theorem dX7_share_134 : decode cX7_share 134 = .ok (.ior, 1) := by decide +kernel
theorem dX7_share_135 : decode cX7_share 135 = .ok (.iload_n 3, 1) := by decide +kernel
theorem dX7_share_136 : decode cX7_share 136 = .ok (.invokevirtual 231, 3) := by decide +kernel
theorem dX7_share_139 : decode cX7_share 139 = .ok (.aload_n 0, 1) := by decide +kernel
theorem dX7_share_140 : decode cX7_share 140 = .ok (.iload_n 2, 1) := by decide +kernel
theorem dX7_share_141 : decode cX7_share 141 = .ok (.iload 8, 2) := by decide +kernel
theorem dX7_share_143 : decode cX7_share 143 = .ok (.iload_n 3, 1) := by decide +kernel
theorem dX7_share_144 : decode cX7_share 144 = .ok (.invokevirtual 231, 3) := by decide +kernel
theorem dX7_share_147 : decode cX7_share 147 = .ok (.isub, 1) := by decide +kernel
theorem dX7_share_148 : decode cX7_share 148 = .ok (.imul, 1) := by decide +kernel
theorem dX7_share_149 : decode cX7_share 149 = .ok (.iadd, 1) := by decide +kernel
theorem dX7_share_150 : decode cX7_share 150 = .ok (.istore 7, 2) := by decide +kernel
theorem dX7_share_152 : decode cX7_share 152 = .ok (.iinc 8 1, 3) := by decide +kernel
theorem dX7_share_155 : decode cX7_share 155 = .ok (.goto (-82), 3) := by decide +kernel
theorem dX7_share_158 : decode cX7_share 158 = .ok (.iload 7, 2) := by decide +kernel
theorem dX7_share_160 : decode cX7_share 160 = .ok (.iload 6, 2) := by decide +kernel
theorem dX7_share_162 : decode cX7_share 162 = .ok (.invokestatic 228, 3) := by decide +kernel
theorem dX7_share_165 : decode cX7_share 165 = .ok (.invokestatic 234, 3) := by decide +kernel
theorem dX7_share_168 : decode cX7_share 168 = .ok (.istore 8, 2) := by decide +kernel
theorem dX7_share_170 : decode cX7_share 170 = .ok (.iload 4, 2) := by decide +kernel
theorem dX7_share_172 : decode cX7_share 172 = .ok (.ifCond .eq 11, 3) := by decide +kernel
theorem dX7_share_175 : decode cX7_share 175 = .ok (.iload 7, 2) := by decide +kernel
theorem dX7_share_177 : decode cX7_share 177 = .ok (.iload 8, 2) := by decide +kernel
theorem dX7_share_179 : decode cX7_share 179 = .ok (.idiv, 1) := by decide +kernel
theorem dX7_share_180 : decode cX7_share 180 = .ok (.goto 11, 3) := by decide +kernel
theorem dX7_share_183 : decode cX7_share 183 = .ok (.iload 6, 2) := by decide +kernel
theorem dX7_share_185 : decode cX7_share 185 = .ok (.invokestatic 228, 3) := by decide +kernel
theorem dX7_share_188 : decode cX7_share 188 = .ok (.iload 8, 2) := by decide +kernel
theorem dX7_share_190 : decode cX7_share 190 = .ok (.idiv, 1) := by decide +kernel
theorem dX7_share_191 : decode cX7_share 191 = .ok (.ireturn, 1) := by decide +kernel
theorem dX7_isChoice_0 : decode cX7_isChoice 0 = .ok (.iload_n 2, 1) := by decide +kernel
theorem dX7_isChoice_1 : decode cX7_isChoice 1 = .ok (.ifCond .eq 30, 3) := by decide +kernel
theorem dX7_isChoice_4 : decode cX7_isChoice 4 = .ok (.aload_n 0, 1) := by decide +kernel
theorem dX7_isChoice_5 : decode cX7_isChoice 5 = .ok (.iload_n 2, 1) := by decide +kernel
theorem dX7_isChoice_6 : decode cX7_isChoice 6 = .ok (.iconst 1, 1) := by decide +kernel
theorem dX7_isChoice_7 : decode cX7_isChoice 7 = .ok (.isub, 1) := by decide +kernel
theorem dX7_isChoice_8 : decode cX7_isChoice 8 = .ok (.invokevirtual 143, 3) := by decide +kernel
theorem dX7_isChoice_11 : decode cX7_isChoice 11 = .ok (.ifCond .eq 24, 3) := by decide +kernel
theorem dX7_isChoice_14 : decode cX7_isChoice 14 = .ok (.aload_n 0, 1) := by decide +kernel
theorem dX7_isChoice_15 : decode cX7_isChoice 15 = .ok (.iconst 0, 1) := by decide +kernel
theorem dX7_isChoice_16 : decode cX7_isChoice 16 = .ok (.iload_n 2, 1) := by decide +kernel
theorem dX7_isChoice_17 : decode cX7_isChoice 17 = .ok (.iconst 1, 1) := by decide +kernel
theorem dX7_isChoice_18 : decode cX7_isChoice 18 = .ok (.isub, 1) := by decide +kernel
theorem dX7_isChoice_19 : decode cX7_isChoice 19 = .ok (.aload_n 0, 1) := by decide +kernel
theorem dX7_isChoice_20 : decode cX7_isChoice 20 = .ok (.getfield 22, 3) := by decide +kernel
theorem dX7_isChoice_23 : decode cX7_isChoice 23 = .ok (.iload_n 1, 1) := by decide +kernel
theorem dX7_isChoice_24 : decode cX7_isChoice 24 = .ok (.iaload, 1) := by decide +kernel
theorem dX7_isChoice_25 : decode cX7_isChoice 25 = .ok (.invokevirtual 166, 3) := by decide +kernel
theorem dX7_isChoice_28 : decode cX7_isChoice 28 = .ok (.ifCond .eq 7, 3) := by decide +kernel
theorem dX7_isChoice_31 : decode cX7_isChoice 31 = .ok (.iconst 1, 1) := by decide +kernel
theorem dX7_isChoice_32 : decode cX7_isChoice 32 = .ok (.goto 4, 3) := by decide +kernel
theorem dX7_isChoice_35 : decode cX7_isChoice 35 = .ok (.iconst 0, 1) := by decide +kernel
theorem dX7_isChoice_36 : decode cX7_isChoice 36 = .ok (.ireturn, 1) := by decide +kernel
theorem dX7_layPairs_0 : decode cX7_layPairs 0 = .ok (.iconst 0, 1) := by decide +kernel
theorem dX7_layPairs_1 : decode cX7_layPairs 1 = .ok (.istore 4, 2) := by decide +kernel
theorem dX7_layPairs_3 : decode cX7_layPairs 3 = .ok (.iload 4, 2) := by decide +kernel
theorem dX7_layPairs_5 : decode cX7_layPairs 5 = .ok (.bipush 36, 2) := by decide +kernel
theorem dX7_layPairs_7 : decode cX7_layPairs 7 = .ok (.if_icmp .ge 122, 3) := by decide +kernel
theorem dX7_layPairs_10 : decode cX7_layPairs 10 = .ok (.aload_n 0, 1) := by decide +kernel
theorem dX7_layPairs_11 : decode cX7_layPairs 11 = .ok (.iload_n 1, 1) := by decide +kernel
theorem dX7_layPairs_12 : decode cX7_layPairs 12 = .ok (.iload 4, 2) := by decide +kernel
theorem dX7_layPairs_14 : decode cX7_layPairs 14 = .ok (.bipush 6, 2) := by decide +kernel
theorem dX7_layPairs_16 : decode cX7_layPairs 16 = .ok (.idiv, 1) := by decide +kernel
theorem dX7_layPairs_17 : decode cX7_layPairs 17 = .ok (.invokevirtual 237, 3) := by decide +kernel
theorem dX7_layPairs_20 : decode cX7_layPairs 20 = .ok (.ifCond .eq 103, 3) := by decide +kernel
theorem dX7_layPairs_23 : decode cX7_layPairs 23 = .ok (.aload_n 0, 1) := by decide +kernel
theorem dX7_layPairs_24 : decode cX7_layPairs 24 = .ok (.iload_n 2, 1) := by decide +kernel
theorem dX7_layPairs_25 : decode cX7_layPairs 25 = .ok (.iload 4, 2) := by decide +kernel
theorem dX7_layPairs_27 : decode cX7_layPairs 27 = .ok (.bipush 6, 2) := by decide +kernel
theorem dX7_layPairs_29 : decode cX7_layPairs 29 = .ok (.irem, 1) := by decide +kernel
theorem dX7_layPairs_30 : decode cX7_layPairs 30 = .ok (.invokevirtual 237, 3) := by decide +kernel
theorem dX7_layPairs_33 : decode cX7_layPairs 33 = .ok (.ifCond .eq 90, 3) := by decide +kernel
theorem dX7_layPairs_36 : decode cX7_layPairs 36 = .ok (.aload_n 0, 1) := by decide +kernel
theorem dX7_layPairs_37 : decode cX7_layPairs 37 = .ok (.invokevirtual 186, 3) := by decide +kernel
theorem dX7_layPairs_40 : decode cX7_layPairs 40 = .ok (.iload 4, 2) := by decide +kernel
theorem dX7_layPairs_42 : decode cX7_layPairs 42 = .ok (.bipush 6, 2) := by decide +kernel
theorem dX7_layPairs_44 : decode cX7_layPairs 44 = .ok (.idiv, 1) := by decide +kernel
theorem dX7_layPairs_45 : decode cX7_layPairs 45 = .ok (.ifCond .le 21, 3) := by decide +kernel
theorem dX7_layPairs_48 : decode cX7_layPairs 48 = .ok (.aload_n 0, 1) := by decide +kernel
theorem dX7_layPairs_49 : decode cX7_layPairs 49 = .ok (.iload 4, 2) := by decide +kernel
theorem dX7_layPairs_51 : decode cX7_layPairs 51 = .ok (.bipush 6, 2) := by decide +kernel
theorem dX7_layPairs_53 : decode cX7_layPairs 53 = .ok (.idiv, 1) := by decide +kernel
theorem dX7_layPairs_54 : decode cX7_layPairs 54 = .ok (.iconst 1, 1) := by decide +kernel
theorem dX7_layPairs_55 : decode cX7_layPairs 55 = .ok (.isub, 1) := by decide +kernel
theorem dX7_layPairs_56 : decode cX7_layPairs 56 = .ok (.aload_n 0, 1) := by decide +kernel
theorem dX7_layPairs_57 : decode cX7_layPairs 57 = .ok (.getfield 22, 3) := by decide +kernel
theorem dX7_layPairs_60 : decode cX7_layPairs 60 = .ok (.iload_n 1, 1) := by decide +kernel
theorem dX7_layPairs_61 : decode cX7_layPairs 61 = .ok (.iaload, 1) := by decide +kernel
theorem dX7_layPairs_62 : decode cX7_layPairs 62 = .ok (.invokevirtual 195, 3) := by decide +kernel
theorem dX7_layPairs_65 : decode cX7_layPairs 65 = .ok (.pop, 1) := by decide +kernel
theorem dX7_layPairs_66 : decode cX7_layPairs 66 = .ok (.iload 4, 2) := by decide +kernel
theorem dX7_layPairs_68 : decode cX7_layPairs 68 = .ok (.bipush 6, 2) := by decide +kernel
theorem dX7_layPairs_70 : decode cX7_layPairs 70 = .ok (.irem, 1) := by decide +kernel
theorem dX7_layPairs_71 : decode cX7_layPairs 71 = .ok (.ifCond .le 21, 3) := by decide +kernel
theorem dX7_layPairs_74 : decode cX7_layPairs 74 = .ok (.aload_n 0, 1) := by decide +kernel
theorem dX7_layPairs_75 : decode cX7_layPairs 75 = .ok (.iload 4, 2) := by decide +kernel
theorem dX7_layPairs_77 : decode cX7_layPairs 77 = .ok (.bipush 6, 2) := by decide +kernel
theorem dX7_layPairs_79 : decode cX7_layPairs 79 = .ok (.irem, 1) := by decide +kernel
theorem dX7_layPairs_80 : decode cX7_layPairs 80 = .ok (.iconst 1, 1) := by decide +kernel
theorem dX7_layPairs_81 : decode cX7_layPairs 81 = .ok (.isub, 1) := by decide +kernel
theorem dX7_layPairs_82 : decode cX7_layPairs 82 = .ok (.aload_n 0, 1) := by decide +kernel
theorem dX7_layPairs_83 : decode cX7_layPairs 83 = .ok (.getfield 22, 3) := by decide +kernel
theorem dX7_layPairs_86 : decode cX7_layPairs 86 = .ok (.iload_n 2, 1) := by decide +kernel
theorem dX7_layPairs_87 : decode cX7_layPairs 87 = .ok (.iaload, 1) := by decide +kernel
theorem dX7_layPairs_88 : decode cX7_layPairs 88 = .ok (.invokevirtual 195, 3) := by decide +kernel
theorem dX7_layPairs_91 : decode cX7_layPairs 91 = .ok (.pop, 1) := by decide +kernel
theorem dX7_layPairs_92 : decode cX7_layPairs 92 = .ok (.aload_n 0, 1) := by decide +kernel
theorem dX7_layPairs_93 : decode cX7_layPairs 93 = .ok (.iload_n 3, 1) := by decide +kernel
theorem dX7_layPairs_94 : decode cX7_layPairs 94 = .ok (.invokevirtual 189, 3) := by decide +kernel
theorem dX7_layPairs_97 : decode cX7_layPairs 97 = .ok (.aload_n 0, 1) := by decide +kernel
theorem dX7_layPairs_98 : decode cX7_layPairs 98 = .ok (.getfield 65, 3) := by decide +kernel
theorem dX7_layPairs_101 : decode cX7_layPairs 101 = .ok (.iload 4, 2) := by decide +kernel
theorem dX7_layPairs_103 : decode cX7_layPairs 103 = .ok (.aload_n 0, 1) := by decide +kernel
theorem dX7_layPairs_104 : decode cX7_layPairs 104 = .ok (.iconst 1, 1) := by decide +kernel
theorem dX7_layPairs_105 : decode cX7_layPairs 105 = .ok (.iload_n 1, 1) := by decide +kernel
theorem dX7_layPairs_106 : decode cX7_layPairs 106 = .ok (.invokevirtual 192, 3) := by decide +kernel
theorem dX7_layPairs_109 : decode cX7_layPairs 109 = .ok (.iastore, 1) := by decide +kernel
theorem dX7_layPairs_110 : decode cX7_layPairs 110 = .ok (.aload_n 0, 1) := by decide +kernel
theorem dX7_layPairs_111 : decode cX7_layPairs 111 = .ok (.getfield 68, 3) := by decide +kernel
theorem dX7_layPairs_114 : decode cX7_layPairs 114 = .ok (.iload 4, 2) := by decide +kernel
theorem dX7_layPairs_116 : decode cX7_layPairs 116 = .ok (.aload_n 0, 1) := by decide +kernel
theorem dX7_layPairs_117 : decode cX7_layPairs 117 = .ok (.iconst 1, 1) := by decide +kernel
theorem dX7_layPairs_118 : decode cX7_layPairs 118 = .ok (.iload_n 2, 1) := by decide +kernel
theorem dX7_layPairs_119 : decode cX7_layPairs 119 = .ok (.invokevirtual 192, 3) := by decide +kernel
theorem dX7_layPairs_122 : decode cX7_layPairs 122 = .ok (.iastore, 1) := by decide +kernel
theorem dX7_layPairs_123 : decode cX7_layPairs 123 = .ok (.iinc 4 1, 3) := by decide +kernel
theorem dX7_layPairs_126 : decode cX7_layPairs 126 = .ok (.goto (-123), 3) := by decide +kernel
theorem dX7_layPairs_129 : decode cX7_layPairs 129 = .ok (.return_, 1) := by decide +kernel
theorem dX7_isRest_0 : decode cX7_isRest 0 = .ok (.aload_n 0, 1) := by decide +kernel
theorem dX7_isRest_1 : decode cX7_isRest 1 = .ok (.iload_n 1, 1) := by decide +kernel
theorem dX7_isRest_2 : decode cX7_isRest 2 = .ok (.iload_n 3, 1) := by decide +kernel
theorem dX7_isRest_3 : decode cX7_isRest 3 = .ok (.bipush 6, 2) := by decide +kernel
theorem dX7_isRest_5 : decode cX7_isRest 5 = .ok (.idiv, 1) := by decide +kernel
theorem dX7_isRest_6 : decode cX7_isRest 6 = .ok (.invokevirtual 237, 3) := by decide +kernel
theorem dX7_isRest_9 : decode cX7_isRest 9 = .ok (.ifCond .eq 19, 3) := by decide +kernel
theorem dX7_isRest_12 : decode cX7_isRest 12 = .ok (.aload_n 0, 1) := by decide +kernel
theorem dX7_isRest_13 : decode cX7_isRest 13 = .ok (.iload_n 2, 1) := by decide +kernel
theorem dX7_isRest_14 : decode cX7_isRest 14 = .ok (.iload_n 3, 1) := by decide +kernel
theorem dX7_isRest_15 : decode cX7_isRest 15 = .ok (.bipush 6, 2) := by decide +kernel
theorem dX7_isRest_17 : decode cX7_isRest 17 = .ok (.irem, 1) := by decide +kernel
theorem dX7_isRest_18 : decode cX7_isRest 18 = .ok (.invokevirtual 237, 3) := by decide +kernel
theorem dX7_isRest_21 : decode cX7_isRest 21 = .ok (.ifCond .eq 7, 3) := by decide +kernel
theorem dX7_isRest_24 : decode cX7_isRest 24 = .ok (.iconst 1, 1) := by decide +kernel
theorem dX7_isRest_25 : decode cX7_isRest 25 = .ok (.goto 4, 3) := by decide +kernel
theorem dX7_isRest_28 : decode cX7_isRest 28 = .ok (.iconst 0, 1) := by decide +kernel
theorem dX7_isRest_29 : decode cX7_isRest 29 = .ok (.istore 4, 2) := by decide +kernel
theorem dX7_isRest_31 : decode cX7_isRest 31 = .ok (.iconst 0, 1) := by decide +kernel
theorem dX7_isRest_32 : decode cX7_isRest 32 = .ok (.istore 5, 2) := by decide +kernel
theorem dX7_isRest_34 : decode cX7_isRest 34 = .ok (.iload 5, 2) := by decide +kernel
theorem dX7_isRest_36 : decode cX7_isRest 36 = .ok (.bipush 6, 2) := by decide +kernel
theorem dX7_isRest_38 : decode cX7_isRest 38 = .ok (.if_icmp .ge 100, 3) := by decide +kernel
theorem dX7_isRest_41 : decode cX7_isRest 41 = .ok (.iload 4, 2) := by decide +kernel
theorem dX7_isRest_43 : decode cX7_isRest 43 = .ok (.ifCond .eq 41, 3) := by decide +kernel
theorem dX7_isRest_46 : decode cX7_isRest 46 = .ok (.aload_n 0, 1) := by decide +kernel
theorem dX7_isRest_47 : decode cX7_isRest 47 = .ok (.iload_n 1, 1) := by decide +kernel
theorem dX7_isRest_48 : decode cX7_isRest 48 = .ok (.iload 5, 2) := by decide +kernel
theorem dX7_isRest_50 : decode cX7_isRest 50 = .ok (.invokevirtual 237, 3) := by decide +kernel
theorem dX7_isRest_53 : decode cX7_isRest 53 = .ok (.ifCond .eq 27, 3) := by decide +kernel
theorem dX7_isRest_56 : decode cX7_isRest 56 = .ok (.aload_n 0, 1) := by decide +kernel
theorem dX7_isRest_57 : decode cX7_isRest 57 = .ok (.getfield 65, 3) := by decide +kernel
theorem dX7_isRest_60 : decode cX7_isRest 60 = .ok (.bipush 6, 2) := by decide +kernel
theorem dX7_isRest_62 : decode cX7_isRest 62 = .ok (.iload 5, 2) := by decide +kernel
theorem dX7_isRest_64 : decode cX7_isRest 64 = .ok (.imul, 1) := by decide +kernel
theorem dX7_isRest_65 : decode cX7_isRest 65 = .ok (.iload_n 3, 1) := by decide +kernel
theorem dX7_isRest_66 : decode cX7_isRest 66 = .ok (.bipush 6, 2) := by decide +kernel
theorem dX7_isRest_68 : decode cX7_isRest 68 = .ok (.irem, 1) := by decide +kernel
theorem dX7_isRest_69 : decode cX7_isRest 69 = .ok (.iadd, 1) := by decide +kernel
theorem dX7_isRest_70 : decode cX7_isRest 70 = .ok (.iaload, 1) := by decide +kernel
theorem dX7_isRest_71 : decode cX7_isRest 71 = .ok (.aload_n 0, 1) := by decide +kernel
theorem dX7_isRest_72 : decode cX7_isRest 72 = .ok (.getfield 65, 3) := by decide +kernel
theorem dX7_isRest_75 : decode cX7_isRest 75 = .ok (.iload_n 3, 1) := by decide +kernel
theorem dX7_isRest_76 : decode cX7_isRest 76 = .ok (.iaload, 1) := by decide +kernel
theorem dX7_isRest_77 : decode cX7_isRest 77 = .ok (.if_icmp .gt 7, 3) := by decide +kernel
theorem dX7_isRest_80 : decode cX7_isRest 80 = .ok (.iconst 1, 1) := by decide +kernel
theorem dX7_isRest_81 : decode cX7_isRest 81 = .ok (.goto 4, 3) := by decide +kernel
theorem dX7_isRest_84 : decode cX7_isRest 84 = .ok (.iconst 0, 1) := by decide +kernel
theorem dX7_isRest_85 : decode cX7_isRest 85 = .ok (.istore 4, 2) := by decide +kernel
theorem dX7_isRest_87 : decode cX7_isRest 87 = .ok (.iload 4, 2) := by decide +kernel
theorem dX7_isRest_89 : decode cX7_isRest 89 = .ok (.ifCond .eq 40, 3) := by decide +kernel
theorem dX7_isRest_92 : decode cX7_isRest 92 = .ok (.aload_n 0, 1) := by decide +kernel
theorem dX7_isRest_93 : decode cX7_isRest 93 = .ok (.iload_n 2, 1) := by decide +kernel
theorem dX7_isRest_94 : decode cX7_isRest 94 = .ok (.iload 5, 2) := by decide +kernel
theorem dX7_isRest_96 : decode cX7_isRest 96 = .ok (.invokevirtual 237, 3) := by decide +kernel
theorem dX7_isRest_99 : decode cX7_isRest 99 = .ok (.ifCond .eq 26, 3) := by decide +kernel
theorem dX7_isRest_102 : decode cX7_isRest 102 = .ok (.aload_n 0, 1) := by decide +kernel
theorem dX7_isRest_103 : decode cX7_isRest 103 = .ok (.getfield 68, 3) := by decide +kernel
theorem dX7_isRest_106 : decode cX7_isRest 106 = .ok (.iload_n 3, 1) := by decide +kernel
theorem dX7_isRest_107 : decode cX7_isRest 107 = .ok (.iload_n 3, 1) := by decide +kernel
theorem dX7_isRest_108 : decode cX7_isRest 108 = .ok (.bipush 6, 2) := by decide +kernel
theorem dX7_isRest_110 : decode cX7_isRest 110 = .ok (.irem, 1) := by decide +kernel
theorem dX7_isRest_111 : decode cX7_isRest 111 = .ok (.isub, 1) := by decide +kernel
theorem dX7_isRest_112 : decode cX7_isRest 112 = .ok (.iload 5, 2) := by decide +kernel
theorem dX7_isRest_114 : decode cX7_isRest 114 = .ok (.iadd, 1) := by decide +kernel
theorem dX7_isRest_115 : decode cX7_isRest 115 = .ok (.iaload, 1) := by decide +kernel
theorem dX7_isRest_116 : decode cX7_isRest 116 = .ok (.aload_n 0, 1) := by decide +kernel
theorem dX7_isRest_117 : decode cX7_isRest 117 = .ok (.getfield 68, 3) := by decide +kernel
theorem dX7_isRest_120 : decode cX7_isRest 120 = .ok (.iload_n 3, 1) := by decide +kernel
theorem dX7_isRest_121 : decode cX7_isRest 121 = .ok (.iaload, 1) := by decide +kernel
theorem dX7_isRest_122 : decode cX7_isRest 122 = .ok (.if_icmp .gt 7, 3) := by decide +kernel
theorem dX7_isRest_125 : decode cX7_isRest 125 = .ok (.iconst 1, 1) := by decide +kernel
theorem dX7_isRest_126 : decode cX7_isRest 126 = .ok (.goto 4, 3) := by decide +kernel
theorem dX7_isRest_129 : decode cX7_isRest 129 = .ok (.iconst 0, 1) := by decide +kernel
theorem dX7_isRest_130 : decode cX7_isRest 130 = .ok (.istore 4, 2) := by decide +kernel
theorem dX7_isRest_132 : decode cX7_isRest 132 = .ok (.iinc 5 1, 3) := by decide +kernel
theorem dX7_isRest_135 : decode cX7_isRest 135 = .ok (.goto (-101), 3) := by decide +kernel
theorem dX7_isRest_138 : decode cX7_isRest 138 = .ok (.iload 4, 2) := by decide +kernel
theorem dX7_isRest_140 : decode cX7_isRest 140 = .ok (.ireturn, 1) := by decide +kernel
theorem dX7_rests_0 : decode cX7_rests 0 = .ok (.aload_n 0, 1) := by decide +kernel
theorem dX7_rests_1 : decode cX7_rests 1 = .ok (.iload_n 1, 1) := by decide +kernel
theorem dX7_rests_2 : decode cX7_rests 2 = .ok (.invokevirtual 147, 3) := by decide +kernel
theorem dX7_rests_5 : decode cX7_rests 5 = .ok (.ifCond .eq 11, 3) := by decide +kernel
theorem dX7_rests_8 : decode cX7_rests 8 = .ok (.aload_n 0, 1) := by decide +kernel
theorem dX7_rests_9 : decode cX7_rests 9 = .ok (.iload_n 2, 1) := by decide +kernel
theorem dX7_rests_10 : decode cX7_rests 10 = .ok (.invokevirtual 147, 3) := by decide +kernel
theorem dX7_rests_13 : decode cX7_rests 13 = .ok (.ifCond .ne 5, 3) := by decide +kernel
theorem dX7_rests_16 : decode cX7_rests 16 = .ok (.iconst (-1), 1) := by decide +kernel
theorem dX7_rests_17 : decode cX7_rests 17 = .ok (.ireturn, 1) := by decide +kernel
theorem dX7_rests_18 : decode cX7_rests 18 = .ok (.iload_n 1, 1) := by decide +kernel
theorem dX7_rests_19 : decode cX7_rests 19 = .ok (.iload_n 2, 1) := by decide +kernel
theorem dX7_rests_20 : decode cX7_rests 20 = .ok (.if_icmp .eq 26, 3) := by decide +kernel
theorem dX7_rests_23 : decode cX7_rests 23 = .ok (.iload_n 3, 1) := by decide +kernel
theorem dX7_rests_24 : decode cX7_rests 24 = .ok (.i2l, 1) := by decide +kernel
theorem dX7_rests_25 : decode cX7_rests 25 = .ok (.lconst 0, 1) := by decide +kernel
theorem dX7_rests_26 : decode cX7_rests 26 = .ok (.ldc2_w 184, 3) := by decide +kernel
theorem dX7_rests_29 : decode cX7_rests 29 = .ok (.invokestatic 83, 3) := by decide +kernel
theorem dX7_rests_32 : decode cX7_rests 32 = .ok (.ifCond .eq 14, 3) := by decide +kernel
theorem dX7_rests_35 : decode cX7_rests 35 = .ok (.iload 4, 2) := by decide +kernel
theorem dX7_rests_37 : decode cX7_rests 37 = .ok (.i2l, 1) := by decide +kernel
theorem dX7_rests_38 : decode cX7_rests 38 = .ok (.lconst 0, 1) := by decide +kernel
theorem dX7_rests_39 : decode cX7_rests 39 = .ok (.lconst 1, 1) := by decide +kernel
theorem dX7_rests_40 : decode cX7_rests 40 = .ok (.invokestatic 83, 3) := by decide +kernel
theorem dX7_rests_43 : decode cX7_rests 43 = .ok (.ifCond .ne 6, 3) := by decide +kernel
theorem dX7_rests_46 : decode cX7_rests 46 = .ok (.bipush (-2), 2) := by decide +kernel
theorem dX7_rests_48 : decode cX7_rests 48 = .ok (.ireturn, 1) := by decide +kernel
theorem dX7_rests_49 : decode cX7_rests 49 = .ok (.aload_n 0, 1) := by decide +kernel
theorem dX7_rests_50 : decode cX7_rests 50 = .ok (.iload_n 1, 1) := by decide +kernel
theorem dX7_rests_51 : decode cX7_rests 51 = .ok (.iload_n 2, 1) := by decide +kernel
theorem dX7_rests_52 : decode cX7_rests 52 = .ok (.iload_n 3, 1) := by decide +kernel
theorem dX7_rests_53 : decode cX7_rests 53 = .ok (.invokevirtual 240, 3) := by decide +kernel
theorem dX7_rests_56 : decode cX7_rests 56 = .ok (.iconst 0, 1) := by decide +kernel
theorem dX7_rests_57 : decode cX7_rests 57 = .ok (.istore 5, 2) := by decide +kernel
theorem dX7_rests_59 : decode cX7_rests 59 = .ok (.bipush (-9), 2) := by decide +kernel
theorem dX7_rests_61 : decode cX7_rests 61 = .ok (.istore 6, 2) := by decide +kernel
theorem dX7_rests_63 : decode cX7_rests 63 = .ok (.iconst 0, 1) := by decide +kernel
theorem dX7_rests_64 : decode cX7_rests 64 = .ok (.istore 7, 2) := by decide +kernel
theorem dX7_rests_66 : decode cX7_rests 66 = .ok (.iload 7, 2) := by decide +kernel
theorem dX7_rests_68 : decode cX7_rests 68 = .ok (.bipush 36, 2) := by decide +kernel
theorem dX7_rests_70 : decode cX7_rests 70 = .ok (.if_icmp .ge 49, 3) := by decide +kernel
theorem dX7_rests_73 : decode cX7_rests 73 = .ok (.aload_n 0, 1) := by decide +kernel
theorem dX7_rests_74 : decode cX7_rests 74 = .ok (.iload_n 1, 1) := by decide +kernel
theorem dX7_rests_75 : decode cX7_rests 75 = .ok (.iload_n 2, 1) := by decide +kernel
theorem dX7_rests_76 : decode cX7_rests 76 = .ok (.iload 7, 2) := by decide +kernel
theorem dX7_rests_78 : decode cX7_rests 78 = .ok (.invokevirtual 243, 3) := by decide +kernel
theorem dX7_rests_81 : decode cX7_rests 81 = .ok (.ifCond .eq 32, 3) := by decide +kernel
theorem dX7_rests_84 : decode cX7_rests 84 = .ok (.iload 5, 2) := by decide +kernel
theorem dX7_rests_86 : decode cX7_rests 86 = .ok (.ifCond .ne 20, 3) := by decide +kernel
theorem dX7_rests_89 : decode cX7_rests 89 = .ok (.bipush 10, 2) := by decide +kernel
theorem dX7_rests_91 : decode cX7_rests 91 = .ok (.iload 7, 2) := by decide +kernel
theorem dX7_rests_93 : decode cX7_rests 93 = .ok (.bipush 6, 2) := by decide +kernel
theorem dX7_rests_95 : decode cX7_rests 95 = .ok (.idiv, 1) := by decide +kernel
theorem dX7_rests_96 : decode cX7_rests 96 = .ok (.imul, 1) := by decide +kernel
theorem dX7_rests_97 : decode cX7_rests 97 = .ok (.iload 7, 2) := by decide +kernel
theorem dX7_rests_99 : decode cX7_rests 99 = .ok (.bipush 6, 2) := by decide +kernel
theorem dX7_rests_101 : decode cX7_rests 101 = .ok (.irem, 1) := by decide +kernel
theorem dX7_rests_102 : decode cX7_rests 102 = .ok (.iadd, 1) := by decide +kernel
theorem dX7_rests_103 : decode cX7_rests 103 = .ok (.goto 5, 3) := by decide +kernel
theorem dX7_rests_106 : decode cX7_rests 106 = .ok (.iload 6, 2) := by decide +kernel
theorem dX7_rests_108 : decode cX7_rests 108 = .ok (.istore 6, 2) := by decide +kernel
theorem dX7_rests_110 : decode cX7_rests 110 = .ok (.iinc 5 1, 3) := by decide +kernel
theorem dX7_rests_113 : decode cX7_rests 113 = .ok (.iinc 7 1, 3) := by decide +kernel
theorem dX7_rests_116 : decode cX7_rests 116 = .ok (.goto (-50), 3) := by decide +kernel
theorem dX7_rests_119 : decode cX7_rests 119 = .ok (.iload 4, 2) := by decide +kernel
theorem dX7_rests_121 : decode cX7_rests 121 = .ok (.ifCond .ne 8, 3) := by decide +kernel
theorem dX7_rests_124 : decode cX7_rests 124 = .ok (.iload 5, 2) := by decide +kernel
theorem dX7_rests_126 : decode cX7_rests 126 = .ok (.goto 5, 3) := by decide +kernel
theorem dX7_rests_129 : decode cX7_rests 129 = .ok (.iload 6, 2) := by decide +kernel
theorem dX7_rests_131 : decode cX7_rests 131 = .ok (.ireturn, 1) := by decide +kernel
theorem dX7_chance_0 : decode cX7_chance 0 = .ok (.aload_n 0, 1) := by decide +kernel
theorem dX7_chance_1 : decode cX7_chance 1 = .ok (.iload_n 1, 1) := by decide +kernel
theorem dX7_chance_2 : decode cX7_chance 2 = .ok (.invokevirtual 143, 3) := by decide +kernel
theorem dX7_chance_5 : decode cX7_chance 5 = .ok (.ifCond .ne 5, 3) := by decide +kernel
theorem dX7_chance_8 : decode cX7_chance 8 = .ok (.iconst (-1), 1) := by decide +kernel
theorem dX7_chance_9 : decode cX7_chance 9 = .ok (.ireturn, 1) := by decide +kernel
theorem dX7_chance_10 : decode cX7_chance 10 = .ok (.iload_n 2, 1) := by decide +kernel
theorem dX7_chance_11 : decode cX7_chance 11 = .ok (.i2l, 1) := by decide +kernel
theorem dX7_chance_12 : decode cX7_chance 12 = .ok (.lconst 0, 1) := by decide +kernel
theorem dX7_chance_13 : decode cX7_chance 13 = .ok (.ldc2_w 246, 3) := by decide +kernel
theorem dX7_chance_16 : decode cX7_chance 16 = .ok (.invokestatic 83, 3) := by decide +kernel
theorem dX7_chance_19 : decode cX7_chance 19 = .ok (.ifCond .eq 15, 3) := by decide +kernel
theorem dX7_chance_22 : decode cX7_chance 22 = .ok (.iload_n 3, 1) := by decide +kernel
theorem dX7_chance_23 : decode cX7_chance 23 = .ok (.i2l, 1) := by decide +kernel
theorem dX7_chance_24 : decode cX7_chance 24 = .ok (.lconst 0, 1) := by decide +kernel
theorem dX7_chance_25 : decode cX7_chance 25 = .ok (.ldc2_w 204, 3) := by decide +kernel
theorem dX7_chance_28 : decode cX7_chance 28 = .ok (.invokestatic 83, 3) := by decide +kernel
theorem dX7_chance_31 : decode cX7_chance 31 = .ok (.ifCond .ne 6, 3) := by decide +kernel
theorem dX7_chance_34 : decode cX7_chance 34 = .ok (.bipush (-2), 2) := by decide +kernel
theorem dX7_chance_36 : decode cX7_chance 36 = .ok (.ireturn, 1) := by decide +kernel
theorem dX7_chance_37 : decode cX7_chance 37 = .ok (.aload_n 0, 1) := by decide +kernel
theorem dX7_chance_38 : decode cX7_chance 38 = .ok (.iconst 0, 1) := by decide +kernel
theorem dX7_chance_39 : decode cX7_chance 39 = .ok (.iload_n 1, 1) := by decide +kernel
theorem dX7_chance_40 : decode cX7_chance 40 = .ok (.invokevirtual 137, 3) := by decide +kernel
theorem dX7_chance_43 : decode cX7_chance 43 = .ok (.ifCond .eq 16, 3) := by decide +kernel
theorem dX7_chance_46 : decode cX7_chance 46 = .ok (.aload_n 0, 1) := by decide +kernel
theorem dX7_chance_47 : decode cX7_chance 47 = .ok (.getfield 13, 3) := by decide +kernel
theorem dX7_chance_50 : decode cX7_chance 50 = .ok (.iload_n 1, 1) := by decide +kernel
theorem dX7_chance_51 : decode cX7_chance 51 = .ok (.iaload, 1) := by decide +kernel
theorem dX7_chance_52 : decode cX7_chance 52 = .ok (.ifCond .ne 7, 3) := by decide +kernel
theorem dX7_chance_55 : decode cX7_chance 55 = .ok (.iconst 0, 1) := by decide +kernel
theorem dX7_chance_56 : decode cX7_chance 56 = .ok (.goto 9, 3) := by decide +kernel
theorem dX7_chance_59 : decode cX7_chance 59 = .ok (.aload_n 0, 1) := by decide +kernel
theorem dX7_chance_60 : decode cX7_chance 60 = .ok (.getfield 25, 3) := by decide +kernel
theorem dX7_chance_63 : decode cX7_chance 63 = .ok (.iload_n 1, 1) := by decide +kernel
theorem dX7_chance_64 : decode cX7_chance 64 = .ok (.iaload, 1) := by decide +kernel
theorem dX7_chance_65 : decode cX7_chance 65 = .ok (.istore 5, 2) := by decide +kernel
theorem dX7_chance_67 : decode cX7_chance 67 = .ok (.iconst 0, 1) := by decide +kernel
theorem dX7_chance_68 : decode cX7_chance 68 = .ok (.istore 6, 2) := by decide +kernel
theorem dX7_chance_70 : decode cX7_chance 70 = .ok (.iconst 0, 1) := by decide +kernel
theorem dX7_chance_71 : decode cX7_chance 71 = .ok (.istore 7, 2) := by decide +kernel
theorem dX7_chance_73 : decode cX7_chance 73 = .ok (.iconst 0, 1) := by decide +kernel
theorem dX7_chance_74 : decode cX7_chance 74 = .ok (.istore 8, 2) := by decide +kernel
theorem dX7_chance_76 : decode cX7_chance 76 = .ok (.iload 8, 2) := by decide +kernel
theorem dX7_chance_78 : decode cX7_chance 78 = .ok (.bipush 63, 2) := by decide +kernel
theorem dX7_chance_80 : decode cX7_chance 80 = .ok (.if_icmp .gt 131, 3) := by decide +kernel
theorem dX7_chance_83 : decode cX7_chance 83 = .ok (.iload 8, 2) := by decide +kernel
theorem dX7_chance_85 : decode cX7_chance 85 = .ok (.iload 5, 2) := by decide +kernel
theorem dX7_chance_87 : decode cX7_chance 87 = .ok (.iconst (-1), 1) := by decide +kernel
theorem dX7_chance_88 : decode cX7_chance 88 = .ok (.ixor, 1) := by decide +kernel
theorem dX7_chance_89 : decode cX7_chance 89 = .ok (.iand, 1) := by decide +kernel
theorem dX7_chance_90 : decode cX7_chance 90 = .ok (.ifCond .ne 115, 3) := by decide +kernel
theorem dX7_chance_93 : decode cX7_chance 93 = .ok (.iconst 1, 1) := by decide +kernel
theorem dX7_chance_94 : decode cX7_chance 94 = .ok (.istore 9, 2) := by decide +kernel
theorem dX7_chance_96 : decode cX7_chance 96 = .ok (.aload_n 0, 1) := by decide +kernel
theorem dX7_chance_97 : decode cX7_chance 97 = .ok (.invokevirtual 186, 3) := by decide +kernel
theorem dX7_chance_100 : decode cX7_chance 100 = .ok (.iconst 0, 1) := by decide +kernel
theorem dX7_chance_101 : decode cX7_chance 101 = .ok (.istore 10, 2) := by decide +kernel
theorem dX7_chance_103 : decode cX7_chance 103 = .ok (.iload 10, 2) := by decide +kernel
theorem dX7_chance_105 : decode cX7_chance 105 = .ok (.bipush 6, 2) := by decide +kernel
theorem dX7_chance_107 : decode cX7_chance 107 = .ok (.if_icmp .ge 64, 3) := by decide +kernel
theorem dX7_chance_110 : decode cX7_chance 110 = .ok (.iload 9, 2) := by decide +kernel
theorem dX7_chance_112 : decode cX7_chance 112 = .ok (.iload 5, 2) := by decide +kernel
theorem dX7_chance_114 : decode cX7_chance 114 = .ok (.iload 10, 2) := by decide +kernel
theorem dX7_chance_116 : decode cX7_chance 116 = .ok (.invokestatic 98, 3) := by decide +kernel
theorem dX7_chance_119 : decode cX7_chance 119 = .ok (.ifCond .ne 7, 3) := by decide +kernel
theorem dX7_chance_122 : decode cX7_chance 122 = .ok (.iconst 1, 1) := by decide +kernel
theorem dX7_chance_123 : decode cX7_chance 123 = .ok (.goto 21, 3) := by decide +kernel
theorem dX7_chance_126 : decode cX7_chance 126 = .ok (.iload 8, 2) := by decide +kernel
theorem dX7_chance_128 : decode cX7_chance 128 = .ok (.iload 10, 2) := by decide +kernel
theorem dX7_chance_130 : decode cX7_chance 130 = .ok (.invokestatic 98, 3) := by decide +kernel
theorem dX7_chance_133 : decode cX7_chance 133 = .ok (.ifCond .eq 7, 3) := by decide +kernel
theorem dX7_chance_136 : decode cX7_chance 136 = .ok (.iload_n 3, 1) := by decide +kernel
theorem dX7_chance_137 : decode cX7_chance 137 = .ok (.goto 7, 3) := by decide +kernel
theorem dX7_chance_140 : decode cX7_chance 140 = .ok (.bipush 10, 2) := by decide +kernel
theorem dX7_chance_142 : decode cX7_chance 142 = .ok (.iload_n 3, 1) := by decide +kernel
theorem dX7_chance_143 : decode cX7_chance 143 = .ok (.isub, 1) := by decide +kernel
theorem dX7_chance_144 : decode cX7_chance 144 = .ok (.imul, 1) := by decide +kernel
theorem dX7_chance_145 : decode cX7_chance 145 = .ok (.istore 9, 2) := by decide +kernel
theorem dX7_chance_147 : decode cX7_chance 147 = .ok (.iload 8, 2) := by decide +kernel
theorem dX7_chance_149 : decode cX7_chance 149 = .ok (.iload 10, 2) := by decide +kernel
theorem dX7_chance_151 : decode cX7_chance 151 = .ok (.invokestatic 98, 3) := by decide +kernel
theorem dX7_chance_154 : decode cX7_chance 154 = .ok (.ifCond .eq 11, 3) := by decide +kernel
theorem dX7_chance_157 : decode cX7_chance 157 = .ok (.aload_n 0, 1) := by decide +kernel
theorem dX7_chance_158 : decode cX7_chance 158 = .ok (.iconst 1, 1) := by decide +kernel
theorem dX7_chance_159 : decode cX7_chance 159 = .ok (.iload_n 1, 1) := by decide +kernel
theorem dX7_chance_160 : decode cX7_chance 160 = .ok (.iload 10, 2) := by decide +kernel
theorem dX7_chance_162 : decode cX7_chance 162 = .ok (.invokevirtual 173, 3) := by decide +kernel
theorem dX7_chance_165 : decode cX7_chance 165 = .ok (.iinc 10 1, 3) := by decide +kernel
theorem dX7_chance_168 : decode cX7_chance 168 = .ok (.goto (-65), 3) := by decide +kernel
theorem dX7_chance_171 : decode cX7_chance 171 = .ok (.aload_n 0, 1) := by decide +kernel
theorem dX7_chance_172 : decode cX7_chance 172 = .ok (.iconst 1, 1) := by decide +kernel
theorem dX7_chance_173 : decode cX7_chance 173 = .ok (.invokevirtual 160, 3) := by decide +kernel
theorem dX7_chance_176 : decode cX7_chance 176 = .ok (.pop, 1) := by decide +kernel
theorem dX7_chance_177 : decode cX7_chance 177 = .ok (.iload 7, 2) := by decide +kernel
theorem dX7_chance_179 : decode cX7_chance 179 = .ok (.iload 9, 2) := by decide +kernel
end
section
theorem dX7_chance_181 : decode cX7_chance 181 = .ok (.iadd, 1) := by decide +kernel
theorem dX7_chance_182 : decode cX7_chance 182 = .ok (.istore 7, 2) := by decide +kernel
theorem dX7_chance_184 : decode cX7_chance 184 = .ok (.iload 6, 2) := by decide +kernel
theorem dX7_chance_186 : decode cX7_chance 186 = .ok (.aload_n 0, 1) := by decide +kernel
theorem dX7_chance_187 : decode cX7_chance 187 = .ok (.iconst 1, 1) := by decide +kernel
theorem dX7_chance_188 : decode cX7_chance 188 = .ok (.iload_n 1, 1) := by decide +kernel
theorem dX7_chance_189 : decode cX7_chance 189 = .ok (.invokevirtual 177, 3) := by decide +kernel
theorem dX7_chance_192 : decode cX7_chance 192 = .ok (.iload_n 2, 1) := by decide +kernel
theorem dX7_chance_193 : decode cX7_chance 193 = .ok (.if_icmp .lt 8, 3) := by decide +kernel
theorem dX7_chance_196 : decode cX7_chance 196 = .ok (.iload 9, 2) := by decide +kernel
theorem dX7_chance_198 : decode cX7_chance 198 = .ok (.goto 4, 3) := by decide +kernel
theorem dX7_chance_201 : decode cX7_chance 201 = .ok (.iconst 0, 1) := by decide +kernel
theorem dX7_chance_202 : decode cX7_chance 202 = .ok (.iadd, 1) := by decide +kernel
theorem dX7_chance_203 : decode cX7_chance 203 = .ok (.istore 6, 2) := by decide +kernel
theorem dX7_chance_205 : decode cX7_chance 205 = .ok (.iinc 8 1, 3) := by decide +kernel
theorem dX7_chance_208 : decode cX7_chance 208 = .ok (.goto (-132), 3) := by decide +kernel
theorem dX7_chance_211 : decode cX7_chance 211 = .ok (.iload 6, 2) := by decide +kernel
theorem dX7_chance_213 : decode cX7_chance 213 = .ok (.iload 7, 2) := by decide +kernel
theorem dX7_chance_215 : decode cX7_chance 215 = .ok (.invokestatic 234, 3) := by decide +kernel
theorem dX7_chance_218 : decode cX7_chance 218 = .ok (.istore 8, 2) := by decide +kernel
theorem dX7_chance_220 : decode cX7_chance 220 = .ok (.iload 4, 2) := by decide +kernel
theorem dX7_chance_222 : decode cX7_chance 222 = .ok (.ifCond .eq 11, 3) := by decide +kernel
theorem dX7_chance_225 : decode cX7_chance 225 = .ok (.iload 6, 2) := by decide +kernel
theorem dX7_chance_227 : decode cX7_chance 227 = .ok (.iload 8, 2) := by decide +kernel
theorem dX7_chance_229 : decode cX7_chance 229 = .ok (.idiv, 1) := by decide +kernel
theorem dX7_chance_230 : decode cX7_chance 230 = .ok (.goto 8, 3) := by decide +kernel
theorem dX7_chance_233 : decode cX7_chance 233 = .ok (.iload 7, 2) := by decide +kernel
theorem dX7_chance_235 : decode cX7_chance 235 = .ok (.iload 8, 2) := by decide +kernel
theorem dX7_chance_237 : decode cX7_chance 237 = .ok (.idiv, 1) := by decide +kernel
theorem dX7_chance_238 : decode cX7_chance 238 = .ok (.ireturn, 1) := by decide +kernel
theorem dX7_seed_0 : decode cX7_seed 0 = .ok (.aload_n 0, 1) := by decide +kernel
theorem dX7_seed_1 : decode cX7_seed 1 = .ok (.getfield 248, 3) := by decide +kernel
theorem dX7_seed_4 : decode cX7_seed 4 = .ok (.lstore_n 3, 1) := by decide +kernel
theorem dX7_seed_5 : decode cX7_seed 5 = .ok (.aload_n 0, 1) := by decide +kernel
theorem dX7_seed_6 : decode cX7_seed 6 = .ok (.lload_n 1, 1) := by decide +kernel
theorem dX7_seed_7 : decode cX7_seed 7 = .ok (.putfield 248, 3) := by decide +kernel
theorem dX7_seed_10 : decode cX7_seed 10 = .ok (.lload_n 3, 1) := by decide +kernel
theorem dX7_seed_11 : decode cX7_seed 11 = .ok (.lreturn, 1) := by decide +kernel
theorem dX7_allPurses_0 : decode cX7_allPurses 0 = .ok (.iconst 0, 1) := by decide +kernel
theorem dX7_allPurses_1 : decode cX7_allPurses 1 = .ok (.istore_n 2, 1) := by decide +kernel
theorem dX7_allPurses_2 : decode cX7_allPurses 2 = .ok (.iconst 0, 1) := by decide +kernel
theorem dX7_allPurses_3 : decode cX7_allPurses 3 = .ok (.istore_n 3, 1) := by decide +kernel
theorem dX7_allPurses_4 : decode cX7_allPurses 4 = .ok (.iload_n 3, 1) := by decide +kernel
theorem dX7_allPurses_5 : decode cX7_allPurses 5 = .ok (.aload_n 0, 1) := by decide +kernel
theorem dX7_allPurses_6 : decode cX7_allPurses 6 = .ok (.getfield 129, 3) := by decide +kernel
theorem dX7_allPurses_9 : decode cX7_allPurses 9 = .ok (.if_icmp .ge 18, 3) := by decide +kernel
theorem dX7_allPurses_12 : decode cX7_allPurses 12 = .ok (.iload_n 2, 1) := by decide +kernel
theorem dX7_allPurses_13 : decode cX7_allPurses 13 = .ok (.aload_n 0, 1) := by decide +kernel
theorem dX7_allPurses_14 : decode cX7_allPurses 14 = .ok (.iload_n 1, 1) := by decide +kernel
theorem dX7_allPurses_15 : decode cX7_allPurses 15 = .ok (.iload_n 3, 1) := by decide +kernel
theorem dX7_allPurses_16 : decode cX7_allPurses 16 = .ok (.invokevirtual 192, 3) := by decide +kernel
theorem dX7_allPurses_19 : decode cX7_allPurses 19 = .ok (.iadd, 1) := by decide +kernel
theorem dX7_allPurses_20 : decode cX7_allPurses 20 = .ok (.istore_n 2, 1) := by decide +kernel
theorem dX7_allPurses_21 : decode cX7_allPurses 21 = .ok (.iinc 3 1, 3) := by decide +kernel
theorem dX7_allPurses_24 : decode cX7_allPurses 24 = .ok (.goto (-20), 3) := by decide +kernel
theorem dX7_allPurses_27 : decode cX7_allPurses 27 = .ok (.iload_n 2, 1) := by decide +kernel
theorem dX7_allPurses_28 : decode cX7_allPurses 28 = .ok (.ireturn, 1) := by decide +kernel
theorem dX7_weeks_0 : decode cX7_weeks 0 = .ok (.iload_n 1, 1) := by decide +kernel
theorem dX7_weeks_1 : decode cX7_weeks 1 = .ok (.i2l, 1) := by decide +kernel
theorem dX7_weeks_2 : decode cX7_weeks 2 = .ok (.lconst 1, 1) := by decide +kernel
theorem dX7_weeks_3 : decode cX7_weeks 3 = .ok (.ldc2_w 246, 3) := by decide +kernel
theorem dX7_weeks_6 : decode cX7_weeks 6 = .ok (.invokestatic 83, 3) := by decide +kernel
theorem dX7_weeks_9 : decode cX7_weeks 9 = .ok (.ifCond .ne 6, 3) := by decide +kernel
theorem dX7_weeks_12 : decode cX7_weeks 12 = .ok (.bipush (-2), 2) := by decide +kernel
theorem dX7_weeks_14 : decode cX7_weeks 14 = .ok (.ireturn, 1) := by decide +kernel
theorem dX7_weeks_15 : decode cX7_weeks 15 = .ok (.aload_n 0, 1) := by decide +kernel
theorem dX7_weeks_16 : decode cX7_weeks 16 = .ok (.invokevirtual 186, 3) := by decide +kernel
theorem dX7_weeks_19 : decode cX7_weeks 19 = .ok (.iconst 0, 1) := by decide +kernel
theorem dX7_weeks_20 : decode cX7_weeks 20 = .ok (.istore_n 2, 1) := by decide +kernel
theorem dX7_weeks_21 : decode cX7_weeks 21 = .ok (.iload_n 2, 1) := by decide +kernel
theorem dX7_weeks_22 : decode cX7_weeks 22 = .ok (.iload_n 1, 1) := by decide +kernel
theorem dX7_weeks_23 : decode cX7_weeks 23 = .ok (.if_icmp .ge 57, 3) := by decide +kernel
theorem dX7_weeks_26 : decode cX7_weeks 26 = .ok (.aload_n 0, 1) := by decide +kernel
theorem dX7_weeks_27 : decode cX7_weeks 27 = .ok (.aload_n 0, 1) := by decide +kernel
theorem dX7_weeks_28 : decode cX7_weeks 28 = .ok (.getfield 248, 3) := by decide +kernel
theorem dX7_weeks_31 : decode cX7_weeks 31 = .ok (.ldc2_w 252, 3) := by decide +kernel
theorem dX7_weeks_34 : decode cX7_weeks 34 = .ok (.lmul, 1) := by decide +kernel
theorem dX7_weeks_35 : decode cX7_weeks 35 = .ok (.ldc2_w 254, 3) := by decide +kernel
theorem dX7_weeks_38 : decode cX7_weeks 38 = .ok (.ladd, 1) := by decide +kernel
theorem dX7_weeks_39 : decode cX7_weeks 39 = .ok (.putfield 248, 3) := by decide +kernel
theorem dX7_weeks_42 : decode cX7_weeks 42 = .ok (.aload_n 0, 1) := by decide +kernel
theorem dX7_weeks_43 : decode cX7_weeks 43 = .ok (.getfield 248, 3) := by decide +kernel
theorem dX7_weeks_46 : decode cX7_weeks 46 = .ok (.bipush 33, 2) := by decide +kernel
theorem dX7_weeks_48 : decode cX7_weeks 48 = .ok (.lushr, 1) := by decide +kernel
theorem dX7_weeks_49 : decode cX7_weeks 49 = .ok (.ldc2_w 256, 3) := by decide +kernel
theorem dX7_weeks_52 : decode cX7_weeks 52 = .ok (.lrem, 1) := by decide +kernel
theorem dX7_weeks_53 : decode cX7_weeks 53 = .ok (.l2i, 1) := by decide +kernel
theorem dX7_weeks_54 : decode cX7_weeks 54 = .ok (.istore_n 3, 1) := by decide +kernel
theorem dX7_weeks_55 : decode cX7_weeks 55 = .ok (.aload_n 0, 1) := by decide +kernel
theorem dX7_weeks_56 : decode cX7_weeks 56 = .ok (.iload_n 3, 1) := by decide +kernel
theorem dX7_weeks_57 : decode cX7_weeks 57 = .ok (.bipush 10, 2) := by decide +kernel
theorem dX7_weeks_59 : decode cX7_weeks 59 = .ok (.idiv, 1) := by decide +kernel
theorem dX7_weeks_60 : decode cX7_weeks 60 = .ok (.iload_n 3, 1) := by decide +kernel
theorem dX7_weeks_61 : decode cX7_weeks 61 = .ok (.bipush 10, 2) := by decide +kernel
theorem dX7_weeks_63 : decode cX7_weeks 63 = .ok (.irem, 1) := by decide +kernel
theorem dX7_weeks_64 : decode cX7_weeks 64 = .ok (.invokevirtual 195, 3) := by decide +kernel
theorem dX7_weeks_67 : decode cX7_weeks 67 = .ok (.pop, 1) := by decide +kernel
theorem dX7_weeks_68 : decode cX7_weeks 68 = .ok (.aload_n 0, 1) := by decide +kernel
theorem dX7_weeks_69 : decode cX7_weeks 69 = .ok (.iconst 1, 1) := by decide +kernel
theorem dX7_weeks_70 : decode cX7_weeks 70 = .ok (.invokevirtual 160, 3) := by decide +kernel
theorem dX7_weeks_73 : decode cX7_weeks 73 = .ok (.pop, 1) := by decide +kernel
theorem dX7_weeks_74 : decode cX7_weeks 74 = .ok (.iinc 2 1, 3) := by decide +kernel
theorem dX7_weeks_77 : decode cX7_weeks 77 = .ok (.goto (-56), 3) := by decide +kernel
theorem dX7_weeks_80 : decode cX7_weeks 80 = .ok (.aload_n 0, 1) := by decide +kernel
theorem dX7_weeks_81 : decode cX7_weeks 81 = .ok (.iconst 1, 1) := by decide +kernel
theorem dX7_weeks_82 : decode cX7_weeks 82 = .ok (.invokevirtual 258, 3) := by decide +kernel
theorem dX7_weeks_85 : decode cX7_weeks 85 = .ok (.ireturn, 1) := by decide +kernel
theorem dX7_keep_0 : decode cX7_keep 0 = .ok (.iload_n 1, 1) := by decide +kernel
theorem dX7_keep_1 : decode cX7_keep 1 = .ok (.i2l, 1) := by decide +kernel
theorem dX7_keep_2 : decode cX7_keep 2 = .ok (.lconst 0, 1) := by decide +kernel
theorem dX7_keep_3 : decode cX7_keep 3 = .ok (.lconst 1, 1) := by decide +kernel
theorem dX7_keep_4 : decode cX7_keep 4 = .ok (.invokestatic 83, 3) := by decide +kernel
theorem dX7_keep_7 : decode cX7_keep 7 = .ok (.ifCond .ne 5, 3) := by decide +kernel
theorem dX7_keep_10 : decode cX7_keep 10 = .ok (.iconst (-1), 1) := by decide +kernel
theorem dX7_keep_11 : decode cX7_keep 11 = .ok (.ireturn, 1) := by decide +kernel
theorem dX7_keep_12 : decode cX7_keep 12 = .ok (.aload_n 0, 1) := by decide +kernel
theorem dX7_keep_13 : decode cX7_keep 13 = .ok (.getfield 71, 3) := by decide +kernel
theorem dX7_keep_16 : decode cX7_keep 16 = .ok (.iload_n 1, 1) := by decide +kernel
theorem dX7_keep_17 : decode cX7_keep 17 = .ok (.iconst 1, 1) := by decide +kernel
theorem dX7_keep_18 : decode cX7_keep 18 = .ok (.bastore, 1) := by decide +kernel
theorem dX7_keep_19 : decode cX7_keep 19 = .ok (.iconst 0, 1) := by decide +kernel
theorem dX7_keep_20 : decode cX7_keep 20 = .ok (.istore_n 2, 1) := by decide +kernel
theorem dX7_keep_21 : decode cX7_keep 21 = .ok (.iload_n 2, 1) := by decide +kernel
theorem dX7_keep_22 : decode cX7_keep 22 = .ok (.bipush 31, 2) := by decide +kernel
theorem dX7_keep_24 : decode cX7_keep 24 = .ok (.if_icmp .ge 26, 3) := by decide +kernel
theorem dX7_keep_27 : decode cX7_keep 27 = .ok (.aload_n 0, 1) := by decide +kernel
theorem dX7_keep_28 : decode cX7_keep 28 = .ok (.getfield 74, 3) := by decide +kernel
theorem dX7_keep_31 : decode cX7_keep 31 = .ok (.bipush 31, 2) := by decide +kernel
theorem dX7_keep_33 : decode cX7_keep 33 = .ok (.iload_n 1, 1) := by decide +kernel
theorem dX7_keep_34 : decode cX7_keep 34 = .ok (.imul, 1) := by decide +kernel
theorem dX7_keep_35 : decode cX7_keep 35 = .ok (.iload_n 2, 1) := by decide +kernel
theorem dX7_keep_36 : decode cX7_keep 36 = .ok (.iadd, 1) := by decide +kernel
theorem dX7_keep_37 : decode cX7_keep 37 = .ok (.aload_n 0, 1) := by decide +kernel
theorem dX7_keep_38 : decode cX7_keep 38 = .ok (.getfield 25, 3) := by decide +kernel
theorem dX7_keep_41 : decode cX7_keep 41 = .ok (.iload_n 2, 1) := by decide +kernel
theorem dX7_keep_42 : decode cX7_keep 42 = .ok (.iaload, 1) := by decide +kernel
theorem dX7_keep_43 : decode cX7_keep 43 = .ok (.iastore, 1) := by decide +kernel
theorem dX7_keep_44 : decode cX7_keep 44 = .ok (.iinc 2 1, 3) := by decide +kernel
theorem dX7_keep_47 : decode cX7_keep 47 = .ok (.goto (-26), 3) := by decide +kernel
theorem dX7_keep_50 : decode cX7_keep 50 = .ok (.aload_n 0, 1) := by decide +kernel
theorem dX7_keep_51 : decode cX7_keep 51 = .ok (.getfield 25, 3) := by decide +kernel
theorem dX7_keep_54 : decode cX7_keep 54 = .ok (.bipush 30, 2) := by decide +kernel
theorem dX7_keep_56 : decode cX7_keep 56 = .ok (.iaload, 1) := by decide +kernel
theorem dX7_keep_57 : decode cX7_keep 57 = .ok (.ireturn, 1) := by decide +kernel
theorem dX7_again_0 : decode cX7_again 0 = .ok (.iload_n 1, 1) := by decide +kernel
theorem dX7_again_1 : decode cX7_again 1 = .ok (.i2l, 1) := by decide +kernel
theorem dX7_again_2 : decode cX7_again 2 = .ok (.lconst 0, 1) := by decide +kernel
theorem dX7_again_3 : decode cX7_again 3 = .ok (.lconst 1, 1) := by decide +kernel
theorem dX7_again_4 : decode cX7_again 4 = .ok (.invokestatic 83, 3) := by decide +kernel
theorem dX7_again_7 : decode cX7_again 7 = .ok (.ifCond .ne 5, 3) := by decide +kernel
theorem dX7_again_10 : decode cX7_again 10 = .ok (.iconst (-1), 1) := by decide +kernel
theorem dX7_again_11 : decode cX7_again 11 = .ok (.ireturn, 1) := by decide +kernel
theorem dX7_again_12 : decode cX7_again 12 = .ok (.aload_n 0, 1) := by decide +kernel
theorem dX7_again_13 : decode cX7_again 13 = .ok (.getfield 71, 3) := by decide +kernel
theorem dX7_again_16 : decode cX7_again 16 = .ok (.iload_n 1, 1) := by decide +kernel
theorem dX7_again_17 : decode cX7_again 17 = .ok (.baload, 1) := by decide +kernel
theorem dX7_again_18 : decode cX7_again 18 = .ok (.ifCond .ne 6, 3) := by decide +kernel
theorem dX7_again_21 : decode cX7_again 21 = .ok (.bipush (-3), 2) := by decide +kernel
theorem dX7_again_23 : decode cX7_again 23 = .ok (.ireturn, 1) := by decide +kernel
theorem dX7_again_24 : decode cX7_again 24 = .ok (.iconst 0, 1) := by decide +kernel
theorem dX7_again_25 : decode cX7_again 25 = .ok (.istore_n 2, 1) := by decide +kernel
theorem dX7_again_26 : decode cX7_again 26 = .ok (.iload_n 2, 1) := by decide +kernel
theorem dX7_again_27 : decode cX7_again 27 = .ok (.bipush 31, 2) := by decide +kernel
theorem dX7_again_29 : decode cX7_again 29 = .ok (.if_icmp .ge 26, 3) := by decide +kernel
theorem dX7_again_32 : decode cX7_again 32 = .ok (.aload_n 0, 1) := by decide +kernel
theorem dX7_again_33 : decode cX7_again 33 = .ok (.getfield 25, 3) := by decide +kernel
theorem dX7_again_36 : decode cX7_again 36 = .ok (.iload_n 2, 1) := by decide +kernel
theorem dX7_again_37 : decode cX7_again 37 = .ok (.aload_n 0, 1) := by decide +kernel
theorem dX7_again_38 : decode cX7_again 38 = .ok (.getfield 74, 3) := by decide +kernel
theorem dX7_again_41 : decode cX7_again 41 = .ok (.bipush 31, 2) := by decide +kernel
theorem dX7_again_43 : decode cX7_again 43 = .ok (.iload_n 1, 1) := by decide +kernel
theorem dX7_again_44 : decode cX7_again 44 = .ok (.imul, 1) := by decide +kernel
theorem dX7_again_45 : decode cX7_again 45 = .ok (.iload_n 2, 1) := by decide +kernel
theorem dX7_again_46 : decode cX7_again 46 = .ok (.iadd, 1) := by decide +kernel
theorem dX7_again_47 : decode cX7_again 47 = .ok (.iaload, 1) := by decide +kernel
theorem dX7_again_48 : decode cX7_again 48 = .ok (.iastore, 1) := by decide +kernel
theorem dX7_again_49 : decode cX7_again 49 = .ok (.iinc 2 1, 3) := by decide +kernel
theorem dX7_again_52 : decode cX7_again 52 = .ok (.goto (-26), 3) := by decide +kernel
theorem dX7_again_55 : decode cX7_again 55 = .ok (.aload_n 0, 1) := by decide +kernel
theorem dX7_again_56 : decode cX7_again 56 = .ok (.iconst 0, 1) := by decide +kernel
theorem dX7_again_57 : decode cX7_again 57 = .ok (.putfield 132, 3) := by decide +kernel
theorem dX7_again_60 : decode cX7_again 60 = .ok (.aload_n 0, 1) := by decide +kernel
theorem dX7_again_61 : decode cX7_again 61 = .ok (.getfield 25, 3) := by decide +kernel
theorem dX7_again_64 : decode cX7_again 64 = .ok (.bipush 30, 2) := by decide +kernel
theorem dX7_again_66 : decode cX7_again 66 = .ok (.iaload, 1) := by decide +kernel
theorem dX7_again_67 : decode cX7_again 67 = .ok (.ireturn, 1) := by decide +kernel
theorem dX7_count_0 : decode cX7_count 0 = .ok (.iconst 0, 1) := by decide +kernel
theorem dX7_count_1 : decode cX7_count 1 = .ok (.istore_n 2, 1) := by decide +kernel
theorem dX7_count_2 : decode cX7_count 2 = .ok (.iconst 0, 1) := by decide +kernel
theorem dX7_count_3 : decode cX7_count 3 = .ok (.istore_n 3, 1) := by decide +kernel
theorem dX7_count_4 : decode cX7_count 4 = .ok (.iconst 0, 1) := by decide +kernel
theorem dX7_count_5 : decode cX7_count 5 = .ok (.istore 4, 2) := by decide +kernel
theorem dX7_count_7 : decode cX7_count 7 = .ok (.iload 4, 2) := by decide +kernel
theorem dX7_count_9 : decode cX7_count 9 = .ok (.aload_n 0, 1) := by decide +kernel
theorem dX7_count_10 : decode cX7_count 10 = .ok (.getfield 77, 3) := by decide +kernel
theorem dX7_count_13 : decode cX7_count 13 = .ok (.if_icmp .ge 65, 3) := by decide +kernel
theorem dX7_count_16 : decode cX7_count 16 = .ok (.iload_n 3, 1) := by decide +kernel
theorem dX7_count_17 : decode cX7_count 17 = .ok (.aload_n 0, 1) := by decide +kernel
theorem dX7_count_18 : decode cX7_count 18 = .ok (.getfield 25, 3) := by decide +kernel
theorem dX7_count_21 : decode cX7_count 21 = .ok (.iload 4, 2) := by decide +kernel
theorem dX7_count_23 : decode cX7_count 23 = .ok (.iaload, 1) := by decide +kernel
theorem dX7_count_24 : decode cX7_count 24 = .ok (.ifCond .eq 10, 3) := by decide +kernel
theorem dX7_count_27 : decode cX7_count 27 = .ok (.iconst 1, 1) := by decide +kernel
theorem dX7_count_28 : decode cX7_count 28 = .ok (.iload 4, 2) := by decide +kernel
theorem dX7_count_30 : decode cX7_count 30 = .ok (.ishl, 1) := by decide +kernel
theorem dX7_count_31 : decode cX7_count 31 = .ok (.goto 4, 3) := by decide +kernel
theorem dX7_count_34 : decode cX7_count 34 = .ok (.iconst 0, 1) := by decide +kernel
theorem dX7_count_35 : decode cX7_count 35 = .ok (.ior, 1) := by decide +kernel
theorem dX7_count_36 : decode cX7_count 36 = .ok (.istore_n 3, 1) := by decide +kernel
theorem dX7_count_37 : decode cX7_count 37 = .ok (.iconst 0, 1) := by decide +kernel
theorem dX7_count_38 : decode cX7_count 38 = .ok (.istore 5, 2) := by decide +kernel
theorem dX7_count_40 : decode cX7_count 40 = .ok (.iload 5, 2) := by decide +kernel
theorem dX7_count_42 : decode cX7_count 42 = .ok (.aload_n 0, 1) := by decide +kernel
theorem dX7_count_43 : decode cX7_count 43 = .ok (.getfield 129, 3) := by decide +kernel
theorem dX7_count_46 : decode cX7_count 46 = .ok (.if_icmp .ge 26, 3) := by decide +kernel
theorem dX7_count_49 : decode cX7_count 49 = .ok (.iload_n 2, 1) := by decide +kernel
theorem dX7_count_50 : decode cX7_count 50 = .ok (.aload_n 0, 1) := by decide +kernel
theorem dX7_count_51 : decode cX7_count 51 = .ok (.getfield 25, 3) := by decide +kernel
theorem dX7_count_54 : decode cX7_count 54 = .ok (.aload_n 0, 1) := by decide +kernel
theorem dX7_count_55 : decode cX7_count 55 = .ok (.iconst 0, 1) := by decide +kernel
theorem dX7_count_56 : decode cX7_count 56 = .ok (.iload 5, 2) := by decide +kernel
theorem dX7_count_58 : decode cX7_count 58 = .ok (.iload 4, 2) := by decide +kernel
theorem dX7_count_60 : decode cX7_count 60 = .ok (.invokevirtual 150, 3) := by decide +kernel
theorem dX7_count_63 : decode cX7_count 63 = .ok (.iaload, 1) := by decide +kernel
theorem dX7_count_64 : decode cX7_count 64 = .ok (.iadd, 1) := by decide +kernel
theorem dX7_count_65 : decode cX7_count 65 = .ok (.istore_n 2, 1) := by decide +kernel
theorem dX7_count_66 : decode cX7_count 66 = .ok (.iinc 5 1, 3) := by decide +kernel
theorem dX7_count_69 : decode cX7_count 69 = .ok (.goto (-29), 3) := by decide +kernel
theorem dX7_count_72 : decode cX7_count 72 = .ok (.iinc 4 1, 3) := by decide +kernel
theorem dX7_count_75 : decode cX7_count 75 = .ok (.goto (-68), 3) := by decide +kernel
theorem dX7_count_78 : decode cX7_count 78 = .ok (.iload_n 1, 1) := by decide +kernel
theorem dX7_count_79 : decode cX7_count 79 = .ok (.tableswitch 92 0 8 #[49, 54, 59, 64, 72, 74, 80, 82, 87], 49) := by decide +kernel
theorem dX7_count_128 : decode cX7_count 128 = .ok (.aload_n 0, 1) := by decide +kernel
theorem dX7_count_129 : decode cX7_count 129 = .ok (.getfield 87, 3) := by decide +kernel
theorem dX7_count_132 : decode cX7_count 132 = .ok (.ireturn, 1) := by decide +kernel
theorem dX7_count_133 : decode cX7_count 133 = .ok (.aload_n 0, 1) := by decide +kernel
theorem dX7_count_134 : decode cX7_count 134 = .ok (.getfield 77, 3) := by decide +kernel
theorem dX7_count_137 : decode cX7_count 137 = .ok (.ireturn, 1) := by decide +kernel
theorem dX7_count_138 : decode cX7_count 138 = .ok (.aload_n 0, 1) := by decide +kernel
theorem dX7_count_139 : decode cX7_count 139 = .ok (.getfield 129, 3) := by decide +kernel
theorem dX7_count_142 : decode cX7_count 142 = .ok (.ireturn, 1) := by decide +kernel
theorem dX7_count_143 : decode cX7_count 143 = .ok (.aload_n 0, 1) := by decide +kernel
theorem dX7_count_144 : decode cX7_count 144 = .ok (.getfield 25, 3) := by decide +kernel
theorem dX7_count_147 : decode cX7_count 147 = .ok (.bipush 30, 2) := by decide +kernel
theorem dX7_count_149 : decode cX7_count 149 = .ok (.iaload, 1) := by decide +kernel
theorem dX7_count_150 : decode cX7_count 150 = .ok (.ireturn, 1) := by decide +kernel
theorem dX7_count_151 : decode cX7_count 151 = .ok (.iload_n 2, 1) := by decide +kernel
theorem dX7_count_152 : decode cX7_count 152 = .ok (.ireturn, 1) := by decide +kernel
theorem dX7_count_153 : decode cX7_count 153 = .ok (.aload_n 0, 1) := by decide +kernel
theorem dX7_count_154 : decode cX7_count 154 = .ok (.iconst 0, 1) := by decide +kernel
theorem dX7_count_155 : decode cX7_count 155 = .ok (.invokevirtual 258, 3) := by decide +kernel
theorem dX7_count_158 : decode cX7_count 158 = .ok (.ireturn, 1) := by decide +kernel
theorem dX7_count_159 : decode cX7_count 159 = .ok (.iload_n 3, 1) := by decide +kernel
theorem dX7_count_160 : decode cX7_count 160 = .ok (.ireturn, 1) := by decide +kernel
theorem dX7_count_161 : decode cX7_count 161 = .ok (.aload_n 0, 1) := by decide +kernel
theorem dX7_count_162 : decode cX7_count 162 = .ok (.getfield 132, 3) := by decide +kernel
theorem dX7_count_165 : decode cX7_count 165 = .ok (.ireturn, 1) := by decide +kernel
theorem dX7_count_166 : decode cX7_count 166 = .ok (.aload_n 0, 1) := by decide +kernel
theorem dX7_count_167 : decode cX7_count 167 = .ok (.getfield 220, 3) := by decide +kernel
theorem dX7_count_170 : decode cX7_count 170 = .ok (.ireturn, 1) := by decide +kernel
theorem dX7_count_171 : decode cX7_count 171 = .ok (.bipush (-2), 2) := by decide +kernel
theorem dX7_count_173 : decode cX7_count 173 = .ok (.ireturn, 1) := by decide +kernel
theorem dJ6_bitCount_0f7a4_0 : decode cJ6_bitCount_0f7a4 0 = .ok (.iload_n 0, 1) := by decide +kernel
theorem dJ6_bitCount_0f7a4_1 : decode cJ6_bitCount_0f7a4 1 = .ok (.iload_n 0, 1) := by decide +kernel
theorem dJ6_bitCount_0f7a4_2 : decode cJ6_bitCount_0f7a4 2 = .ok (.iconst 1, 1) := by decide +kernel
theorem dJ6_bitCount_0f7a4_3 : decode cJ6_bitCount_0f7a4 3 = .ok (.iushr, 1) := by decide +kernel
theorem dJ6_bitCount_0f7a4_4 : decode cJ6_bitCount_0f7a4 4 = .ok (.ldc_w 265, 3) := by decide +kernel
theorem dJ6_bitCount_0f7a4_7 : decode cJ6_bitCount_0f7a4 7 = .ok (.iand, 1) := by decide +kernel
theorem dJ6_bitCount_0f7a4_8 : decode cJ6_bitCount_0f7a4 8 = .ok (.isub, 1) := by decide +kernel
theorem dJ6_bitCount_0f7a4_9 : decode cJ6_bitCount_0f7a4 9 = .ok (.istore_n 0, 1) := by decide +kernel
theorem dJ6_bitCount_0f7a4_10 : decode cJ6_bitCount_0f7a4 10 = .ok (.iload_n 0, 1) := by decide +kernel
theorem dJ6_bitCount_0f7a4_11 : decode cJ6_bitCount_0f7a4 11 = .ok (.ldc_w 266, 3) := by decide +kernel
theorem dJ6_bitCount_0f7a4_14 : decode cJ6_bitCount_0f7a4 14 = .ok (.iand, 1) := by decide +kernel
theorem dJ6_bitCount_0f7a4_15 : decode cJ6_bitCount_0f7a4 15 = .ok (.iload_n 0, 1) := by decide +kernel
theorem dJ6_bitCount_0f7a4_16 : decode cJ6_bitCount_0f7a4 16 = .ok (.iconst 2, 1) := by decide +kernel
theorem dJ6_bitCount_0f7a4_17 : decode cJ6_bitCount_0f7a4 17 = .ok (.iushr, 1) := by decide +kernel
theorem dJ6_bitCount_0f7a4_18 : decode cJ6_bitCount_0f7a4 18 = .ok (.ldc_w 266, 3) := by decide +kernel
theorem dJ6_bitCount_0f7a4_21 : decode cJ6_bitCount_0f7a4 21 = .ok (.iand, 1) := by decide +kernel
theorem dJ6_bitCount_0f7a4_22 : decode cJ6_bitCount_0f7a4 22 = .ok (.iadd, 1) := by decide +kernel
theorem dJ6_bitCount_0f7a4_23 : decode cJ6_bitCount_0f7a4 23 = .ok (.istore_n 0, 1) := by decide +kernel
theorem dJ6_bitCount_0f7a4_24 : decode cJ6_bitCount_0f7a4 24 = .ok (.iload_n 0, 1) := by decide +kernel
theorem dJ6_bitCount_0f7a4_25 : decode cJ6_bitCount_0f7a4 25 = .ok (.iload_n 0, 1) := by decide +kernel
theorem dJ6_bitCount_0f7a4_26 : decode cJ6_bitCount_0f7a4 26 = .ok (.iconst 4, 1) := by decide +kernel
theorem dJ6_bitCount_0f7a4_27 : decode cJ6_bitCount_0f7a4 27 = .ok (.iushr, 1) := by decide +kernel
theorem dJ6_bitCount_0f7a4_28 : decode cJ6_bitCount_0f7a4 28 = .ok (.iadd, 1) := by decide +kernel
theorem dJ6_bitCount_0f7a4_29 : decode cJ6_bitCount_0f7a4 29 = .ok (.ldc_w 267, 3) := by decide +kernel
theorem dJ6_bitCount_0f7a4_32 : decode cJ6_bitCount_0f7a4 32 = .ok (.iand, 1) := by decide +kernel
theorem dJ6_bitCount_0f7a4_33 : decode cJ6_bitCount_0f7a4 33 = .ok (.istore_n 0, 1) := by decide +kernel
theorem dJ6_bitCount_0f7a4_34 : decode cJ6_bitCount_0f7a4 34 = .ok (.iload_n 0, 1) := by decide +kernel
theorem dJ6_bitCount_0f7a4_35 : decode cJ6_bitCount_0f7a4 35 = .ok (.iload_n 0, 1) := by decide +kernel
theorem dJ6_bitCount_0f7a4_36 : decode cJ6_bitCount_0f7a4 36 = .ok (.bipush 8, 2) := by decide +kernel
theorem dJ6_bitCount_0f7a4_38 : decode cJ6_bitCount_0f7a4 38 = .ok (.iushr, 1) := by decide +kernel
theorem dJ6_bitCount_0f7a4_39 : decode cJ6_bitCount_0f7a4 39 = .ok (.iadd, 1) := by decide +kernel
theorem dJ6_bitCount_0f7a4_40 : decode cJ6_bitCount_0f7a4 40 = .ok (.istore_n 0, 1) := by decide +kernel
theorem dJ6_bitCount_0f7a4_41 : decode cJ6_bitCount_0f7a4 41 = .ok (.iload_n 0, 1) := by decide +kernel
theorem dJ6_bitCount_0f7a4_42 : decode cJ6_bitCount_0f7a4 42 = .ok (.iload_n 0, 1) := by decide +kernel
theorem dJ6_bitCount_0f7a4_43 : decode cJ6_bitCount_0f7a4 43 = .ok (.bipush 16, 2) := by decide +kernel
theorem dJ6_bitCount_0f7a4_45 : decode cJ6_bitCount_0f7a4 45 = .ok (.iushr, 1) := by decide +kernel
theorem dJ6_bitCount_0f7a4_46 : decode cJ6_bitCount_0f7a4 46 = .ok (.iadd, 1) := by decide +kernel
theorem dJ6_bitCount_0f7a4_47 : decode cJ6_bitCount_0f7a4 47 = .ok (.istore_n 0, 1) := by decide +kernel
theorem dJ6_bitCount_0f7a4_48 : decode cJ6_bitCount_0f7a4 48 = .ok (.iload_n 0, 1) := by decide +kernel
theorem dJ6_bitCount_0f7a4_49 : decode cJ6_bitCount_0f7a4 49 = .ok (.bipush 63, 2) := by decide +kernel
theorem dJ6_bitCount_0f7a4_51 : decode cJ6_bitCount_0f7a4 51 = .ok (.iand, 1) := by decide +kernel
theorem dJ6_bitCount_0f7a4_52 : decode cJ6_bitCount_0f7a4 52 = .ok (.ireturn, 1) := by decide +kernel
theorem dJ9_abs_0f7a4_0 : decode cJ9_abs_0f7a4 0 = .ok (.iload_n 0, 1) := by decide +kernel
theorem dJ9_abs_0f7a4_1 : decode cJ9_abs_0f7a4 1 = .ok (.ifCond .ge 8, 3) := by decide +kernel
theorem dJ9_abs_0f7a4_4 : decode cJ9_abs_0f7a4 4 = .ok (.iload_n 0, 1) := by decide +kernel
theorem dJ9_abs_0f7a4_5 : decode cJ9_abs_0f7a4 5 = .ok (.ineg, 1) := by decide +kernel
theorem dJ9_abs_0f7a4_6 : decode cJ9_abs_0f7a4 6 = .ok (.goto 4, 3) := by decide +kernel
theorem dJ9_abs_0f7a4_9 : decode cJ9_abs_0f7a4 9 = .ok (.iload_n 0, 1) := by decide +kernel
theorem dJ9_abs_0f7a4_10 : decode cJ9_abs_0f7a4 10 = .ok (.ireturn, 1) := by decide +kernel
theorem dJ9_max_7cf53_0 : decode cJ9_max_7cf53 0 = .ok (.iload_n 0, 1) := by decide +kernel
theorem dJ9_max_7cf53_1 : decode cJ9_max_7cf53 1 = .ok (.iload_n 1, 1) := by decide +kernel
theorem dJ9_max_7cf53_2 : decode cJ9_max_7cf53 2 = .ok (.if_icmp .lt 7, 3) := by decide +kernel
theorem dJ9_max_7cf53_5 : decode cJ9_max_7cf53 5 = .ok (.iload_n 0, 1) := by decide +kernel
theorem dJ9_max_7cf53_6 : decode cJ9_max_7cf53 6 = .ok (.goto 4, 3) := by decide +kernel
theorem dJ9_max_7cf53_9 : decode cJ9_max_7cf53 9 = .ok (.iload_n 1, 1) := by decide +kernel
theorem dJ9_max_7cf53_10 : decode cJ9_max_7cf53 10 = .ok (.ireturn, 1) := by decide +kernel
theorem dJ9_min_7cf53_0 : decode cJ9_min_7cf53 0 = .ok (.iload_n 0, 1) := by decide +kernel
theorem dJ9_min_7cf53_1 : decode cJ9_min_7cf53 1 = .ok (.iload_n 1, 1) := by decide +kernel
theorem dJ9_min_7cf53_2 : decode cJ9_min_7cf53 2 = .ok (.if_icmp .gt 7, 3) := by decide +kernel
theorem dJ9_min_7cf53_5 : decode cJ9_min_7cf53 5 = .ok (.iload_n 0, 1) := by decide +kernel
theorem dJ9_min_7cf53_6 : decode cJ9_min_7cf53 6 = .ok (.goto 4, 3) := by decide +kernel
theorem dJ9_min_7cf53_9 : decode cJ9_min_7cf53 9 = .ok (.iload_n 1, 1) := by decide +kernel
theorem dJ9_min_7cf53_10 : decode cJ9_min_7cf53 10 = .ok (.ireturn, 1) := by decide +kernel
theorem dL_law_0 : decode cL_law 0 = .ok (.new 7, 3) := by decide +kernel
theorem dL_law_3 : decode cL_law 3 = .ok (.dup, 1) := by decide +kernel
theorem dL_law_4 : decode cL_law 4 = .ok (.invokespecial 9, 3) := by decide +kernel
theorem dL_law_7 : decode cL_law 7 = .ok (.astore_n 1, 1) := by decide +kernel
theorem dL_law_8 : decode cL_law 8 = .ok (.new 10, 3) := by decide +kernel
theorem dL_law_11 : decode cL_law 11 = .ok (.dup, 1) := by decide +kernel
theorem dL_law_12 : decode cL_law 12 = .ok (.invokespecial 12, 3) := by decide +kernel
theorem dL_law_15 : decode cL_law 15 = .ok (.astore_n 2, 1) := by decide +kernel
theorem dL_law_16 : decode cL_law 16 = .ok (.iconst 0, 1) := by decide +kernel
theorem dL_law_17 : decode cL_law 17 = .ok (.istore_n 3, 1) := by decide +kernel
theorem dL_law_18 : decode cL_law 18 = .ok (.iload_n 3, 1) := by decide +kernel
theorem dL_law_19 : decode cL_law 19 = .ok (.aload_n 0, 1) := by decide +kernel
theorem dL_law_20 : decode cL_law 20 = .ok (.arraylength, 1) := by decide +kernel
theorem dL_law_21 : decode cL_law 21 = .ok (.iconst 5, 1) := by decide +kernel
theorem dL_law_22 : decode cL_law 22 = .ok (.isub, 1) := by decide +kernel
theorem dL_law_23 : decode cL_law 23 = .ok (.if_icmp .gt 1182, 3) := by decide +kernel
theorem dL_law_26 : decode cL_law 26 = .ok (.aload_n 0, 1) := by decide +kernel
theorem dL_law_27 : decode cL_law 27 = .ok (.iload_n 3, 1) := by decide +kernel
theorem dL_law_28 : decode cL_law 28 = .ok (.iaload, 1) := by decide +kernel
theorem dL_law_29 : decode cL_law 29 = .ok (.bipush 31, 2) := by decide +kernel
theorem dL_law_31 : decode cL_law 31 = .ok (.iand, 1) := by decide +kernel
theorem dL_law_32 : decode cL_law 32 = .ok (.tableswitch 1167 0 29 #[136, 159, 172, 185, 198, 231, 254, 287, 300, 333, 366, 409, 422, 455, 488, 511, 544, 603, 652, 715, 784, 797, 830, 899, 952, 1021, 1075, 1098, 1121, 1144], 136) := by decide +kernel
theorem dL_law_168 : decode cL_law 168 = .ok (.aload_n 1, 1) := by decide +kernel
theorem dL_law_169 : decode cL_law 169 = .ok (.aload_n 0, 1) := by decide +kernel
theorem dL_law_170 : decode cL_law 170 = .ok (.iload_n 3, 1) := by decide +kernel
theorem dL_law_171 : decode cL_law 171 = .ok (.iconst 1, 1) := by decide +kernel
theorem dL_law_172 : decode cL_law 172 = .ok (.iadd, 1) := by decide +kernel
theorem dL_law_173 : decode cL_law 173 = .ok (.iaload, 1) := by decide +kernel
theorem dL_law_174 : decode cL_law 174 = .ok (.invokevirtual 13, 3) := by decide +kernel
theorem dL_law_177 : decode cL_law 177 = .ok (.aload_n 2, 1) := by decide +kernel
theorem dL_law_178 : decode cL_law 178 = .ok (.aload_n 0, 1) := by decide +kernel
theorem dL_law_179 : decode cL_law 179 = .ok (.iload_n 3, 1) := by decide +kernel
theorem dL_law_180 : decode cL_law 180 = .ok (.iconst 1, 1) := by decide +kernel
theorem dL_law_181 : decode cL_law 181 = .ok (.iadd, 1) := by decide +kernel
theorem dL_law_182 : decode cL_law 182 = .ok (.iaload, 1) := by decide +kernel
theorem dL_law_183 : decode cL_law 183 = .ok (.invokevirtual 17, 3) := by decide +kernel
theorem dL_law_186 : decode cL_law 186 = .ok (.if_icmp .eq 1013, 3) := by decide +kernel
theorem dL_law_189 : decode cL_law 189 = .ok (.iconst 0, 1) := by decide +kernel
theorem dL_law_190 : decode cL_law 190 = .ok (.ireturn, 1) := by decide +kernel
theorem dL_law_191 : decode cL_law 191 = .ok (.aload_n 1, 1) := by decide +kernel
theorem dL_law_192 : decode cL_law 192 = .ok (.invokevirtual 18, 3) := by decide +kernel
theorem dL_law_195 : decode cL_law 195 = .ok (.aload_n 2, 1) := by decide +kernel
theorem dL_law_196 : decode cL_law 196 = .ok (.invokevirtual 22, 3) := by decide +kernel
theorem dL_law_199 : decode cL_law 199 = .ok (.if_icmp .eq 1000, 3) := by decide +kernel
theorem dL_law_202 : decode cL_law 202 = .ok (.iconst 0, 1) := by decide +kernel
theorem dL_law_203 : decode cL_law 203 = .ok (.ireturn, 1) := by decide +kernel
theorem dL_law_204 : decode cL_law 204 = .ok (.aload_n 1, 1) := by decide +kernel
theorem dL_law_205 : decode cL_law 205 = .ok (.invokevirtual 23, 3) := by decide +kernel
theorem dL_law_208 : decode cL_law 208 = .ok (.aload_n 2, 1) := by decide +kernel
theorem dL_law_209 : decode cL_law 209 = .ok (.invokevirtual 26, 3) := by decide +kernel
theorem dL_law_212 : decode cL_law 212 = .ok (.if_icmp .eq 987, 3) := by decide +kernel
theorem dL_law_215 : decode cL_law 215 = .ok (.iconst 0, 1) := by decide +kernel
theorem dL_law_216 : decode cL_law 216 = .ok (.ireturn, 1) := by decide +kernel
theorem dL_law_217 : decode cL_law 217 = .ok (.aload_n 1, 1) := by decide +kernel
theorem dL_law_218 : decode cL_law 218 = .ok (.invokevirtual 27, 3) := by decide +kernel
theorem dL_law_221 : decode cL_law 221 = .ok (.aload_n 2, 1) := by decide +kernel
theorem dL_law_222 : decode cL_law 222 = .ok (.invokevirtual 30, 3) := by decide +kernel
theorem dL_law_225 : decode cL_law 225 = .ok (.if_icmp .eq 974, 3) := by decide +kernel
theorem dL_law_228 : decode cL_law 228 = .ok (.iconst 0, 1) := by decide +kernel
theorem dL_law_229 : decode cL_law 229 = .ok (.ireturn, 1) := by decide +kernel
theorem dL_law_230 : decode cL_law 230 = .ok (.aload_n 1, 1) := by decide +kernel
theorem dL_law_231 : decode cL_law 231 = .ok (.aload_n 0, 1) := by decide +kernel
theorem dL_law_232 : decode cL_law 232 = .ok (.iload_n 3, 1) := by decide +kernel
theorem dL_law_233 : decode cL_law 233 = .ok (.iconst 1, 1) := by decide +kernel
theorem dL_law_234 : decode cL_law 234 = .ok (.iadd, 1) := by decide +kernel
theorem dL_law_235 : decode cL_law 235 = .ok (.iaload, 1) := by decide +kernel
theorem dL_law_236 : decode cL_law 236 = .ok (.aload_n 0, 1) := by decide +kernel
theorem dL_law_237 : decode cL_law 237 = .ok (.iload_n 3, 1) := by decide +kernel
theorem dL_law_238 : decode cL_law 238 = .ok (.iconst 2, 1) := by decide +kernel
theorem dL_law_239 : decode cL_law 239 = .ok (.iadd, 1) := by decide +kernel
theorem dL_law_240 : decode cL_law 240 = .ok (.iaload, 1) := by decide +kernel
theorem dL_law_241 : decode cL_law 241 = .ok (.invokevirtual 31, 3) := by decide +kernel
theorem dL_law_244 : decode cL_law 244 = .ok (.aload_n 2, 1) := by decide +kernel
theorem dL_law_245 : decode cL_law 245 = .ok (.aload_n 0, 1) := by decide +kernel
theorem dL_law_246 : decode cL_law 246 = .ok (.iload_n 3, 1) := by decide +kernel
theorem dL_law_247 : decode cL_law 247 = .ok (.iconst 1, 1) := by decide +kernel
theorem dL_law_248 : decode cL_law 248 = .ok (.iadd, 1) := by decide +kernel
theorem dL_law_249 : decode cL_law 249 = .ok (.iaload, 1) := by decide +kernel
theorem dL_law_250 : decode cL_law 250 = .ok (.aload_n 0, 1) := by decide +kernel
theorem dL_law_251 : decode cL_law 251 = .ok (.iload_n 3, 1) := by decide +kernel
theorem dL_law_252 : decode cL_law 252 = .ok (.iconst 2, 1) := by decide +kernel
theorem dL_law_253 : decode cL_law 253 = .ok (.iadd, 1) := by decide +kernel
theorem dL_law_254 : decode cL_law 254 = .ok (.iaload, 1) := by decide +kernel
theorem dL_law_255 : decode cL_law 255 = .ok (.invokevirtual 35, 3) := by decide +kernel
theorem dL_law_258 : decode cL_law 258 = .ok (.if_icmp .eq 941, 3) := by decide +kernel
theorem dL_law_261 : decode cL_law 261 = .ok (.iconst 0, 1) := by decide +kernel
theorem dL_law_262 : decode cL_law 262 = .ok (.ireturn, 1) := by decide +kernel
theorem dL_law_263 : decode cL_law 263 = .ok (.aload_n 1, 1) := by decide +kernel
theorem dL_law_264 : decode cL_law 264 = .ok (.aload_n 0, 1) := by decide +kernel
theorem dL_law_265 : decode cL_law 265 = .ok (.iload_n 3, 1) := by decide +kernel
theorem dL_law_266 : decode cL_law 266 = .ok (.iconst 1, 1) := by decide +kernel
theorem dL_law_267 : decode cL_law 267 = .ok (.iadd, 1) := by decide +kernel
theorem dL_law_268 : decode cL_law 268 = .ok (.iaload, 1) := by decide +kernel
theorem dL_law_269 : decode cL_law 269 = .ok (.invokevirtual 36, 3) := by decide +kernel
theorem dL_law_272 : decode cL_law 272 = .ok (.aload_n 2, 1) := by decide +kernel
theorem dL_law_273 : decode cL_law 273 = .ok (.aload_n 0, 1) := by decide +kernel
theorem dL_law_274 : decode cL_law 274 = .ok (.iload_n 3, 1) := by decide +kernel
theorem dL_law_275 : decode cL_law 275 = .ok (.iconst 1, 1) := by decide +kernel
theorem dL_law_276 : decode cL_law 276 = .ok (.iadd, 1) := by decide +kernel
theorem dL_law_277 : decode cL_law 277 = .ok (.iaload, 1) := by decide +kernel
theorem dL_law_278 : decode cL_law 278 = .ok (.invokevirtual 39, 3) := by decide +kernel
theorem dL_law_281 : decode cL_law 281 = .ok (.if_icmp .eq 918, 3) := by decide +kernel
theorem dL_law_284 : decode cL_law 284 = .ok (.iconst 0, 1) := by decide +kernel
theorem dL_law_285 : decode cL_law 285 = .ok (.ireturn, 1) := by decide +kernel
theorem dL_law_286 : decode cL_law 286 = .ok (.aload_n 1, 1) := by decide +kernel
theorem dL_law_287 : decode cL_law 287 = .ok (.aload_n 0, 1) := by decide +kernel
theorem dL_law_288 : decode cL_law 288 = .ok (.iload_n 3, 1) := by decide +kernel
theorem dL_law_289 : decode cL_law 289 = .ok (.iconst 1, 1) := by decide +kernel
theorem dL_law_290 : decode cL_law 290 = .ok (.iadd, 1) := by decide +kernel
theorem dL_law_291 : decode cL_law 291 = .ok (.iaload, 1) := by decide +kernel
theorem dL_law_292 : decode cL_law 292 = .ok (.aload_n 0, 1) := by decide +kernel
theorem dL_law_293 : decode cL_law 293 = .ok (.iload_n 3, 1) := by decide +kernel
theorem dL_law_294 : decode cL_law 294 = .ok (.iconst 2, 1) := by decide +kernel
theorem dL_law_295 : decode cL_law 295 = .ok (.iadd, 1) := by decide +kernel
theorem dL_law_296 : decode cL_law 296 = .ok (.iaload, 1) := by decide +kernel
theorem dL_law_297 : decode cL_law 297 = .ok (.invokevirtual 40, 3) := by decide +kernel
theorem dL_law_300 : decode cL_law 300 = .ok (.aload_n 2, 1) := by decide +kernel
theorem dL_law_301 : decode cL_law 301 = .ok (.aload_n 0, 1) := by decide +kernel
theorem dL_law_302 : decode cL_law 302 = .ok (.iload_n 3, 1) := by decide +kernel
theorem dL_law_303 : decode cL_law 303 = .ok (.iconst 1, 1) := by decide +kernel
theorem dL_law_304 : decode cL_law 304 = .ok (.iadd, 1) := by decide +kernel
theorem dL_law_305 : decode cL_law 305 = .ok (.iaload, 1) := by decide +kernel
theorem dL_law_306 : decode cL_law 306 = .ok (.aload_n 0, 1) := by decide +kernel
theorem dL_law_307 : decode cL_law 307 = .ok (.iload_n 3, 1) := by decide +kernel
theorem dL_law_308 : decode cL_law 308 = .ok (.iconst 2, 1) := by decide +kernel
theorem dL_law_309 : decode cL_law 309 = .ok (.iadd, 1) := by decide +kernel
theorem dL_law_310 : decode cL_law 310 = .ok (.iaload, 1) := by decide +kernel
theorem dL_law_311 : decode cL_law 311 = .ok (.invokevirtual 43, 3) := by decide +kernel
theorem dL_law_314 : decode cL_law 314 = .ok (.if_icmp .eq 885, 3) := by decide +kernel
theorem dL_law_317 : decode cL_law 317 = .ok (.iconst 0, 1) := by decide +kernel
theorem dL_law_318 : decode cL_law 318 = .ok (.ireturn, 1) := by decide +kernel
theorem dL_law_319 : decode cL_law 319 = .ok (.aload_n 1, 1) := by decide +kernel
theorem dL_law_320 : decode cL_law 320 = .ok (.invokevirtual 44, 3) := by decide +kernel
theorem dL_law_323 : decode cL_law 323 = .ok (.aload_n 2, 1) := by decide +kernel
theorem dL_law_324 : decode cL_law 324 = .ok (.invokevirtual 47, 3) := by decide +kernel
theorem dL_law_327 : decode cL_law 327 = .ok (.if_icmp .eq 872, 3) := by decide +kernel
theorem dL_law_330 : decode cL_law 330 = .ok (.iconst 0, 1) := by decide +kernel
theorem dL_law_331 : decode cL_law 331 = .ok (.ireturn, 1) := by decide +kernel
theorem dL_law_332 : decode cL_law 332 = .ok (.aload_n 1, 1) := by decide +kernel
theorem dL_law_333 : decode cL_law 333 = .ok (.aload_n 0, 1) := by decide +kernel
theorem dL_law_334 : decode cL_law 334 = .ok (.iload_n 3, 1) := by decide +kernel
theorem dL_law_335 : decode cL_law 335 = .ok (.iconst 1, 1) := by decide +kernel
theorem dL_law_336 : decode cL_law 336 = .ok (.iadd, 1) := by decide +kernel
theorem dL_law_337 : decode cL_law 337 = .ok (.iaload, 1) := by decide +kernel
theorem dL_law_338 : decode cL_law 338 = .ok (.aload_n 0, 1) := by decide +kernel
theorem dL_law_339 : decode cL_law 339 = .ok (.iload_n 3, 1) := by decide +kernel
theorem dL_law_340 : decode cL_law 340 = .ok (.iconst 2, 1) := by decide +kernel
theorem dL_law_341 : decode cL_law 341 = .ok (.iadd, 1) := by decide +kernel
theorem dL_law_342 : decode cL_law 342 = .ok (.iaload, 1) := by decide +kernel
theorem dL_law_343 : decode cL_law 343 = .ok (.invokevirtual 48, 3) := by decide +kernel
theorem dL_law_346 : decode cL_law 346 = .ok (.aload_n 2, 1) := by decide +kernel
theorem dL_law_347 : decode cL_law 347 = .ok (.aload_n 0, 1) := by decide +kernel
theorem dL_law_348 : decode cL_law 348 = .ok (.iload_n 3, 1) := by decide +kernel
theorem dL_law_349 : decode cL_law 349 = .ok (.iconst 1, 1) := by decide +kernel
theorem dL_law_350 : decode cL_law 350 = .ok (.iadd, 1) := by decide +kernel
theorem dL_law_351 : decode cL_law 351 = .ok (.iaload, 1) := by decide +kernel
theorem dL_law_352 : decode cL_law 352 = .ok (.aload_n 0, 1) := by decide +kernel
theorem dL_law_353 : decode cL_law 353 = .ok (.iload_n 3, 1) := by decide +kernel
theorem dL_law_354 : decode cL_law 354 = .ok (.iconst 2, 1) := by decide +kernel
theorem dL_law_355 : decode cL_law 355 = .ok (.iadd, 1) := by decide +kernel
theorem dL_law_356 : decode cL_law 356 = .ok (.iaload, 1) := by decide +kernel
theorem dL_law_357 : decode cL_law 357 = .ok (.invokevirtual 51, 3) := by decide +kernel
theorem dL_law_360 : decode cL_law 360 = .ok (.if_icmp .eq 839, 3) := by decide +kernel
theorem dL_law_363 : decode cL_law 363 = .ok (.iconst 0, 1) := by decide +kernel
theorem dL_law_364 : decode cL_law 364 = .ok (.ireturn, 1) := by decide +kernel
theorem dL_law_365 : decode cL_law 365 = .ok (.aload_n 1, 1) := by decide +kernel
theorem dL_law_366 : decode cL_law 366 = .ok (.aload_n 0, 1) := by decide +kernel
theorem dL_law_367 : decode cL_law 367 = .ok (.iload_n 3, 1) := by decide +kernel
theorem dL_law_368 : decode cL_law 368 = .ok (.iconst 1, 1) := by decide +kernel
theorem dL_law_369 : decode cL_law 369 = .ok (.iadd, 1) := by decide +kernel
theorem dL_law_370 : decode cL_law 370 = .ok (.iaload, 1) := by decide +kernel
theorem dL_law_371 : decode cL_law 371 = .ok (.aload_n 0, 1) := by decide +kernel
theorem dL_law_372 : decode cL_law 372 = .ok (.iload_n 3, 1) := by decide +kernel
theorem dL_law_373 : decode cL_law 373 = .ok (.iconst 2, 1) := by decide +kernel
theorem dL_law_374 : decode cL_law 374 = .ok (.iadd, 1) := by decide +kernel
theorem dL_law_375 : decode cL_law 375 = .ok (.iaload, 1) := by decide +kernel
theorem dL_law_376 : decode cL_law 376 = .ok (.invokevirtual 52, 3) := by decide +kernel
theorem dL_law_379 : decode cL_law 379 = .ok (.aload_n 2, 1) := by decide +kernel
theorem dL_law_380 : decode cL_law 380 = .ok (.aload_n 0, 1) := by decide +kernel
theorem dL_law_381 : decode cL_law 381 = .ok (.iload_n 3, 1) := by decide +kernel
theorem dL_law_382 : decode cL_law 382 = .ok (.iconst 1, 1) := by decide +kernel
theorem dL_law_383 : decode cL_law 383 = .ok (.iadd, 1) := by decide +kernel
theorem dL_law_384 : decode cL_law 384 = .ok (.iaload, 1) := by decide +kernel
theorem dL_law_385 : decode cL_law 385 = .ok (.aload_n 0, 1) := by decide +kernel
theorem dL_law_386 : decode cL_law 386 = .ok (.iload_n 3, 1) := by decide +kernel
theorem dL_law_387 : decode cL_law 387 = .ok (.iconst 2, 1) := by decide +kernel
theorem dL_law_388 : decode cL_law 388 = .ok (.iadd, 1) := by decide +kernel
theorem dL_law_389 : decode cL_law 389 = .ok (.iaload, 1) := by decide +kernel
theorem dL_law_390 : decode cL_law 390 = .ok (.invokevirtual 55, 3) := by decide +kernel
theorem dL_law_393 : decode cL_law 393 = .ok (.if_icmp .eq 806, 3) := by decide +kernel
theorem dL_law_396 : decode cL_law 396 = .ok (.iconst 0, 1) := by decide +kernel
theorem dL_law_397 : decode cL_law 397 = .ok (.ireturn, 1) := by decide +kernel
theorem dL_law_398 : decode cL_law 398 = .ok (.aload_n 1, 1) := by decide +kernel
theorem dL_law_399 : decode cL_law 399 = .ok (.aload_n 0, 1) := by decide +kernel
theorem dL_law_400 : decode cL_law 400 = .ok (.iload_n 3, 1) := by decide +kernel
theorem dL_law_401 : decode cL_law 401 = .ok (.iconst 1, 1) := by decide +kernel
theorem dL_law_402 : decode cL_law 402 = .ok (.iadd, 1) := by decide +kernel
theorem dL_law_403 : decode cL_law 403 = .ok (.iaload, 1) := by decide +kernel
theorem dL_law_404 : decode cL_law 404 = .ok (.aload_n 0, 1) := by decide +kernel
theorem dL_law_405 : decode cL_law 405 = .ok (.iload_n 3, 1) := by decide +kernel
theorem dL_law_406 : decode cL_law 406 = .ok (.iconst 2, 1) := by decide +kernel
theorem dL_law_407 : decode cL_law 407 = .ok (.iadd, 1) := by decide +kernel
theorem dL_law_408 : decode cL_law 408 = .ok (.iaload, 1) := by decide +kernel
theorem dL_law_409 : decode cL_law 409 = .ok (.aload_n 0, 1) := by decide +kernel
theorem dL_law_410 : decode cL_law 410 = .ok (.iload_n 3, 1) := by decide +kernel
theorem dL_law_411 : decode cL_law 411 = .ok (.iconst 3, 1) := by decide +kernel
theorem dL_law_412 : decode cL_law 412 = .ok (.iadd, 1) := by decide +kernel
theorem dL_law_413 : decode cL_law 413 = .ok (.iaload, 1) := by decide +kernel
theorem dL_law_414 : decode cL_law 414 = .ok (.invokevirtual 56, 3) := by decide +kernel
theorem dL_law_417 : decode cL_law 417 = .ok (.aload_n 2, 1) := by decide +kernel
theorem dL_law_418 : decode cL_law 418 = .ok (.aload_n 0, 1) := by decide +kernel
theorem dL_law_419 : decode cL_law 419 = .ok (.iload_n 3, 1) := by decide +kernel
theorem dL_law_420 : decode cL_law 420 = .ok (.iconst 1, 1) := by decide +kernel
theorem dL_law_421 : decode cL_law 421 = .ok (.iadd, 1) := by decide +kernel
theorem dL_law_422 : decode cL_law 422 = .ok (.iaload, 1) := by decide +kernel
theorem dL_law_423 : decode cL_law 423 = .ok (.aload_n 0, 1) := by decide +kernel
theorem dL_law_424 : decode cL_law 424 = .ok (.iload_n 3, 1) := by decide +kernel
theorem dL_law_425 : decode cL_law 425 = .ok (.iconst 2, 1) := by decide +kernel
theorem dL_law_426 : decode cL_law 426 = .ok (.iadd, 1) := by decide +kernel
theorem dL_law_427 : decode cL_law 427 = .ok (.iaload, 1) := by decide +kernel
theorem dL_law_428 : decode cL_law 428 = .ok (.aload_n 0, 1) := by decide +kernel
theorem dL_law_429 : decode cL_law 429 = .ok (.iload_n 3, 1) := by decide +kernel
theorem dL_law_430 : decode cL_law 430 = .ok (.iconst 3, 1) := by decide +kernel
theorem dL_law_431 : decode cL_law 431 = .ok (.iadd, 1) := by decide +kernel
theorem dL_law_432 : decode cL_law 432 = .ok (.iaload, 1) := by decide +kernel
theorem dL_law_433 : decode cL_law 433 = .ok (.invokevirtual 60, 3) := by decide +kernel
theorem dL_law_436 : decode cL_law 436 = .ok (.if_icmp .eq 763, 3) := by decide +kernel
theorem dL_law_439 : decode cL_law 439 = .ok (.iconst 0, 1) := by decide +kernel
theorem dL_law_440 : decode cL_law 440 = .ok (.ireturn, 1) := by decide +kernel
theorem dL_law_441 : decode cL_law 441 = .ok (.aload_n 1, 1) := by decide +kernel
theorem dL_law_442 : decode cL_law 442 = .ok (.invokevirtual 61, 3) := by decide +kernel
theorem dL_law_445 : decode cL_law 445 = .ok (.aload_n 2, 1) := by decide +kernel
theorem dL_law_446 : decode cL_law 446 = .ok (.invokevirtual 64, 3) := by decide +kernel
theorem dL_law_449 : decode cL_law 449 = .ok (.if_icmp .eq 750, 3) := by decide +kernel
theorem dL_law_452 : decode cL_law 452 = .ok (.iconst 0, 1) := by decide +kernel
theorem dL_law_453 : decode cL_law 453 = .ok (.ireturn, 1) := by decide +kernel
theorem dL_law_454 : decode cL_law 454 = .ok (.aload_n 1, 1) := by decide +kernel
theorem dL_law_455 : decode cL_law 455 = .ok (.aload_n 0, 1) := by decide +kernel
theorem dL_law_456 : decode cL_law 456 = .ok (.iload_n 3, 1) := by decide +kernel
theorem dL_law_457 : decode cL_law 457 = .ok (.iconst 1, 1) := by decide +kernel
theorem dL_law_458 : decode cL_law 458 = .ok (.iadd, 1) := by decide +kernel
theorem dL_law_459 : decode cL_law 459 = .ok (.iaload, 1) := by decide +kernel
theorem dL_law_460 : decode cL_law 460 = .ok (.aload_n 0, 1) := by decide +kernel
theorem dL_law_461 : decode cL_law 461 = .ok (.iload_n 3, 1) := by decide +kernel
theorem dL_law_462 : decode cL_law 462 = .ok (.iconst 2, 1) := by decide +kernel
theorem dL_law_463 : decode cL_law 463 = .ok (.iadd, 1) := by decide +kernel
theorem dL_law_464 : decode cL_law 464 = .ok (.iaload, 1) := by decide +kernel
theorem dL_law_465 : decode cL_law 465 = .ok (.invokevirtual 65, 3) := by decide +kernel
theorem dL_law_468 : decode cL_law 468 = .ok (.aload_n 2, 1) := by decide +kernel
theorem dL_law_469 : decode cL_law 469 = .ok (.aload_n 0, 1) := by decide +kernel
theorem dL_law_470 : decode cL_law 470 = .ok (.iload_n 3, 1) := by decide +kernel
theorem dL_law_471 : decode cL_law 471 = .ok (.iconst 1, 1) := by decide +kernel
theorem dL_law_472 : decode cL_law 472 = .ok (.iadd, 1) := by decide +kernel
theorem dL_law_473 : decode cL_law 473 = .ok (.iaload, 1) := by decide +kernel
theorem dL_law_474 : decode cL_law 474 = .ok (.aload_n 0, 1) := by decide +kernel
theorem dL_law_475 : decode cL_law 475 = .ok (.iload_n 3, 1) := by decide +kernel
theorem dL_law_476 : decode cL_law 476 = .ok (.iconst 2, 1) := by decide +kernel
theorem dL_law_477 : decode cL_law 477 = .ok (.iadd, 1) := by decide +kernel
theorem dL_law_478 : decode cL_law 478 = .ok (.iaload, 1) := by decide +kernel
theorem dL_law_479 : decode cL_law 479 = .ok (.invokevirtual 68, 3) := by decide +kernel
theorem dL_law_482 : decode cL_law 482 = .ok (.if_icmp .eq 717, 3) := by decide +kernel
theorem dL_law_485 : decode cL_law 485 = .ok (.iconst 0, 1) := by decide +kernel
theorem dL_law_486 : decode cL_law 486 = .ok (.ireturn, 1) := by decide +kernel
theorem dL_law_487 : decode cL_law 487 = .ok (.aload_n 1, 1) := by decide +kernel
theorem dL_law_488 : decode cL_law 488 = .ok (.aload_n 0, 1) := by decide +kernel
theorem dL_law_489 : decode cL_law 489 = .ok (.iload_n 3, 1) := by decide +kernel
theorem dL_law_490 : decode cL_law 490 = .ok (.iconst 1, 1) := by decide +kernel
theorem dL_law_491 : decode cL_law 491 = .ok (.iadd, 1) := by decide +kernel
theorem dL_law_492 : decode cL_law 492 = .ok (.iaload, 1) := by decide +kernel
theorem dL_law_493 : decode cL_law 493 = .ok (.aload_n 0, 1) := by decide +kernel
theorem dL_law_494 : decode cL_law 494 = .ok (.iload_n 3, 1) := by decide +kernel
theorem dL_law_495 : decode cL_law 495 = .ok (.iconst 2, 1) := by decide +kernel
theorem dL_law_496 : decode cL_law 496 = .ok (.iadd, 1) := by decide +kernel
theorem dL_law_497 : decode cL_law 497 = .ok (.iaload, 1) := by decide +kernel
theorem dL_law_498 : decode cL_law 498 = .ok (.invokevirtual 69, 3) := by decide +kernel
theorem dL_law_501 : decode cL_law 501 = .ok (.aload_n 2, 1) := by decide +kernel
theorem dL_law_502 : decode cL_law 502 = .ok (.aload_n 0, 1) := by decide +kernel
theorem dL_law_503 : decode cL_law 503 = .ok (.iload_n 3, 1) := by decide +kernel
theorem dL_law_504 : decode cL_law 504 = .ok (.iconst 1, 1) := by decide +kernel
theorem dL_law_505 : decode cL_law 505 = .ok (.iadd, 1) := by decide +kernel
theorem dL_law_506 : decode cL_law 506 = .ok (.iaload, 1) := by decide +kernel
theorem dL_law_507 : decode cL_law 507 = .ok (.aload_n 0, 1) := by decide +kernel
theorem dL_law_508 : decode cL_law 508 = .ok (.iload_n 3, 1) := by decide +kernel
theorem dL_law_509 : decode cL_law 509 = .ok (.iconst 2, 1) := by decide +kernel
theorem dL_law_510 : decode cL_law 510 = .ok (.iadd, 1) := by decide +kernel
theorem dL_law_511 : decode cL_law 511 = .ok (.iaload, 1) := by decide +kernel
theorem dL_law_512 : decode cL_law 512 = .ok (.invokevirtual 72, 3) := by decide +kernel
theorem dL_law_515 : decode cL_law 515 = .ok (.if_icmp .eq 684, 3) := by decide +kernel
theorem dL_law_518 : decode cL_law 518 = .ok (.iconst 0, 1) := by decide +kernel
theorem dL_law_519 : decode cL_law 519 = .ok (.ireturn, 1) := by decide +kernel
theorem dL_law_520 : decode cL_law 520 = .ok (.aload_n 1, 1) := by decide +kernel
theorem dL_law_521 : decode cL_law 521 = .ok (.aload_n 0, 1) := by decide +kernel
theorem dL_law_522 : decode cL_law 522 = .ok (.iload_n 3, 1) := by decide +kernel
theorem dL_law_523 : decode cL_law 523 = .ok (.iconst 1, 1) := by decide +kernel
theorem dL_law_524 : decode cL_law 524 = .ok (.iadd, 1) := by decide +kernel
theorem dL_law_525 : decode cL_law 525 = .ok (.iaload, 1) := by decide +kernel
theorem dL_law_526 : decode cL_law 526 = .ok (.invokevirtual 73, 3) := by decide +kernel
theorem dL_law_529 : decode cL_law 529 = .ok (.aload_n 2, 1) := by decide +kernel
theorem dL_law_530 : decode cL_law 530 = .ok (.aload_n 0, 1) := by decide +kernel
theorem dL_law_531 : decode cL_law 531 = .ok (.iload_n 3, 1) := by decide +kernel
theorem dL_law_532 : decode cL_law 532 = .ok (.iconst 1, 1) := by decide +kernel
theorem dL_law_533 : decode cL_law 533 = .ok (.iadd, 1) := by decide +kernel
theorem dL_law_534 : decode cL_law 534 = .ok (.iaload, 1) := by decide +kernel
theorem dL_law_535 : decode cL_law 535 = .ok (.invokevirtual 76, 3) := by decide +kernel
theorem dL_law_538 : decode cL_law 538 = .ok (.if_icmp .eq 661, 3) := by decide +kernel
theorem dL_law_541 : decode cL_law 541 = .ok (.iconst 0, 1) := by decide +kernel
theorem dL_law_542 : decode cL_law 542 = .ok (.ireturn, 1) := by decide +kernel
theorem dL_law_543 : decode cL_law 543 = .ok (.aload_n 1, 1) := by decide +kernel
theorem dL_law_544 : decode cL_law 544 = .ok (.aload_n 0, 1) := by decide +kernel
theorem dL_law_545 : decode cL_law 545 = .ok (.iload_n 3, 1) := by decide +kernel
theorem dL_law_546 : decode cL_law 546 = .ok (.iconst 1, 1) := by decide +kernel
theorem dL_law_547 : decode cL_law 547 = .ok (.iadd, 1) := by decide +kernel
theorem dL_law_548 : decode cL_law 548 = .ok (.iaload, 1) := by decide +kernel
theorem dL_law_549 : decode cL_law 549 = .ok (.aload_n 0, 1) := by decide +kernel
theorem dL_law_550 : decode cL_law 550 = .ok (.iload_n 3, 1) := by decide +kernel
theorem dL_law_551 : decode cL_law 551 = .ok (.iconst 2, 1) := by decide +kernel
theorem dL_law_552 : decode cL_law 552 = .ok (.iadd, 1) := by decide +kernel
theorem dL_law_553 : decode cL_law 553 = .ok (.iaload, 1) := by decide +kernel
theorem dL_law_554 : decode cL_law 554 = .ok (.invokevirtual 77, 3) := by decide +kernel
theorem dL_law_557 : decode cL_law 557 = .ok (.aload_n 2, 1) := by decide +kernel
theorem dL_law_558 : decode cL_law 558 = .ok (.aload_n 0, 1) := by decide +kernel
theorem dL_law_559 : decode cL_law 559 = .ok (.iload_n 3, 1) := by decide +kernel
theorem dL_law_560 : decode cL_law 560 = .ok (.iconst 1, 1) := by decide +kernel
theorem dL_law_561 : decode cL_law 561 = .ok (.iadd, 1) := by decide +kernel
theorem dL_law_562 : decode cL_law 562 = .ok (.iaload, 1) := by decide +kernel
theorem dL_law_563 : decode cL_law 563 = .ok (.aload_n 0, 1) := by decide +kernel
theorem dL_law_564 : decode cL_law 564 = .ok (.iload_n 3, 1) := by decide +kernel
theorem dL_law_565 : decode cL_law 565 = .ok (.iconst 2, 1) := by decide +kernel
theorem dL_law_566 : decode cL_law 566 = .ok (.iadd, 1) := by decide +kernel
theorem dL_law_567 : decode cL_law 567 = .ok (.iaload, 1) := by decide +kernel
theorem dL_law_568 : decode cL_law 568 = .ok (.invokevirtual 80, 3) := by decide +kernel
theorem dL_law_571 : decode cL_law 571 = .ok (.if_icmp .eq 628, 3) := by decide +kernel
theorem dL_law_574 : decode cL_law 574 = .ok (.iconst 0, 1) := by decide +kernel
theorem dL_law_575 : decode cL_law 575 = .ok (.ireturn, 1) := by decide +kernel
theorem dL_law_576 : decode cL_law 576 = .ok (.aload_n 1, 1) := by decide +kernel
theorem dL_law_577 : decode cL_law 577 = .ok (.aload_n 0, 1) := by decide +kernel
theorem dL_law_578 : decode cL_law 578 = .ok (.iload_n 3, 1) := by decide +kernel
theorem dL_law_579 : decode cL_law 579 = .ok (.iconst 1, 1) := by decide +kernel
theorem dL_law_580 : decode cL_law 580 = .ok (.iadd, 1) := by decide +kernel
theorem dL_law_581 : decode cL_law 581 = .ok (.iaload, 1) := by decide +kernel
theorem dL_law_582 : decode cL_law 582 = .ok (.aload_n 0, 1) := by decide +kernel
theorem dL_law_583 : decode cL_law 583 = .ok (.iload_n 3, 1) := by decide +kernel
theorem dL_law_584 : decode cL_law 584 = .ok (.iconst 2, 1) := by decide +kernel
theorem dL_law_585 : decode cL_law 585 = .ok (.iadd, 1) := by decide +kernel
theorem dL_law_586 : decode cL_law 586 = .ok (.iaload, 1) := by decide +kernel
theorem dL_law_587 : decode cL_law 587 = .ok (.aload_n 0, 1) := by decide +kernel
theorem dL_law_588 : decode cL_law 588 = .ok (.iload_n 3, 1) := by decide +kernel
theorem dL_law_589 : decode cL_law 589 = .ok (.iconst 3, 1) := by decide +kernel
theorem dL_law_590 : decode cL_law 590 = .ok (.iadd, 1) := by decide +kernel
theorem dL_law_591 : decode cL_law 591 = .ok (.iaload, 1) := by decide +kernel
theorem dL_law_592 : decode cL_law 592 = .ok (.ifCond .eq 7, 3) := by decide +kernel
theorem dL_law_595 : decode cL_law 595 = .ok (.iconst 1, 1) := by decide +kernel
theorem dL_law_596 : decode cL_law 596 = .ok (.goto 4, 3) := by decide +kernel
theorem dL_law_599 : decode cL_law 599 = .ok (.iconst 0, 1) := by decide +kernel
theorem dL_law_600 : decode cL_law 600 = .ok (.invokevirtual 81, 3) := by decide +kernel
theorem dL_law_603 : decode cL_law 603 = .ok (.aload_n 2, 1) := by decide +kernel
theorem dL_law_604 : decode cL_law 604 = .ok (.aload_n 0, 1) := by decide +kernel
theorem dL_law_605 : decode cL_law 605 = .ok (.iload_n 3, 1) := by decide +kernel
theorem dL_law_606 : decode cL_law 606 = .ok (.iconst 1, 1) := by decide +kernel
theorem dL_law_607 : decode cL_law 607 = .ok (.iadd, 1) := by decide +kernel
theorem dL_law_608 : decode cL_law 608 = .ok (.iaload, 1) := by decide +kernel
theorem dL_law_609 : decode cL_law 609 = .ok (.aload_n 0, 1) := by decide +kernel
theorem dL_law_610 : decode cL_law 610 = .ok (.iload_n 3, 1) := by decide +kernel
theorem dL_law_611 : decode cL_law 611 = .ok (.iconst 2, 1) := by decide +kernel
theorem dL_law_612 : decode cL_law 612 = .ok (.iadd, 1) := by decide +kernel
theorem dL_law_613 : decode cL_law 613 = .ok (.iaload, 1) := by decide +kernel
theorem dL_law_614 : decode cL_law 614 = .ok (.aload_n 0, 1) := by decide +kernel
theorem dL_law_615 : decode cL_law 615 = .ok (.iload_n 3, 1) := by decide +kernel
theorem dL_law_616 : decode cL_law 616 = .ok (.iconst 3, 1) := by decide +kernel
theorem dL_law_617 : decode cL_law 617 = .ok (.iadd, 1) := by decide +kernel
theorem dL_law_618 : decode cL_law 618 = .ok (.iaload, 1) := by decide +kernel
theorem dL_law_619 : decode cL_law 619 = .ok (.ifCond .eq 7, 3) := by decide +kernel
theorem dL_law_622 : decode cL_law 622 = .ok (.iconst 1, 1) := by decide +kernel
theorem dL_law_623 : decode cL_law 623 = .ok (.goto 4, 3) := by decide +kernel
theorem dL_law_626 : decode cL_law 626 = .ok (.iconst 0, 1) := by decide +kernel
theorem dL_law_627 : decode cL_law 627 = .ok (.invokevirtual 85, 3) := by decide +kernel
theorem dL_law_630 : decode cL_law 630 = .ok (.if_icmp .eq 569, 3) := by decide +kernel
theorem dL_law_633 : decode cL_law 633 = .ok (.iconst 0, 1) := by decide +kernel
theorem dL_law_634 : decode cL_law 634 = .ok (.ireturn, 1) := by decide +kernel
theorem dL_law_635 : decode cL_law 635 = .ok (.aload_n 1, 1) := by decide +kernel
theorem dL_law_636 : decode cL_law 636 = .ok (.aload_n 0, 1) := by decide +kernel
theorem dL_law_637 : decode cL_law 637 = .ok (.iload_n 3, 1) := by decide +kernel
theorem dL_law_638 : decode cL_law 638 = .ok (.iconst 1, 1) := by decide +kernel
theorem dL_law_639 : decode cL_law 639 = .ok (.iadd, 1) := by decide +kernel
theorem dL_law_640 : decode cL_law 640 = .ok (.iaload, 1) := by decide +kernel
theorem dL_law_641 : decode cL_law 641 = .ok (.aload_n 0, 1) := by decide +kernel
theorem dL_law_642 : decode cL_law 642 = .ok (.iload_n 3, 1) := by decide +kernel
theorem dL_law_643 : decode cL_law 643 = .ok (.iconst 2, 1) := by decide +kernel
theorem dL_law_644 : decode cL_law 644 = .ok (.iadd, 1) := by decide +kernel
theorem dL_law_645 : decode cL_law 645 = .ok (.iaload, 1) := by decide +kernel
theorem dL_law_646 : decode cL_law 646 = .ok (.ifCond .eq 7, 3) := by decide +kernel
theorem dL_law_649 : decode cL_law 649 = .ok (.iconst 1, 1) := by decide +kernel
theorem dL_law_650 : decode cL_law 650 = .ok (.goto 4, 3) := by decide +kernel
theorem dL_law_653 : decode cL_law 653 = .ok (.iconst 0, 1) := by decide +kernel
theorem dL_law_654 : decode cL_law 654 = .ok (.invokevirtual 86, 3) := by decide +kernel
theorem dL_law_657 : decode cL_law 657 = .ok (.aload_n 2, 1) := by decide +kernel
theorem dL_law_658 : decode cL_law 658 = .ok (.aload_n 0, 1) := by decide +kernel
theorem dL_law_659 : decode cL_law 659 = .ok (.iload_n 3, 1) := by decide +kernel
theorem dL_law_660 : decode cL_law 660 = .ok (.iconst 1, 1) := by decide +kernel
theorem dL_law_661 : decode cL_law 661 = .ok (.iadd, 1) := by decide +kernel
theorem dL_law_662 : decode cL_law 662 = .ok (.iaload, 1) := by decide +kernel
theorem dL_law_663 : decode cL_law 663 = .ok (.aload_n 0, 1) := by decide +kernel
theorem dL_law_664 : decode cL_law 664 = .ok (.iload_n 3, 1) := by decide +kernel
theorem dL_law_665 : decode cL_law 665 = .ok (.iconst 2, 1) := by decide +kernel
theorem dL_law_666 : decode cL_law 666 = .ok (.iadd, 1) := by decide +kernel
theorem dL_law_667 : decode cL_law 667 = .ok (.iaload, 1) := by decide +kernel
theorem dL_law_668 : decode cL_law 668 = .ok (.ifCond .eq 7, 3) := by decide +kernel
theorem dL_law_671 : decode cL_law 671 = .ok (.iconst 1, 1) := by decide +kernel
theorem dL_law_672 : decode cL_law 672 = .ok (.goto 4, 3) := by decide +kernel
theorem dL_law_675 : decode cL_law 675 = .ok (.iconst 0, 1) := by decide +kernel
theorem dL_law_676 : decode cL_law 676 = .ok (.invokevirtual 90, 3) := by decide +kernel
theorem dL_law_679 : decode cL_law 679 = .ok (.if_icmp .eq 520, 3) := by decide +kernel
theorem dL_law_682 : decode cL_law 682 = .ok (.iconst 0, 1) := by decide +kernel
theorem dL_law_683 : decode cL_law 683 = .ok (.ireturn, 1) := by decide +kernel
theorem dL_law_684 : decode cL_law 684 = .ok (.aload_n 1, 1) := by decide +kernel
theorem dL_law_685 : decode cL_law 685 = .ok (.aload_n 0, 1) := by decide +kernel
theorem dL_law_686 : decode cL_law 686 = .ok (.iload_n 3, 1) := by decide +kernel
theorem dL_law_687 : decode cL_law 687 = .ok (.iconst 1, 1) := by decide +kernel
theorem dL_law_688 : decode cL_law 688 = .ok (.iadd, 1) := by decide +kernel
theorem dL_law_689 : decode cL_law 689 = .ok (.iaload, 1) := by decide +kernel
theorem dL_law_690 : decode cL_law 690 = .ok (.aload_n 0, 1) := by decide +kernel
theorem dL_law_691 : decode cL_law 691 = .ok (.iload_n 3, 1) := by decide +kernel
theorem dL_law_692 : decode cL_law 692 = .ok (.iconst 2, 1) := by decide +kernel
theorem dL_law_693 : decode cL_law 693 = .ok (.iadd, 1) := by decide +kernel
theorem dL_law_694 : decode cL_law 694 = .ok (.iaload, 1) := by decide +kernel
theorem dL_law_695 : decode cL_law 695 = .ok (.i2l, 1) := by decide +kernel
theorem dL_law_696 : decode cL_law 696 = .ok (.bipush 32, 2) := by decide +kernel
theorem dL_law_698 : decode cL_law 698 = .ok (.lshl, 1) := by decide +kernel
theorem dL_law_699 : decode cL_law 699 = .ok (.aload_n 0, 1) := by decide +kernel
theorem dL_law_700 : decode cL_law 700 = .ok (.iload_n 3, 1) := by decide +kernel
theorem dL_law_701 : decode cL_law 701 = .ok (.iconst 3, 1) := by decide +kernel
theorem dL_law_702 : decode cL_law 702 = .ok (.iadd, 1) := by decide +kernel
theorem dL_law_703 : decode cL_law 703 = .ok (.iaload, 1) := by decide +kernel
theorem dL_law_704 : decode cL_law 704 = .ok (.i2l, 1) := by decide +kernel
theorem dL_law_705 : decode cL_law 705 = .ok (.ldc2_w 91, 3) := by decide +kernel
theorem dL_law_708 : decode cL_law 708 = .ok (.land, 1) := by decide +kernel
theorem dL_law_709 : decode cL_law 709 = .ok (.lor, 1) := by decide +kernel
theorem dL_law_710 : decode cL_law 710 = .ok (.invokevirtual 93, 3) := by decide +kernel
theorem dL_law_713 : decode cL_law 713 = .ok (.aload_n 2, 1) := by decide +kernel
theorem dL_law_714 : decode cL_law 714 = .ok (.aload_n 0, 1) := by decide +kernel
theorem dL_law_715 : decode cL_law 715 = .ok (.iload_n 3, 1) := by decide +kernel
theorem dL_law_716 : decode cL_law 716 = .ok (.iconst 1, 1) := by decide +kernel
theorem dL_law_717 : decode cL_law 717 = .ok (.iadd, 1) := by decide +kernel
theorem dL_law_718 : decode cL_law 718 = .ok (.iaload, 1) := by decide +kernel
theorem dL_law_719 : decode cL_law 719 = .ok (.aload_n 0, 1) := by decide +kernel
theorem dL_law_720 : decode cL_law 720 = .ok (.iload_n 3, 1) := by decide +kernel
theorem dL_law_721 : decode cL_law 721 = .ok (.iconst 2, 1) := by decide +kernel
theorem dL_law_722 : decode cL_law 722 = .ok (.iadd, 1) := by decide +kernel
theorem dL_law_723 : decode cL_law 723 = .ok (.iaload, 1) := by decide +kernel
theorem dL_law_724 : decode cL_law 724 = .ok (.i2l, 1) := by decide +kernel
theorem dL_law_725 : decode cL_law 725 = .ok (.bipush 32, 2) := by decide +kernel
theorem dL_law_727 : decode cL_law 727 = .ok (.lshl, 1) := by decide +kernel
theorem dL_law_728 : decode cL_law 728 = .ok (.aload_n 0, 1) := by decide +kernel
theorem dL_law_729 : decode cL_law 729 = .ok (.iload_n 3, 1) := by decide +kernel
theorem dL_law_730 : decode cL_law 730 = .ok (.iconst 3, 1) := by decide +kernel
theorem dL_law_731 : decode cL_law 731 = .ok (.iadd, 1) := by decide +kernel
theorem dL_law_732 : decode cL_law 732 = .ok (.iaload, 1) := by decide +kernel
theorem dL_law_733 : decode cL_law 733 = .ok (.i2l, 1) := by decide +kernel
theorem dL_law_734 : decode cL_law 734 = .ok (.ldc2_w 91, 3) := by decide +kernel
theorem dL_law_737 : decode cL_law 737 = .ok (.land, 1) := by decide +kernel
theorem dL_law_738 : decode cL_law 738 = .ok (.lor, 1) := by decide +kernel
theorem dL_law_739 : decode cL_law 739 = .ok (.invokevirtual 97, 3) := by decide +kernel
theorem dL_law_742 : decode cL_law 742 = .ok (.if_icmp .eq 457, 3) := by decide +kernel
theorem dL_law_745 : decode cL_law 745 = .ok (.iconst 0, 1) := by decide +kernel
theorem dL_law_746 : decode cL_law 746 = .ok (.ireturn, 1) := by decide +kernel
theorem dL_law_747 : decode cL_law 747 = .ok (.aload_n 1, 1) := by decide +kernel
theorem dL_law_748 : decode cL_law 748 = .ok (.aload_n 0, 1) := by decide +kernel
theorem dL_law_749 : decode cL_law 749 = .ok (.iload_n 3, 1) := by decide +kernel
theorem dL_law_750 : decode cL_law 750 = .ok (.iconst 1, 1) := by decide +kernel
theorem dL_law_751 : decode cL_law 751 = .ok (.iadd, 1) := by decide +kernel
theorem dL_law_752 : decode cL_law 752 = .ok (.iaload, 1) := by decide +kernel
theorem dL_law_753 : decode cL_law 753 = .ok (.aload_n 0, 1) := by decide +kernel
theorem dL_law_754 : decode cL_law 754 = .ok (.iload_n 3, 1) := by decide +kernel
theorem dL_law_755 : decode cL_law 755 = .ok (.iconst 2, 1) := by decide +kernel
theorem dL_law_756 : decode cL_law 756 = .ok (.iadd, 1) := by decide +kernel
theorem dL_law_757 : decode cL_law 757 = .ok (.iaload, 1) := by decide +kernel
theorem dL_law_758 : decode cL_law 758 = .ok (.aload_n 0, 1) := by decide +kernel
theorem dL_law_759 : decode cL_law 759 = .ok (.iload_n 3, 1) := by decide +kernel
theorem dL_law_760 : decode cL_law 760 = .ok (.iconst 3, 1) := by decide +kernel
theorem dL_law_761 : decode cL_law 761 = .ok (.iadd, 1) := by decide +kernel
theorem dL_law_762 : decode cL_law 762 = .ok (.iaload, 1) := by decide +kernel
theorem dL_law_763 : decode cL_law 763 = .ok (.aload_n 0, 1) := by decide +kernel
theorem dL_law_764 : decode cL_law 764 = .ok (.iload_n 3, 1) := by decide +kernel
theorem dL_law_765 : decode cL_law 765 = .ok (.iconst 4, 1) := by decide +kernel
theorem dL_law_766 : decode cL_law 766 = .ok (.iadd, 1) := by decide +kernel
theorem dL_law_767 : decode cL_law 767 = .ok (.iaload, 1) := by decide +kernel
theorem dL_law_768 : decode cL_law 768 = .ok (.ifCond .eq 7, 3) := by decide +kernel
theorem dL_law_771 : decode cL_law 771 = .ok (.iconst 1, 1) := by decide +kernel
theorem dL_law_772 : decode cL_law 772 = .ok (.goto 4, 3) := by decide +kernel
theorem dL_law_775 : decode cL_law 775 = .ok (.iconst 0, 1) := by decide +kernel
theorem dL_law_776 : decode cL_law 776 = .ok (.invokevirtual 98, 3) := by decide +kernel
theorem dL_law_779 : decode cL_law 779 = .ok (.aload_n 2, 1) := by decide +kernel
theorem dL_law_780 : decode cL_law 780 = .ok (.aload_n 0, 1) := by decide +kernel
theorem dL_law_781 : decode cL_law 781 = .ok (.iload_n 3, 1) := by decide +kernel
theorem dL_law_782 : decode cL_law 782 = .ok (.iconst 1, 1) := by decide +kernel
theorem dL_law_783 : decode cL_law 783 = .ok (.iadd, 1) := by decide +kernel
theorem dL_law_784 : decode cL_law 784 = .ok (.iaload, 1) := by decide +kernel
theorem dL_law_785 : decode cL_law 785 = .ok (.aload_n 0, 1) := by decide +kernel
theorem dL_law_786 : decode cL_law 786 = .ok (.iload_n 3, 1) := by decide +kernel
theorem dL_law_787 : decode cL_law 787 = .ok (.iconst 2, 1) := by decide +kernel
theorem dL_law_788 : decode cL_law 788 = .ok (.iadd, 1) := by decide +kernel
theorem dL_law_789 : decode cL_law 789 = .ok (.iaload, 1) := by decide +kernel
theorem dL_law_790 : decode cL_law 790 = .ok (.aload_n 0, 1) := by decide +kernel
theorem dL_law_791 : decode cL_law 791 = .ok (.iload_n 3, 1) := by decide +kernel
theorem dL_law_792 : decode cL_law 792 = .ok (.iconst 3, 1) := by decide +kernel
theorem dL_law_793 : decode cL_law 793 = .ok (.iadd, 1) := by decide +kernel
theorem dL_law_794 : decode cL_law 794 = .ok (.iaload, 1) := by decide +kernel
theorem dL_law_795 : decode cL_law 795 = .ok (.aload_n 0, 1) := by decide +kernel
theorem dL_law_796 : decode cL_law 796 = .ok (.iload_n 3, 1) := by decide +kernel
theorem dL_law_797 : decode cL_law 797 = .ok (.iconst 4, 1) := by decide +kernel
theorem dL_law_798 : decode cL_law 798 = .ok (.iadd, 1) := by decide +kernel
theorem dL_law_799 : decode cL_law 799 = .ok (.iaload, 1) := by decide +kernel
theorem dL_law_800 : decode cL_law 800 = .ok (.ifCond .eq 7, 3) := by decide +kernel
theorem dL_law_803 : decode cL_law 803 = .ok (.iconst 1, 1) := by decide +kernel
theorem dL_law_804 : decode cL_law 804 = .ok (.goto 4, 3) := by decide +kernel
theorem dL_law_807 : decode cL_law 807 = .ok (.iconst 0, 1) := by decide +kernel
theorem dL_law_808 : decode cL_law 808 = .ok (.invokevirtual 102, 3) := by decide +kernel
theorem dL_law_811 : decode cL_law 811 = .ok (.if_icmp .eq 388, 3) := by decide +kernel
theorem dL_law_814 : decode cL_law 814 = .ok (.iconst 0, 1) := by decide +kernel
theorem dL_law_815 : decode cL_law 815 = .ok (.ireturn, 1) := by decide +kernel
theorem dL_law_816 : decode cL_law 816 = .ok (.aload_n 1, 1) := by decide +kernel
theorem dL_law_817 : decode cL_law 817 = .ok (.invokevirtual 103, 3) := by decide +kernel
theorem dL_law_820 : decode cL_law 820 = .ok (.aload_n 2, 1) := by decide +kernel
theorem dL_law_821 : decode cL_law 821 = .ok (.invokevirtual 106, 3) := by decide +kernel
theorem dL_law_824 : decode cL_law 824 = .ok (.if_icmp .eq 375, 3) := by decide +kernel
theorem dL_law_827 : decode cL_law 827 = .ok (.iconst 0, 1) := by decide +kernel
theorem dL_law_828 : decode cL_law 828 = .ok (.ireturn, 1) := by decide +kernel
theorem dL_law_829 : decode cL_law 829 = .ok (.aload_n 1, 1) := by decide +kernel
theorem dL_law_830 : decode cL_law 830 = .ok (.aload_n 0, 1) := by decide +kernel
theorem dL_law_831 : decode cL_law 831 = .ok (.iload_n 3, 1) := by decide +kernel
theorem dL_law_832 : decode cL_law 832 = .ok (.iconst 1, 1) := by decide +kernel
theorem dL_law_833 : decode cL_law 833 = .ok (.iadd, 1) := by decide +kernel
theorem dL_law_834 : decode cL_law 834 = .ok (.iaload, 1) := by decide +kernel
theorem dL_law_835 : decode cL_law 835 = .ok (.aload_n 0, 1) := by decide +kernel
theorem dL_law_836 : decode cL_law 836 = .ok (.iload_n 3, 1) := by decide +kernel
theorem dL_law_837 : decode cL_law 837 = .ok (.iconst 2, 1) := by decide +kernel
theorem dL_law_838 : decode cL_law 838 = .ok (.iadd, 1) := by decide +kernel
theorem dL_law_839 : decode cL_law 839 = .ok (.iaload, 1) := by decide +kernel
theorem dL_law_840 : decode cL_law 840 = .ok (.invokevirtual 107, 3) := by decide +kernel
theorem dL_law_843 : decode cL_law 843 = .ok (.aload_n 2, 1) := by decide +kernel
theorem dL_law_844 : decode cL_law 844 = .ok (.aload_n 0, 1) := by decide +kernel
theorem dL_law_845 : decode cL_law 845 = .ok (.iload_n 3, 1) := by decide +kernel
theorem dL_law_846 : decode cL_law 846 = .ok (.iconst 1, 1) := by decide +kernel
theorem dL_law_847 : decode cL_law 847 = .ok (.iadd, 1) := by decide +kernel
theorem dL_law_848 : decode cL_law 848 = .ok (.iaload, 1) := by decide +kernel
theorem dL_law_849 : decode cL_law 849 = .ok (.aload_n 0, 1) := by decide +kernel
theorem dL_law_850 : decode cL_law 850 = .ok (.iload_n 3, 1) := by decide +kernel
theorem dL_law_851 : decode cL_law 851 = .ok (.iconst 2, 1) := by decide +kernel
theorem dL_law_852 : decode cL_law 852 = .ok (.iadd, 1) := by decide +kernel
theorem dL_law_853 : decode cL_law 853 = .ok (.iaload, 1) := by decide +kernel
theorem dL_law_854 : decode cL_law 854 = .ok (.invokevirtual 110, 3) := by decide +kernel
theorem dL_law_857 : decode cL_law 857 = .ok (.if_icmp .eq 342, 3) := by decide +kernel
theorem dL_law_860 : decode cL_law 860 = .ok (.iconst 0, 1) := by decide +kernel
theorem dL_law_861 : decode cL_law 861 = .ok (.ireturn, 1) := by decide +kernel
theorem dL_law_862 : decode cL_law 862 = .ok (.aload_n 1, 1) := by decide +kernel
theorem dL_law_863 : decode cL_law 863 = .ok (.aload_n 0, 1) := by decide +kernel
theorem dL_law_864 : decode cL_law 864 = .ok (.iload_n 3, 1) := by decide +kernel
theorem dL_law_865 : decode cL_law 865 = .ok (.iconst 1, 1) := by decide +kernel
theorem dL_law_866 : decode cL_law 866 = .ok (.iadd, 1) := by decide +kernel
theorem dL_law_867 : decode cL_law 867 = .ok (.iaload, 1) := by decide +kernel
theorem dL_law_868 : decode cL_law 868 = .ok (.aload_n 0, 1) := by decide +kernel
theorem dL_law_869 : decode cL_law 869 = .ok (.iload_n 3, 1) := by decide +kernel
theorem dL_law_870 : decode cL_law 870 = .ok (.iconst 2, 1) := by decide +kernel
theorem dL_law_871 : decode cL_law 871 = .ok (.iadd, 1) := by decide +kernel
theorem dL_law_872 : decode cL_law 872 = .ok (.iaload, 1) := by decide +kernel
theorem dL_law_873 : decode cL_law 873 = .ok (.aload_n 0, 1) := by decide +kernel
theorem dL_law_874 : decode cL_law 874 = .ok (.iload_n 3, 1) := by decide +kernel
theorem dL_law_875 : decode cL_law 875 = .ok (.iconst 3, 1) := by decide +kernel
theorem dL_law_876 : decode cL_law 876 = .ok (.iadd, 1) := by decide +kernel
theorem dL_law_877 : decode cL_law 877 = .ok (.iaload, 1) := by decide +kernel
theorem dL_law_878 : decode cL_law 878 = .ok (.aload_n 0, 1) := by decide +kernel
theorem dL_law_879 : decode cL_law 879 = .ok (.iload_n 3, 1) := by decide +kernel
theorem dL_law_880 : decode cL_law 880 = .ok (.iconst 4, 1) := by decide +kernel
theorem dL_law_881 : decode cL_law 881 = .ok (.iadd, 1) := by decide +kernel
theorem dL_law_882 : decode cL_law 882 = .ok (.iaload, 1) := by decide +kernel
theorem dL_law_883 : decode cL_law 883 = .ok (.ifCond .eq 7, 3) := by decide +kernel
theorem dL_law_886 : decode cL_law 886 = .ok (.iconst 1, 1) := by decide +kernel
theorem dL_law_887 : decode cL_law 887 = .ok (.goto 4, 3) := by decide +kernel
theorem dL_law_890 : decode cL_law 890 = .ok (.iconst 0, 1) := by decide +kernel
theorem dL_law_891 : decode cL_law 891 = .ok (.invokevirtual 111, 3) := by decide +kernel
theorem dL_law_894 : decode cL_law 894 = .ok (.aload_n 2, 1) := by decide +kernel
theorem dL_law_895 : decode cL_law 895 = .ok (.aload_n 0, 1) := by decide +kernel
theorem dL_law_896 : decode cL_law 896 = .ok (.iload_n 3, 1) := by decide +kernel
theorem dL_law_897 : decode cL_law 897 = .ok (.iconst 1, 1) := by decide +kernel
theorem dL_law_898 : decode cL_law 898 = .ok (.iadd, 1) := by decide +kernel
theorem dL_law_899 : decode cL_law 899 = .ok (.iaload, 1) := by decide +kernel
theorem dL_law_900 : decode cL_law 900 = .ok (.aload_n 0, 1) := by decide +kernel
theorem dL_law_901 : decode cL_law 901 = .ok (.iload_n 3, 1) := by decide +kernel
theorem dL_law_902 : decode cL_law 902 = .ok (.iconst 2, 1) := by decide +kernel
theorem dL_law_903 : decode cL_law 903 = .ok (.iadd, 1) := by decide +kernel
theorem dL_law_904 : decode cL_law 904 = .ok (.iaload, 1) := by decide +kernel
theorem dL_law_905 : decode cL_law 905 = .ok (.aload_n 0, 1) := by decide +kernel
theorem dL_law_906 : decode cL_law 906 = .ok (.iload_n 3, 1) := by decide +kernel
theorem dL_law_907 : decode cL_law 907 = .ok (.iconst 3, 1) := by decide +kernel
theorem dL_law_908 : decode cL_law 908 = .ok (.iadd, 1) := by decide +kernel
theorem dL_law_909 : decode cL_law 909 = .ok (.iaload, 1) := by decide +kernel
theorem dL_law_910 : decode cL_law 910 = .ok (.aload_n 0, 1) := by decide +kernel
theorem dL_law_911 : decode cL_law 911 = .ok (.iload_n 3, 1) := by decide +kernel
theorem dL_law_912 : decode cL_law 912 = .ok (.iconst 4, 1) := by decide +kernel
theorem dL_law_913 : decode cL_law 913 = .ok (.iadd, 1) := by decide +kernel
theorem dL_law_914 : decode cL_law 914 = .ok (.iaload, 1) := by decide +kernel
theorem dL_law_915 : decode cL_law 915 = .ok (.ifCond .eq 7, 3) := by decide +kernel
theorem dL_law_918 : decode cL_law 918 = .ok (.iconst 1, 1) := by decide +kernel
theorem dL_law_919 : decode cL_law 919 = .ok (.goto 4, 3) := by decide +kernel
theorem dL_law_922 : decode cL_law 922 = .ok (.iconst 0, 1) := by decide +kernel
theorem dL_law_923 : decode cL_law 923 = .ok (.invokevirtual 114, 3) := by decide +kernel
theorem dL_law_926 : decode cL_law 926 = .ok (.if_icmp .eq 273, 3) := by decide +kernel
theorem dL_law_929 : decode cL_law 929 = .ok (.iconst 0, 1) := by decide +kernel
theorem dL_law_930 : decode cL_law 930 = .ok (.ireturn, 1) := by decide +kernel
theorem dL_law_931 : decode cL_law 931 = .ok (.aload_n 1, 1) := by decide +kernel
theorem dL_law_932 : decode cL_law 932 = .ok (.aload_n 0, 1) := by decide +kernel
theorem dL_law_933 : decode cL_law 933 = .ok (.iload_n 3, 1) := by decide +kernel
theorem dL_law_934 : decode cL_law 934 = .ok (.iconst 1, 1) := by decide +kernel
theorem dL_law_935 : decode cL_law 935 = .ok (.iadd, 1) := by decide +kernel
theorem dL_law_936 : decode cL_law 936 = .ok (.iaload, 1) := by decide +kernel
theorem dL_law_937 : decode cL_law 937 = .ok (.aload_n 0, 1) := by decide +kernel
theorem dL_law_938 : decode cL_law 938 = .ok (.iload_n 3, 1) := by decide +kernel
theorem dL_law_939 : decode cL_law 939 = .ok (.iconst 2, 1) := by decide +kernel
theorem dL_law_940 : decode cL_law 940 = .ok (.iadd, 1) := by decide +kernel
theorem dL_law_941 : decode cL_law 941 = .ok (.iaload, 1) := by decide +kernel
theorem dL_law_942 : decode cL_law 942 = .ok (.aload_n 0, 1) := by decide +kernel
theorem dL_law_943 : decode cL_law 943 = .ok (.iload_n 3, 1) := by decide +kernel
theorem dL_law_944 : decode cL_law 944 = .ok (.iconst 3, 1) := by decide +kernel
theorem dL_law_945 : decode cL_law 945 = .ok (.iadd, 1) := by decide +kernel
theorem dL_law_946 : decode cL_law 946 = .ok (.iaload, 1) := by decide +kernel
theorem dL_law_947 : decode cL_law 947 = .ok (.aload_n 0, 1) := by decide +kernel
theorem dL_law_948 : decode cL_law 948 = .ok (.iload_n 3, 1) := by decide +kernel
theorem dL_law_949 : decode cL_law 949 = .ok (.iconst 4, 1) := by decide +kernel
theorem dL_law_950 : decode cL_law 950 = .ok (.iadd, 1) := by decide +kernel
theorem dL_law_951 : decode cL_law 951 = .ok (.iaload, 1) := by decide +kernel
theorem dL_law_952 : decode cL_law 952 = .ok (.invokevirtual 115, 3) := by decide +kernel
theorem dL_law_955 : decode cL_law 955 = .ok (.aload_n 2, 1) := by decide +kernel
theorem dL_law_956 : decode cL_law 956 = .ok (.aload_n 0, 1) := by decide +kernel
theorem dL_law_957 : decode cL_law 957 = .ok (.iload_n 3, 1) := by decide +kernel
theorem dL_law_958 : decode cL_law 958 = .ok (.iconst 1, 1) := by decide +kernel
theorem dL_law_959 : decode cL_law 959 = .ok (.iadd, 1) := by decide +kernel
theorem dL_law_960 : decode cL_law 960 = .ok (.iaload, 1) := by decide +kernel
theorem dL_law_961 : decode cL_law 961 = .ok (.aload_n 0, 1) := by decide +kernel
theorem dL_law_962 : decode cL_law 962 = .ok (.iload_n 3, 1) := by decide +kernel
theorem dL_law_963 : decode cL_law 963 = .ok (.iconst 2, 1) := by decide +kernel
theorem dL_law_964 : decode cL_law 964 = .ok (.iadd, 1) := by decide +kernel
theorem dL_law_965 : decode cL_law 965 = .ok (.iaload, 1) := by decide +kernel
theorem dL_law_966 : decode cL_law 966 = .ok (.aload_n 0, 1) := by decide +kernel
theorem dL_law_967 : decode cL_law 967 = .ok (.iload_n 3, 1) := by decide +kernel
theorem dL_law_968 : decode cL_law 968 = .ok (.iconst 3, 1) := by decide +kernel
theorem dL_law_969 : decode cL_law 969 = .ok (.iadd, 1) := by decide +kernel
theorem dL_law_970 : decode cL_law 970 = .ok (.iaload, 1) := by decide +kernel
theorem dL_law_971 : decode cL_law 971 = .ok (.aload_n 0, 1) := by decide +kernel
theorem dL_law_972 : decode cL_law 972 = .ok (.iload_n 3, 1) := by decide +kernel
theorem dL_law_973 : decode cL_law 973 = .ok (.iconst 4, 1) := by decide +kernel
theorem dL_law_974 : decode cL_law 974 = .ok (.iadd, 1) := by decide +kernel
theorem dL_law_975 : decode cL_law 975 = .ok (.iaload, 1) := by decide +kernel
theorem dL_law_976 : decode cL_law 976 = .ok (.invokevirtual 119, 3) := by decide +kernel
theorem dL_law_979 : decode cL_law 979 = .ok (.if_icmp .eq 220, 3) := by decide +kernel
theorem dL_law_982 : decode cL_law 982 = .ok (.iconst 0, 1) := by decide +kernel
theorem dL_law_983 : decode cL_law 983 = .ok (.ireturn, 1) := by decide +kernel
theorem dL_law_984 : decode cL_law 984 = .ok (.aload_n 1, 1) := by decide +kernel
theorem dL_law_985 : decode cL_law 985 = .ok (.aload_n 0, 1) := by decide +kernel
theorem dL_law_986 : decode cL_law 986 = .ok (.iload_n 3, 1) := by decide +kernel
theorem dL_law_987 : decode cL_law 987 = .ok (.iconst 1, 1) := by decide +kernel
theorem dL_law_988 : decode cL_law 988 = .ok (.iadd, 1) := by decide +kernel
theorem dL_law_989 : decode cL_law 989 = .ok (.iaload, 1) := by decide +kernel
theorem dL_law_990 : decode cL_law 990 = .ok (.aload_n 0, 1) := by decide +kernel
theorem dL_law_991 : decode cL_law 991 = .ok (.iload_n 3, 1) := by decide +kernel
theorem dL_law_992 : decode cL_law 992 = .ok (.iconst 2, 1) := by decide +kernel
theorem dL_law_993 : decode cL_law 993 = .ok (.iadd, 1) := by decide +kernel
theorem dL_law_994 : decode cL_law 994 = .ok (.iaload, 1) := by decide +kernel
theorem dL_law_995 : decode cL_law 995 = .ok (.aload_n 0, 1) := by decide +kernel
theorem dL_law_996 : decode cL_law 996 = .ok (.iload_n 3, 1) := by decide +kernel
theorem dL_law_997 : decode cL_law 997 = .ok (.iconst 3, 1) := by decide +kernel
theorem dL_law_998 : decode cL_law 998 = .ok (.iadd, 1) := by decide +kernel
theorem dL_law_999 : decode cL_law 999 = .ok (.iaload, 1) := by decide +kernel
theorem dL_law_1000 : decode cL_law 1000 = .ok (.aload_n 0, 1) := by decide +kernel
theorem dL_law_1001 : decode cL_law 1001 = .ok (.iload_n 3, 1) := by decide +kernel
theorem dL_law_1002 : decode cL_law 1002 = .ok (.iconst 4, 1) := by decide +kernel
theorem dL_law_1003 : decode cL_law 1003 = .ok (.iadd, 1) := by decide +kernel
theorem dL_law_1004 : decode cL_law 1004 = .ok (.iaload, 1) := by decide +kernel
theorem dL_law_1005 : decode cL_law 1005 = .ok (.ifCond .eq 7, 3) := by decide +kernel
theorem dL_law_1008 : decode cL_law 1008 = .ok (.iconst 1, 1) := by decide +kernel
theorem dL_law_1009 : decode cL_law 1009 = .ok (.goto 4, 3) := by decide +kernel
theorem dL_law_1012 : decode cL_law 1012 = .ok (.iconst 0, 1) := by decide +kernel
theorem dL_law_1013 : decode cL_law 1013 = .ok (.invokevirtual 120, 3) := by decide +kernel
theorem dL_law_1016 : decode cL_law 1016 = .ok (.aload_n 2, 1) := by decide +kernel
theorem dL_law_1017 : decode cL_law 1017 = .ok (.aload_n 0, 1) := by decide +kernel
theorem dL_law_1018 : decode cL_law 1018 = .ok (.iload_n 3, 1) := by decide +kernel
theorem dL_law_1019 : decode cL_law 1019 = .ok (.iconst 1, 1) := by decide +kernel
theorem dL_law_1020 : decode cL_law 1020 = .ok (.iadd, 1) := by decide +kernel
theorem dL_law_1021 : decode cL_law 1021 = .ok (.iaload, 1) := by decide +kernel
theorem dL_law_1022 : decode cL_law 1022 = .ok (.aload_n 0, 1) := by decide +kernel
theorem dL_law_1023 : decode cL_law 1023 = .ok (.iload_n 3, 1) := by decide +kernel
theorem dL_law_1024 : decode cL_law 1024 = .ok (.iconst 2, 1) := by decide +kernel
theorem dL_law_1025 : decode cL_law 1025 = .ok (.iadd, 1) := by decide +kernel
theorem dL_law_1026 : decode cL_law 1026 = .ok (.iaload, 1) := by decide +kernel
theorem dL_law_1027 : decode cL_law 1027 = .ok (.aload_n 0, 1) := by decide +kernel
theorem dL_law_1028 : decode cL_law 1028 = .ok (.iload_n 3, 1) := by decide +kernel
theorem dL_law_1029 : decode cL_law 1029 = .ok (.iconst 3, 1) := by decide +kernel
theorem dL_law_1030 : decode cL_law 1030 = .ok (.iadd, 1) := by decide +kernel
theorem dL_law_1031 : decode cL_law 1031 = .ok (.iaload, 1) := by decide +kernel
theorem dL_law_1032 : decode cL_law 1032 = .ok (.aload_n 0, 1) := by decide +kernel
theorem dL_law_1033 : decode cL_law 1033 = .ok (.iload_n 3, 1) := by decide +kernel
theorem dL_law_1034 : decode cL_law 1034 = .ok (.iconst 4, 1) := by decide +kernel
theorem dL_law_1035 : decode cL_law 1035 = .ok (.iadd, 1) := by decide +kernel
theorem dL_law_1036 : decode cL_law 1036 = .ok (.iaload, 1) := by decide +kernel
theorem dL_law_1037 : decode cL_law 1037 = .ok (.ifCond .eq 7, 3) := by decide +kernel
theorem dL_law_1040 : decode cL_law 1040 = .ok (.iconst 1, 1) := by decide +kernel
theorem dL_law_1041 : decode cL_law 1041 = .ok (.goto 4, 3) := by decide +kernel
theorem dL_law_1044 : decode cL_law 1044 = .ok (.iconst 0, 1) := by decide +kernel
theorem dL_law_1045 : decode cL_law 1045 = .ok (.invokevirtual 123, 3) := by decide +kernel
theorem dL_law_1048 : decode cL_law 1048 = .ok (.if_icmp .eq 151, 3) := by decide +kernel
theorem dL_law_1051 : decode cL_law 1051 = .ok (.iconst 0, 1) := by decide +kernel
theorem dL_law_1052 : decode cL_law 1052 = .ok (.ireturn, 1) := by decide +kernel
theorem dL_law_1053 : decode cL_law 1053 = .ok (.aload_n 1, 1) := by decide +kernel
theorem dL_law_1054 : decode cL_law 1054 = .ok (.aload_n 0, 1) := by decide +kernel
theorem dL_law_1055 : decode cL_law 1055 = .ok (.iload_n 3, 1) := by decide +kernel
theorem dL_law_1056 : decode cL_law 1056 = .ok (.iconst 1, 1) := by decide +kernel
theorem dL_law_1057 : decode cL_law 1057 = .ok (.iadd, 1) := by decide +kernel
theorem dL_law_1058 : decode cL_law 1058 = .ok (.iaload, 1) := by decide +kernel
theorem dL_law_1059 : decode cL_law 1059 = .ok (.i2l, 1) := by decide +kernel
theorem dL_law_1060 : decode cL_law 1060 = .ok (.bipush 32, 2) := by decide +kernel
theorem dL_law_1062 : decode cL_law 1062 = .ok (.lshl, 1) := by decide +kernel
theorem dL_law_1063 : decode cL_law 1063 = .ok (.aload_n 0, 1) := by decide +kernel
theorem dL_law_1064 : decode cL_law 1064 = .ok (.iload_n 3, 1) := by decide +kernel
theorem dL_law_1065 : decode cL_law 1065 = .ok (.iconst 2, 1) := by decide +kernel
theorem dL_law_1066 : decode cL_law 1066 = .ok (.iadd, 1) := by decide +kernel
theorem dL_law_1067 : decode cL_law 1067 = .ok (.iaload, 1) := by decide +kernel
theorem dL_law_1068 : decode cL_law 1068 = .ok (.i2l, 1) := by decide +kernel
theorem dL_law_1069 : decode cL_law 1069 = .ok (.ldc2_w 91, 3) := by decide +kernel
theorem dL_law_1072 : decode cL_law 1072 = .ok (.land, 1) := by decide +kernel
theorem dL_law_1073 : decode cL_law 1073 = .ok (.lor, 1) := by decide +kernel
theorem dL_law_1074 : decode cL_law 1074 = .ok (.invokevirtual 124, 3) := by decide +kernel
theorem dL_law_1077 : decode cL_law 1077 = .ok (.aload_n 2, 1) := by decide +kernel
theorem dL_law_1078 : decode cL_law 1078 = .ok (.aload_n 0, 1) := by decide +kernel
theorem dL_law_1079 : decode cL_law 1079 = .ok (.iload_n 3, 1) := by decide +kernel
theorem dL_law_1080 : decode cL_law 1080 = .ok (.iconst 1, 1) := by decide +kernel
theorem dL_law_1081 : decode cL_law 1081 = .ok (.iadd, 1) := by decide +kernel
theorem dL_law_1082 : decode cL_law 1082 = .ok (.iaload, 1) := by decide +kernel
theorem dL_law_1083 : decode cL_law 1083 = .ok (.i2l, 1) := by decide +kernel
theorem dL_law_1084 : decode cL_law 1084 = .ok (.bipush 32, 2) := by decide +kernel
theorem dL_law_1086 : decode cL_law 1086 = .ok (.lshl, 1) := by decide +kernel
theorem dL_law_1087 : decode cL_law 1087 = .ok (.aload_n 0, 1) := by decide +kernel
theorem dL_law_1088 : decode cL_law 1088 = .ok (.iload_n 3, 1) := by decide +kernel
theorem dL_law_1089 : decode cL_law 1089 = .ok (.iconst 2, 1) := by decide +kernel
theorem dL_law_1090 : decode cL_law 1090 = .ok (.iadd, 1) := by decide +kernel
theorem dL_law_1091 : decode cL_law 1091 = .ok (.iaload, 1) := by decide +kernel
theorem dL_law_1092 : decode cL_law 1092 = .ok (.i2l, 1) := by decide +kernel
theorem dL_law_1093 : decode cL_law 1093 = .ok (.ldc2_w 91, 3) := by decide +kernel
theorem dL_law_1096 : decode cL_law 1096 = .ok (.land, 1) := by decide +kernel
theorem dL_law_1097 : decode cL_law 1097 = .ok (.lor, 1) := by decide +kernel
theorem dL_law_1098 : decode cL_law 1098 = .ok (.invokevirtual 128, 3) := by decide +kernel
theorem dL_law_1101 : decode cL_law 1101 = .ok (.lcmp, 1) := by decide +kernel
theorem dL_law_1102 : decode cL_law 1102 = .ok (.ifCond .eq 97, 3) := by decide +kernel
theorem dL_law_1105 : decode cL_law 1105 = .ok (.iconst 0, 1) := by decide +kernel
theorem dL_law_1106 : decode cL_law 1106 = .ok (.ireturn, 1) := by decide +kernel
theorem dL_law_1107 : decode cL_law 1107 = .ok (.aload_n 1, 1) := by decide +kernel
theorem dL_law_1108 : decode cL_law 1108 = .ok (.aload_n 0, 1) := by decide +kernel
theorem dL_law_1109 : decode cL_law 1109 = .ok (.iload_n 3, 1) := by decide +kernel
theorem dL_law_1110 : decode cL_law 1110 = .ok (.iconst 1, 1) := by decide +kernel
theorem dL_law_1111 : decode cL_law 1111 = .ok (.iadd, 1) := by decide +kernel
theorem dL_law_1112 : decode cL_law 1112 = .ok (.iaload, 1) := by decide +kernel
theorem dL_law_1113 : decode cL_law 1113 = .ok (.invokevirtual 129, 3) := by decide +kernel
theorem dL_law_1116 : decode cL_law 1116 = .ok (.aload_n 2, 1) := by decide +kernel
theorem dL_law_1117 : decode cL_law 1117 = .ok (.aload_n 0, 1) := by decide +kernel
theorem dL_law_1118 : decode cL_law 1118 = .ok (.iload_n 3, 1) := by decide +kernel
theorem dL_law_1119 : decode cL_law 1119 = .ok (.iconst 1, 1) := by decide +kernel
theorem dL_law_1120 : decode cL_law 1120 = .ok (.iadd, 1) := by decide +kernel
theorem dL_law_1121 : decode cL_law 1121 = .ok (.iaload, 1) := by decide +kernel
theorem dL_law_1122 : decode cL_law 1122 = .ok (.invokevirtual 132, 3) := by decide +kernel
theorem dL_law_1125 : decode cL_law 1125 = .ok (.if_icmp .eq 74, 3) := by decide +kernel
theorem dL_law_1128 : decode cL_law 1128 = .ok (.iconst 0, 1) := by decide +kernel
theorem dL_law_1129 : decode cL_law 1129 = .ok (.ireturn, 1) := by decide +kernel
theorem dL_law_1130 : decode cL_law 1130 = .ok (.aload_n 1, 1) := by decide +kernel
theorem dL_law_1131 : decode cL_law 1131 = .ok (.aload_n 0, 1) := by decide +kernel
theorem dL_law_1132 : decode cL_law 1132 = .ok (.iload_n 3, 1) := by decide +kernel
theorem dL_law_1133 : decode cL_law 1133 = .ok (.iconst 1, 1) := by decide +kernel
theorem dL_law_1134 : decode cL_law 1134 = .ok (.iadd, 1) := by decide +kernel
theorem dL_law_1135 : decode cL_law 1135 = .ok (.iaload, 1) := by decide +kernel
theorem dL_law_1136 : decode cL_law 1136 = .ok (.invokevirtual 133, 3) := by decide +kernel
theorem dL_law_1139 : decode cL_law 1139 = .ok (.aload_n 2, 1) := by decide +kernel
theorem dL_law_1140 : decode cL_law 1140 = .ok (.aload_n 0, 1) := by decide +kernel
theorem dL_law_1141 : decode cL_law 1141 = .ok (.iload_n 3, 1) := by decide +kernel
theorem dL_law_1142 : decode cL_law 1142 = .ok (.iconst 1, 1) := by decide +kernel
theorem dL_law_1143 : decode cL_law 1143 = .ok (.iadd, 1) := by decide +kernel
theorem dL_law_1144 : decode cL_law 1144 = .ok (.iaload, 1) := by decide +kernel
theorem dL_law_1145 : decode cL_law 1145 = .ok (.invokevirtual 136, 3) := by decide +kernel
theorem dL_law_1148 : decode cL_law 1148 = .ok (.if_icmp .eq 51, 3) := by decide +kernel
theorem dL_law_1151 : decode cL_law 1151 = .ok (.iconst 0, 1) := by decide +kernel
theorem dL_law_1152 : decode cL_law 1152 = .ok (.ireturn, 1) := by decide +kernel
theorem dL_law_1153 : decode cL_law 1153 = .ok (.aload_n 1, 1) := by decide +kernel
theorem dL_law_1154 : decode cL_law 1154 = .ok (.aload_n 0, 1) := by decide +kernel
theorem dL_law_1155 : decode cL_law 1155 = .ok (.iload_n 3, 1) := by decide +kernel
theorem dL_law_1156 : decode cL_law 1156 = .ok (.iconst 1, 1) := by decide +kernel
theorem dL_law_1157 : decode cL_law 1157 = .ok (.iadd, 1) := by decide +kernel
theorem dL_law_1158 : decode cL_law 1158 = .ok (.iaload, 1) := by decide +kernel
theorem dL_law_1159 : decode cL_law 1159 = .ok (.invokevirtual 137, 3) := by decide +kernel
theorem dL_law_1162 : decode cL_law 1162 = .ok (.aload_n 2, 1) := by decide +kernel
theorem dL_law_1163 : decode cL_law 1163 = .ok (.aload_n 0, 1) := by decide +kernel
theorem dL_law_1164 : decode cL_law 1164 = .ok (.iload_n 3, 1) := by decide +kernel
theorem dL_law_1165 : decode cL_law 1165 = .ok (.iconst 1, 1) := by decide +kernel
theorem dL_law_1166 : decode cL_law 1166 = .ok (.iadd, 1) := by decide +kernel
theorem dL_law_1167 : decode cL_law 1167 = .ok (.iaload, 1) := by decide +kernel
theorem dL_law_1168 : decode cL_law 1168 = .ok (.invokevirtual 140, 3) := by decide +kernel
theorem dL_law_1171 : decode cL_law 1171 = .ok (.if_icmp .eq 28, 3) := by decide +kernel
theorem dL_law_1174 : decode cL_law 1174 = .ok (.iconst 0, 1) := by decide +kernel
theorem dL_law_1175 : decode cL_law 1175 = .ok (.ireturn, 1) := by decide +kernel
theorem dL_law_1176 : decode cL_law 1176 = .ok (.aload_n 1, 1) := by decide +kernel
theorem dL_law_1177 : decode cL_law 1177 = .ok (.aload_n 0, 1) := by decide +kernel
theorem dL_law_1178 : decode cL_law 1178 = .ok (.iload_n 3, 1) := by decide +kernel
theorem dL_law_1179 : decode cL_law 1179 = .ok (.iconst 1, 1) := by decide +kernel
theorem dL_law_1180 : decode cL_law 1180 = .ok (.iadd, 1) := by decide +kernel
theorem dL_law_1181 : decode cL_law 1181 = .ok (.iaload, 1) := by decide +kernel
theorem dL_law_1182 : decode cL_law 1182 = .ok (.invokevirtual 141, 3) := by decide +kernel
theorem dL_law_1185 : decode cL_law 1185 = .ok (.aload_n 2, 1) := by decide +kernel
theorem dL_law_1186 : decode cL_law 1186 = .ok (.aload_n 0, 1) := by decide +kernel
theorem dL_law_1187 : decode cL_law 1187 = .ok (.iload_n 3, 1) := by decide +kernel
theorem dL_law_1188 : decode cL_law 1188 = .ok (.iconst 1, 1) := by decide +kernel
theorem dL_law_1189 : decode cL_law 1189 = .ok (.iadd, 1) := by decide +kernel
theorem dL_law_1190 : decode cL_law 1190 = .ok (.iaload, 1) := by decide +kernel
theorem dL_law_1191 : decode cL_law 1191 = .ok (.invokevirtual 144, 3) := by decide +kernel
theorem dL_law_1194 : decode cL_law 1194 = .ok (.if_icmp .eq 5, 3) := by decide +kernel
theorem dL_law_1197 : decode cL_law 1197 = .ok (.iconst 0, 1) := by decide +kernel
theorem dL_law_1198 : decode cL_law 1198 = .ok (.ireturn, 1) := by decide +kernel
theorem dL_law_1199 : decode cL_law 1199 = .ok (.iinc 3 5, 3) := by decide +kernel
theorem dL_law_1202 : decode cL_law 1202 = .ok (.goto (-1184), 3) := by decide +kernel
theorem dL_law_1205 : decode cL_law 1205 = .ok (.iconst 1, 1) := by decide +kernel
theorem dL_law_1206 : decode cL_law 1206 = .ok (.ireturn, 1) := by decide +kernel
end
section
-- words: every method's words are its own code and wsL_law
def bgL : List (List Cond) := [wsL_law_r1, wsL_law_r2, wsL_law_r3, wsL_law_r4, wsL_law_r5, wsL_law_r6, wsL_law_r7, wsL_law_r8, wsL_law_r9, wsL_law_r10, wsL_law_r11, wsL_law_r12, wsL_law_r13, wsL_law_r14, wsL_law_r15, wsL_law_r16, wsL_law_r17, wsL_law_r18, wsL_law_r19, wsL_law_r20, wsL_law_r21, wsL_law_r22, wsL_law_r23, wsL_law_r24, wsL_law_r25, wsL_law_r26, wsL_law_r27, wsL_law_r28, wsL_law_r29, wsL_law_r30, wsL_law_r31, wsL_law_r32, wsL_law_r33, wsL_law_r34, wsL_law_r35, wsL_law_r36, wsL_law_r37, wsL_law_r38]
theorem bg_in : ∀ r ∈ bgL, ∀ w ∈ r, w ∈ wsL_law := by
  intro r hr w hw
  simp only [bgL, List.mem_cons, List.not_mem_nil, or_false] at hr
  simp only [wsL_law, List.mem_append]
  rcases hr with rfl | rfl | rfl | rfl | rfl | rfl | rfl | rfl | rfl | rfl | rfl | rfl | rfl | rfl | rfl | rfl | rfl | rfl | rfl | rfl | rfl | rfl | rfl | rfl | rfl | rfl | rfl | rfl | rfl | rfl | rfl | rfl | rfl | rfl | rfl | rfl | rfl | rfl <;> simp [hw]
theorem bg {w : Cond} (j i : Nat) (h : (bgL[j]?).bind (fun r => r[i]?) = some w) : w ∈ wsL_law := by
  cases hj : bgL[j]? with
  | none => rw [hj] at h; cases h
  | some r => rw [hj] at h; exact bg_in r (List.mem_of_getElem? hj) w (List.mem_of_getElem? h)
def bg_ok : Bool := wsL_law.all goodWord
theorem bg_good : bg_ok = true := by decide +kernel
theorem bg_gd {w : Cond} (h : w ∈ wsL_law) : w ∈ wsL_law ∧ ((w.onTables && w.keeps) = true ∨ ∃ ty, w = .arrayClass ty) := ⟨h, good_of_word (List.all_eq_true.mp bg_good w h)⟩
theorem gdW {y : MethodName} {c : ByteArray} {mL : Nat} {ret : Option FieldType} (h5 : Cond.code y c mL ret ∈ wsL_law) : GoodIn wsL_law (.code y c mL ret :: wsL_law) := by
  intro w hw
  rcases List.mem_cons.mp hw with rfl | hw
  · exact bg_gd h5
  · exact bg_gd hw
theorem gdV {own C : String} {idx : Nat} {y : MethodName} {c : ByteArray} {mL : Nat} {ret : Option FieldType} (h1 : Cond.methodLink own idx y ∈ wsL_law) (h2 : Cond.instanceMethod y ∈ wsL_law) (h3 : Cond.selects C y y ∈ wsL_law) (h4 : Cond.initialized C ∈ wsL_law) (h5 : Cond.code y c mL ret ∈ wsL_law) : GoodIn wsL_law (wsV own idx C y (.code y c mL ret :: wsL_law)) := by
  intro w hw
  rcases List.mem_append.mp hw with hw | hw
  · simp only [List.mem_cons, List.not_mem_nil, or_false] at hw
    rcases hw with rfl | rfl | rfl | rfl
    · exact bg_gd h1
    · exact bg_gd h2
    · exact bg_gd h3
    · exact bg_gd h4
  · exact gdW h5 w hw
theorem gdS {own : String} {idx : Nat} {y : MethodName} {c : ByteArray} {mL : Nat} {ret : Option FieldType} (h1 : Cond.methodLink own idx y ∈ wsL_law) (h2 : Cond.static y ∈ wsL_law) (h4 : Cond.initialized y.cls ∈ wsL_law) (h5 : Cond.code y c mL ret ∈ wsL_law) : GoodIn wsL_law (va_wsS own idx y (.code y c mL ret :: wsL_law)) := by
  intro w hw
  rcases List.mem_append.mp hw with hw | hw
  · simp only [List.mem_cons, List.not_mem_nil, or_false] at hw
    rcases hw with rfl | rfl | rfl
    · exact bg_gd h1
    · exact bg_gd h2
    · exact bg_gd h4
  · exact gdW h5 w hw
-- nest mates' links
def nsL : List (String × Nat × MethodName) := [(RX6, 11, yX3_init), (RX6, 18, yX5_init), (RX6, 28, yX4_init), (RX0, 17, yX4_init), (RX6, 45, yX2_init), (RX6, 60, yX1_init), (RX3, 19, yX6_isIndex), (RX3, 69, yX6_isOutside), (RX5, 68, yX6_isIndex), (RX3, 87, yX6_hasBit), (RX3, 94, yX6_isTable), (RX4, 40, yX6_at), (RX5, 38, yX6_at), (RX0, 22, yX6_isIndex), (RX4, 61, yX6_hasBit), (RX4, 44, yX6_isIndex), (RX4, 48, yX6_isTable), (RX5, 65, yX6_hasBit), (RX2, 29, yX6_isIndex)]
-- pure words
def sh {α : Type} (f : Nat → α) (b : Nat) : Nat → α := fun k => f (b + k)
def pt {α : Type} (f : Nat → α) (b n : Nat) (g : Nat → α) : Nat → α := fun k => if b ≤ k ∧ k < b + n then g (k - b) else f k
def rd (n : Nat) (f : Nat → Int32) (i : Int32) : Option Int32 := if i < 0 ∨ n ≤ i.toNatClampNeg then none else some (f i.toNatClampNeg)
def wr (n : Nat) (f : Nat → Int32) (i x : Int32) : Option (Nat → Int32) := if i < 0 ∨ n ≤ i.toNatClampNeg then none else some (upd f i.toNatClampNeg x)
def bz (v : Int32) : Option Int32 := if v = 0 ∨ v = 1 then some v else none
def nz (v : Int32) : Option Int32 := if v = 0 then none else some v
def nzL (v : Int64) : Option Int64 := if v = 0 then none else some v
theorem rd_in {n : Nat} {f : Nat → Int32} {i v : Int32} (h : rd n f i = some v) : vp_in i n ∧ f i.toNatClampNeg = v := by
  unfold rd at h
  split at h
  · cases h
  · rename_i h2; exact ⟨h2, Option.some.inj h⟩
theorem wr_in {n : Nat} {f g : Nat → Int32} {i x : Int32} (h : wr n f i x = some g) : vp_in i n ∧ upd f i.toNatClampNeg x = g := by
  unfold wr at h
  split at h
  · cases h
  · rename_i h2; exact ⟨h2, Option.some.inj h⟩
theorem bz_in {v w : Int32} (h : bz v = some w) : v = w ∧ (w = 0 ∨ w = 1) := by
  unfold bz at h
  split at h
  · rename_i h2; cases h; exact ⟨rfl, h2⟩
  · cases h
theorem nz_in {v w : Int32} (h : nz v = some w) : v = w ∧ ¬ w = 0 := by
  unfold nz at h
  split at h
  · cases h
  · rename_i h2; cases h; exact ⟨rfl, h2⟩
theorem nzL_in {v w : Int64} (h : nzL v = some w) : v = w ∧ ¬ w = 0 := by
  unfold nzL at h
  split at h
  · cases h
  · rename_i h2; cases h; exact ⟨rfl, h2⟩
theorem bnd {α β : Type} {x : Option α} {f : α → Option β} {r : β} (h : x.bind f = some r) : ∃ v, x = some v ∧ f v = some r := by
  cases x with
  | none => cases h
  | some v => exact ⟨v, rfl, h⟩
def FU : Nat := 20000
-- the surroundings that every contract has
def tyG (cI cZ cO : ClassId) : List (ClassId × FieldType) := [(cI, .int), (cZ, .boolean), (cO, .object "DawnCoin$Standing")]
def EnvO (D : va_G) (cI cZ cO : ClassId) (U : State) : Prop := va_K D vwCl (tyG cI cZ cO) U ∧ ∀ q ∈ nsL, va_Nw (.methodLinkNest q.1 q.2.1 q.2.2 "DawnCoin") U
theorem EnvO.warm {D : va_G} {cI cZ cO : ClassId} {s U : State} (hW : s.WarmedH U.vm) (h : EnvO D cI cZ cO s) : EnvO D cI cZ cO U := ⟨va_K.moved hW.alike h.1, fun q hq => va_Nw.warmM hW (h.2 q hq)⟩
theorem EnvO.call {D : va_G} {cI cZ cO : ClassId} {U : State} (g : JFrame) (mk : MethodId) (a : Array Value) (h : EnvO D cI cZ cO U) : EnvO D cI cZ cO (U.calling g mk a) := ⟨va_K.moved (u := U) (U := U.calling g mk a) (Vm.Alike.refl U.vm) h.1, fun q hq => va_Nw.same rfl rfl (h.2 q hq)⟩
def PreR (D : va_G) (cI cZ cO : ClassId) (ws : va_W) (U : State) : Prop := va_P D vwCl ws U.heap ∧ EnvO D cI cZ cO U
def PreW (D : va_G) (cI cZ cO : ClassId) (ws : va_W) (sz : Nat) (U : State) : Prop := U.heap.size = sz ∧ va_P D vwCl ws U.heap ∧ EnvO D cI cZ cO U ∧ va_D (fun _ => True) ws
def PosW (D : va_G) (ws1 : va_W) : Unit → State → Prop := fun _ t => va_P D vwCl ws1 t.heap
theorem PreR.blind {D : va_G} {cI cZ cO : ClassId} {av : List Value} {ws : va_W} : FrameBlind (va_Pc av (PreR D cI cZ cO ws)) := fun a U g mk q => ⟨q.1, q.2.1, q.2.2.call g mk a⟩
theorem PreW.blind {D : va_G} {cI cZ cO : ClassId} {av : List Value} {ws : va_W} {sz : Nat} : FrameBlind (va_Pc av (PreW D cI cZ cO ws sz)) := fun a U g mk q => ⟨q.1, q.2.1, q.2.2.1, q.2.2.2.1.call g mk a, q.2.2.2.2⟩
/-- a method that reads: its answer -/
def RtI (l : Launch) (y : MethodName) (c : ByteArray) (mL : Nat) (ty : FieldType) (rm : Room) (D : va_G) (cI cZ cO : ClassId) (av : List Value) (ws : va_W) (r : Int32) : Prop := Met l y (.code y c mL (some ty) :: wsL_law) rm (va_Pc av (PreR D cI cZ cO ws)) (vp_Si (fun r' => r' = r)) 0 0 (fun _ => False)
def RtL (l : Launch) (y : MethodName) (c : ByteArray) (mL : Nat) (rm : Room) (D : va_G) (cI cZ cO : ClassId) (av : List Value) (ws : va_W) (r : Int64) : Prop := Met l y (.code y c mL (some .long) :: wsL_law) rm (va_Pc av (PreR D cI cZ cO ws)) (vp_Sl (fun r' => r' = r)) 0 0 (fun _ => False)
/-- a method that writes: its answer, its world -/
def CtI (l : Launch) (y : MethodName) (c : ByteArray) (mL : Nat) (ty : FieldType) (rm : Room) (D : va_G) (cI cZ cO : ClassId) (av : List Value) (ws ws1 : va_W) (r : Int32) : Prop := ∀ sz : Nat, Met l y (.code y c mL (some ty) :: wsL_law) rm (va_Pc av (PreW D cI cZ cO ws sz)) (va_Qi (fun r' (_ : Unit) => r' = r) (PosW D ws1) (va_A ws sz)) 0 0 (va_A ws sz)
def CtL (l : Launch) (y : MethodName) (c : ByteArray) (mL : Nat) (rm : Room) (D : va_G) (cI cZ cO : ClassId) (av : List Value) (ws ws1 : va_W) (r : Int64) : Prop := ∀ sz : Nat, Met l y (.code y c mL (some .long) :: wsL_law) rm (va_Pc av (PreW D cI cZ cO ws sz)) (va_Ql (fun r' (_ : Unit) => r' = r) (PosW D ws1) (va_A ws sz)) 0 0 (va_A ws sz)
def CtV (l : Launch) (y : MethodName) (c : ByteArray) (mL : Nat) (rm : Room) (D : va_G) (cI cZ cO : ClassId) (av : List Value) (ws ws1 : va_W) : Prop := ∀ sz : Nat, Met l y (.code y c mL none :: wsL_law) rm (va_Pc av (PreW D cI cZ cO ws sz)) (va_Qv (fun (_ : Unit) => True) (PosW D ws1) (va_A ws sz)) 0 0 (va_A ws sz)
/-- what a walk of a method knows -/
def CxO (p : Program) (s : State) (m : MethodId) (meth : Method) (cd : Code) (c : ByteArray) (mL : Nat) (own : String) (args : Array Value) : Prop := p.tables.exec = Jvm.exec ∧ cd.code = c ∧ cd.maxLocals = mL ∧ s.vm.findClass own = some m.cls ∧ (∀ w ∈ wsL_law, w.before args s = true)
theorem mkRI {l : Launch} {y : MethodName} {c : ByteArray} {mL : Nat} {ty : FieldType} {rm : Room} {D : va_G} {cI cZ cO : ClassId} {av : List Value} {ws : va_W} {r : Int32} (hy : plainName y.cls = true) (hlen : (lg_sl av).length ≤ mL)
    (body : ∀ (p : Program) (e : Env) (s : State) (m : MethodId) (below : List Frame) (meth : Method) (cd : Code) (Q : State → Prop), CxO p s m meth cd c mL y.cls av.toArray → va_P D vwCl ws s.heap → EnvO D cI cZ cO s → (∀ (pc : Nat) (ls : Array Slot), narrow ty (.int r) = .int r → decode c pc = .ok (.ireturn, 1) → W p l e rm s m av.toArray below meth cd s.heap [] 0 0 Q (F0 m pc ls [.int r])) → ∀ ls : Array Slot, lv_has ls mL (lv_args 0 av) → W p l e rm s m av.toArray below meth cd s.heap [] 0 0 Q (F0 m 0 ls [])) : RtI l y c mL ty rm D cI cZ cO av ws r := by
  refine Met.ofW (cc := c) (maxL := mL) (ret := some ty) hy rfl ?_
  intro p e s m args below meth cd s₁ B hml hv
  obtain ⟨rfl, hP, hE⟩ := hv
  have hl := lv_entry av (n := mL) hlen
  rw [lg_entry_eq]
  have hts := atoms_spec B.pre
  refine body p e s m below meth cd _ ⟨B.exec, B.bytes, hml, findClass_of_methodNamed B.named, fun w h => hts w (List.mem_cons_of_mem _ h)⟩ hP hE ?_ _ hl
  intro pc ls hty hd
  exact W.zret B.exec B.bytes B.returns hty (fun t ht hW => ⟨r, rfl, rfl, ht⟩) (fun q h => by cases h) hd B.notSynchronized
theorem mkRL {l : Launch} {y : MethodName} {c : ByteArray} {mL : Nat} {rm : Room} {D : va_G} {cI cZ cO : ClassId} {av : List Value} {ws : va_W} {r : Int64} (hy : plainName y.cls = true) (hlen : (lg_sl av).length ≤ mL)
    (body : ∀ (p : Program) (e : Env) (s : State) (m : MethodId) (below : List Frame) (meth : Method) (cd : Code) (Q : State → Prop), CxO p s m meth cd c mL y.cls av.toArray → va_P D vwCl ws s.heap → EnvO D cI cZ cO s → (∀ (pc : Nat) (ls : Array Slot), decode c pc = .ok (.lreturn, 1) → W p l e rm s m av.toArray below meth cd s.heap [] 0 0 Q (F0 m pc ls [.long r])) → ∀ ls : Array Slot, lv_has ls mL (lv_args 0 av) → W p l e rm s m av.toArray below meth cd s.heap [] 0 0 Q (F0 m 0 ls [])) : RtL l y c mL rm D cI cZ cO av ws r := by
  refine Met.ofW (cc := c) (maxL := mL) (ret := some .long) hy rfl ?_
  intro p e s m args below meth cd s₁ B hml hv
  obtain ⟨rfl, hP, hE⟩ := hv
  have hl := lv_entry av (n := mL) hlen
  rw [lg_entry_eq]
  have hts := atoms_spec B.pre
  refine body p e s m below meth cd _ ⟨B.exec, B.bytes, hml, findClass_of_methodNamed B.named, fun w h => hts w (List.mem_cons_of_mem _ h)⟩ hP hE ?_ _ hl
  intro pc ls hd
  exact W.lret B.exec B.bytes B.returns (fun t ht hW => ⟨r, rfl, rfl, ht⟩) (fun q h => by cases h) hd B.notSynchronized
theorem mkCI {l : Launch} {y : MethodName} {c : ByteArray} {mL : Nat} {ty : FieldType} {rm : Room} {D : va_G} {cI cZ cO : ClassId} {av : List Value} {ws ws1 : va_W} {r : Int32} (hy : plainName y.cls = true) (hlen : (lg_sl av).length ≤ mL)
    (body : ∀ (p : Program) (e : Env) (s : State) (m : MethodId) (below : List Frame) (meth : Method) (cd : Code) (Q : State → Prop) (A : Nat → Prop), CxO p s m meth cd c mL y.cls av.toArray → va_P D vwCl ws s.heap → EnvO D cI cZ cO s → va_D A ws → (∀ q : Nat, s.heap.size ≤ q → A q) → (∀ (H : Heap) (locs : List Loc) (pc : Nat) (ls : Array Slot), narrow ty (.int r) = .int r → va_P D vwCl ws1 H → va_S A s.heap H locs → decode c pc = .ok (.ireturn, 1) → W p l e rm s m av.toArray below meth cd H locs 0 0 Q (F0 m pc ls [.int r])) → ∀ ls : Array Slot, lv_has ls mL (lv_args 0 av) → W p l e rm s m av.toArray below meth cd s.heap [] 0 0 Q (F0 m 0 ls [])) : CtI l y c mL ty rm D cI cZ cO av ws ws1 r := by
  intro sz
  refine Met.ofW (cc := c) (maxL := mL) (ret := some ty) hy rfl ?_
  intro p e s m args below meth cd s₁ B hml hv
  obtain ⟨rfl, hsz, hP, hE, hD0⟩ := hv
  subst hsz
  have hl := lv_entry av (n := mL) hlen
  rw [lg_entry_eq]
  have hts := atoms_spec B.pre
  refine body p e s m below meth cd _ (va_A ws s.heap.size) ⟨B.exec, B.bytes, hml, findClass_of_methodNamed B.named, fun w h => hts w (List.mem_cons_of_mem _ h)⟩ hP hE (hD0.self (sz := s.heap.size)) (fun q h => Or.inr h) ?_ _ hl
  intro H locs pc ls hty hP1 hS hd
  exact W.zret B.exec B.bytes B.returns hty (fun t ht hW => ⟨⟨r, (), rfl, rfl, by show va_P D vwCl ws1 t.heap; rw [ht]; exact hP1⟩, hS.F ht⟩) hS.2.2 hd B.notSynchronized
theorem mkCL {l : Launch} {y : MethodName} {c : ByteArray} {mL : Nat} {rm : Room} {D : va_G} {cI cZ cO : ClassId} {av : List Value} {ws ws1 : va_W} {r : Int64} (hy : plainName y.cls = true) (hlen : (lg_sl av).length ≤ mL)
    (body : ∀ (p : Program) (e : Env) (s : State) (m : MethodId) (below : List Frame) (meth : Method) (cd : Code) (Q : State → Prop) (A : Nat → Prop), CxO p s m meth cd c mL y.cls av.toArray → va_P D vwCl ws s.heap → EnvO D cI cZ cO s → va_D A ws → (∀ q : Nat, s.heap.size ≤ q → A q) → (∀ (H : Heap) (locs : List Loc) (pc : Nat) (ls : Array Slot), va_P D vwCl ws1 H → va_S A s.heap H locs → decode c pc = .ok (.lreturn, 1) → W p l e rm s m av.toArray below meth cd H locs 0 0 Q (F0 m pc ls [.long r])) → ∀ ls : Array Slot, lv_has ls mL (lv_args 0 av) → W p l e rm s m av.toArray below meth cd s.heap [] 0 0 Q (F0 m 0 ls [])) : CtL l y c mL rm D cI cZ cO av ws ws1 r := by
  intro sz
  refine Met.ofW (cc := c) (maxL := mL) (ret := some .long) hy rfl ?_
  intro p e s m args below meth cd s₁ B hml hv
  obtain ⟨rfl, hsz, hP, hE, hD0⟩ := hv
  subst hsz
  have hl := lv_entry av (n := mL) hlen
  rw [lg_entry_eq]
  have hts := atoms_spec B.pre
  refine body p e s m below meth cd _ (va_A ws s.heap.size) ⟨B.exec, B.bytes, hml, findClass_of_methodNamed B.named, fun w h => hts w (List.mem_cons_of_mem _ h)⟩ hP hE (hD0.self (sz := s.heap.size)) (fun q h => Or.inr h) ?_ _ hl
  intro H locs pc ls hP1 hS hd
  exact W.lret B.exec B.bytes B.returns (fun t ht hW => ⟨⟨r, (), rfl, rfl, by show va_P D vwCl ws1 t.heap; rw [ht]; exact hP1⟩, hS.F ht⟩) hS.2.2 hd B.notSynchronized
theorem mkCV {l : Launch} {y : MethodName} {c : ByteArray} {mL : Nat} {rm : Room} {D : va_G} {cI cZ cO : ClassId} {av : List Value} {ws ws1 : va_W} (hy : plainName y.cls = true) (hlen : (lg_sl av).length ≤ mL)
    (body : ∀ (p : Program) (e : Env) (s : State) (m : MethodId) (below : List Frame) (meth : Method) (cd : Code) (Q : State → Prop) (A : Nat → Prop), CxO p s m meth cd c mL y.cls av.toArray → va_P D vwCl ws s.heap → EnvO D cI cZ cO s → va_D A ws → (∀ q : Nat, s.heap.size ≤ q → A q) → (∀ (H : Heap) (locs : List Loc) (pc : Nat) (ls : Array Slot), va_P D vwCl ws1 H → va_S A s.heap H locs → decode c pc = .ok (.return_, 1) → W p l e rm s m av.toArray below meth cd H locs 0 0 Q (F0 m pc ls [])) → ∀ ls : Array Slot, lv_has ls mL (lv_args 0 av) → W p l e rm s m av.toArray below meth cd s.heap [] 0 0 Q (F0 m 0 ls [])) : CtV l y c mL rm D cI cZ cO av ws ws1 := by
  intro sz
  refine Met.ofW (cc := c) (maxL := mL) (ret := none) hy rfl ?_
  intro p e s m args below meth cd s₁ B hml hv
  obtain ⟨rfl, hsz, hP, hE, hD0⟩ := hv
  subst hsz
  have hl := lv_entry av (n := mL) hlen
  rw [lg_entry_eq]
  have hts := atoms_spec B.pre
  refine body p e s m below meth cd _ (va_A ws s.heap.size) ⟨B.exec, B.bytes, hml, findClass_of_methodNamed B.named, fun w h => hts w (List.mem_cons_of_mem _ h)⟩ hP hE (hD0.self (sz := s.heap.size)) (fun q h => Or.inr h) ?_ _ hl
  intro H locs pc ls hP1 hS hd
  exact W.vret B.exec B.bytes B.returns (fun t ht hW => ⟨⟨(), rfl, trivial, by show va_P D vwCl ws1 t.heap; rw [ht]; exact hP1⟩, hS.F ht⟩) hS.2.2 hd B.notSynchronized
theorem nar_i (r : Int32) : narrow .int (.int r) = .int r := vp_nar_int r
theorem nar_z {r : Int32} (h : r = 0 ∨ r = 1) : narrow .boolean (.int r) = .int r := by rcases h with rfl | rfl <;> decide +kernel
end
section
def ush (x y : Int32) : Int32 := (x.toUInt32 >>> (y.toUInt32 &&& Int32.toUInt32 31)).toInt32
def ushL (x : Int64) (y : Int32) : Int64 := (x.toUInt64 >>> (y.toInt64.toUInt64 &&& Int64.toUInt64 63)).toInt64
def shlL (x : Int64) (y : Int32) : Int64 := x <<< (y.toInt64 &&& 63)
theorem va_P_nil {G : va_G} {H : Heap} : va_P G vwCl [] H := fun k q h => by simp at h
def neg (x : Int32) : Int32 := -x
def shl (x y : Int32) : Int32 := x <<< (y &&& 31)
def shr (x y : Int32) : Int32 := x >>> (y &&& 31)
def rem (x y : Int32) : Int32 := x - x / y * y
def remL (x y : Int64) : Int64 := x - x / y * y
def wrZ (n : Nat) (f : Nat → Int32) (i x : Int32) : Option (Nat → Int32) := if x = 0 ∨ x = 1 then wr n f i x else none
theorem wrZ_in {n : Nat} {f g : Nat → Int32} {i x : Int32} (h : wrZ n f i x = some g) : vp_in i n ∧ upd f i.toNatClampNeg (vp_nar .boolean x) = g := by
  unfold wrZ at h
  split at h
  · rename_i h2
    obtain ⟨h3, h4⟩ := wr_in h
    refine ⟨h3, ?_⟩
    rw [← h4]
    rcases h2 with rfl | rfl <;> rfl
  · cases h
section XR
variable {p : Program} {l : Launch} {e : Env} {R : Room} {s : State} {m : MethodId} {args : Array Value} {below : List Frame} {meth : Method} {c : Code} {H : Heap} {locs : List Loc} {cells slots : Nat} {Q : State → Prop}
variable {cc : ByteArray} {pc : Nat} {ls : Array Slot} {rest : List Value} {D : va_G} {cl : List vw_C} {A : Nat → Prop} {a : Nat} {tys : List (ClassId × FieldType)} {ws : va_W} {H0 : Heap}
theorem x_iald (hexec : p.tables.exec = Jvm.exec) (hb : c.code = cc) (hK : va_K D cl tys s) (hP : va_P D cl ws H) (q0 t0 : Nat) {cA : ClassId} {n : Nat} {f : Nat → Int32} (ha : ws[q0]? = some (a, .inl (cA, n, .inl f))) (ht : tys[t0]? = some (cA, .int)) {i v : Int32} (hr : rd n f i = some v) (hdg : decode cc pc = .ok (.iaload, 1))
    (kk : W p l e R s m args below meth c H locs cells slots Q (F0 m (pc + 1) ls (.int v :: rest))) : W p l e R s m args below meth c H locs cells slots Q (F0 m pc ls (.int i :: .ref a :: rest)) := by
  obtain ⟨h1, rfl⟩ := rd_in hr
  exact va_iald hexec hb hK hP q0 t0 ha ht h1 hdg kk
theorem x_zald (hexec : p.tables.exec = Jvm.exec) (hb : c.code = cc) (hK : va_K D cl tys s) (hP : va_P D cl ws H) (q0 t0 : Nat) {cA : ClassId} {n : Nat} {f : Nat → Int32} (ha : ws[q0]? = some (a, .inl (cA, n, .inl f))) (ht : tys[t0]? = some (cA, .boolean)) {i v : Int32} (hr : rd n f i = some v) (hdg : decode cc pc = .ok (.baload, 1))
    (kk : W p l e R s m args below meth c H locs cells slots Q (F0 m (pc + 1) ls (.int v :: rest))) : W p l e R s m args below meth c H locs cells slots Q (F0 m pc ls (.int i :: .ref a :: rest)) := by
  obtain ⟨h1, rfl⟩ := rd_in hr
  exact va_zald hexec hb hK hP q0 t0 ha ht h1 hdg kk
theorem x_iast (hexec : p.tables.exec = Jvm.exec) (hb : c.code = cc) (hK : va_K D cl tys s) (hP : va_P D cl ws H) (hD : va_D A ws) (hS : va_S A H0 H locs) (q0 t0 : Nat) {cA : ClassId} {n : Nat} {f g : Nat → Int32} (ha : ws[q0]? = some (a, .inl (cA, n, .inl f))) (ht : tys[t0]? = some (cA, .int)) {i : Int32} {x : Int32} (hw : wr n f i x = some g) (hdg : decode cc pc = .ok (.iastore, 1))
    (kk : ∀ (H1 : Heap) (locs1 : List Loc), va_P D cl (ws.set q0 (a, .inl (cA, n, .inl g))) H1 → va_D A (ws.set q0 (a, .inl (cA, n, .inl g))) → va_S A H0 H1 locs1 → W p l e R s m args below meth c H1 locs1 cells slots Q (F0 m (pc + 1) ls rest)) : W p l e R s m args below meth c H locs cells slots Q (F0 m pc ls (.int x :: .int i :: .ref a :: rest)) := by
  obtain ⟨h1, rfl⟩ := wr_in hw
  exact va_iast hexec hb hK hP hD hS q0 t0 ha ht h1 hdg kk
theorem x_zast (hexec : p.tables.exec = Jvm.exec) (hb : c.code = cc) (hK : va_K D cl tys s) (hP : va_P D cl ws H) (hD : va_D A ws) (hS : va_S A H0 H locs) (q0 t0 : Nat) {cA : ClassId} {n : Nat} {f g : Nat → Int32} (ha : ws[q0]? = some (a, .inl (cA, n, .inl f))) (ht : tys[t0]? = some (cA, .boolean)) {i : Int32} {x : Int32} (hw : wrZ n f i x = some g) (hdg : decode cc pc = .ok (.bastore, 1))
    (kk : ∀ (H1 : Heap) (locs1 : List Loc), va_P D cl (ws.set q0 (a, .inl (cA, n, .inl g))) H1 → va_D A (ws.set q0 (a, .inl (cA, n, .inl g))) → va_S A H0 H1 locs1 → W p l e R s m args below meth c H1 locs1 cells slots Q (F0 m (pc + 1) ls rest)) : W p l e R s m args below meth c H locs cells slots Q (F0 m pc ls (.int x :: .int i :: .ref a :: rest)) := by
  obtain ⟨h1, rfl⟩ := wrZ_in hw
  exact va_zast hexec hb hK hP hD hS q0 t0 ha ht h1 hdg kk
/-- a read-only call: what is answered is known, the heap is as it was -/
theorem x_csi {post : Int32 → Prop} {aa : Array Value} {st0 : List Value} (hr : va_Run p l e R s m args below meth c H locs cells slots 0 0 (F0 m pc ls st0) rest (vp_Si post aa) (fun _ => False))
    (kk : ∀ r : Int32, post r → W p l e R s m args below meth c H locs cells slots Q (F0 m (pc + 3) ls (.int r :: rest))) : W p l e R s m args below meth c H locs cells slots Q (F0 m pc ls st0) := by
  intro T hT X
  obtain ⟨v, st₀, t, T', L, h0, X', hL, e1, e2, ⟨r, hv, hp, hh⟩, st⟩ := hr T hT X
  cases hv
  obtain ⟨t2, a1, b1⟩ := kk r hp T' (by rw [e1, hh, h0]) (Stand.forget X' (fun q h => (hL q h).elim))
  exact ⟨t2, st t2 a1, b1⟩
theorem x_csl {post : Int64 → Prop} {aa : Array Value} {st0 : List Value} (hr : va_Run p l e R s m args below meth c H locs cells slots 0 0 (F0 m pc ls st0) rest (vp_Sl post aa) (fun _ => False))
    (kk : ∀ r : Int64, post r → W p l e R s m args below meth c H locs cells slots Q (F0 m (pc + 3) ls (.long r :: rest))) : W p l e R s m args below meth c H locs cells slots Q (F0 m pc ls st0) := by
  intro T hT X
  obtain ⟨v, st₀, t, T', L, h0, X', hL, e1, e2, ⟨r, hv, hp, hh⟩, st⟩ := hr T hT X
  cases hv
  obtain ⟨t2, a1, b1⟩ := kk r hp T' (by rw [e1, hh, h0]) (Stand.forget X' (fun q h => (hL q h).elim))
  exact ⟨t2, st t2 a1, b1⟩
theorem x_irem (hexec : p.tables.exec = Jvm.exec) (hb : c.code = cc) {x y : Int32} (hdg : decode cc pc = .ok (.irem, 1)) (hne : ¬ y = 0)
    (k : W p l e R s m args below meth c H locs cells slots Q (F0 m (pc + 1) ls (.int (rem x y) :: rest))) : W p l e R s m args below meth c H locs cells slots Q (F0 m pc ls (.int y :: .int x :: rest)) := lv_irem hexec hb hdg hne k
theorem x_ishl (hexec : p.tables.exec = Jvm.exec) (hb : c.code = cc) {x y : Int32} (hdg : decode cc pc = .ok (.ishl, 1))
    (k : W p l e R s m args below meth c H locs cells slots Q (F0 m (pc + 1) ls (.int (shl x y) :: rest))) : W p l e R s m args below meth c H locs cells slots Q (F0 m pc ls (.int y :: .int x :: rest)) := lv_ishl hexec hb hdg k
theorem x_ishr (hexec : p.tables.exec = Jvm.exec) (hb : c.code = cc) {x y : Int32} (hdg : decode cc pc = .ok (.ishr, 1))
    (k : W p l e R s m args below meth c H locs cells slots Q (F0 m (pc + 1) ls (.int (shr x y) :: rest))) : W p l e R s m args below meth c H locs cells slots Q (F0 m pc ls (.int y :: .int x :: rest)) := lv_ishr hexec hb hdg k
theorem x_lrem (hexec : p.tables.exec = Jvm.exec) (hb : c.code = cc) {x y : Int64} (hdg : decode cc pc = .ok (.lrem, 1)) (hne : ¬ y = 0)
    (k : W p l e R s m args below meth c H locs cells slots Q (F0 m (pc + 1) ls (.long (remL x y) :: rest))) : W p l e R s m args below meth c H locs cells slots Q (F0 m pc ls (.long y :: .long x :: rest)) := lv_lrem hexec hb hdg hne k
theorem x_ineg (hexec : p.tables.exec = Jvm.exec) (hb : c.code = cc) {x : Int32} (hdg : decode cc pc = .ok (.ineg, 1))
    (k : W p l e R s m args below meth c H locs cells slots Q (F0 m (pc + 1) ls (.int (neg x) :: rest))) : W p l e R s m args below meth c H locs cells slots Q (F0 m pc ls (.int x :: rest)) := lv_ineg hexec hb hdg k
theorem x_tsw (hexec : p.tables.exec = Jvm.exec) (hb : c.code = cc) {dflt lo hi : Int} {offs : Array Int} {len : Nat} {x k : Int32} {off : Int} {tgt : Nat} (hc : x = k) (hdg : decode cc pc = .ok (.tableswitch dflt lo hi offs, len)) (h1 : ¬ k.toInt < lo) (h2 : ¬ hi < k.toInt) (ho : offs[(k.toInt - lo).toNat]? = some off) (ht : (pc : Int) + off = (tgt : Int))
    (kk : W p l e R s m args below meth c H locs cells slots Q (F0 m tgt ls rest)) : W p l e R s m args below meth c H locs cells slots Q (F0 m pc ls (.int x :: rest)) := by
  subst hc
  exact lv_tableIn hexec hb hdg h1 h2 ho ht kk
theorem x_lsw (hexec : p.tables.exec = Jvm.exec) (hb : c.code = cc) {dflt : Int} {ps : Array (Int × Int)} {len : Nat} {x k : Int32} {off : Int} {tgt : Nat} (hc : x = k) (hdg : decode cc pc = .ok (.lookupswitch dflt ps, len)) (hp : (ps.toList.zip (ps.toList.drop 1)).all (fun (a, next) => a.1 < next.1) = true) (ho : Op.lookupswitch.offset ps.toList dflt k.toInt = off) (ht : (pc : Int) + off = (tgt : Int))
    (kk : W p l e R s m args below meth c H locs cells slots Q (F0 m tgt ls rest)) : W p l e R s m args below meth c H locs cells slots Q (F0 m pc ls (.int x :: rest)) := by
  subst hc
  exact lv_lookup hexec hb hdg hp ho ht kk
theorem x_aldq (hexec : p.tables.exec = Jvm.exec) (hb : c.code = cc) (hK : va_K D cl tys s) (hP : va_P D cl ws H) (q0 t0 : Nat) {cA : ClassId} {C : String} {n : Nat} {f : Nat → Option Nat} (ha : ws[q0]? = some (a, .inl (cA, n, .inr (.inr (.inr (.inr f)))))) (ht : tys[t0]? = some (cA, .object C)) {i k : Int32} {v : Nat} (hc : i = k) (hin : ¬ (k < 0 ∨ n ≤ k.toNatClampNeg)) (hv : f k.toNatClampNeg = some v) (hdg : decode cc pc = .ok (.aaload, 1))
    (kk : W p l e R s m args below meth c H locs cells slots Q (F0 m (pc + 1) ls (.ref v :: rest))) : W p l e R s m args below meth c H locs cells slots Q (F0 m pc ls (.int i :: .ref a :: rest)) := by
  subst hc
  refine va_aldq hexec hb hK hP q0 t0 ha ht hin hdg ?_
  rw [hv]
  exact kk
variable {G : va_G} {cI cZ cO : ClassId} {own C : String} {idx mL nL n ci : Nat} {y : MethodName} {cy : ByteArray} {ty : FieldType} {rm : Room} {b : Nat} {As st0 : List Value} {wc : va_W} {r : Int32} {fs : List Value} {q : vw_C}
theorem x_rdV (hx : p.tables.exec = Jvm.exec) (hb : c.code = cc) (hml : c.maxLocals = nL) (hown : s.vm.findClass own = some m.cls) (hts : ∀ w ∈ wsL_law, w.before args s = true) (hE : EnvO G cI cZ cO s) (hM : RtI l y cy mL ty rm G cI cZ cO (.ref b :: As) wc r)
    (h1 : Cond.methodLink own idx y ∈ wsL_law) (h2 : Cond.instanceMethod y ∈ wsL_law) (h3 : Cond.selects C y y ∈ wsL_law) (h4 : Cond.initialized C ∈ wsL_law) (h5 : Cond.code y cy mL (some ty) ∈ wsL_law)
    (hd : y.cls = C ∧ y.cls ≠ "java/lang/invoke/MethodHandle" ∧ y.cls ≠ "java/lang/invoke/VarHandle" ∧ (parseMethodDescriptor y.desc).map (fun d => d.parameters.length) = some n) (hn : As.length = n) (hR : rm.cells = 0 ∧ rm.slots = 0 ∧ rm.frames + 1 ≤ R.frames ∧ 8 + (mL + 11) + rm.locals ≤ R.locals)
    (hP : va_P G vwCl wc H) (hw0 : wc[0]? = some (b, .inr (ci, fs))) (hci : vwCl[ci]? = some q) (hq : q.1 = C) (hst : st0 = As.reverse ++ .ref b :: rest) (hsize : ls.size = nL) (hW : (rest.map fun v => v.category).sum ≤ 8) (hcs : cells ≤ R.cells ∧ slots ≤ R.slots) (hdg : decode cc pc = .ok (.invokevirtual idx, 3))
    (kk : W p l e R s m args below meth c H locs cells slots Q (F0 m (pc + 3) ls (.int r :: rest))) : W p l e R s m args below meth c H locs cells slots Q (F0 m pc ls st0) := by
  subst hst
  subst hq
  exact x_csi (va_runV (As := As) (rest := rest) ⟨hx, hb, hml, hown, hts⟩ hM (cwV n hts (gdV h1 h2 h3 h4 h5) rfl hR.1 hR.2.1 hd ⟨hR.2.2.1, hR.2.2.2⟩) ⟨PreR.blind, va_recv hE.1 hP (ci := ci) (q0 := 0) hci hw0, fun U hU hW => ⟨rfl, by rw [hU]; exact hP, hE.warm hW⟩⟩ rfl hn hsize rfl (lv_room hW) hdg ⟨hcs.1, hcs.2⟩) (fun r' hr' => by rw [hr']; exact kk)
theorem x_rdS (hx : p.tables.exec = Jvm.exec) (hb : c.code = cc) (hml : c.maxLocals = nL) (hown : s.vm.findClass own = some m.cls) (hts : ∀ w ∈ wsL_law, w.before args s = true) (hE : EnvO G cI cZ cO s) (hM : RtI l y cy mL ty rm G cI cZ cO As wc r)
    (h1 : Cond.methodLink own idx y ∈ wsL_law) (h2 : Cond.static y ∈ wsL_law) (h4 : Cond.initialized y.cls ∈ wsL_law) (h5 : Cond.code y cy mL (some ty) ∈ wsL_law)
    (hd : y.cls ≠ "java/lang/invoke/MethodHandle" ∧ y.cls ≠ "java/lang/invoke/VarHandle" ∧ (parseMethodDescriptor y.desc).map (fun d => d.parameters.length) = some n) (hn : As.length = n) (hR : rm.cells = 0 ∧ rm.slots = 0 ∧ rm.frames + 1 ≤ R.frames ∧ 8 + (mL + 11) + rm.locals ≤ R.locals)
    (hP : va_P G vwCl wc H) (hst : st0 = As.reverse ++ rest) (hsize : ls.size = nL) (hW : (rest.map fun v => v.category).sum ≤ 8) (hcs : cells ≤ R.cells ∧ slots ≤ R.slots) (hdg : decode cc pc = .ok (.invokestatic idx, 3))
    (kk : W p l e R s m args below meth c H locs cells slots Q (F0 m (pc + 3) ls (.int r :: rest))) : W p l e R s m args below meth c H locs cells slots Q (F0 m pc ls st0) := by
  subst hst
  exact x_csi (va_runS (As := As) (rest := rest) ⟨hx, hb, hml, hown, hts⟩ hM (va_cwS n hts (gdS h1 h2 h4 h5) rfl hR.1 hR.2.1 hd ⟨hR.2.2.1, hR.2.2.2⟩) ⟨PreR.blind, fun U hU hW => ⟨rfl, by rw [hU]; exact hP, hE.warm hW⟩⟩ rfl hn hsize rfl (lv_room hW) hdg ⟨hcs.1, hcs.2⟩) (fun r' hr' => by rw [hr']; exact kk)
theorem x_rdSL {r : Int64} (hx : p.tables.exec = Jvm.exec) (hb : c.code = cc) (hml : c.maxLocals = nL) (hown : s.vm.findClass own = some m.cls) (hts : ∀ w ∈ wsL_law, w.before args s = true) (hE : EnvO G cI cZ cO s) (hM : RtL l y cy mL rm G cI cZ cO As wc r)
    (h1 : Cond.methodLink own idx y ∈ wsL_law) (h2 : Cond.static y ∈ wsL_law) (h4 : Cond.initialized y.cls ∈ wsL_law) (h5 : Cond.code y cy mL (some .long) ∈ wsL_law)
    (hd : y.cls ≠ "java/lang/invoke/MethodHandle" ∧ y.cls ≠ "java/lang/invoke/VarHandle" ∧ (parseMethodDescriptor y.desc).map (fun d => d.parameters.length) = some n) (hn : As.length = n) (hR : rm.cells = 0 ∧ rm.slots = 0 ∧ rm.frames + 1 ≤ R.frames ∧ 8 + (mL + 11) + rm.locals ≤ R.locals)
    (hP : va_P G vwCl wc H) (hst : st0 = As.reverse ++ rest) (hsize : ls.size = nL) (hW : (rest.map fun v => v.category).sum ≤ 8) (hcs : cells ≤ R.cells ∧ slots ≤ R.slots) (hdg : decode cc pc = .ok (.invokestatic idx, 3))
    (kk : W p l e R s m args below meth c H locs cells slots Q (F0 m (pc + 3) ls (.long r :: rest))) : W p l e R s m args below meth c H locs cells slots Q (F0 m pc ls st0) := by
  subst hst
  exact x_csl (va_runS (As := As) (rest := rest) ⟨hx, hb, hml, hown, hts⟩ hM (va_cwS n hts (gdS h1 h2 h4 h5) rfl hR.1 hR.2.1 hd ⟨hR.2.2.1, hR.2.2.2⟩) ⟨PreR.blind, fun U hU hW => ⟨rfl, by rw [hU]; exact hP, hE.warm hW⟩⟩ rfl hn hsize rfl (lv_room hW) hdg ⟨hcs.1, hcs.2⟩) (fun r' hr' => by rw [hr']; exact kk)
theorem x_rdN (hx : p.tables.exec = Jvm.exec) (hb : c.code = cc) (hml : c.maxLocals = nL) (hown : s.vm.findClass own = some m.cls) (hts : ∀ w ∈ wsL_law, w.before args s = true) (hE : EnvO G cI cZ cO s) (hM : RtI l y cy mL ty rm G cI cZ cO As wc r)
    (h1 : (own, idx, y) ∈ nsL) (h2 : Cond.static y ∈ wsL_law) (h4 : Cond.initialized y.cls ∈ wsL_law) (h5 : Cond.code y cy mL (some ty) ∈ wsL_law)
    (hd : y.cls ≠ "java/lang/invoke/MethodHandle" ∧ y.cls ≠ "java/lang/invoke/VarHandle" ∧ (parseMethodDescriptor y.desc).map (fun d => d.parameters.length) = some n) (hn : As.length = n) (hR : rm.cells = 0 ∧ rm.slots = 0 ∧ rm.frames + 1 ≤ R.frames ∧ 8 + (mL + 11) + rm.locals ≤ R.locals)
    (hP : va_P G vwCl wc H) (hst : st0 = As.reverse ++ rest) (hsize : ls.size = nL) (hW : (rest.map fun v => v.category).sum ≤ 8) (hcs : cells ≤ R.cells ∧ slots ≤ R.slots) (hdg : decode cc pc = .ok (.invokestatic idx, 3))
    (kk : W p l e R s m args below meth c H locs cells slots Q (F0 m (pc + 3) ls (.int r :: rest))) : W p l e R s m args below meth c H locs cells slots Q (F0 m pc ls st0) := by
  subst hst
  exact x_csi (va_runSN (As := As) (rest := rest) ⟨hx, hb, hml, hown, hts⟩ hM ⟨va_cnB n hts (gdW h5) rfl hR.1 hR.2.1 (hE.2 _ h1) (hts _ h4) hd ⟨hR.2.2.1, hR.2.2.2⟩, hts _ h2, trivial⟩ ⟨PreR.blind, fun U hU hW => ⟨rfl, by rw [hU]; exact hP, hE.warm hW⟩⟩ rfl hn hsize rfl (lv_room hW) hdg ⟨hcs.1, hcs.2⟩) (fun r' hr' => by rw [hr']; exact kk)
theorem x_cut {ws wc : va_W} (hP : va_P G vwCl ws H) (isC : List Nat) (hC : isC.map (fun i => ws[i]?) = wc.map some) : va_P G vwCl wc H := by
  intro k q hk
  have h : (isC.map (fun i => ws[i]?))[k]? = some (some q) := by rw [hC, List.getElem?_map, hk]; rfl
  rw [List.getElem?_map] at h
  cases hi : isC[k]? with
  | none => rw [hi] at h; cases h
  | some i => rw [hi] at h; exact hP i q (by simpa using h)
/-- behind a writing call: the world with the callee's cells changed -/
theorem x_after {ws ws1 wc w1 : va_W} {H1 : Heap} (hP : va_P G vwCl ws H) (hD : va_D A ws) (isC isR : List Nat) (hC : isC.map (fun i => ws[i]?) = wc.map some) (h1 : isC.map (fun i => ws1[i]?) = w1.map some) (hR : isR.map (fun i => ws1[i]?) = isR.map (fun i => ws[i]?)) (hall : (List.range ws.length).all (fun i => isC.contains i || (isR.contains i && !isC.contains i)) = true) (hlen : ws1.length = ws.length) (hfst : ws1.map Prod.fst = ws.map Prod.fst)
    (hk : ∀ q : Nat, q < H.size → ¬ va_A wc H.size q → H1[q]? = H[q]?) (hP1 : va_P G vwCl w1 H1) : va_P G vwCl ws1 H1 ∧ va_D A ws1 := by
  have fst : ∀ (i : Nat) (q : Nat × va_E), ws1[i]? = some q → ∃ e', ws[i]? = some (q.1, e') := by
    intro i q h
    have h2 : (ws1.map Prod.fst)[i]? = some q.1 := by rw [List.getElem?_map, h]; rfl
    rw [hfst, List.getElem?_map] at h2
    cases h3 : ws[i]? with
    | none => rw [h3] at h2; cases h2
    | some q2 =>
      rw [h3] at h2
      have h4 : q2.1 = q.1 := Option.some.inj h2
      exact ⟨q2.2, by rw [← h4]⟩
  refine ⟨fun i q h => ?_, ⟨fun i j x z hi hj hxz => ?_, fun k q h => ?_⟩⟩
  · have hi : i < ws1.length := (List.getElem?_eq_some_iff.mp h).1
    have ha := List.all_eq_true.mp hall i (List.mem_range.mpr (hlen ▸ hi))
    simp only [Bool.or_eq_true, Bool.and_eq_true, List.contains_iff_mem, Bool.not_eq_true', Bool.eq_false_iff, ne_eq] at ha
    rcases ha with ha | ⟨ha, hna⟩
    · obtain ⟨k, hk1, hk2⟩ := List.getElem_of_mem ha
      have h3 : (isC.map (fun i => ws1[i]?))[k]? = some (some q) := by
        rw [List.getElem?_map, List.getElem?_eq_getElem hk1, hk2]
        simp [h]
      rw [h1, List.getElem?_map] at h3
      cases h4 : w1[k]? with
      | none => rw [h4] at h3; cases h3
      | some q2 =>
        rw [h4] at h3
        have h5 : q2 = q := by simpa using h3
        rw [h5] at h4
        exact hP1 k q h4
    · obtain ⟨k, hk1, hk2⟩ := List.getElem_of_mem ha
      have h3 : (isR.map (fun i => ws1[i]?))[k]? = some (some q) := by
        rw [List.getElem?_map, List.getElem?_eq_getElem hk1, hk2]
        simp [h]
      rw [hR, List.getElem?_map, List.getElem?_eq_getElem hk1, hk2] at h3
      have h4 : ws[i]? = some q := by simpa using h3
      have hlt := (hP i q h4).lt
      refine (hP i q h4).kept (hk q.1 hlt ?_)
      rintro (⟨k2, e2, h5⟩ | h5)
      · have h6 : (isC.map (fun i => ws[i]?))[k2]? = some (some (q.1, e2)) := by rw [hC, List.getElem?_map, h5]; rfl
        rw [List.getElem?_map] at h6
        cases h7 : isC[k2]? with
        | none => rw [h7] at h6; cases h6
        | some j =>
          rw [h7] at h6
          have h8 : ws[j]? = some (q.1, e2) := by simpa using h6
          have h9 := hD.1 i j q (q.1, e2) h4 h8 rfl
          subst h9
          exact hna (List.mem_of_getElem? h7)
      · omega
  · obtain ⟨e1, h1'⟩ := fst i x hi
    obtain ⟨e2, h2'⟩ := fst j z hj
    exact hD.1 i j _ _ h1' h2' hxz
  · obtain ⟨e1, h1'⟩ := fst k q h
    exact hD.2 k (q.1, e1) h1'
theorem x_wrV {ws ws1 w1 : va_W} (hx : p.tables.exec = Jvm.exec) (hb : c.code = cc) (hml : c.maxLocals = nL) (hown : s.vm.findClass own = some m.cls) (hts : ∀ w ∈ wsL_law, w.before args s = true) (hE : EnvO G cI cZ cO s) (hM : CtI l y cy mL ty rm G cI cZ cO (.ref b :: As) wc w1 r)
    (h1 : Cond.methodLink own idx y ∈ wsL_law) (h2 : Cond.instanceMethod y ∈ wsL_law) (h3 : Cond.selects C y y ∈ wsL_law) (h4 : Cond.initialized C ∈ wsL_law) (h5 : Cond.code y cy mL (some ty) ∈ wsL_law)
    (hd : y.cls = C ∧ y.cls ≠ "java/lang/invoke/MethodHandle" ∧ y.cls ≠ "java/lang/invoke/VarHandle" ∧ (parseMethodDescriptor y.desc).map (fun d => d.parameters.length) = some n) (hn : As.length = n) (hR : rm.cells = 0 ∧ rm.slots = 0 ∧ rm.frames + 1 ≤ R.frames ∧ 8 + (mL + 11) + rm.locals ≤ R.locals)
    (hP : va_P G vwCl ws H) (hD : va_D A ws) (hS : va_S A s.heap H locs) (hA : ∀ q : Nat, s.heap.size ≤ q → A q) (isC isR : List Nat) (hnd : va_nd isC = true) (hC : isC.map (fun i => ws[i]?) = wc.map some) (hC1 : isC.map (fun i => ws1[i]?) = w1.map some) (hRs : isR.map (fun i => ws1[i]?) = isR.map (fun i => ws[i]?)) (hall : (List.range ws.length).all (fun i => isC.contains i || (isR.contains i && !isC.contains i)) = true) (hlen : ws1.length = ws.length) (hfst : ws1.map Prod.fst = ws.map Prod.fst)
    (hw0 : wc[0]? = some (b, .inr (ci, fs))) (hci : vwCl[ci]? = some q) (hq : q.1 = C) (hst : st0 = As.reverse ++ .ref b :: rest) (hsize : ls.size = nL) (hW : (rest.map fun v => v.category).sum ≤ 8) (hcs : cells ≤ R.cells ∧ slots ≤ R.slots) (hdg : decode cc pc = .ok (.invokevirtual idx, 3))
    (kk : ∀ (H1 : Heap) (locs1 : List Loc), va_P G vwCl ws1 H1 → va_D A ws1 → va_S A s.heap H1 locs1 → W p l e R s m args below meth c H1 locs1 cells slots Q (F0 m (pc + 3) ls (.int r :: rest))) : W p l e R s m args below meth c H locs cells slots Q (F0 m pc ls st0) := by
  subst hst
  subst hq
  have hPc : va_P G vwCl wc H := x_cut hP isC hC
  have hDc := hD.sub (ws' := wc) isC hnd hC
  have hFc := va_free (wc := wc) hD hS hA isC hC
  refine va_calli (va_runV (As := As) (rest := rest) ⟨hx, hb, hml, hown, hts⟩ (hM H.size) (cwV n hts (gdV h1 h2 h3 h4 h5) rfl hR.1 hR.2.1 hd ⟨hR.2.2.1, hR.2.2.2⟩) ⟨PreW.blind, va_recv hE.1 hPc (ci := ci) (q0 := 0) hci hw0, fun U hU hW => ⟨rfl, by rw [hU], by rw [hU]; exact hPc, hE.warm hW, hDc.weaken (fun _ _ _ _ => trivial)⟩⟩ rfl hn hsize rfl (lv_room hW) hdg ⟨hcs.1, hcs.2⟩) hS (fun q _ h => hFc q h) hFc (fun r' u t H1 locs1 ht hvm hw hB hz1 hk1 hS => ?_)
  have hP1 : va_P G vwCl w1 t.heap := hB
  rw [ht] at hP1
  obtain ⟨hP2, hD2⟩ := x_after hP hD isC isR hC hC1 hRs hall hlen hfst hk1 hP1
  rw [hw]
  exact kk H1 locs1 hP2 hD2 hS
theorem x_wrVv {ws ws1 w1 : va_W} (hx : p.tables.exec = Jvm.exec) (hb : c.code = cc) (hml : c.maxLocals = nL) (hown : s.vm.findClass own = some m.cls) (hts : ∀ w ∈ wsL_law, w.before args s = true) (hE : EnvO G cI cZ cO s) (hM : CtV l y cy mL rm G cI cZ cO (.ref b :: As) wc w1)
    (h1 : Cond.methodLink own idx y ∈ wsL_law) (h2 : Cond.instanceMethod y ∈ wsL_law) (h3 : Cond.selects C y y ∈ wsL_law) (h4 : Cond.initialized C ∈ wsL_law) (h5 : Cond.code y cy mL none ∈ wsL_law)
    (hd : y.cls = C ∧ y.cls ≠ "java/lang/invoke/MethodHandle" ∧ y.cls ≠ "java/lang/invoke/VarHandle" ∧ (parseMethodDescriptor y.desc).map (fun d => d.parameters.length) = some n) (hn : As.length = n) (hR : rm.cells = 0 ∧ rm.slots = 0 ∧ rm.frames + 1 ≤ R.frames ∧ 8 + (mL + 11) + rm.locals ≤ R.locals)
    (hP : va_P G vwCl ws H) (hD : va_D A ws) (hS : va_S A s.heap H locs) (hA : ∀ q : Nat, s.heap.size ≤ q → A q) (isC isR : List Nat) (hnd : va_nd isC = true) (hC : isC.map (fun i => ws[i]?) = wc.map some) (hC1 : isC.map (fun i => ws1[i]?) = w1.map some) (hRs : isR.map (fun i => ws1[i]?) = isR.map (fun i => ws[i]?)) (hall : (List.range ws.length).all (fun i => isC.contains i || (isR.contains i && !isC.contains i)) = true) (hlen : ws1.length = ws.length) (hfst : ws1.map Prod.fst = ws.map Prod.fst)
    (hw0 : wc[0]? = some (b, .inr (ci, fs))) (hci : vwCl[ci]? = some q) (hq : q.1 = C) (hst : st0 = As.reverse ++ .ref b :: rest) (hsize : ls.size = nL) (hW : (rest.map fun v => v.category).sum ≤ 8) (hcs : cells ≤ R.cells ∧ slots ≤ R.slots) (hdg : decode cc pc = .ok (.invokevirtual idx, 3))
    (kk : ∀ (H1 : Heap) (locs1 : List Loc), va_P G vwCl ws1 H1 → va_D A ws1 → va_S A s.heap H1 locs1 → W p l e R s m args below meth c H1 locs1 cells slots Q (F0 m (pc + 3) ls rest)) : W p l e R s m args below meth c H locs cells slots Q (F0 m pc ls st0) := by
  subst hst
  subst hq
  have hPc : va_P G vwCl wc H := x_cut hP isC hC
  have hDc := hD.sub (ws' := wc) isC hnd hC
  have hFc := va_free (wc := wc) hD hS hA isC hC
  refine va_callv (va_runV (As := As) (rest := rest) ⟨hx, hb, hml, hown, hts⟩ (hM H.size) (cwV n hts (gdV h1 h2 h3 h4 h5) rfl hR.1 hR.2.1 hd ⟨hR.2.2.1, hR.2.2.2⟩) ⟨PreW.blind, va_recv hE.1 hPc (ci := ci) (q0 := 0) hci hw0, fun U hU hW => ⟨rfl, by rw [hU], by rw [hU]; exact hPc, hE.warm hW, hDc.weaken (fun _ _ _ _ => trivial)⟩⟩ rfl hn hsize rfl (lv_room hW) hdg ⟨hcs.1, hcs.2⟩) hS (fun q _ h => hFc q h) hFc (fun u t H1 locs1 ht hvm hw hB hz1 hk1 hS => ?_)
  have hP1 : va_P G vwCl w1 t.heap := hB
  rw [ht] at hP1
  obtain ⟨hP2, hD2⟩ := x_after hP hD isC isR hC hC1 hRs hall hlen hfst hk1 hP1
  exact kk H1 locs1 hP2 hD2 hS
theorem x_wrVL {r : Int64} {ws ws1 w1 : va_W} (hx : p.tables.exec = Jvm.exec) (hb : c.code = cc) (hml : c.maxLocals = nL) (hown : s.vm.findClass own = some m.cls) (hts : ∀ w ∈ wsL_law, w.before args s = true) (hE : EnvO G cI cZ cO s) (hM : CtL l y cy mL rm G cI cZ cO (.ref b :: As) wc w1 r)
    (h1 : Cond.methodLink own idx y ∈ wsL_law) (h2 : Cond.instanceMethod y ∈ wsL_law) (h3 : Cond.selects C y y ∈ wsL_law) (h4 : Cond.initialized C ∈ wsL_law) (h5 : Cond.code y cy mL (some .long) ∈ wsL_law)
    (hd : y.cls = C ∧ y.cls ≠ "java/lang/invoke/MethodHandle" ∧ y.cls ≠ "java/lang/invoke/VarHandle" ∧ (parseMethodDescriptor y.desc).map (fun d => d.parameters.length) = some n) (hn : As.length = n) (hR : rm.cells = 0 ∧ rm.slots = 0 ∧ rm.frames + 1 ≤ R.frames ∧ 8 + (mL + 11) + rm.locals ≤ R.locals)
    (hP : va_P G vwCl ws H) (hD : va_D A ws) (hS : va_S A s.heap H locs) (hA : ∀ q : Nat, s.heap.size ≤ q → A q) (isC isR : List Nat) (hnd : va_nd isC = true) (hC : isC.map (fun i => ws[i]?) = wc.map some) (hC1 : isC.map (fun i => ws1[i]?) = w1.map some) (hRs : isR.map (fun i => ws1[i]?) = isR.map (fun i => ws[i]?)) (hall : (List.range ws.length).all (fun i => isC.contains i || (isR.contains i && !isC.contains i)) = true) (hlen : ws1.length = ws.length) (hfst : ws1.map Prod.fst = ws.map Prod.fst)
    (hw0 : wc[0]? = some (b, .inr (ci, fs))) (hci : vwCl[ci]? = some q) (hq : q.1 = C) (hst : st0 = As.reverse ++ .ref b :: rest) (hsize : ls.size = nL) (hW : (rest.map fun v => v.category).sum ≤ 8) (hcs : cells ≤ R.cells ∧ slots ≤ R.slots) (hdg : decode cc pc = .ok (.invokevirtual idx, 3))
    (kk : ∀ (H1 : Heap) (locs1 : List Loc), va_P G vwCl ws1 H1 → va_D A ws1 → va_S A s.heap H1 locs1 → W p l e R s m args below meth c H1 locs1 cells slots Q (F0 m (pc + 3) ls (.long r :: rest))) : W p l e R s m args below meth c H locs cells slots Q (F0 m pc ls st0) := by
  subst hst
  subst hq
  have hPc : va_P G vwCl wc H := x_cut hP isC hC
  have hDc := hD.sub (ws' := wc) isC hnd hC
  have hFc := va_free (wc := wc) hD hS hA isC hC
  refine va_calll (va_runV (As := As) (rest := rest) ⟨hx, hb, hml, hown, hts⟩ (hM H.size) (cwV n hts (gdV h1 h2 h3 h4 h5) rfl hR.1 hR.2.1 hd ⟨hR.2.2.1, hR.2.2.2⟩) ⟨PreW.blind, va_recv hE.1 hPc (ci := ci) (q0 := 0) hci hw0, fun U hU hW => ⟨rfl, by rw [hU], by rw [hU]; exact hPc, hE.warm hW, hDc.weaken (fun _ _ _ _ => trivial)⟩⟩ rfl hn hsize rfl (lv_room hW) hdg ⟨hcs.1, hcs.2⟩) hS (fun q _ h => hFc q h) hFc (fun r' u t H1 locs1 ht hvm hw hB hz1 hk1 hS => ?_)
  have hP1 : va_P G vwCl w1 t.heap := hB
  rw [ht] at hP1
  obtain ⟨hP2, hD2⟩ := x_after hP hD isC isR hC hC1 hRs hall hlen hfst hk1 hP1
  rw [hw]
  exact kk H1 locs1 hP2 hD2 hS
end XR
end
section
def wX0 (q : Nat → Nat) (cI cZ cO : ClassId) (I : Nat → Int32) (A : Nat → Nat → Int32) : va_W := [(q 0, .inr (0, [.ref (q 1), .int (I 0), .int (I 1)])), (q 1, .inl (cO, 14, .inr (.inr (.inr (.inr (fun j => some (q (2 + 4 * j)))))))), (q 2, .inr (4, [.ref (q 3), .ref (q 4), .ref (q 5), .int (I 2)])), (q 3, .inl (cI, 5, .inl (A 0))), (q 4, .inl (cI, 5, .inl (A 1))), (q 5, .inl (cI, 20, .inl (A 2))), (q 6, .inr (4, [.ref (q 7), .ref (q 8), .ref (q 9), .int (I 3)])), (q 7, .inl (cI, 5, .inl (A 3))), (q 8, .inl (cI, 5, .inl (A 4))), (q 9, .inl (cI, 20, .inl (A 5))), (q 10, .inr (4, [.ref (q 11), .ref (q 12), .ref (q 13), .int (I 4)])), (q 11, .inl (cI, 5, .inl (A 6))), (q 12, .inl (cI, 5, .inl (A 7))), (q 13, .inl (cI, 20, .inl (A 8))), (q 14, .inr (4, [.ref (q 15), .ref (q 16), .ref (q 17), .int (I 5)])), (q 15, .inl (cI, 5, .inl (A 9))), (q 16, .inl (cI, 5, .inl (A 10))), (q 17, .inl (cI, 20, .inl (A 11))), (q 18, .inr (4, [.ref (q 19), .ref (q 20), .ref (q 21), .int (I 6)])), (q 19, .inl (cI, 5, .inl (A 12))), (q 20, .inl (cI, 5, .inl (A 13))), (q 21, .inl (cI, 20, .inl (A 14))), (q 22, .inr (4, [.ref (q 23), .ref (q 24), .ref (q 25), .int (I 7)])), (q 23, .inl (cI, 5, .inl (A 15))), (q 24, .inl (cI, 5, .inl (A 16))), (q 25, .inl (cI, 20, .inl (A 17))), (q 26, .inr (4, [.ref (q 27), .ref (q 28), .ref (q 29), .int (I 8)])), (q 27, .inl (cI, 5, .inl (A 18))), (q 28, .inl (cI, 5, .inl (A 19))), (q 29, .inl (cI, 20, .inl (A 20))), (q 30, .inr (4, [.ref (q 31), .ref (q 32), .ref (q 33), .int (I 9)])), (q 31, .inl (cI, 5, .inl (A 21))), (q 32, .inl (cI, 5, .inl (A 22))), (q 33, .inl (cI, 20, .inl (A 23))), (q 34, .inr (4, [.ref (q 35), .ref (q 36), .ref (q 37), .int (I 10)])), (q 35, .inl (cI, 5, .inl (A 24))), (q 36, .inl (cI, 5, .inl (A 25))), (q 37, .inl (cI, 20, .inl (A 26))), (q 38, .inr (4, [.ref (q 39), .ref (q 40), .ref (q 41), .int (I 11)])), (q 39, .inl (cI, 5, .inl (A 27))), (q 40, .inl (cI, 5, .inl (A 28))), (q 41, .inl (cI, 20, .inl (A 29))), (q 42, .inr (4, [.ref (q 43), .ref (q 44), .ref (q 45), .int (I 12)])), (q 43, .inl (cI, 5, .inl (A 30))), (q 44, .inl (cI, 5, .inl (A 31))), (q 45, .inl (cI, 20, .inl (A 32))), (q 46, .inr (4, [.ref (q 47), .ref (q 48), .ref (q 49), .int (I 13)])), (q 47, .inl (cI, 5, .inl (A 33))), (q 48, .inl (cI, 5, .inl (A 34))), (q 49, .inl (cI, 20, .inl (A 35))), (q 50, .inr (4, [.ref (q 51), .ref (q 52), .ref (q 53), .int (I 14)])), (q 51, .inl (cI, 5, .inl (A 36))), (q 52, .inl (cI, 5, .inl (A 37))), (q 53, .inl (cI, 20, .inl (A 38))), (q 54, .inr (4, [.ref (q 55), .ref (q 56), .ref (q 57), .int (I 15)])), (q 55, .inl (cI, 5, .inl (A 39))), (q 56, .inl (cI, 5, .inl (A 40))), (q 57, .inl (cI, 20, .inl (A 41)))]
def wX1 (q : Nat → Nat) (cI cZ cO : ClassId) (I : Nat → Int32) (A : Nat → Nat → Int32) : va_W := [(q 0, .inr (1, [.int (I 0), .int (I 1)]))]
def wX2 (q : Nat → Nat) (cI cZ cO : ClassId) (I : Nat → Int32) (A : Nat → Nat → Int32) : va_W := [(q 0, .inr (2, [.ref (q 1), .ref (q 2), .ref (q 3), .ref (q 4), .int (I 0)])), (q 1, .inl (cI, 6, .inl (A 0))), (q 2, .inl (cI, 6, .inl (A 1))), (q 3, .inl (cI, 6, .inl (A 2))), (q 4, .inl (cZ, 6, .inl (A 3)))]
def wX3 (q : Nat → Nat) (cI cZ cO : ClassId) (I : Nat → Int32) (A : Nat → Nat → Int32) : va_W := [(q 0, .inr (3, [.ref (q 1), .int (I 0), .int (I 1), .int (I 2), .int (I 3), .int (I 4)])), (q 1, .inl (cI, 48, .inl (A 0)))]
def wX4 (q : Nat → Nat) (cI cZ cO : ClassId) (I : Nat → Int32) (A : Nat → Nat → Int32) : va_W := [(q 0, .inr (4, [.ref (q 1), .ref (q 2), .ref (q 3), .int (I 0)])), (q 1, .inl (cI, 5, .inl (A 0))), (q 2, .inl (cI, 5, .inl (A 1))), (q 3, .inl (cI, 20, .inl (A 2)))]
def wX5 (q : Nat → Nat) (cI cZ cO : ClassId) (I : Nat → Int32) (A : Nat → Nat → Int32) : va_W := [(q 0, .inr (5, [.ref (q 1), .ref (q 2), .ref (q 3), .ref (q 4), .ref (q 5), .ref (q 6), .int (I 0), .int (I 1)])), (q 1, .inl (cI, 5, .inl (A 0))), (q 2, .inl (cZ, 5, .inl (A 1))), (q 3, .inl (cI, 5, .inl (A 2))), (q 4, .inl (cI, 5, .inl (A 3))), (q 5, .inl (cI, 5, .inl (A 4))), (q 6, .inl (cI, 4, .inl (A 5)))]
def wX6 (q : Nat → Nat) (cI cZ cO : ClassId) (I : Nat → Int32) (A : Nat → Nat → Int32) (L : Int64) : va_W := [(q 0, .inr (6, [.ref (q 1), .ref (q 3), .ref (q 10), .ref (q 17), .ref (q 21), .ref (q 25), .ref (q 83), .ref (q 88), .ref (q 97), .ref (q 98), .ref (q 99), .ref (q 100), .ref (q 101), .ref (q 102), .long L])), (q 1, .inr (3, [.ref (q 2), .int (I 0), .int (I 1), .int (I 2), .int (I 3), .int (I 4)])), (q 2, .inl (cI, 48, .inl (A 0))), (q 3, .inr (5, [.ref (q 4), .ref (q 5), .ref (q 6), .ref (q 7), .ref (q 8), .ref (q 9), .int (I 5), .int (I 6)])), (q 4, .inl (cI, 5, .inl (A 1))), (q 5, .inl (cZ, 5, .inl (A 2))), (q 6, .inl (cI, 5, .inl (A 3))), (q 7, .inl (cI, 5, .inl (A 4))), (q 8, .inl (cI, 5, .inl (A 5))), (q 9, .inl (cI, 4, .inl (A 6))), (q 10, .inr (5, [.ref (q 11), .ref (q 12), .ref (q 13), .ref (q 14), .ref (q 15), .ref (q 16), .int (I 7), .int (I 8)])), (q 11, .inl (cI, 5, .inl (A 7))), (q 12, .inl (cZ, 5, .inl (A 8))), (q 13, .inl (cI, 5, .inl (A 9))), (q 14, .inl (cI, 5, .inl (A 10))), (q 15, .inl (cI, 5, .inl (A 11))), (q 16, .inl (cI, 4, .inl (A 12))), (q 17, .inr (4, [.ref (q 18), .ref (q 19), .ref (q 20), .int (I 9)])), (q 18, .inl (cI, 5, .inl (A 13))), (q 19, .inl (cI, 5, .inl (A 14))), (q 20, .inl (cI, 20, .inl (A 15))), (q 21, .inr (4, [.ref (q 22), .ref (q 23), .ref (q 24), .int (I 10)])), (q 22, .inl (cI, 5, .inl (A 16))), (q 23, .inl (cI, 5, .inl (A 17))), (q 24, .inl (cI, 20, .inl (A 18))), (q 25, .inr (0, [.ref (q 26), .int (I 11), .int (I 12)])), (q 26, .inl (cO, 14, .inr (.inr (.inr (.inr (fun j => some (q (27 + 4 * j)))))))), (q 27, .inr (4, [.ref (q 28), .ref (q 29), .ref (q 30), .int (I 13)])), (q 28, .inl (cI, 5, .inl (A 19))), (q 29, .inl (cI, 5, .inl (A 20))), (q 30, .inl (cI, 20, .inl (A 21))), (q 31, .inr (4, [.ref (q 32), .ref (q 33), .ref (q 34), .int (I 14)])), (q 32, .inl (cI, 5, .inl (A 22))), (q 33, .inl (cI, 5, .inl (A 23))), (q 34, .inl (cI, 20, .inl (A 24))), (q 35, .inr (4, [.ref (q 36), .ref (q 37), .ref (q 38), .int (I 15)])), (q 36, .inl (cI, 5, .inl (A 25))), (q 37, .inl (cI, 5, .inl (A 26))), (q 38, .inl (cI, 20, .inl (A 27))), (q 39, .inr (4, [.ref (q 40), .ref (q 41), .ref (q 42), .int (I 16)])), (q 40, .inl (cI, 5, .inl (A 28))), (q 41, .inl (cI, 5, .inl (A 29))), (q 42, .inl (cI, 20, .inl (A 30))), (q 43, .inr (4, [.ref (q 44), .ref (q 45), .ref (q 46), .int (I 17)])), (q 44, .inl (cI, 5, .inl (A 31))), (q 45, .inl (cI, 5, .inl (A 32))), (q 46, .inl (cI, 20, .inl (A 33))), (q 47, .inr (4, [.ref (q 48), .ref (q 49), .ref (q 50), .int (I 18)])), (q 48, .inl (cI, 5, .inl (A 34))), (q 49, .inl (cI, 5, .inl (A 35))), (q 50, .inl (cI, 20, .inl (A 36))), (q 51, .inr (4, [.ref (q 52), .ref (q 53), .ref (q 54), .int (I 19)])), (q 52, .inl (cI, 5, .inl (A 37))), (q 53, .inl (cI, 5, .inl (A 38))), (q 54, .inl (cI, 20, .inl (A 39))), (q 55, .inr (4, [.ref (q 56), .ref (q 57), .ref (q 58), .int (I 20)])), (q 56, .inl (cI, 5, .inl (A 40))), (q 57, .inl (cI, 5, .inl (A 41))), (q 58, .inl (cI, 20, .inl (A 42))), (q 59, .inr (4, [.ref (q 60), .ref (q 61), .ref (q 62), .int (I 21)])), (q 60, .inl (cI, 5, .inl (A 43))), (q 61, .inl (cI, 5, .inl (A 44))), (q 62, .inl (cI, 20, .inl (A 45))), (q 63, .inr (4, [.ref (q 64), .ref (q 65), .ref (q 66), .int (I 22)])), (q 64, .inl (cI, 5, .inl (A 46))), (q 65, .inl (cI, 5, .inl (A 47))), (q 66, .inl (cI, 20, .inl (A 48))), (q 67, .inr (4, [.ref (q 68), .ref (q 69), .ref (q 70), .int (I 23)])), (q 68, .inl (cI, 5, .inl (A 49))), (q 69, .inl (cI, 5, .inl (A 50))), (q 70, .inl (cI, 20, .inl (A 51))), (q 71, .inr (4, [.ref (q 72), .ref (q 73), .ref (q 74), .int (I 24)])), (q 72, .inl (cI, 5, .inl (A 52))), (q 73, .inl (cI, 5, .inl (A 53))), (q 74, .inl (cI, 20, .inl (A 54))), (q 75, .inr (4, [.ref (q 76), .ref (q 77), .ref (q 78), .int (I 25)])), (q 76, .inl (cI, 5, .inl (A 55))), (q 77, .inl (cI, 5, .inl (A 56))), (q 78, .inl (cI, 20, .inl (A 57))), (q 79, .inr (4, [.ref (q 80), .ref (q 81), .ref (q 82), .int (I 26)])), (q 80, .inl (cI, 5, .inl (A 58))), (q 81, .inl (cI, 5, .inl (A 59))), (q 82, .inl (cI, 20, .inl (A 60))), (q 83, .inr (2, [.ref (q 84), .ref (q 85), .ref (q 86), .ref (q 87), .int (I 27)])), (q 84, .inl (cI, 6, .inl (A 61))), (q 85, .inl (cI, 6, .inl (A 62))), (q 86, .inl (cI, 6, .inl (A 63))), (q 87, .inl (cZ, 6, .inl (A 64))), (q 88, .inl (cO, 2, .inr (.inr (.inr (.inr (fun j => some (q (89 + 4 * j)))))))), (q 89, .inr (4, [.ref (q 90), .ref (q 91), .ref (q 92), .int (I 28)])), (q 90, .inl (cI, 5, .inl (A 65))), (q 91, .inl (cI, 5, .inl (A 66))), (q 92, .inl (cI, 20, .inl (A 67))), (q 93, .inr (4, [.ref (q 94), .ref (q 95), .ref (q 96), .int (I 29)])), (q 94, .inl (cI, 5, .inl (A 68))), (q 95, .inl (cI, 5, .inl (A 69))), (q 96, .inl (cI, 20, .inl (A 70))), (q 97, .inl (cZ, 2, .inl (A 71))), (q 98, .inr (1, [.int (I 30), .int (I 31)])), (q 99, .inl (cI, 30, .inl (A 72))), (q 100, .inl (cI, 4, .inl (A 73))), (q 101, .inl (cI, 36, .inl (A 74))), (q 102, .inl (cI, 36, .inl (A 75)))]
def wX7 (q : Nat → Nat) (cI cZ cO : ClassId) (I : Nat → Int32) (A : Nat → Nat → Int32) (L : Int64) : va_W := [(q 0, .inr (7, [.int (I 0), .int (I 1), .ref (q 1), .ref (q 2), .ref (q 3), .ref (q 4), .ref (q 5), .ref (q 6), .ref (q 7), .ref (q 8), .ref (q 9), .ref (q 10), .ref (q 11), .ref (q 12), .int (I 2), .int (I 3), .ref (q 13), .int (I 4), .int (I 5), .int (I 6), .int (I 7), .int (I 8), .ref (q 14), .int (I 9), .ref (q 15), .ref (q 16), .ref (q 17), .ref (q 18), .ref (q 19), .ref (q 20), .long L, .ref (q 21), .ref (q 22)])), (q 1, .inl (cI, 5, .inl (A 0))), (q 2, .inl (cI, 5, .inl (A 1))), (q 3, .inl (cI, 5, .inl (A 2))), (q 4, .inl (cI, 5, .inl (A 3))), (q 5, .inl (cI, 4, .inl (A 4))), (q 6, .inl (cI, 62, .inl (A 5))), (q 7, .inl (cI, 5, .inl (A 6))), (q 8, .inl (cI, 5, .inl (A 7))), (q 9, .inl (cI, 5, .inl (A 8))), (q 10, .inl (cI, 5, .inl (A 9))), (q 11, .inl (cI, 5, .inl (A 10))), (q 12, .inl (cI, 4, .inl (A 11))), (q 13, .inl (cI, 48, .inl (A 12))), (q 14, .inl (cI, 434, .inl (A 13))), (q 15, .inl (cI, 6, .inl (A 14))), (q 16, .inl (cI, 6, .inl (A 15))), (q 17, .inl (cI, 6, .inl (A 16))), (q 18, .inl (cZ, 6, .inl (A 17))), (q 19, .inl (cI, 36, .inl (A 18))), (q 20, .inl (cI, 36, .inl (A 19))), (q 21, .inl (cZ, 2, .inl (A 20))), (q 22, .inl (cI, 62, .inl (A 21)))]
end
section
def fX7_in_18 (y0 : Int32) : Option (Int32) := (bz y0).bind fun v1 => some v1
def fX7_in_17 : Option (Int32) := fX7_in_18 0
def fX7_in (x0 : Int64) (x2 : Int64) (x4 : Int64) : Option (Int32) := if (lg_cmp x0 x2) < 0 then fX7_in_17 else if 0 < (lg_cmp x0 x4) then fX7_in_17 else fX7_in_18 1
def rmX7_in : Room := { frames := 0, cells := 0, slots := 0, locals := 0 }
theorem mb_X7_in : Cond.static yX7_in ∈ wsL_law ∧ Cond.initialized yX7_in.cls ∈ wsL_law ∧ Cond.code yX7_in cX7_in 6 (some .boolean) ∈ wsL_law := ⟨(bg 5 10 rfl), (bg 0 5 rfl), (bg 5 11 rfl)⟩
theorem hd_X7_in : yX7_in.cls ≠ "java/lang/invoke/MethodHandle" ∧ yX7_in.cls ≠ "java/lang/invoke/VarHandle" ∧ (parseMethodDescriptor yX7_in.desc).map (fun d => d.parameters.length) = some 3 := by decide +kernel
set_option maxRecDepth 100000 in
set_option maxHeartbeats 4000000 in
theorem ct_X7_in (l : Launch) (G : va_G) (cI cZ cO : ClassId) (x0 : Int64) (x2 : Int64) (x4 : Int64) (r : Int32) (hf : fX7_in x0 x2 x4 = some r) : RtI l yX7_in cX7_in 6 .boolean rmX7_in G cI cZ cO [.long x0, .long x2, .long x4] [] r := by
  refine mkRI (by decide) (Nat.le_of_ble_eq_true rfl) ?_
  intro p e s m below meth cd Q hC hP hE fin ls hl
  obtain ⟨hx, hb, hml, hown, hts⟩ := hC
  have hown : s.vm.findClass RX7 = some m.cls := hown
  have hl : lv_has ls 6 [(0, .long x0), (2, .long x2), (4, .long x4)] := hl
  have b_18 : ∀ (y0 : Int32), ∀ ls : Array Slot, lv_has ls 6 [] → fX7_in_18 y0 = some r → W p l e rmX7_in s m [.long x0, .long x2, .long x4].toArray below meth cd s.heap [] 0 0 Q (F0 m 18 ls [.int y0]) := by
    intro y0 ls hl hf
    unfold fX7_in_18 at hf
    obtain ⟨v1, hv1, hf⟩ := bnd hf
    obtain ⟨ev1, hv1⟩ := bz_in hv1
    rw [ev1]
    cases hf
    exact fin 18 ls (nar_z hv1) dX7_in_18
  have b_17 : ∀ ls : Array Slot, lv_has ls 6 [] → fX7_in_17 = some r → W p l e rmX7_in s m [.long x0, .long x2, .long x4].toArray below meth cd s.heap [] 0 0 Q (F0 m 17 ls []) := by
    intro ls hl hf
    unfold fX7_in_17 at hf
    refine lv_iconst (v := 0) hx hb dX7_in_17 (by decide) ?_
    exact b_18 0 ls (lv_sub hl [] rfl) hf
  unfold fX7_in at hf
  refine lv_lload_n hx hb dX7_in_0 rfl (lv_at hl 0 rfl) ?_
  refine lv_lload_n hx hb dX7_in_1 rfl (lv_at hl 1 rfl) ?_
  refine W.lcmp hx hb dX7_in_2 ?_
  refine lv_if_lt (tgt := 17) hx hb dX7_in_3 (by decide) (fun c1 => ?_) (fun c1 => ?_)
  · rw [if_pos c1] at hf
    exact b_17 ls (lv_sub hl [] rfl) hf
  · rw [if_neg c1] at hf
    refine lv_lload_n hx hb dX7_in_6 rfl (lv_at hl 0 rfl) ?_
    refine lv_lload hx hb dX7_in_7 (lv_at hl 2 rfl) ?_
    refine W.lcmp hx hb dX7_in_9 ?_
    refine lv_if_gt (tgt := 17) hx hb dX7_in_10 (by decide) (fun c2 => ?_) (fun c2 => ?_)
    · rw [if_pos c2] at hf
      exact b_17 ls (lv_sub hl [] rfl) hf
    · rw [if_neg c2] at hf
      refine lv_iconst (v := 1) hx hb dX7_in_13 (by decide) ?_
      refine lv_goto (tgt := 18) hx hb dX7_in_14 (by decide) ?_
      exact b_18 1 ls (lv_sub hl [] rfl) hf
def fX7_write (I : Nat → Int32) (A : Nat → Nat → Int32) (x1 : Int32) : Option (Int32 × (Nat → Int32) × (Nat → Nat → Int32)) := (fX7_in (Int32.toInt64 x1) 0 255).bind fun z1 => if z1 = 0 then some ((-2), I, A) else if (I 4) = 48 then some ((-4), I, A) else (wr 48 (A 12) (I 4) x1).bind fun g4 => some ((I 4) + 1, upd I 4 ((I 4) + 1), va_up A 12 g4)
def rmX7_write : Room := { frames := 1, cells := 0, slots := 0, locals := 25 }
theorem mb_X7_write : Cond.instanceMethod yX7_write ∈ wsL_law ∧ Cond.selects RX7 yX7_write yX7_write ∈ wsL_law ∧ Cond.initialized RX7 ∈ wsL_law ∧ Cond.code yX7_write cX7_write 2 (some .int) ∈ wsL_law := ⟨(bg 5 4 rfl), (bg 5 5 rfl), (bg 0 5 rfl), (bg 5 6 rfl)⟩
theorem hd_X7_write : yX7_write.cls = RX7 ∧ yX7_write.cls ≠ "java/lang/invoke/MethodHandle" ∧ yX7_write.cls ≠ "java/lang/invoke/VarHandle" ∧ (parseMethodDescriptor yX7_write.desc).map (fun d => d.parameters.length) = some 1 := by decide +kernel
set_option maxRecDepth 100000 in
set_option maxHeartbeats 4000000 in
theorem ct_X7_write (l : Launch) (G : va_G) (cI cZ cO : ClassId) (q : Nat → Nat) (I : Nat → Int32) (A : Nat → Nat → Int32) (L : Int64) (x1 : Int32) (r : Int32) (Iz : Nat → Int32) (Az : Nat → Nat → Int32) (hf : fX7_write I A x1 = some (r, Iz, Az)) : CtI l yX7_write cX7_write 2 .int rmX7_write G cI cZ cO [.ref (q 0), .int x1] (wX7 q cI cZ cO I A L) (wX7 q cI cZ cO Iz Az L) r := by
  refine mkCI (by decide) (Nat.le_of_ble_eq_true rfl) ?_
  intro p e s m below meth cd Q Z hC hP hE hD hA fin ls hl
  obtain ⟨hx, hb, hml, hown, hts⟩ := hC
  have hown : s.vm.findClass RX7 = some m.cls := hown
  have hl : lv_has ls 2 [(0, .ref (q 0)), (1, .int x1)] := hl
  unfold fX7_write at hf
  have hS : va_S Z s.heap s.heap [] := va_S.rf
  obtain ⟨H, hH⟩ : ∃ H, H = s.heap := ⟨_, rfl⟩
  obtain ⟨locs, hlocs⟩ : ∃ locs : List Loc, locs = [] := ⟨_, rfl⟩
  rw [← hlocs]
  rw [← hlocs] at hS
  suffices hW : ∀ H : Heap, va_P G vwCl (wX7 q cI cZ cO I A L) H → va_S Z s.heap H locs → W p l e rmX7_write s m [.ref (q 0), .int x1].toArray below meth cd H locs 0 0 Q (F0 m 0 ls []) from hW s.heap hP hS
  clear hP hS hH H
  intro H hP hS
  refine lv_iload_n hx hb dX7_write_0 rfl (lv_at hl 1 rfl) ?_
  refine lv_i2l (v := Int32.toInt64 x1) hx hb dX7_write_1 rfl ?_
  refine lv_lconst (v := 0) hx hb dX7_write_2 (by decide) ?_
  refine lv_ldc2 hx hb hown (hts _ (bg 5 7 rfl)) dX7_write_3 ?_
  obtain ⟨z1, hz1, hf⟩ := bnd hf
  refine x_rdS (n := 3) hx hb hml hown hts hE (ct_X7_in l G cI cZ cO (Int32.toInt64 x1) 0 255 z1 hz1) (bg 5 9 rfl) mb_X7_in.1 mb_X7_in.2.1 mb_X7_in.2.2 hd_X7_in rfl (by decide) va_P_nil rfl hl.1 (Nat.le_of_ble_eq_true rfl) ⟨Nat.zero_le _, Nat.zero_le _⟩ dX7_write_6 ?_
  refine lv_if_ne (tgt := 15) hx hb dX7_write_9 (by decide) (fun c2 => ?_) (fun c2 => ?_)
  · rw [if_neg c2] at hf
    refine lv_aload_n hx hb dX7_write_15 rfl (lv_at hl 0 rfl) ?_
    refine va_get (D := G) (ci := 7) (v := .int (I 4)) (C := RX7) (T := TX7) (N := 33) hx hb hts inlX7 hown hE.1 hP 0 rfl rfl 17 (by decide) (hts _ (bg 5 8 rfl)) (fun _ h9 => h9) rfl dX7_write_16 ?_
    refine lv_bipush (v := 48) hx hb dX7_write_19 (by decide) ?_
    refine lv_icmp_ne (tgt := 27) hx hb dX7_write_21 (by decide) (fun c3 => ?_) (fun c3 => ?_)
    · rw [if_neg c3] at hf
      refine lv_aload_n hx hb dX7_write_27 rfl (lv_at hl 0 rfl) ?_
      refine va_get (D := G) (ci := 7) (v := .ref (q 13)) (C := RX7) (T := TX7) (N := 33) hx hb hts inlX7 hown hE.1 hP 0 rfl rfl 16 (by decide) (hts _ (bg 4 2 rfl)) (fun _ h9 => h9) rfl dX7_write_28 ?_
      refine lv_aload_n hx hb dX7_write_31 rfl (lv_at hl 0 rfl) ?_
      refine va_get (D := G) (ci := 7) (v := .int (I 4)) (C := RX7) (T := TX7) (N := 33) hx hb hts inlX7 hown hE.1 hP 0 rfl rfl 17 (by decide) (hts _ (bg 5 8 rfl)) (fun _ h9 => h9) rfl dX7_write_32 ?_
      refine lv_iload_n hx hb dX7_write_35 rfl (lv_at hl 1 rfl) ?_
      obtain ⟨g4, hg4, hf⟩ := bnd hf
      refine x_iast hx hb hE.1 hP hD hS 13 0 rfl rfl hg4 dX7_write_36 (fun H locs hP hD hS => ?_)
      have hP : va_P G vwCl (wX7 q cI cZ cO I (va_up A 12 g4) L) H := hP
      have hD : va_D Z (wX7 q cI cZ cO I (va_up A 12 g4) L) := hD
      refine lv_aload_n hx hb dX7_write_37 rfl (lv_at hl 0 rfl) ?_
      refine lv_dup hx hb dX7_write_38 rfl ?_
      refine va_get (D := G) (ci := 7) (v := .int (I 4)) (C := RX7) (T := TX7) (N := 33) hx hb hts inlX7 hown hE.1 hP 0 rfl rfl 17 (by decide) (hts _ (bg 5 8 rfl)) (fun _ h9 => h9) rfl dX7_write_39 ?_
      refine lv_iconst (v := 1) hx hb dX7_write_42 (by decide) ?_
      refine lv_iadd hx hb dX7_write_43 ?_
      refine va_put (D := G) (ci := 7) (v := .int ((I 4) + 1)) (ty := .int) (C := RX7) (T := TX7) (N := 33) hx hb hts inlX7 tyX7 tyX7_ok nmX7 hown hE.1 hP hD hS 0 rfl rfl 17 (by decide) (hts _ (bg 5 8 rfl)) (fun _ h9 => h9) rfl (by decide +kernel) rfl rfl (Nat.le_of_ble_eq_true rfl) dX7_write_44 (fun H locs hP hD hS => ?_)
      have hP : va_P G vwCl (wX7 q cI cZ cO (upd I 4 ((I 4) + 1)) (va_up A 12 g4) L) H := hP
      have hD : va_D Z (wX7 q cI cZ cO (upd I 4 ((I 4) + 1)) (va_up A 12 g4) L) := hD
      refine lv_aload_n hx hb dX7_write_47 rfl (lv_at hl 0 rfl) ?_
      refine va_get (D := G) (ci := 7) (v := .int ((I 4) + 1)) (C := RX7) (T := TX7) (N := 33) hx hb hts inlX7 hown hE.1 hP 0 rfl rfl 17 (by decide) (hts _ (bg 5 8 rfl)) (fun _ h9 => h9) rfl dX7_write_48 ?_
      cases hf
      exact fin H locs 51 ls (nar_i _) hP hS dX7_write_51
    · rw [if_pos c3] at hf
      refine lv_bipush (v := (-4)) hx hb dX7_write_24 (by decide) ?_
      cases hf
      exact fin H locs 26 ls (nar_i _) hP hS dX7_write_26
  · rw [if_pos c2] at hf
    refine lv_bipush (v := (-2)) hx hb dX7_write_12 (by decide) ?_
    cases hf
    exact fin H locs 14 ls (nar_i _) hP hS dX7_write_14
def fX7_wipe (I : Nat → Int32) (A : Nat → Nat → Int32) : Option (Int32 × (Nat → Int32)) := some ((I 4), upd I 4 0)
def rmX7_wipe : Room := { frames := 0, cells := 0, slots := 0, locals := 0 }
theorem mb_X7_wipe : Cond.instanceMethod yX7_wipe ∈ wsL_law ∧ Cond.selects RX7 yX7_wipe yX7_wipe ∈ wsL_law ∧ Cond.initialized RX7 ∈ wsL_law ∧ Cond.code yX7_wipe cX7_wipe 2 (some .int) ∈ wsL_law := ⟨(bg 5 18 rfl), (bg 5 19 rfl), (bg 0 5 rfl), (bg 5 20 rfl)⟩
theorem hd_X7_wipe : yX7_wipe.cls = RX7 ∧ yX7_wipe.cls ≠ "java/lang/invoke/MethodHandle" ∧ yX7_wipe.cls ≠ "java/lang/invoke/VarHandle" ∧ (parseMethodDescriptor yX7_wipe.desc).map (fun d => d.parameters.length) = some 0 := by decide +kernel
set_option maxRecDepth 100000 in
set_option maxHeartbeats 4000000 in
theorem ct_X7_wipe (l : Launch) (G : va_G) (cI cZ cO : ClassId) (q : Nat → Nat) (I : Nat → Int32) (A : Nat → Nat → Int32) (L : Int64) (r : Int32) (Iz : Nat → Int32) (hf : fX7_wipe I A = some (r, Iz)) : CtI l yX7_wipe cX7_wipe 2 .int rmX7_wipe G cI cZ cO [.ref (q 0)] (wX7 q cI cZ cO I A L) (wX7 q cI cZ cO Iz A L) r := by
  refine mkCI (by decide) (Nat.le_of_ble_eq_true rfl) ?_
  intro p e s m below meth cd Q Z hC hP hE hD hA fin ls hl
  obtain ⟨hx, hb, hml, hown, hts⟩ := hC
  have hown : s.vm.findClass RX7 = some m.cls := hown
  have hl : lv_has ls 2 [(0, .ref (q 0))] := hl
  unfold fX7_wipe at hf
  have hS : va_S Z s.heap s.heap [] := va_S.rf
  obtain ⟨H, hH⟩ : ∃ H, H = s.heap := ⟨_, rfl⟩
  obtain ⟨locs, hlocs⟩ : ∃ locs : List Loc, locs = [] := ⟨_, rfl⟩
  rw [← hlocs]
  rw [← hlocs] at hS
  suffices hW : ∀ H : Heap, va_P G vwCl (wX7 q cI cZ cO I A L) H → va_S Z s.heap H locs → W p l e rmX7_wipe s m [.ref (q 0)].toArray below meth cd H locs 0 0 Q (F0 m 0 ls []) from hW s.heap hP hS
  clear hP hS hH H
  intro H hP hS
  refine lv_aload_n hx hb dX7_wipe_0 rfl (lv_at hl 0 rfl) ?_
  refine va_get (D := G) (ci := 7) (v := .int (I 4)) (C := RX7) (T := TX7) (N := 33) hx hb hts inlX7 hown hE.1 hP 0 rfl rfl 17 (by decide) (hts _ (bg 5 8 rfl)) (fun _ h9 => h9) rfl dX7_wipe_1 ?_
  refine lv_istore_n (lv' := [(1, .int (I 4)), (0, .ref (q 0))]) hx hb dX7_wipe_4 rfl hl (by decide) rfl (fun ls hl => ?_)
  refine lv_aload_n hx hb dX7_wipe_5 rfl (lv_at hl 1 rfl) ?_
  refine lv_iconst (v := 0) hx hb dX7_wipe_6 (by decide) ?_
  refine va_put (D := G) (ci := 7) (v := .int 0) (ty := .int) (C := RX7) (T := TX7) (N := 33) hx hb hts inlX7 tyX7 tyX7_ok nmX7 hown hE.1 hP hD hS 0 rfl rfl 17 (by decide) (hts _ (bg 5 8 rfl)) (fun _ h9 => h9) rfl (by decide +kernel) rfl rfl (Nat.le_of_ble_eq_true rfl) dX7_wipe_7 (fun H locs hP hD hS => ?_)
  have hP : va_P G vwCl (wX7 q cI cZ cO (upd I 4 0) A L) H := hP
  have hD : va_D Z (wX7 q cI cZ cO (upd I 4 0) A L) := hD
  refine lv_iload_n hx hb dX7_wipe_10 rfl (lv_at hl 0 rfl) ?_
  cases hf
  exact fin H locs 11 ls (nar_i _) hP hS dX7_wipe_11
def fX7_has_14 (y0 : Int32) : Option (Int32) := (bz y0).bind fun v1 => some v1
def fX7_has (x0 : Int32) (x1 : Int32) : Option (Int32) := if ((shr x0 x1) &&& 1) = 1 then fX7_has_14 1 else fX7_has_14 0
def rmX7_has : Room := { frames := 0, cells := 0, slots := 0, locals := 0 }
theorem mb_X7_has : Cond.static yX7_has ∈ wsL_law ∧ Cond.initialized yX7_has.cls ∈ wsL_law ∧ Cond.code yX7_has cX7_has 2 (some .boolean) ∈ wsL_law := ⟨(bg 10 13 rfl), (bg 0 5 rfl), (bg 10 14 rfl)⟩
theorem hd_X7_has : yX7_has.cls ≠ "java/lang/invoke/MethodHandle" ∧ yX7_has.cls ≠ "java/lang/invoke/VarHandle" ∧ (parseMethodDescriptor yX7_has.desc).map (fun d => d.parameters.length) = some 2 := by decide +kernel
set_option maxRecDepth 100000 in
set_option maxHeartbeats 4000000 in
theorem ct_X7_has (l : Launch) (G : va_G) (cI cZ cO : ClassId) (x0 : Int32) (x1 : Int32) (r : Int32) (hf : fX7_has x0 x1 = some r) : RtI l yX7_has cX7_has 2 .boolean rmX7_has G cI cZ cO [.int x0, .int x1] [] r := by
  refine mkRI (by decide) (Nat.le_of_ble_eq_true rfl) ?_
  intro p e s m below meth cd Q hC hP hE fin ls hl
  obtain ⟨hx, hb, hml, hown, hts⟩ := hC
  have hown : s.vm.findClass RX7 = some m.cls := hown
  have hl : lv_has ls 2 [(0, .int x0), (1, .int x1)] := hl
  have b_14 : ∀ (y0 : Int32), ∀ ls : Array Slot, lv_has ls 2 [] → fX7_has_14 y0 = some r → W p l e rmX7_has s m [.int x0, .int x1].toArray below meth cd s.heap [] 0 0 Q (F0 m 14 ls [.int y0]) := by
    intro y0 ls hl hf
    unfold fX7_has_14 at hf
    obtain ⟨v1, hv1, hf⟩ := bnd hf
    obtain ⟨ev1, hv1⟩ := bz_in hv1
    rw [ev1]
    cases hf
    exact fin 14 ls (nar_z hv1) dX7_has_14
  unfold fX7_has at hf
  refine lv_iload_n hx hb dX7_has_0 rfl (lv_at hl 0 rfl) ?_
  refine lv_iload_n hx hb dX7_has_1 rfl (lv_at hl 1 rfl) ?_
  refine x_ishr hx hb dX7_has_2 ?_
  refine lv_iconst (v := 1) hx hb dX7_has_3 (by decide) ?_
  refine lv_iand hx hb dX7_has_4 ?_
  refine lv_iconst (v := 1) hx hb dX7_has_5 (by decide) ?_
  refine lv_icmp_ne (tgt := 13) hx hb dX7_has_6 (by decide) (fun c1 => ?_) (fun c1 => ?_)
  · rw [if_neg c1] at hf
    refine lv_iconst (v := 0) hx hb dX7_has_13 (by decide) ?_
    exact b_14 0 ls (lv_sub hl [] rfl) hf
  · rw [if_pos c1] at hf
    refine lv_iconst (v := 1) hx hb dX7_has_9 (by decide) ?_
    refine lv_goto (tgt := 14) hx hb dX7_has_10 (by decide) ?_
    exact b_14 1 ls (lv_sub hl [] rfl) hf
def fX7_figureOf_79 (I : Nat → Int32) (A : Nat → Nat → Int32) (y1 : Int32) : Option (Int32 × (Nat → Int32)) := some (0, upd I 6 y1)
def fX7_figureOf_58 (I : Nat → Int32) (A : Nat → Nat → Int32) : Option (Int32 × (Nat → Int32)) := if (I 6) = (-9) then fX7_figureOf_79 I A (I 5) else fX7_figureOf_79 I A (I 6)
def fX7_figureOf_37 (I : Nat → Int32) (A : Nat → Nat → Int32) (u1 : Int32) (y0 : Int32) : Option (Int32 × (Nat → Int32)) := (fX7_in (Int32.toInt64 y0) 0 9).bind fun z1 => if z1 = 0 then fX7_figureOf_58 I A else (fX7_has u1 y0).bind fun z3 => if z3 = 0 then fX7_figureOf_58 I A else some (y0, upd I 5 ((I 5) + 1))
def fX7_figureOf_35 (I : Nat → Int32) (A : Nat → Nat → Int32) (u1 : Int32) : Option (Int32 × (Nat → Int32)) := fX7_figureOf_37 I A u1 (-9)
def fX7_figureOf (I : Nat → Int32) (A : Nat → Nat → Int32) (x1 : Int32) : Option (Int32 × (Nat → Int32)) := if (I 6) = (-9) then if (I 4) ≤ (I 5) then fX7_figureOf_35 I A x1 else (rd 48 (A 12) (I 5)).bind fun v3 => fX7_figureOf_37 I A x1 (v3 - 48) else fX7_figureOf_35 I A x1
def rmX7_figureOf : Room := { frames := 1, cells := 0, slots := 0, locals := 25 }
theorem mb_X7_figureOf : Cond.instanceMethod yX7_figureOf ∈ wsL_law ∧ Cond.selects RX7 yX7_figureOf yX7_figureOf ∈ wsL_law ∧ Cond.initialized RX7 ∈ wsL_law ∧ Cond.code yX7_figureOf cX7_figureOf 3 (some .int) ∈ wsL_law := ⟨(bg 10 8 rfl), (bg 10 9 rfl), (bg 0 5 rfl), (bg 10 10 rfl)⟩
theorem hd_X7_figureOf : yX7_figureOf.cls = RX7 ∧ yX7_figureOf.cls ≠ "java/lang/invoke/MethodHandle" ∧ yX7_figureOf.cls ≠ "java/lang/invoke/VarHandle" ∧ (parseMethodDescriptor yX7_figureOf.desc).map (fun d => d.parameters.length) = some 1 := by decide +kernel
set_option maxRecDepth 100000 in
set_option maxHeartbeats 4000000 in
theorem ct_X7_figureOf (l : Launch) (G : va_G) (cI cZ cO : ClassId) (q : Nat → Nat) (I : Nat → Int32) (A : Nat → Nat → Int32) (L : Int64) (x1 : Int32) (r : Int32) (Iz : Nat → Int32) (hf : fX7_figureOf I A x1 = some (r, Iz)) : CtI l yX7_figureOf cX7_figureOf 3 .int rmX7_figureOf G cI cZ cO [.ref (q 0), .int x1] (wX7 q cI cZ cO I A L) (wX7 q cI cZ cO Iz A L) r := by
  refine mkCI (by decide) (Nat.le_of_ble_eq_true rfl) ?_
  intro p e s m below meth cd Q Z hC hP hE hD hA fin ls hl
  obtain ⟨hx, hb, hml, hown, hts⟩ := hC
  have hown : s.vm.findClass RX7 = some m.cls := hown
  have hl : lv_has ls 3 [(0, .ref (q 0)), (1, .int x1)] := hl
  have b_79 : ∀ (I : Nat → Int32) (y1 : Int32), ∀ (H : Heap) (locs : List Loc), va_P G vwCl (wX7 q cI cZ cO I A L) H → va_D Z (wX7 q cI cZ cO I A L) → va_S Z s.heap H locs → ∀ ls : Array Slot, lv_has ls 3 [] → fX7_figureOf_79 I A y1 = some (r, Iz) → W p l e rmX7_figureOf s m [.ref (q 0), .int x1].toArray below meth cd H locs 0 0 Q (F0 m 79 ls [.int y1, .ref (q 0)]) := by
    intro I y1 H locs hP hD hS ls hl hf
    unfold fX7_figureOf_79 at hf
    refine va_put (D := G) (ci := 7) (v := .int y1) (ty := .int) (C := RX7) (T := TX7) (N := 33) hx hb hts inlX7 tyX7 tyX7_ok nmX7 hown hE.1 hP hD hS 0 rfl rfl 19 (by decide) (hts _ (bg 10 0 rfl)) (fun _ h9 => h9) rfl (by decide +kernel) rfl rfl (Nat.le_of_ble_eq_true rfl) dX7_figureOf_79 (fun H locs hP hD hS => ?_)
    have hP : va_P G vwCl (wX7 q cI cZ cO (upd I 6 y1) A L) H := hP
    have hD : va_D Z (wX7 q cI cZ cO (upd I 6 y1) A L) := hD
    refine lv_iconst (v := 0) hx hb dX7_figureOf_82 (by decide) ?_
    cases hf
    exact fin H locs 83 ls (nar_i _) hP hS dX7_figureOf_83
  have b_58 : ∀ (I : Nat → Int32), ∀ (H : Heap) (locs : List Loc), va_P G vwCl (wX7 q cI cZ cO I A L) H → va_D Z (wX7 q cI cZ cO I A L) → va_S Z s.heap H locs → ∀ ls : Array Slot, lv_has ls 3 [(0, .ref (q 0))] → fX7_figureOf_58 I A = some (r, Iz) → W p l e rmX7_figureOf s m [.ref (q 0), .int x1].toArray below meth cd H locs 0 0 Q (F0 m 58 ls []) := by
    intro I H locs hP hD hS ls hl hf
    unfold fX7_figureOf_58 at hf
    refine lv_aload_n hx hb dX7_figureOf_58 rfl (lv_at hl 0 rfl) ?_
    refine lv_aload_n hx hb dX7_figureOf_59 rfl (lv_at hl 0 rfl) ?_
    refine va_get (D := G) (ci := 7) (v := .int (I 6)) (C := RX7) (T := TX7) (N := 33) hx hb hts inlX7 hown hE.1 hP 0 rfl rfl 19 (by decide) (hts _ (bg 10 0 rfl)) (fun _ h9 => h9) rfl dX7_figureOf_60 ?_
    refine lv_bipush (v := (-9)) hx hb dX7_figureOf_63 (by decide) ?_
    refine lv_icmp_ne (tgt := 75) hx hb dX7_figureOf_65 (by decide) (fun c1 => ?_) (fun c1 => ?_)
    · rw [if_neg c1] at hf
      refine lv_aload_n hx hb dX7_figureOf_75 rfl (lv_at hl 0 rfl) ?_
      refine va_get (D := G) (ci := 7) (v := .int (I 6)) (C := RX7) (T := TX7) (N := 33) hx hb hts inlX7 hown hE.1 hP 0 rfl rfl 19 (by decide) (hts _ (bg 10 0 rfl)) (fun _ h9 => h9) rfl dX7_figureOf_76 ?_
      exact b_79 I (I 6) H locs hP hD hS ls (lv_sub hl [] rfl) hf
    · rw [if_pos c1] at hf
      refine lv_aload_n hx hb dX7_figureOf_68 rfl (lv_at hl 0 rfl) ?_
      refine va_get (D := G) (ci := 7) (v := .int (I 5)) (C := RX7) (T := TX7) (N := 33) hx hb hts inlX7 hown hE.1 hP 0 rfl rfl 18 (by decide) (hts _ (bg 9 23 rfl)) (fun _ h9 => h9) rfl dX7_figureOf_69 ?_
      refine lv_goto (tgt := 79) hx hb dX7_figureOf_72 (by decide) ?_
      exact b_79 I (I 5) H locs hP hD hS ls (lv_sub hl [] rfl) hf
  have b_37 : ∀ (I : Nat → Int32) (u1 : Int32) (y0 : Int32), ∀ (H : Heap) (locs : List Loc), va_P G vwCl (wX7 q cI cZ cO I A L) H → va_D Z (wX7 q cI cZ cO I A L) → va_S Z s.heap H locs → ∀ ls : Array Slot, lv_has ls 3 [(0, .ref (q 0)), (1, .int u1)] → fX7_figureOf_37 I A u1 y0 = some (r, Iz) → W p l e rmX7_figureOf s m [.ref (q 0), .int x1].toArray below meth cd H locs 0 0 Q (F0 m 37 ls [.int y0]) := by
    intro I u1 y0 H locs hP hD hS ls hl hf
    unfold fX7_figureOf_37 at hf
    refine lv_istore_n (lv' := [(2, .int y0), (0, .ref (q 0)), (1, .int u1)]) hx hb dX7_figureOf_37 rfl hl (by decide) rfl (fun ls hl => ?_)
    refine lv_iload_n hx hb dX7_figureOf_38 rfl (lv_at hl 0 rfl) ?_
    refine lv_i2l (v := Int32.toInt64 y0) hx hb dX7_figureOf_39 rfl ?_
    refine lv_lconst (v := 0) hx hb dX7_figureOf_40 (by decide) ?_
    refine lv_ldc2 hx hb hown (hts _ (bg 10 11 rfl)) dX7_figureOf_41 ?_
    obtain ⟨z1, hz1, hf⟩ := bnd hf
    refine x_rdS (n := 3) hx hb hml hown hts hE (ct_X7_in l G cI cZ cO (Int32.toInt64 y0) 0 9 z1 hz1) (bg 5 9 rfl) mb_X7_in.1 mb_X7_in.2.1 mb_X7_in.2.2 hd_X7_in rfl (by decide) va_P_nil rfl hl.1 (Nat.le_of_ble_eq_true rfl) ⟨Nat.zero_le _, Nat.zero_le _⟩ dX7_figureOf_44 ?_
    refine lv_if_eq (tgt := 58) hx hb dX7_figureOf_47 (by decide) (fun c2 => ?_) (fun c2 => ?_)
    · rw [if_pos c2] at hf
      exact b_58 I H locs hP hD hS ls (lv_sub hl [1] rfl) hf
    · rw [if_neg c2] at hf
      refine lv_iload_n hx hb dX7_figureOf_50 rfl (lv_at hl 2 rfl) ?_
      refine lv_iload_n hx hb dX7_figureOf_51 rfl (lv_at hl 0 rfl) ?_
      obtain ⟨z3, hz3, hf⟩ := bnd hf
      refine x_rdS (n := 2) hx hb hml hown hts hE (ct_X7_has l G cI cZ cO u1 y0 z3 hz3) (bg 10 12 rfl) mb_X7_has.1 mb_X7_has.2.1 mb_X7_has.2.2 hd_X7_has rfl (by decide) va_P_nil rfl hl.1 (Nat.le_of_ble_eq_true rfl) ⟨Nat.zero_le _, Nat.zero_le _⟩ dX7_figureOf_52 ?_
      refine lv_if_ne (tgt := 84) hx hb dX7_figureOf_55 (by decide) (fun c4 => ?_) (fun c4 => ?_)
      · rw [if_neg c4] at hf
        refine lv_aload_n hx hb dX7_figureOf_84 rfl (lv_at hl 1 rfl) ?_
        refine lv_dup hx hb dX7_figureOf_85 rfl ?_
        refine va_get (D := G) (ci := 7) (v := .int (I 5)) (C := RX7) (T := TX7) (N := 33) hx hb hts inlX7 hown hE.1 hP 0 rfl rfl 18 (by decide) (hts _ (bg 9 23 rfl)) (fun _ h9 => h9) rfl dX7_figureOf_86 ?_
        refine lv_iconst (v := 1) hx hb dX7_figureOf_89 (by decide) ?_
        refine lv_iadd hx hb dX7_figureOf_90 ?_
        refine va_put (D := G) (ci := 7) (v := .int ((I 5) + 1)) (ty := .int) (C := RX7) (T := TX7) (N := 33) hx hb hts inlX7 tyX7 tyX7_ok nmX7 hown hE.1 hP hD hS 0 rfl rfl 18 (by decide) (hts _ (bg 9 23 rfl)) (fun _ h9 => h9) rfl (by decide +kernel) rfl rfl (Nat.le_of_ble_eq_true rfl) dX7_figureOf_91 (fun H locs hP hD hS => ?_)
        have hP : va_P G vwCl (wX7 q cI cZ cO (upd I 5 ((I 5) + 1)) A L) H := hP
        have hD : va_D Z (wX7 q cI cZ cO (upd I 5 ((I 5) + 1)) A L) := hD
        refine lv_iload_n hx hb dX7_figureOf_94 rfl (lv_at hl 0 rfl) ?_
        cases hf
        exact fin H locs 95 ls (nar_i _) hP hS dX7_figureOf_95
      · rw [if_pos c4] at hf
        exact b_58 I H locs hP hD hS ls (lv_sub hl [1] rfl) hf
  have b_35 : ∀ (I : Nat → Int32) (u1 : Int32), ∀ (H : Heap) (locs : List Loc), va_P G vwCl (wX7 q cI cZ cO I A L) H → va_D Z (wX7 q cI cZ cO I A L) → va_S Z s.heap H locs → ∀ ls : Array Slot, lv_has ls 3 [(0, .ref (q 0)), (1, .int u1)] → fX7_figureOf_35 I A u1 = some (r, Iz) → W p l e rmX7_figureOf s m [.ref (q 0), .int x1].toArray below meth cd H locs 0 0 Q (F0 m 35 ls []) := by
    intro I u1 H locs hP hD hS ls hl hf
    unfold fX7_figureOf_35 at hf
    refine lv_bipush (v := (-9)) hx hb dX7_figureOf_35 (by decide) ?_
    exact b_37 I u1 (-9) H locs hP hD hS ls (lv_sub hl [0, 1] rfl) hf
  unfold fX7_figureOf at hf
  have hS : va_S Z s.heap s.heap [] := va_S.rf
  obtain ⟨H, hH⟩ : ∃ H, H = s.heap := ⟨_, rfl⟩
  obtain ⟨locs, hlocs⟩ : ∃ locs : List Loc, locs = [] := ⟨_, rfl⟩
  rw [← hlocs]
  rw [← hlocs] at hS
  suffices hW : ∀ H : Heap, va_P G vwCl (wX7 q cI cZ cO I A L) H → va_S Z s.heap H locs → W p l e rmX7_figureOf s m [.ref (q 0), .int x1].toArray below meth cd H locs 0 0 Q (F0 m 0 ls []) from hW s.heap hP hS
  clear hP hS hH H
  intro H hP hS
  refine lv_aload_n hx hb dX7_figureOf_0 rfl (lv_at hl 0 rfl) ?_
  refine va_get (D := G) (ci := 7) (v := .int (I 6)) (C := RX7) (T := TX7) (N := 33) hx hb hts inlX7 hown hE.1 hP 0 rfl rfl 19 (by decide) (hts _ (bg 10 0 rfl)) (fun _ h9 => h9) rfl dX7_figureOf_1 ?_
  refine lv_bipush (v := (-9)) hx hb dX7_figureOf_4 (by decide) ?_
  refine lv_icmp_ne (tgt := 35) hx hb dX7_figureOf_6 (by decide) (fun c1 => ?_) (fun c1 => ?_)
  · rw [if_neg c1] at hf
    exact b_35 I x1 H locs hP hD hS ls (lv_sub hl [0, 1] rfl) hf
  · rw [if_pos c1] at hf
    refine lv_aload_n hx hb dX7_figureOf_9 rfl (lv_at hl 0 rfl) ?_
    refine va_get (D := G) (ci := 7) (v := .int (I 5)) (C := RX7) (T := TX7) (N := 33) hx hb hts inlX7 hown hE.1 hP 0 rfl rfl 18 (by decide) (hts _ (bg 9 23 rfl)) (fun _ h9 => h9) rfl dX7_figureOf_10 ?_
    refine lv_aload_n hx hb dX7_figureOf_13 rfl (lv_at hl 0 rfl) ?_
    refine va_get (D := G) (ci := 7) (v := .int (I 4)) (C := RX7) (T := TX7) (N := 33) hx hb hts inlX7 hown hE.1 hP 0 rfl rfl 17 (by decide) (hts _ (bg 5 8 rfl)) (fun _ h9 => h9) rfl dX7_figureOf_14 ?_
    refine lv_icmp_ge (tgt := 35) hx hb dX7_figureOf_17 (by decide) (fun c2 => ?_) (fun c2 => ?_)
    · rw [if_pos c2] at hf
      exact b_35 I x1 H locs hP hD hS ls (lv_sub hl [0, 1] rfl) hf
    · rw [if_neg c2] at hf
      refine lv_aload_n hx hb dX7_figureOf_20 rfl (lv_at hl 0 rfl) ?_
      refine va_get (D := G) (ci := 7) (v := .ref (q 13)) (C := RX7) (T := TX7) (N := 33) hx hb hts inlX7 hown hE.1 hP 0 rfl rfl 16 (by decide) (hts _ (bg 4 2 rfl)) (fun _ h9 => h9) rfl dX7_figureOf_21 ?_
      refine lv_aload_n hx hb dX7_figureOf_24 rfl (lv_at hl 0 rfl) ?_
      refine va_get (D := G) (ci := 7) (v := .int (I 5)) (C := RX7) (T := TX7) (N := 33) hx hb hts inlX7 hown hE.1 hP 0 rfl rfl 18 (by decide) (hts _ (bg 9 23 rfl)) (fun _ h9 => h9) rfl dX7_figureOf_25 ?_
      obtain ⟨v3, hv3, hf⟩ := bnd hf
      refine x_iald hx hb hE.1 hP 13 0 rfl rfl hv3 dX7_figureOf_28 ?_
      refine lv_bipush (v := 48) hx hb dX7_figureOf_29 (by decide) ?_
      refine lv_isub hx hb dX7_figureOf_31 ?_
      refine lv_goto (tgt := 37) hx hb dX7_figureOf_32 (by decide) ?_
      exact b_37 I x1 (v3 - 48) H locs hP hD hS ls (lv_sub hl [0, 1] rfl) hf
def fX7_pairsLeft_35 (k_6 : (Nat → Int32) → (Nat → Nat → Int32) → Int32 → Int32 → Int32 → Option (Int32)) (I : Nat → Int32) (A : Nat → Nat → Int32) (u1 : Int32) (u3 : Int32) (y0 : Int32) (y1 : Int32) : Option (Int32) := k_6 I A u1 (y0 ||| y1) (u3 + 1)
def fX7_pairsLeft_6 : Nat → (Nat → Int32) → (Nat → Nat → Int32) → Int32 → Int32 → Int32 → Option (Int32)
  | 0, _, _, _, _, _ => none
  | n + 1, I, A, u1, u2, u3 => if (I 2) ≤ u3 then some u2 else (rd 5 (A 9) u1).bind fun v2 => (fX7_has v2 u3).bind fun z3 => if z3 = 0 then fX7_pairsLeft_35 (fX7_pairsLeft_6 n) I A u1 u3 u2 (shl 1 u3) else fX7_pairsLeft_35 (fX7_pairsLeft_6 n) I A u1 u3 u2 0
def fX7_pairsLeft (I : Nat → Int32) (A : Nat → Nat → Int32) (x1 : Int32) : Option (Int32) := fX7_pairsLeft_6 FU I A x1 0 (x1 + 1)
def rmX7_pairsLeft : Room := { frames := 1, cells := 0, slots := 0, locals := 21 }
theorem mb_X7_pairsLeft : Cond.instanceMethod yX7_pairsLeft ∈ wsL_law ∧ Cond.selects RX7 yX7_pairsLeft yX7_pairsLeft ∈ wsL_law ∧ Cond.initialized RX7 ∈ wsL_law ∧ Cond.code yX7_pairsLeft cX7_pairsLeft 4 (some .int) ∈ wsL_law := ⟨(bg 10 20 rfl), (bg 10 21 rfl), (bg 0 5 rfl), (bg 10 22 rfl)⟩
theorem hd_X7_pairsLeft : yX7_pairsLeft.cls = RX7 ∧ yX7_pairsLeft.cls ≠ "java/lang/invoke/MethodHandle" ∧ yX7_pairsLeft.cls ≠ "java/lang/invoke/VarHandle" ∧ (parseMethodDescriptor yX7_pairsLeft.desc).map (fun d => d.parameters.length) = some 1 := by decide +kernel
set_option maxRecDepth 100000 in
set_option maxHeartbeats 4000000 in
theorem ct_X7_pairsLeft (l : Launch) (G : va_G) (cI cZ cO : ClassId) (q : Nat → Nat) (I : Nat → Int32) (A : Nat → Nat → Int32) (L : Int64) (x1 : Int32) (r : Int32) (hf : fX7_pairsLeft I A x1 = some r) : RtI l yX7_pairsLeft cX7_pairsLeft 4 .int rmX7_pairsLeft G cI cZ cO [.ref (q 0), .int x1] (wX7 q cI cZ cO I A L) r := by
  refine mkRI (by decide) (Nat.le_of_ble_eq_true rfl) ?_
  intro p e s m below meth cd Q hC hP hE fin ls hl
  obtain ⟨hx, hb, hml, hown, hts⟩ := hC
  have hown : s.vm.findClass RX7 = some m.cls := hown
  have hl : lv_has ls 4 [(0, .ref (q 0)), (1, .int x1)] := hl
  have b_35 : ∀ (k_6 : (Nat → Int32) → (Nat → Nat → Int32) → Int32 → Int32 → Int32 → Option (Int32)) (hk_6 : ∀ (u1 : Int32) (u2 : Int32) (u3 : Int32), ∀ ls : Array Slot, lv_has ls 4 [(0, .ref (q 0)), (1, .int u1), (2, .int u2), (3, .int u3)] → k_6 I A u1 u2 u3 = some r → W p l e rmX7_pairsLeft s m [.ref (q 0), .int x1].toArray below meth cd s.heap [] 0 0 Q (F0 m 6 ls [])), ∀ (u1 : Int32) (u3 : Int32) (y0 : Int32) (y1 : Int32), ∀ ls : Array Slot, lv_has ls 4 [(0, .ref (q 0)), (1, .int u1), (3, .int u3)] → fX7_pairsLeft_35 k_6 I A u1 u3 y0 y1 = some r → W p l e rmX7_pairsLeft s m [.ref (q 0), .int x1].toArray below meth cd s.heap [] 0 0 Q (F0 m 35 ls [.int y1, .int y0]) := by
    intro k_6 hk_6 u1 u3 y0 y1 ls hl hf
    unfold fX7_pairsLeft_35 at hf
    refine lv_ior hx hb dX7_pairsLeft_35 ?_
    refine lv_istore_n (lv' := [(2, .int (y0 ||| y1)), (0, .ref (q 0)), (1, .int u1), (3, .int u3)]) hx hb dX7_pairsLeft_36 rfl hl (by decide) rfl (fun ls hl => ?_)
    refine lv_iinc (v := u3 + 1) (lv' := [(3, .int (u3 + 1)), (2, .int (y0 ||| y1)), (0, .ref (q 0)), (1, .int u1)]) hx hb dX7_pairsLeft_37 hl (k := 3) rfl rfl (by decide) rfl (fun ls hl => ?_)
    refine lv_goto (tgt := 6) hx hb dX7_pairsLeft_40 (by decide) ?_
    exact hk_6 u1 (y0 ||| y1) (u3 + 1) ls (lv_sub hl [2, 3, 1, 0] rfl) hf
  have b_6 : ∀ n : Nat, ∀ (u1 : Int32) (u2 : Int32) (u3 : Int32), ∀ ls : Array Slot, lv_has ls 4 [(0, .ref (q 0)), (1, .int u1), (2, .int u2), (3, .int u3)] → fX7_pairsLeft_6 n I A u1 u2 u3 = some r → W p l e rmX7_pairsLeft s m [.ref (q 0), .int x1].toArray below meth cd s.heap [] 0 0 Q (F0 m 6 ls []) := by
    intro n
    induction n with
    | zero =>
      intro u1 u2 u3 ls hl hf
      rw [fX7_pairsLeft_6] at hf
      cases hf
    | succ n ih =>
      intro u1 u2 u3 ls hl hf
      rw [fX7_pairsLeft_6] at hf
      refine lv_iload_n hx hb dX7_pairsLeft_6 rfl (lv_at hl 3 rfl) ?_
      refine lv_aload_n hx hb dX7_pairsLeft_7 rfl (lv_at hl 0 rfl) ?_
      refine va_get (D := G) (ci := 7) (v := .int (I 2)) (C := RX7) (T := TX7) (N := 33) hx hb hts inlX7 hown hE.1 hP 0 rfl rfl 14 (by decide) (hts _ (bg 10 1 rfl)) (fun _ h9 => h9) rfl dX7_pairsLeft_8 ?_
      refine lv_icmp_ge (tgt := 43) hx hb dX7_pairsLeft_11 (by decide) (fun c1 => ?_) (fun c1 => ?_)
      · rw [if_pos c1] at hf
        refine lv_iload_n hx hb dX7_pairsLeft_43 rfl (lv_at hl 2 rfl) ?_
        cases hf
        exact fin 44 ls (nar_i _) dX7_pairsLeft_44
      · rw [if_neg c1] at hf
        refine lv_iload_n hx hb dX7_pairsLeft_14 rfl (lv_at hl 2 rfl) ?_
        refine lv_aload_n hx hb dX7_pairsLeft_15 rfl (lv_at hl 0 rfl) ?_
        refine va_get (D := G) (ci := 7) (v := .ref (q 10)) (C := RX7) (T := TX7) (N := 33) hx hb hts inlX7 hown hE.1 hP 0 rfl rfl 11 (by decide) (hts _ (bg 3 23 rfl)) (fun _ h9 => h9) rfl dX7_pairsLeft_16 ?_
        refine lv_iload_n hx hb dX7_pairsLeft_19 rfl (lv_at hl 1 rfl) ?_
        obtain ⟨v2, hv2, hf⟩ := bnd hf
        refine x_iald hx hb hE.1 hP 10 0 rfl rfl hv2 dX7_pairsLeft_20 ?_
        refine lv_iload_n hx hb dX7_pairsLeft_21 rfl (lv_at hl 3 rfl) ?_
        obtain ⟨z3, hz3, hf⟩ := bnd hf
        refine x_rdS (n := 2) hx hb hml hown hts hE (ct_X7_has l G cI cZ cO v2 u3 z3 hz3) (bg 10 12 rfl) mb_X7_has.1 mb_X7_has.2.1 mb_X7_has.2.2 hd_X7_has rfl (by decide) va_P_nil rfl hl.1 (Nat.le_of_ble_eq_true rfl) ⟨Nat.zero_le _, Nat.zero_le _⟩ dX7_pairsLeft_22 ?_
        refine lv_if_eq (tgt := 32) hx hb dX7_pairsLeft_25 (by decide) (fun c4 => ?_) (fun c4 => ?_)
        · rw [if_pos c4] at hf
          refine lv_iconst (v := 1) hx hb dX7_pairsLeft_32 (by decide) ?_
          refine lv_iload_n hx hb dX7_pairsLeft_33 rfl (lv_at hl 3 rfl) ?_
          refine x_ishl hx hb dX7_pairsLeft_34 ?_
          exact b_35 (fX7_pairsLeft_6 n) ih u1 u3 u2 (shl 1 u3) ls (lv_sub hl [0, 1, 3] rfl) hf
        · rw [if_neg c4] at hf
          refine lv_iconst (v := 0) hx hb dX7_pairsLeft_28 (by decide) ?_
          refine lv_goto (tgt := 35) hx hb dX7_pairsLeft_29 (by decide) ?_
          exact b_35 (fX7_pairsLeft_6 n) ih u1 u3 u2 0 ls (lv_sub hl [0, 1, 3] rfl) hf
  unfold fX7_pairsLeft at hf
  refine lv_iconst (v := 0) hx hb dX7_pairsLeft_0 (by decide) ?_
  refine lv_istore_n (lv' := [(2, .int 0), (0, .ref (q 0)), (1, .int x1)]) hx hb dX7_pairsLeft_1 rfl hl (by decide) rfl (fun ls hl => ?_)
  refine lv_iload_n hx hb dX7_pairsLeft_2 rfl (lv_at hl 2 rfl) ?_
  refine lv_iconst (v := 1) hx hb dX7_pairsLeft_3 (by decide) ?_
  refine lv_iadd hx hb dX7_pairsLeft_4 ?_
  refine lv_istore_n (lv' := [(3, .int (x1 + 1)), (2, .int 0), (0, .ref (q 0)), (1, .int x1)]) hx hb dX7_pairsLeft_5 rfl hl (by decide) rfl (fun ls hl => ?_)
  exact b_6 FU x1 0 (x1 + 1) ls (lv_sub hl [2, 3, 1, 0] rfl) hf
def fX7_firstsLeft_28 (k_4 : (Nat → Int32) → (Nat → Nat → Int32) → Int32 → Int32 → Option (Int32)) (I : Nat → Int32) (A : Nat → Nat → Int32) (u2 : Int32) (y0 : Int32) (y1 : Int32) : Option (Int32) := k_4 I A (y0 ||| y1) (u2 + 1)
def fX7_firstsLeft_4 : Nat → (Nat → Int32) → (Nat → Nat → Int32) → Int32 → Int32 → Option (Int32)
  | 0, _, _, _, _ => none
  | n + 1, I, A, u1, u2 => if (I 2) ≤ u2 then some u1 else (fX7_pairsLeft I A u2).bind fun z2 => if z2 = 0 then fX7_firstsLeft_28 (fX7_firstsLeft_4 n) I A u2 u1 0 else fX7_firstsLeft_28 (fX7_firstsLeft_4 n) I A u2 u1 (shl 1 u2)
def fX7_firstsLeft (I : Nat → Int32) (A : Nat → Nat → Int32) : Option (Int32) := fX7_firstsLeft_4 FU I A 0 0
def rmX7_firstsLeft : Room := { frames := 2, cells := 0, slots := 0, locals := 44 }
theorem mb_X7_firstsLeft : Cond.instanceMethod yX7_firstsLeft ∈ wsL_law ∧ Cond.selects RX7 yX7_firstsLeft yX7_firstsLeft ∈ wsL_law ∧ Cond.initialized RX7 ∈ wsL_law ∧ Cond.code yX7_firstsLeft cX7_firstsLeft 3 (some .int) ∈ wsL_law := ⟨(bg 10 16 rfl), (bg 10 17 rfl), (bg 0 5 rfl), (bg 10 18 rfl)⟩
theorem hd_X7_firstsLeft : yX7_firstsLeft.cls = RX7 ∧ yX7_firstsLeft.cls ≠ "java/lang/invoke/MethodHandle" ∧ yX7_firstsLeft.cls ≠ "java/lang/invoke/VarHandle" ∧ (parseMethodDescriptor yX7_firstsLeft.desc).map (fun d => d.parameters.length) = some 0 := by decide +kernel
set_option maxRecDepth 100000 in
set_option maxHeartbeats 4000000 in
theorem ct_X7_firstsLeft (l : Launch) (G : va_G) (cI cZ cO : ClassId) (q : Nat → Nat) (I : Nat → Int32) (A : Nat → Nat → Int32) (L : Int64) (r : Int32) (hf : fX7_firstsLeft I A = some r) : RtI l yX7_firstsLeft cX7_firstsLeft 3 .int rmX7_firstsLeft G cI cZ cO [.ref (q 0)] (wX7 q cI cZ cO I A L) r := by
  refine mkRI (by decide) (Nat.le_of_ble_eq_true rfl) ?_
  intro p e s m below meth cd Q hC hP hE fin ls hl
  obtain ⟨hx, hb, hml, hown, hts⟩ := hC
  have hown : s.vm.findClass RX7 = some m.cls := hown
  have hl : lv_has ls 3 [(0, .ref (q 0))] := hl
  have b_28 : ∀ (k_4 : (Nat → Int32) → (Nat → Nat → Int32) → Int32 → Int32 → Option (Int32)) (hk_4 : ∀ (u1 : Int32) (u2 : Int32), ∀ ls : Array Slot, lv_has ls 3 [(0, .ref (q 0)), (1, .int u1), (2, .int u2)] → k_4 I A u1 u2 = some r → W p l e rmX7_firstsLeft s m [.ref (q 0)].toArray below meth cd s.heap [] 0 0 Q (F0 m 4 ls [])), ∀ (u2 : Int32) (y0 : Int32) (y1 : Int32), ∀ ls : Array Slot, lv_has ls 3 [(0, .ref (q 0)), (2, .int u2)] → fX7_firstsLeft_28 k_4 I A u2 y0 y1 = some r → W p l e rmX7_firstsLeft s m [.ref (q 0)].toArray below meth cd s.heap [] 0 0 Q (F0 m 28 ls [.int y1, .int y0]) := by
    intro k_4 hk_4 u2 y0 y1 ls hl hf
    unfold fX7_firstsLeft_28 at hf
    refine lv_ior hx hb dX7_firstsLeft_28 ?_
    refine lv_istore_n (lv' := [(1, .int (y0 ||| y1)), (0, .ref (q 0)), (2, .int u2)]) hx hb dX7_firstsLeft_29 rfl hl (by decide) rfl (fun ls hl => ?_)
    refine lv_iinc (v := u2 + 1) (lv' := [(2, .int (u2 + 1)), (1, .int (y0 ||| y1)), (0, .ref (q 0))]) hx hb dX7_firstsLeft_30 hl (k := 2) rfl rfl (by decide) rfl (fun ls hl => ?_)
    refine lv_goto (tgt := 4) hx hb dX7_firstsLeft_33 (by decide) ?_
    exact hk_4 (y0 ||| y1) (u2 + 1) ls (lv_sub hl [2, 1, 0] rfl) hf
  have b_4 : ∀ n : Nat, ∀ (u1 : Int32) (u2 : Int32), ∀ ls : Array Slot, lv_has ls 3 [(0, .ref (q 0)), (1, .int u1), (2, .int u2)] → fX7_firstsLeft_4 n I A u1 u2 = some r → W p l e rmX7_firstsLeft s m [.ref (q 0)].toArray below meth cd s.heap [] 0 0 Q (F0 m 4 ls []) := by
    intro n
    induction n with
    | zero =>
      intro u1 u2 ls hl hf
      rw [fX7_firstsLeft_4] at hf
      cases hf
    | succ n ih =>
      intro u1 u2 ls hl hf
      rw [fX7_firstsLeft_4] at hf
      refine lv_iload_n hx hb dX7_firstsLeft_4 rfl (lv_at hl 2 rfl) ?_
      refine lv_aload_n hx hb dX7_firstsLeft_5 rfl (lv_at hl 0 rfl) ?_
      refine va_get (D := G) (ci := 7) (v := .int (I 2)) (C := RX7) (T := TX7) (N := 33) hx hb hts inlX7 hown hE.1 hP 0 rfl rfl 14 (by decide) (hts _ (bg 10 1 rfl)) (fun _ h9 => h9) rfl dX7_firstsLeft_6 ?_
      refine lv_icmp_ge (tgt := 36) hx hb dX7_firstsLeft_9 (by decide) (fun c1 => ?_) (fun c1 => ?_)
      · rw [if_pos c1] at hf
        refine lv_iload_n hx hb dX7_firstsLeft_36 rfl (lv_at hl 1 rfl) ?_
        cases hf
        exact fin 37 ls (nar_i _) dX7_firstsLeft_37
      · rw [if_neg c1] at hf
        refine lv_iload_n hx hb dX7_firstsLeft_12 rfl (lv_at hl 1 rfl) ?_
        refine lv_aload_n hx hb dX7_firstsLeft_13 rfl (lv_at hl 0 rfl) ?_
        refine lv_iload_n hx hb dX7_firstsLeft_14 rfl (lv_at hl 2 rfl) ?_
        obtain ⟨z2, hz2, hf⟩ := bnd hf
        refine x_rdV (C := RX7) (n := 1) (ci := 7) hx hb hml hown hts hE (ct_X7_pairsLeft l G cI cZ cO q I A L u2 z2 hz2) (bg 10 19 rfl) mb_X7_pairsLeft.1 mb_X7_pairsLeft.2.1 mb_X7_pairsLeft.2.2.1 mb_X7_pairsLeft.2.2.2 hd_X7_pairsLeft rfl (by decide) (x_cut hP [0, 1, 2, 3, 4, 5, 6, 7, 8, 9, 10, 11, 12, 13, 14, 15, 16, 17, 18, 19, 20, 21, 22] rfl) rfl rfl rfl rfl hl.1 (Nat.le_of_ble_eq_true rfl) ⟨Nat.zero_le _, Nat.zero_le _⟩ dX7_firstsLeft_15 ?_
        refine lv_if_eq (tgt := 27) hx hb dX7_firstsLeft_18 (by decide) (fun c3 => ?_) (fun c3 => ?_)
        · rw [if_pos c3] at hf
          refine lv_iconst (v := 0) hx hb dX7_firstsLeft_27 (by decide) ?_
          exact b_28 (fX7_firstsLeft_4 n) ih u2 u1 0 ls (lv_sub hl [0, 2] rfl) hf
        · rw [if_neg c3] at hf
          refine lv_iconst (v := 1) hx hb dX7_firstsLeft_21 (by decide) ?_
          refine lv_iload_n hx hb dX7_firstsLeft_22 rfl (lv_at hl 2 rfl) ?_
          refine x_ishl hx hb dX7_firstsLeft_23 ?_
          refine lv_goto (tgt := 28) hx hb dX7_firstsLeft_24 (by decide) ?_
          exact b_28 (fX7_firstsLeft_4 n) ih u2 u1 (shl 1 u2) ls (lv_sub hl [0, 2] rfl) hf
  unfold fX7_firstsLeft at hf
  refine lv_iconst (v := 0) hx hb dX7_firstsLeft_0 (by decide) ?_
  refine lv_istore_n (lv' := [(1, .int 0), (0, .ref (q 0))]) hx hb dX7_firstsLeft_1 rfl hl (by decide) rfl (fun ls hl => ?_)
  refine lv_iconst (v := 0) hx hb dX7_firstsLeft_2 (by decide) ?_
  refine lv_istore_n (lv' := [(2, .int 0), (1, .int 0), (0, .ref (q 0))]) hx hb dX7_firstsLeft_3 rfl hl (by decide) rfl (fun ls hl => ?_)
  exact b_4 FU 0 0 ls (lv_sub hl [2, 1, 0] rfl) hf
def fX7_saidLeft_31 (k_4 : (Nat → Int32) → (Nat → Nat → Int32) → Int32 → Int32 → Option (Int32)) (I : Nat → Int32) (A : Nat → Nat → Int32) (u2 : Int32) (y0 : Int32) (y1 : Int32) : Option (Int32) := k_4 I A (y0 ||| y1) (u2 + 1)
def fX7_saidLeft_4 : Nat → (Nat → Int32) → (Nat → Nat → Int32) → Int32 → Int32 → Option (Int32)
  | 0, _, _, _, _ => none
  | n + 1, I, A, u1, u2 => if (I 2) ≤ u2 then some u1 else (rd 5 (A 10) u2).bind fun v2 => if v2 = 63 then fX7_saidLeft_31 (fX7_saidLeft_4 n) I A u2 u1 0 else fX7_saidLeft_31 (fX7_saidLeft_4 n) I A u2 u1 (shl 1 u2)
def fX7_saidLeft (I : Nat → Int32) (A : Nat → Nat → Int32) : Option (Int32) := fX7_saidLeft_4 FU I A 0 0
def rmX7_saidLeft : Room := { frames := 0, cells := 0, slots := 0, locals := 0 }
theorem mb_X7_saidLeft : Cond.instanceMethod yX7_saidLeft ∈ wsL_law ∧ Cond.selects RX7 yX7_saidLeft yX7_saidLeft ∈ wsL_law ∧ Cond.initialized RX7 ∈ wsL_law ∧ Cond.code yX7_saidLeft cX7_saidLeft 3 (some .int) ∈ wsL_law := ⟨(bg 11 0 rfl), (bg 11 1 rfl), (bg 0 5 rfl), (bg 11 2 rfl)⟩
theorem hd_X7_saidLeft : yX7_saidLeft.cls = RX7 ∧ yX7_saidLeft.cls ≠ "java/lang/invoke/MethodHandle" ∧ yX7_saidLeft.cls ≠ "java/lang/invoke/VarHandle" ∧ (parseMethodDescriptor yX7_saidLeft.desc).map (fun d => d.parameters.length) = some 0 := by decide +kernel
set_option maxRecDepth 100000 in
set_option maxHeartbeats 4000000 in
theorem ct_X7_saidLeft (l : Launch) (G : va_G) (cI cZ cO : ClassId) (q : Nat → Nat) (I : Nat → Int32) (A : Nat → Nat → Int32) (L : Int64) (r : Int32) (hf : fX7_saidLeft I A = some r) : RtI l yX7_saidLeft cX7_saidLeft 3 .int rmX7_saidLeft G cI cZ cO [.ref (q 0)] (wX7 q cI cZ cO I A L) r := by
  refine mkRI (by decide) (Nat.le_of_ble_eq_true rfl) ?_
  intro p e s m below meth cd Q hC hP hE fin ls hl
  obtain ⟨hx, hb, hml, hown, hts⟩ := hC
  have hown : s.vm.findClass RX7 = some m.cls := hown
  have hl : lv_has ls 3 [(0, .ref (q 0))] := hl
  have b_31 : ∀ (k_4 : (Nat → Int32) → (Nat → Nat → Int32) → Int32 → Int32 → Option (Int32)) (hk_4 : ∀ (u1 : Int32) (u2 : Int32), ∀ ls : Array Slot, lv_has ls 3 [(0, .ref (q 0)), (1, .int u1), (2, .int u2)] → k_4 I A u1 u2 = some r → W p l e rmX7_saidLeft s m [.ref (q 0)].toArray below meth cd s.heap [] 0 0 Q (F0 m 4 ls [])), ∀ (u2 : Int32) (y0 : Int32) (y1 : Int32), ∀ ls : Array Slot, lv_has ls 3 [(0, .ref (q 0)), (2, .int u2)] → fX7_saidLeft_31 k_4 I A u2 y0 y1 = some r → W p l e rmX7_saidLeft s m [.ref (q 0)].toArray below meth cd s.heap [] 0 0 Q (F0 m 31 ls [.int y1, .int y0]) := by
    intro k_4 hk_4 u2 y0 y1 ls hl hf
    unfold fX7_saidLeft_31 at hf
    refine lv_ior hx hb dX7_saidLeft_31 ?_
    refine lv_istore_n (lv' := [(1, .int (y0 ||| y1)), (0, .ref (q 0)), (2, .int u2)]) hx hb dX7_saidLeft_32 rfl hl (by decide) rfl (fun ls hl => ?_)
    refine lv_iinc (v := u2 + 1) (lv' := [(2, .int (u2 + 1)), (1, .int (y0 ||| y1)), (0, .ref (q 0))]) hx hb dX7_saidLeft_33 hl (k := 2) rfl rfl (by decide) rfl (fun ls hl => ?_)
    refine lv_goto (tgt := 4) hx hb dX7_saidLeft_36 (by decide) ?_
    exact hk_4 (y0 ||| y1) (u2 + 1) ls (lv_sub hl [2, 1, 0] rfl) hf
  have b_4 : ∀ n : Nat, ∀ (u1 : Int32) (u2 : Int32), ∀ ls : Array Slot, lv_has ls 3 [(0, .ref (q 0)), (1, .int u1), (2, .int u2)] → fX7_saidLeft_4 n I A u1 u2 = some r → W p l e rmX7_saidLeft s m [.ref (q 0)].toArray below meth cd s.heap [] 0 0 Q (F0 m 4 ls []) := by
    intro n
    induction n with
    | zero =>
      intro u1 u2 ls hl hf
      rw [fX7_saidLeft_4] at hf
      cases hf
    | succ n ih =>
      intro u1 u2 ls hl hf
      rw [fX7_saidLeft_4] at hf
      refine lv_iload_n hx hb dX7_saidLeft_4 rfl (lv_at hl 2 rfl) ?_
      refine lv_aload_n hx hb dX7_saidLeft_5 rfl (lv_at hl 0 rfl) ?_
      refine va_get (D := G) (ci := 7) (v := .int (I 2)) (C := RX7) (T := TX7) (N := 33) hx hb hts inlX7 hown hE.1 hP 0 rfl rfl 14 (by decide) (hts _ (bg 10 1 rfl)) (fun _ h9 => h9) rfl dX7_saidLeft_6 ?_
      refine lv_icmp_ge (tgt := 39) hx hb dX7_saidLeft_9 (by decide) (fun c1 => ?_) (fun c1 => ?_)
      · rw [if_pos c1] at hf
        refine lv_iload_n hx hb dX7_saidLeft_39 rfl (lv_at hl 1 rfl) ?_
        cases hf
        exact fin 40 ls (nar_i _) dX7_saidLeft_40
      · rw [if_neg c1] at hf
        refine lv_iload_n hx hb dX7_saidLeft_12 rfl (lv_at hl 1 rfl) ?_
        refine lv_aload_n hx hb dX7_saidLeft_13 rfl (lv_at hl 0 rfl) ?_
        refine va_get (D := G) (ci := 7) (v := .ref (q 11)) (C := RX7) (T := TX7) (N := 33) hx hb hts inlX7 hown hE.1 hP 0 rfl rfl 12 (by decide) (hts _ (bg 4 0 rfl)) (fun _ h9 => h9) rfl dX7_saidLeft_14 ?_
        refine lv_iload_n hx hb dX7_saidLeft_17 rfl (lv_at hl 2 rfl) ?_
        obtain ⟨v2, hv2, hf⟩ := bnd hf
        refine x_iald hx hb hE.1 hP 11 0 rfl rfl hv2 dX7_saidLeft_18 ?_
        refine lv_bipush (v := 63) hx hb dX7_saidLeft_19 (by decide) ?_
        refine lv_icmp_eq (tgt := 30) hx hb dX7_saidLeft_21 (by decide) (fun c3 => ?_) (fun c3 => ?_)
        · rw [if_pos c3] at hf
          refine lv_iconst (v := 0) hx hb dX7_saidLeft_30 (by decide) ?_
          exact b_31 (fX7_saidLeft_4 n) ih u2 u1 0 ls (lv_sub hl [0, 2] rfl) hf
        · rw [if_neg c3] at hf
          refine lv_iconst (v := 1) hx hb dX7_saidLeft_24 (by decide) ?_
          refine lv_iload_n hx hb dX7_saidLeft_25 rfl (lv_at hl 2 rfl) ?_
          refine x_ishl hx hb dX7_saidLeft_26 ?_
          refine lv_goto (tgt := 31) hx hb dX7_saidLeft_27 (by decide) ?_
          exact b_31 (fX7_saidLeft_4 n) ih u2 u1 (shl 1 u2) ls (lv_sub hl [0, 2] rfl) hf
  unfold fX7_saidLeft at hf
  refine lv_iconst (v := 0) hx hb dX7_saidLeft_0 (by decide) ?_
  refine lv_istore_n (lv' := [(1, .int 0), (0, .ref (q 0))]) hx hb dX7_saidLeft_1 rfl hl (by decide) rfl (fun ls hl => ?_)
  refine lv_iconst (v := 0) hx hb dX7_saidLeft_2 (by decide) ?_
  refine lv_istore_n (lv' := [(2, .int 0), (1, .int 0), (0, .ref (q 0))]) hx hb dX7_saidLeft_3 rfl hl (by decide) rfl (fun ls hl => ?_)
  exact b_4 FU 0 0 ls (lv_sub hl [2, 1, 0] rfl) hf
def fX7_readPart_297 (I : Nat → Int32) (A : Nat → Nat → Int32) : Option ((Nat → Int32) × (Nat → Nat → Int32)) := some (I, A)
def fX7_readPart_289 (I : Nat → Int32) (A : Nat → Nat → Int32) : Option ((Nat → Int32) × (Nat → Nat → Int32)) := fX7_readPart_297 (upd I 6 (I 5)) A
def fX7_readPart_284 (I : Nat → Int32) (A : Nat → Nat → Int32) (y1 : Int32) (y2 : Int32) (y3 : Int32) : Option ((Nat → Int32) × (Nat → Nat → Int32)) := (wr 5 (A 10) y1 (y2 ||| y3)).bind fun g1 => fX7_readPart_297 I (va_up A 10 g1)
def fX7_readPart_213 (I : Nat → Int32) (A : Nat → Nat → Int32) (u1 : Int32) : Option ((Nat → Int32) × (Nat → Nat → Int32)) := if u1 = 83 then (fX7_saidLeft I A).bind fun z2 => if z2 = 0 then fX7_readPart_289 I A else (fX7_saidLeft (upd I 5 ((I 5) + 1)) A).bind fun z4 => (fX7_figureOf (upd I 5 ((I 5) + 1)) A z4).bind fun z5 => (rd 5 (A 10) z5.1).bind fun v6 => (fX7_figureOf z5.2 A (63 &&& (v6 ^^^ (-1)))).bind fun z7 => (rd 5 (A 10) z5.1).bind fun v8 => if (z7.2 6) = (-9) then fX7_readPart_284 z7.2 A z5.1 v8 (shl 1 z7.1) else fX7_readPart_284 z7.2 A z5.1 v8 0 else fX7_readPart_289 I A
def fX7_readPart_161 (I : Nat → Int32) (A : Nat → Nat → Int32) (u1 : Int32) : Option ((Nat → Int32) × (Nat → Nat → Int32)) := if u1 = 80 then if 4 ≤ (I 3) then fX7_readPart_213 I A u1 else (fX7_figureOf (upd I 5 ((I 5) + 1)) A 63).bind fun z3 => (wr 4 (A 11) (I 3) z3.1).bind fun g4 => fX7_readPart_297 (upd z3.2 3 ((z3.2 3) + 1)) (va_up A 11 g4) else fX7_readPart_213 I A u1
def fX7_readPart_158 (I : Nat → Int32) (A : Nat → Nat → Int32) : Option ((Nat → Int32) × (Nat → Nat → Int32)) := fX7_readPart_297 I A
def fX7_readPart_83 (I : Nat → Int32) (A : Nat → Nat → Int32) (u1 : Int32) : Option ((Nat → Int32) × (Nat → Nat → Int32)) := if u1 = 88 then (fX7_firstsLeft I A).bind fun z2 => if z2 = 0 then fX7_readPart_161 I A u1 else (fX7_firstsLeft (upd I 5 ((I 5) + 1)) A).bind fun z4 => (fX7_figureOf (upd I 5 ((I 5) + 1)) A z4).bind fun z5 => (fX7_pairsLeft z5.2 A z5.1).bind fun z6 => (fX7_figureOf z5.2 A z6).bind fun z7 => if (z7.2 6) = (-9) then (rd 5 (A 9) z5.1).bind fun v9 => (wr 5 (A 9) z5.1 (v9 ||| (shl 1 z7.1))).bind fun g10 => (rd 5 g10 z7.1).bind fun v11 => (wr 5 g10 z7.1 (v11 ||| (shl 1 z5.1))).bind fun g12 => fX7_readPart_158 z7.2 (va_up (va_up A 9 g10) 9 g12) else fX7_readPart_158 z7.2 A else fX7_readPart_161 I A u1
def fX7_readPart (I : Nat → Int32) (A : Nat → Nat → Int32) (x1 : Int32) : Option ((Nat → Int32) × (Nat → Nat → Int32)) := if x1 = 82 then if 5 ≤ (I 2) then fX7_readPart_83 I A x1 else (fX7_figureOf (upd I 5 ((I 5) + 1)) A 1022).bind fun z3 => (wr 5 (A 6) (I 2) z3.1).bind fun g4 => (fX7_figureOf z3.2 (va_up A 6 g4) 3).bind fun z5 => (wr 5 (A 7) (z3.2 2) z5.1).bind fun g6 => (fX7_figureOf z5.2 (va_up (va_up A 6 g4) 7 g6) 1023).bind fun z7 => (wr 5 (A 8) (z5.2 2) z7.1).bind fun g8 => fX7_readPart_297 (upd z7.2 2 ((z7.2 2) + 1)) (va_up (va_up (va_up A 6 g4) 7 g6) 8 g8) else fX7_readPart_83 I A x1
def rmX7_readPart : Room := { frames := 3, cells := 0, slots := 0, locals := 66 }
theorem mb_X7_readPart : Cond.instanceMethod yX7_readPart ∈ wsL_law ∧ Cond.selects RX7 yX7_readPart yX7_readPart ∈ wsL_law ∧ Cond.initialized RX7 ∈ wsL_law ∧ Cond.code yX7_readPart cX7_readPart 4 none ∈ wsL_law := ⟨(bg 10 4 rfl), (bg 10 5 rfl), (bg 0 5 rfl), (bg 10 6 rfl)⟩
theorem hd_X7_readPart : yX7_readPart.cls = RX7 ∧ yX7_readPart.cls ≠ "java/lang/invoke/MethodHandle" ∧ yX7_readPart.cls ≠ "java/lang/invoke/VarHandle" ∧ (parseMethodDescriptor yX7_readPart.desc).map (fun d => d.parameters.length) = some 1 := by decide +kernel
set_option maxRecDepth 100000 in
set_option maxHeartbeats 4000000 in
theorem ct_X7_readPart (l : Launch) (G : va_G) (cI cZ cO : ClassId) (q : Nat → Nat) (I : Nat → Int32) (A : Nat → Nat → Int32) (L : Int64) (x1 : Int32) (Iz : Nat → Int32) (Az : Nat → Nat → Int32) (hf : fX7_readPart I A x1 = some (Iz, Az)) : CtV l yX7_readPart cX7_readPart 4 rmX7_readPart G cI cZ cO [.ref (q 0), .int x1] (wX7 q cI cZ cO I A L) (wX7 q cI cZ cO Iz Az L) := by
  refine mkCV (by decide) (Nat.le_of_ble_eq_true rfl) ?_
  intro p e s m below meth cd Q Z hC hP hE hD hA fin ls hl
  obtain ⟨hx, hb, hml, hown, hts⟩ := hC
  have hown : s.vm.findClass RX7 = some m.cls := hown
  have hl : lv_has ls 4 [(0, .ref (q 0)), (1, .int x1)] := hl
  have b_297 : ∀ (I : Nat → Int32) (A : Nat → Nat → Int32), ∀ (H : Heap) (locs : List Loc), va_P G vwCl (wX7 q cI cZ cO I A L) H → va_D Z (wX7 q cI cZ cO I A L) → va_S Z s.heap H locs → ∀ ls : Array Slot, lv_has ls 4 [] → fX7_readPart_297 I A = some (Iz, Az) → W p l e rmX7_readPart s m [.ref (q 0), .int x1].toArray below meth cd H locs 0 0 Q (F0 m 297 ls []) := by
    intro I A H locs hP hD hS ls hl hf
    unfold fX7_readPart_297 at hf
    cases hf
    exact fin H locs 297 ls hP hS dX7_readPart_297
  have b_289 : ∀ (I : Nat → Int32) (A : Nat → Nat → Int32), ∀ (H : Heap) (locs : List Loc), va_P G vwCl (wX7 q cI cZ cO I A L) H → va_D Z (wX7 q cI cZ cO I A L) → va_S Z s.heap H locs → ∀ ls : Array Slot, lv_has ls 4 [(0, .ref (q 0))] → fX7_readPart_289 I A = some (Iz, Az) → W p l e rmX7_readPart s m [.ref (q 0), .int x1].toArray below meth cd H locs 0 0 Q (F0 m 289 ls []) := by
    intro I A H locs hP hD hS ls hl hf
    unfold fX7_readPart_289 at hf
    refine lv_aload_n hx hb dX7_readPart_289 rfl (lv_at hl 0 rfl) ?_
    refine lv_aload_n hx hb dX7_readPart_290 rfl (lv_at hl 0 rfl) ?_
    refine va_get (D := G) (ci := 7) (v := .int (I 5)) (C := RX7) (T := TX7) (N := 33) hx hb hts inlX7 hown hE.1 hP 0 rfl rfl 18 (by decide) (hts _ (bg 9 23 rfl)) (fun _ h9 => h9) rfl dX7_readPart_291 ?_
    refine va_put (D := G) (ci := 7) (v := .int (I 5)) (ty := .int) (C := RX7) (T := TX7) (N := 33) hx hb hts inlX7 tyX7 tyX7_ok nmX7 hown hE.1 hP hD hS 0 rfl rfl 19 (by decide) (hts _ (bg 10 0 rfl)) (fun _ h9 => h9) rfl (by decide +kernel) rfl rfl (Nat.le_of_ble_eq_true rfl) dX7_readPart_294 (fun H locs hP hD hS => ?_)
    have hP : va_P G vwCl (wX7 q cI cZ cO (upd I 6 (I 5)) A L) H := hP
    have hD : va_D Z (wX7 q cI cZ cO (upd I 6 (I 5)) A L) := hD
    exact b_297 (upd I 6 (I 5)) A H locs hP hD hS ls (lv_sub hl [] rfl) hf
  have b_284 : ∀ (I : Nat → Int32) (A : Nat → Nat → Int32) (y1 : Int32) (y2 : Int32) (y3 : Int32), ∀ (H : Heap) (locs : List Loc), va_P G vwCl (wX7 q cI cZ cO I A L) H → va_D Z (wX7 q cI cZ cO I A L) → va_S Z s.heap H locs → ∀ ls : Array Slot, lv_has ls 4 [] → fX7_readPart_284 I A y1 y2 y3 = some (Iz, Az) → W p l e rmX7_readPart s m [.ref (q 0), .int x1].toArray below meth cd H locs 0 0 Q (F0 m 284 ls [.int y3, .int y2, .int y1, .ref (q 11)]) := by
    intro I A y1 y2 y3 H locs hP hD hS ls hl hf
    unfold fX7_readPart_284 at hf
    refine lv_ior hx hb dX7_readPart_284 ?_
    obtain ⟨g1, hg1, hf⟩ := bnd hf
    refine x_iast hx hb hE.1 hP hD hS 11 0 rfl rfl hg1 dX7_readPart_285 (fun H locs hP hD hS => ?_)
    have hP : va_P G vwCl (wX7 q cI cZ cO I (va_up A 10 g1) L) H := hP
    have hD : va_D Z (wX7 q cI cZ cO I (va_up A 10 g1) L) := hD
    refine lv_goto (tgt := 297) hx hb dX7_readPart_286 (by decide) ?_
    exact b_297 I (va_up A 10 g1) H locs hP hD hS ls (lv_sub hl [] rfl) hf
  have b_213 : ∀ (I : Nat → Int32) (A : Nat → Nat → Int32) (u1 : Int32), ∀ (H : Heap) (locs : List Loc), va_P G vwCl (wX7 q cI cZ cO I A L) H → va_D Z (wX7 q cI cZ cO I A L) → va_S Z s.heap H locs → ∀ ls : Array Slot, lv_has ls 4 [(0, .ref (q 0)), (1, .int u1)] → fX7_readPart_213 I A u1 = some (Iz, Az) → W p l e rmX7_readPart s m [.ref (q 0), .int x1].toArray below meth cd H locs 0 0 Q (F0 m 213 ls []) := by
    intro I A u1 H locs hP hD hS ls hl hf
    unfold fX7_readPart_213 at hf
    refine lv_iload_n hx hb dX7_readPart_213 rfl (lv_at hl 1 rfl) ?_
    refine lv_bipush (v := 83) hx hb dX7_readPart_214 (by decide) ?_
    refine lv_icmp_ne (tgt := 289) hx hb dX7_readPart_216 (by decide) (fun c1 => ?_) (fun c1 => ?_)
    · rw [if_neg c1] at hf
      exact b_289 I A H locs hP hD hS ls (lv_sub hl [0] rfl) hf
    · rw [if_pos c1] at hf
      refine lv_aload_n hx hb dX7_readPart_219 rfl (lv_at hl 0 rfl) ?_
      obtain ⟨z2, hz2, hf⟩ := bnd hf
      refine x_rdV (C := RX7) (n := 0) (ci := 7) hx hb hml hown hts hE (ct_X7_saidLeft l G cI cZ cO q I A L z2 hz2) (bg 10 23 rfl) mb_X7_saidLeft.1 mb_X7_saidLeft.2.1 mb_X7_saidLeft.2.2.1 mb_X7_saidLeft.2.2.2 hd_X7_saidLeft rfl (by decide) (x_cut hP [0, 1, 2, 3, 4, 5, 6, 7, 8, 9, 10, 11, 12, 13, 14, 15, 16, 17, 18, 19, 20, 21, 22] rfl) rfl rfl rfl rfl hl.1 (Nat.le_of_ble_eq_true rfl) ⟨Nat.zero_le _, Nat.zero_le _⟩ dX7_readPart_220 ?_
      refine lv_if_eq (tgt := 289) hx hb dX7_readPart_223 (by decide) (fun c3 => ?_) (fun c3 => ?_)
      · rw [if_pos c3] at hf
        exact b_289 I A H locs hP hD hS ls (lv_sub hl [0] rfl) hf
      · rw [if_neg c3] at hf
        refine lv_aload_n hx hb dX7_readPart_226 rfl (lv_at hl 0 rfl) ?_
        refine lv_dup hx hb dX7_readPart_227 rfl ?_
        refine va_get (D := G) (ci := 7) (v := .int (I 5)) (C := RX7) (T := TX7) (N := 33) hx hb hts inlX7 hown hE.1 hP 0 rfl rfl 18 (by decide) (hts _ (bg 9 23 rfl)) (fun _ h9 => h9) rfl dX7_readPart_228 ?_
        refine lv_iconst (v := 1) hx hb dX7_readPart_231 (by decide) ?_
        refine lv_iadd hx hb dX7_readPart_232 ?_
        refine va_put (D := G) (ci := 7) (v := .int ((I 5) + 1)) (ty := .int) (C := RX7) (T := TX7) (N := 33) hx hb hts inlX7 tyX7 tyX7_ok nmX7 hown hE.1 hP hD hS 0 rfl rfl 18 (by decide) (hts _ (bg 9 23 rfl)) (fun _ h9 => h9) rfl (by decide +kernel) rfl rfl (Nat.le_of_ble_eq_true rfl) dX7_readPart_233 (fun H locs hP hD hS => ?_)
        have hP : va_P G vwCl (wX7 q cI cZ cO (upd I 5 ((I 5) + 1)) A L) H := hP
        have hD : va_D Z (wX7 q cI cZ cO (upd I 5 ((I 5) + 1)) A L) := hD
        refine lv_aload_n hx hb dX7_readPart_236 rfl (lv_at hl 0 rfl) ?_
        refine lv_aload_n hx hb dX7_readPart_237 rfl (lv_at hl 0 rfl) ?_
        obtain ⟨z4, hz4, hf⟩ := bnd hf
        refine x_rdV (C := RX7) (n := 0) (ci := 7) hx hb hml hown hts hE (ct_X7_saidLeft l G cI cZ cO q (upd I 5 ((I 5) + 1)) A L z4 hz4) (bg 10 23 rfl) mb_X7_saidLeft.1 mb_X7_saidLeft.2.1 mb_X7_saidLeft.2.2.1 mb_X7_saidLeft.2.2.2 hd_X7_saidLeft rfl (by decide) (x_cut hP [0, 1, 2, 3, 4, 5, 6, 7, 8, 9, 10, 11, 12, 13, 14, 15, 16, 17, 18, 19, 20, 21, 22] rfl) rfl rfl rfl rfl hl.1 (Nat.le_of_ble_eq_true rfl) ⟨Nat.zero_le _, Nat.zero_le _⟩ dX7_readPart_238 ?_
        obtain ⟨z5, hz5, hf⟩ := bnd hf
        refine x_wrV (C := RX7) (n := 1) (ci := 7) (ws1 := (wX7 q cI cZ cO z5.2 A L)) hx hb hml hown hts hE (ct_X7_figureOf l G cI cZ cO q (upd I 5 ((I 5) + 1)) A L z4 z5.1 z5.2 hz5) (bg 10 7 rfl) mb_X7_figureOf.1 mb_X7_figureOf.2.1 mb_X7_figureOf.2.2.1 mb_X7_figureOf.2.2.2 hd_X7_figureOf rfl (by decide) hP hD hS hA [0, 1, 2, 3, 4, 5, 6, 7, 8, 9, 10, 11, 12, 13, 14, 15, 16, 17, 18, 19, 20, 21, 22] [] (by decide) rfl rfl rfl rfl rfl rfl rfl rfl rfl rfl hl.1 (Nat.le_of_ble_eq_true rfl) ⟨Nat.zero_le _, Nat.zero_le _⟩ dX7_readPart_241 (fun H locs hP hD hS => ?_)
        refine lv_istore_n (lv' := [(2, .int z5.1), (0, .ref (q 0)), (1, .int u1)]) hx hb dX7_readPart_244 rfl hl (by decide) rfl (fun ls hl => ?_)
        refine lv_aload_n hx hb dX7_readPart_245 rfl (lv_at hl 1 rfl) ?_
        refine lv_bipush (v := 63) hx hb dX7_readPart_246 (by decide) ?_
        refine lv_aload_n hx hb dX7_readPart_248 rfl (lv_at hl 1 rfl) ?_
        refine va_get (D := G) (ci := 7) (v := .ref (q 11)) (C := RX7) (T := TX7) (N := 33) hx hb hts inlX7 hown hE.1 hP 0 rfl rfl 12 (by decide) (hts _ (bg 4 0 rfl)) (fun _ h9 => h9) rfl dX7_readPart_249 ?_
        refine lv_iload_n hx hb dX7_readPart_252 rfl (lv_at hl 0 rfl) ?_
        obtain ⟨v6, hv6, hf⟩ := bnd hf
        refine x_iald hx hb hE.1 hP 11 0 rfl rfl hv6 dX7_readPart_253 ?_
        refine lv_iconst (v := (-1)) hx hb dX7_readPart_254 (by decide) ?_
        refine lv_ixor hx hb dX7_readPart_255 ?_
        refine lv_iand hx hb dX7_readPart_256 ?_
        obtain ⟨z7, hz7, hf⟩ := bnd hf
        refine x_wrV (C := RX7) (n := 1) (ci := 7) (ws1 := (wX7 q cI cZ cO z7.2 A L)) hx hb hml hown hts hE (ct_X7_figureOf l G cI cZ cO q z5.2 A L (63 &&& (v6 ^^^ (-1))) z7.1 z7.2 hz7) (bg 10 7 rfl) mb_X7_figureOf.1 mb_X7_figureOf.2.1 mb_X7_figureOf.2.2.1 mb_X7_figureOf.2.2.2 hd_X7_figureOf rfl (by decide) hP hD hS hA [0, 1, 2, 3, 4, 5, 6, 7, 8, 9, 10, 11, 12, 13, 14, 15, 16, 17, 18, 19, 20, 21, 22] [] (by decide) rfl rfl rfl rfl rfl rfl rfl rfl rfl rfl hl.1 (Nat.le_of_ble_eq_true rfl) ⟨Nat.zero_le _, Nat.zero_le _⟩ dX7_readPart_257 (fun H locs hP hD hS => ?_)
        refine lv_istore_n (lv' := [(3, .int z7.1), (2, .int z5.1), (0, .ref (q 0)), (1, .int u1)]) hx hb dX7_readPart_260 rfl hl (by decide) rfl (fun ls hl => ?_)
        refine lv_aload_n hx hb dX7_readPart_261 rfl (lv_at hl 2 rfl) ?_
        refine va_get (D := G) (ci := 7) (v := .ref (q 11)) (C := RX7) (T := TX7) (N := 33) hx hb hts inlX7 hown hE.1 hP 0 rfl rfl 12 (by decide) (hts _ (bg 4 0 rfl)) (fun _ h9 => h9) rfl dX7_readPart_262 ?_
        refine lv_iload_n hx hb dX7_readPart_265 rfl (lv_at hl 1 rfl) ?_
        refine lv_dup2_11 hx hb dX7_readPart_266 rfl rfl ?_
        obtain ⟨v8, hv8, hf⟩ := bnd hf
        refine x_iald hx hb hE.1 hP 11 0 rfl rfl hv8 dX7_readPart_267 ?_
        refine lv_aload_n hx hb dX7_readPart_268 rfl (lv_at hl 2 rfl) ?_
        refine va_get (D := G) (ci := 7) (v := .int ((z7.2 6))) (C := RX7) (T := TX7) (N := 33) hx hb hts inlX7 hown hE.1 hP 0 rfl rfl 19 (by decide) (hts _ (bg 10 0 rfl)) (fun _ h9 => h9) rfl dX7_readPart_269 ?_
        refine lv_bipush (v := (-9)) hx hb dX7_readPart_272 (by decide) ?_
        refine lv_icmp_ne (tgt := 283) hx hb dX7_readPart_274 (by decide) (fun c9 => ?_) (fun c9 => ?_)
        · rw [if_neg c9] at hf
          refine lv_iconst (v := 0) hx hb dX7_readPart_283 (by decide) ?_
          exact b_284 z7.2 A z5.1 v8 0 H locs hP hD hS ls (lv_sub hl [] rfl) hf
        · rw [if_pos c9] at hf
          refine lv_iconst (v := 1) hx hb dX7_readPart_277 (by decide) ?_
          refine lv_iload_n hx hb dX7_readPart_278 rfl (lv_at hl 0 rfl) ?_
          refine x_ishl hx hb dX7_readPart_279 ?_
          refine lv_goto (tgt := 284) hx hb dX7_readPart_280 (by decide) ?_
          exact b_284 z7.2 A z5.1 v8 (shl 1 z7.1) H locs hP hD hS ls (lv_sub hl [] rfl) hf
  have b_161 : ∀ (I : Nat → Int32) (A : Nat → Nat → Int32) (u1 : Int32), ∀ (H : Heap) (locs : List Loc), va_P G vwCl (wX7 q cI cZ cO I A L) H → va_D Z (wX7 q cI cZ cO I A L) → va_S Z s.heap H locs → ∀ ls : Array Slot, lv_has ls 4 [(0, .ref (q 0)), (1, .int u1)] → fX7_readPart_161 I A u1 = some (Iz, Az) → W p l e rmX7_readPart s m [.ref (q 0), .int x1].toArray below meth cd H locs 0 0 Q (F0 m 161 ls []) := by
    intro I A u1 H locs hP hD hS ls hl hf
    unfold fX7_readPart_161 at hf
    refine lv_iload_n hx hb dX7_readPart_161 rfl (lv_at hl 1 rfl) ?_
    refine lv_bipush (v := 80) hx hb dX7_readPart_162 (by decide) ?_
    refine lv_icmp_ne (tgt := 213) hx hb dX7_readPart_164 (by decide) (fun c1 => ?_) (fun c1 => ?_)
    · rw [if_neg c1] at hf
      exact b_213 I A u1 H locs hP hD hS ls (lv_sub hl [0, 1] rfl) hf
    · rw [if_pos c1] at hf
      refine lv_aload_n hx hb dX7_readPart_167 rfl (lv_at hl 0 rfl) ?_
      refine va_get (D := G) (ci := 7) (v := .int (I 3)) (C := RX7) (T := TX7) (N := 33) hx hb hts inlX7 hown hE.1 hP 0 rfl rfl 15 (by decide) (hts _ (bg 10 2 rfl)) (fun _ h9 => h9) rfl dX7_readPart_168 ?_
      refine lv_iconst (v := 4) hx hb dX7_readPart_171 (by decide) ?_
      refine lv_icmp_ge (tgt := 213) hx hb dX7_readPart_172 (by decide) (fun c2 => ?_) (fun c2 => ?_)
      · rw [if_pos c2] at hf
        exact b_213 I A u1 H locs hP hD hS ls (lv_sub hl [0, 1] rfl) hf
      · rw [if_neg c2] at hf
        refine lv_aload_n hx hb dX7_readPart_175 rfl (lv_at hl 0 rfl) ?_
        refine lv_dup hx hb dX7_readPart_176 rfl ?_
        refine va_get (D := G) (ci := 7) (v := .int (I 5)) (C := RX7) (T := TX7) (N := 33) hx hb hts inlX7 hown hE.1 hP 0 rfl rfl 18 (by decide) (hts _ (bg 9 23 rfl)) (fun _ h9 => h9) rfl dX7_readPart_177 ?_
        refine lv_iconst (v := 1) hx hb dX7_readPart_180 (by decide) ?_
        refine lv_iadd hx hb dX7_readPart_181 ?_
        refine va_put (D := G) (ci := 7) (v := .int ((I 5) + 1)) (ty := .int) (C := RX7) (T := TX7) (N := 33) hx hb hts inlX7 tyX7 tyX7_ok nmX7 hown hE.1 hP hD hS 0 rfl rfl 18 (by decide) (hts _ (bg 9 23 rfl)) (fun _ h9 => h9) rfl (by decide +kernel) rfl rfl (Nat.le_of_ble_eq_true rfl) dX7_readPart_182 (fun H locs hP hD hS => ?_)
        have hP : va_P G vwCl (wX7 q cI cZ cO (upd I 5 ((I 5) + 1)) A L) H := hP
        have hD : va_D Z (wX7 q cI cZ cO (upd I 5 ((I 5) + 1)) A L) := hD
        refine lv_aload_n hx hb dX7_readPart_185 rfl (lv_at hl 0 rfl) ?_
        refine va_get (D := G) (ci := 7) (v := .ref (q 12)) (C := RX7) (T := TX7) (N := 33) hx hb hts inlX7 hown hE.1 hP 0 rfl rfl 13 (by decide) (hts _ (bg 4 1 rfl)) (fun _ h9 => h9) rfl dX7_readPart_186 ?_
        refine lv_aload_n hx hb dX7_readPart_189 rfl (lv_at hl 0 rfl) ?_
        refine va_get (D := G) (ci := 7) (v := .int (I 3)) (C := RX7) (T := TX7) (N := 33) hx hb hts inlX7 hown hE.1 hP 0 rfl rfl 15 (by decide) (hts _ (bg 10 2 rfl)) (fun _ h9 => h9) rfl dX7_readPart_190 ?_
        refine lv_aload_n hx hb dX7_readPart_193 rfl (lv_at hl 0 rfl) ?_
        refine lv_bipush (v := 63) hx hb dX7_readPart_194 (by decide) ?_
        obtain ⟨z3, hz3, hf⟩ := bnd hf
        refine x_wrV (C := RX7) (n := 1) (ci := 7) (ws1 := (wX7 q cI cZ cO z3.2 A L)) hx hb hml hown hts hE (ct_X7_figureOf l G cI cZ cO q (upd I 5 ((I 5) + 1)) A L 63 z3.1 z3.2 hz3) (bg 10 7 rfl) mb_X7_figureOf.1 mb_X7_figureOf.2.1 mb_X7_figureOf.2.2.1 mb_X7_figureOf.2.2.2 hd_X7_figureOf rfl (by decide) hP hD hS hA [0, 1, 2, 3, 4, 5, 6, 7, 8, 9, 10, 11, 12, 13, 14, 15, 16, 17, 18, 19, 20, 21, 22] [] (by decide) rfl rfl rfl rfl rfl rfl rfl rfl rfl rfl hl.1 (Nat.le_of_ble_eq_true rfl) ⟨Nat.zero_le _, Nat.zero_le _⟩ dX7_readPart_196 (fun H locs hP hD hS => ?_)
        obtain ⟨g4, hg4, hf⟩ := bnd hf
        refine x_iast hx hb hE.1 hP hD hS 12 0 rfl rfl hg4 dX7_readPart_199 (fun H locs hP hD hS => ?_)
        have hP : va_P G vwCl (wX7 q cI cZ cO z3.2 (va_up A 11 g4) L) H := hP
        have hD : va_D Z (wX7 q cI cZ cO z3.2 (va_up A 11 g4) L) := hD
        refine lv_aload_n hx hb dX7_readPart_200 rfl (lv_at hl 0 rfl) ?_
        refine lv_dup hx hb dX7_readPart_201 rfl ?_
        refine va_get (D := G) (ci := 7) (v := .int ((z3.2 3))) (C := RX7) (T := TX7) (N := 33) hx hb hts inlX7 hown hE.1 hP 0 rfl rfl 15 (by decide) (hts _ (bg 10 2 rfl)) (fun _ h9 => h9) rfl dX7_readPart_202 ?_
        refine lv_iconst (v := 1) hx hb dX7_readPart_205 (by decide) ?_
        refine lv_iadd hx hb dX7_readPart_206 ?_
        refine va_put (D := G) (ci := 7) (v := .int ((z3.2 3) + 1)) (ty := .int) (C := RX7) (T := TX7) (N := 33) hx hb hts inlX7 tyX7 tyX7_ok nmX7 hown hE.1 hP hD hS 0 rfl rfl 15 (by decide) (hts _ (bg 10 2 rfl)) (fun _ h9 => h9) rfl (by decide +kernel) rfl rfl (Nat.le_of_ble_eq_true rfl) dX7_readPart_207 (fun H locs hP hD hS => ?_)
        have hP : va_P G vwCl (wX7 q cI cZ cO (upd z3.2 3 ((z3.2 3) + 1)) (va_up A 11 g4) L) H := hP
        have hD : va_D Z (wX7 q cI cZ cO (upd z3.2 3 ((z3.2 3) + 1)) (va_up A 11 g4) L) := hD
        refine lv_goto (tgt := 297) hx hb dX7_readPart_210 (by decide) ?_
        exact b_297 (upd z3.2 3 ((z3.2 3) + 1)) (va_up A 11 g4) H locs hP hD hS ls (lv_sub hl [] rfl) hf
  have b_158 : ∀ (I : Nat → Int32) (A : Nat → Nat → Int32), ∀ (H : Heap) (locs : List Loc), va_P G vwCl (wX7 q cI cZ cO I A L) H → va_D Z (wX7 q cI cZ cO I A L) → va_S Z s.heap H locs → ∀ ls : Array Slot, lv_has ls 4 [] → fX7_readPart_158 I A = some (Iz, Az) → W p l e rmX7_readPart s m [.ref (q 0), .int x1].toArray below meth cd H locs 0 0 Q (F0 m 158 ls []) := by
    intro I A H locs hP hD hS ls hl hf
    unfold fX7_readPart_158 at hf
    refine lv_goto (tgt := 297) hx hb dX7_readPart_158 (by decide) ?_
    exact b_297 I A H locs hP hD hS ls (lv_sub hl [] rfl) hf
  have b_83 : ∀ (I : Nat → Int32) (A : Nat → Nat → Int32) (u1 : Int32), ∀ (H : Heap) (locs : List Loc), va_P G vwCl (wX7 q cI cZ cO I A L) H → va_D Z (wX7 q cI cZ cO I A L) → va_S Z s.heap H locs → ∀ ls : Array Slot, lv_has ls 4 [(0, .ref (q 0)), (1, .int u1)] → fX7_readPart_83 I A u1 = some (Iz, Az) → W p l e rmX7_readPart s m [.ref (q 0), .int x1].toArray below meth cd H locs 0 0 Q (F0 m 83 ls []) := by
    intro I A u1 H locs hP hD hS ls hl hf
    unfold fX7_readPart_83 at hf
    refine lv_iload_n hx hb dX7_readPart_83 rfl (lv_at hl 1 rfl) ?_
    refine lv_bipush (v := 88) hx hb dX7_readPart_84 (by decide) ?_
    refine lv_icmp_ne (tgt := 161) hx hb dX7_readPart_86 (by decide) (fun c1 => ?_) (fun c1 => ?_)
    · rw [if_neg c1] at hf
      exact b_161 I A u1 H locs hP hD hS ls (lv_sub hl [0, 1] rfl) hf
    · rw [if_pos c1] at hf
      refine lv_aload_n hx hb dX7_readPart_89 rfl (lv_at hl 0 rfl) ?_
      obtain ⟨z2, hz2, hf⟩ := bnd hf
      refine x_rdV (C := RX7) (n := 0) (ci := 7) hx hb hml hown hts hE (ct_X7_firstsLeft l G cI cZ cO q I A L z2 hz2) (bg 10 15 rfl) mb_X7_firstsLeft.1 mb_X7_firstsLeft.2.1 mb_X7_firstsLeft.2.2.1 mb_X7_firstsLeft.2.2.2 hd_X7_firstsLeft rfl (by decide) (x_cut hP [0, 1, 2, 3, 4, 5, 6, 7, 8, 9, 10, 11, 12, 13, 14, 15, 16, 17, 18, 19, 20, 21, 22] rfl) rfl rfl rfl rfl hl.1 (Nat.le_of_ble_eq_true rfl) ⟨Nat.zero_le _, Nat.zero_le _⟩ dX7_readPart_90 ?_
      refine lv_if_eq (tgt := 161) hx hb dX7_readPart_93 (by decide) (fun c3 => ?_) (fun c3 => ?_)
      · rw [if_pos c3] at hf
        exact b_161 I A u1 H locs hP hD hS ls (lv_sub hl [0, 1] rfl) hf
      · rw [if_neg c3] at hf
        refine lv_aload_n hx hb dX7_readPart_96 rfl (lv_at hl 0 rfl) ?_
        refine lv_dup hx hb dX7_readPart_97 rfl ?_
        refine va_get (D := G) (ci := 7) (v := .int (I 5)) (C := RX7) (T := TX7) (N := 33) hx hb hts inlX7 hown hE.1 hP 0 rfl rfl 18 (by decide) (hts _ (bg 9 23 rfl)) (fun _ h9 => h9) rfl dX7_readPart_98 ?_
        refine lv_iconst (v := 1) hx hb dX7_readPart_101 (by decide) ?_
        refine lv_iadd hx hb dX7_readPart_102 ?_
        refine va_put (D := G) (ci := 7) (v := .int ((I 5) + 1)) (ty := .int) (C := RX7) (T := TX7) (N := 33) hx hb hts inlX7 tyX7 tyX7_ok nmX7 hown hE.1 hP hD hS 0 rfl rfl 18 (by decide) (hts _ (bg 9 23 rfl)) (fun _ h9 => h9) rfl (by decide +kernel) rfl rfl (Nat.le_of_ble_eq_true rfl) dX7_readPart_103 (fun H locs hP hD hS => ?_)
        have hP : va_P G vwCl (wX7 q cI cZ cO (upd I 5 ((I 5) + 1)) A L) H := hP
        have hD : va_D Z (wX7 q cI cZ cO (upd I 5 ((I 5) + 1)) A L) := hD
        refine lv_aload_n hx hb dX7_readPart_106 rfl (lv_at hl 0 rfl) ?_
        refine lv_aload_n hx hb dX7_readPart_107 rfl (lv_at hl 0 rfl) ?_
        obtain ⟨z4, hz4, hf⟩ := bnd hf
        refine x_rdV (C := RX7) (n := 0) (ci := 7) hx hb hml hown hts hE (ct_X7_firstsLeft l G cI cZ cO q (upd I 5 ((I 5) + 1)) A L z4 hz4) (bg 10 15 rfl) mb_X7_firstsLeft.1 mb_X7_firstsLeft.2.1 mb_X7_firstsLeft.2.2.1 mb_X7_firstsLeft.2.2.2 hd_X7_firstsLeft rfl (by decide) (x_cut hP [0, 1, 2, 3, 4, 5, 6, 7, 8, 9, 10, 11, 12, 13, 14, 15, 16, 17, 18, 19, 20, 21, 22] rfl) rfl rfl rfl rfl hl.1 (Nat.le_of_ble_eq_true rfl) ⟨Nat.zero_le _, Nat.zero_le _⟩ dX7_readPart_108 ?_
        obtain ⟨z5, hz5, hf⟩ := bnd hf
        refine x_wrV (C := RX7) (n := 1) (ci := 7) (ws1 := (wX7 q cI cZ cO z5.2 A L)) hx hb hml hown hts hE (ct_X7_figureOf l G cI cZ cO q (upd I 5 ((I 5) + 1)) A L z4 z5.1 z5.2 hz5) (bg 10 7 rfl) mb_X7_figureOf.1 mb_X7_figureOf.2.1 mb_X7_figureOf.2.2.1 mb_X7_figureOf.2.2.2 hd_X7_figureOf rfl (by decide) hP hD hS hA [0, 1, 2, 3, 4, 5, 6, 7, 8, 9, 10, 11, 12, 13, 14, 15, 16, 17, 18, 19, 20, 21, 22] [] (by decide) rfl rfl rfl rfl rfl rfl rfl rfl rfl rfl hl.1 (Nat.le_of_ble_eq_true rfl) ⟨Nat.zero_le _, Nat.zero_le _⟩ dX7_readPart_111 (fun H locs hP hD hS => ?_)
        refine lv_istore_n (lv' := [(2, .int z5.1), (0, .ref (q 0)), (1, .int u1)]) hx hb dX7_readPart_114 rfl hl (by decide) rfl (fun ls hl => ?_)
        refine lv_aload_n hx hb dX7_readPart_115 rfl (lv_at hl 1 rfl) ?_
        refine lv_aload_n hx hb dX7_readPart_116 rfl (lv_at hl 1 rfl) ?_
        refine lv_iload_n hx hb dX7_readPart_117 rfl (lv_at hl 0 rfl) ?_
        obtain ⟨z6, hz6, hf⟩ := bnd hf
        refine x_rdV (C := RX7) (n := 1) (ci := 7) hx hb hml hown hts hE (ct_X7_pairsLeft l G cI cZ cO q z5.2 A L z5.1 z6 hz6) (bg 10 19 rfl) mb_X7_pairsLeft.1 mb_X7_pairsLeft.2.1 mb_X7_pairsLeft.2.2.1 mb_X7_pairsLeft.2.2.2 hd_X7_pairsLeft rfl (by decide) (x_cut hP [0, 1, 2, 3, 4, 5, 6, 7, 8, 9, 10, 11, 12, 13, 14, 15, 16, 17, 18, 19, 20, 21, 22] rfl) rfl rfl rfl rfl hl.1 (Nat.le_of_ble_eq_true rfl) ⟨Nat.zero_le _, Nat.zero_le _⟩ dX7_readPart_118 ?_
        obtain ⟨z7, hz7, hf⟩ := bnd hf
        refine x_wrV (C := RX7) (n := 1) (ci := 7) (ws1 := (wX7 q cI cZ cO z7.2 A L)) hx hb hml hown hts hE (ct_X7_figureOf l G cI cZ cO q z5.2 A L z6 z7.1 z7.2 hz7) (bg 10 7 rfl) mb_X7_figureOf.1 mb_X7_figureOf.2.1 mb_X7_figureOf.2.2.1 mb_X7_figureOf.2.2.2 hd_X7_figureOf rfl (by decide) hP hD hS hA [0, 1, 2, 3, 4, 5, 6, 7, 8, 9, 10, 11, 12, 13, 14, 15, 16, 17, 18, 19, 20, 21, 22] [] (by decide) rfl rfl rfl rfl rfl rfl rfl rfl rfl rfl hl.1 (Nat.le_of_ble_eq_true rfl) ⟨Nat.zero_le _, Nat.zero_le _⟩ dX7_readPart_121 (fun H locs hP hD hS => ?_)
        refine lv_istore_n (lv' := [(3, .int z7.1), (2, .int z5.1), (0, .ref (q 0)), (1, .int u1)]) hx hb dX7_readPart_124 rfl hl (by decide) rfl (fun ls hl => ?_)
        refine lv_aload_n hx hb dX7_readPart_125 rfl (lv_at hl 2 rfl) ?_
        refine va_get (D := G) (ci := 7) (v := .int ((z7.2 6))) (C := RX7) (T := TX7) (N := 33) hx hb hts inlX7 hown hE.1 hP 0 rfl rfl 19 (by decide) (hts _ (bg 10 0 rfl)) (fun _ h9 => h9) rfl dX7_readPart_126 ?_
        refine lv_bipush (v := (-9)) hx hb dX7_readPart_129 (by decide) ?_
        refine lv_icmp_ne (tgt := 158) hx hb dX7_readPart_131 (by decide) (fun c8 => ?_) (fun c8 => ?_)
        · rw [if_neg c8] at hf
          exact b_158 z7.2 A H locs hP hD hS ls (lv_sub hl [] rfl) hf
        · rw [if_pos c8] at hf
          refine lv_aload_n hx hb dX7_readPart_134 rfl (lv_at hl 2 rfl) ?_
          refine va_get (D := G) (ci := 7) (v := .ref (q 10)) (C := RX7) (T := TX7) (N := 33) hx hb hts inlX7 hown hE.1 hP 0 rfl rfl 11 (by decide) (hts _ (bg 3 23 rfl)) (fun _ h9 => h9) rfl dX7_readPart_135 ?_
          refine lv_iload_n hx hb dX7_readPart_138 rfl (lv_at hl 1 rfl) ?_
          refine lv_dup2_11 hx hb dX7_readPart_139 rfl rfl ?_
          obtain ⟨v9, hv9, hf⟩ := bnd hf
          refine x_iald hx hb hE.1 hP 10 0 rfl rfl hv9 dX7_readPart_140 ?_
          refine lv_iconst (v := 1) hx hb dX7_readPart_141 (by decide) ?_
          refine lv_iload_n hx hb dX7_readPart_142 rfl (lv_at hl 0 rfl) ?_
          refine x_ishl hx hb dX7_readPart_143 ?_
          refine lv_ior hx hb dX7_readPart_144 ?_
          obtain ⟨g10, hg10, hf⟩ := bnd hf
          refine x_iast hx hb hE.1 hP hD hS 10 0 rfl rfl hg10 dX7_readPart_145 (fun H locs hP hD hS => ?_)
          have hP : va_P G vwCl (wX7 q cI cZ cO z7.2 (va_up A 9 g10) L) H := hP
          have hD : va_D Z (wX7 q cI cZ cO z7.2 (va_up A 9 g10) L) := hD
          refine lv_aload_n hx hb dX7_readPart_146 rfl (lv_at hl 2 rfl) ?_
          refine va_get (D := G) (ci := 7) (v := .ref (q 10)) (C := RX7) (T := TX7) (N := 33) hx hb hts inlX7 hown hE.1 hP 0 rfl rfl 11 (by decide) (hts _ (bg 3 23 rfl)) (fun _ h9 => h9) rfl dX7_readPart_147 ?_
          refine lv_iload_n hx hb dX7_readPart_150 rfl (lv_at hl 0 rfl) ?_
          refine lv_dup2_11 hx hb dX7_readPart_151 rfl rfl ?_
          obtain ⟨v11, hv11, hf⟩ := bnd hf
          refine x_iald hx hb hE.1 hP 10 0 rfl rfl hv11 dX7_readPart_152 ?_
          refine lv_iconst (v := 1) hx hb dX7_readPart_153 (by decide) ?_
          refine lv_iload_n hx hb dX7_readPart_154 rfl (lv_at hl 1 rfl) ?_
          refine x_ishl hx hb dX7_readPart_155 ?_
          refine lv_ior hx hb dX7_readPart_156 ?_
          obtain ⟨g12, hg12, hf⟩ := bnd hf
          refine x_iast hx hb hE.1 hP hD hS 10 0 rfl rfl hg12 dX7_readPart_157 (fun H locs hP hD hS => ?_)
          have hP : va_P G vwCl (wX7 q cI cZ cO z7.2 (va_up (va_up A 9 g10) 9 g12) L) H := hP
          have hD : va_D Z (wX7 q cI cZ cO z7.2 (va_up (va_up A 9 g10) 9 g12) L) := hD
          exact b_158 z7.2 (va_up (va_up A 9 g10) 9 g12) H locs hP hD hS ls (lv_sub hl [] rfl) hf
  unfold fX7_readPart at hf
  have hS : va_S Z s.heap s.heap [] := va_S.rf
  obtain ⟨H, hH⟩ : ∃ H, H = s.heap := ⟨_, rfl⟩
  obtain ⟨locs, hlocs⟩ : ∃ locs : List Loc, locs = [] := ⟨_, rfl⟩
  rw [← hlocs]
  rw [← hlocs] at hS
  suffices hW : ∀ H : Heap, va_P G vwCl (wX7 q cI cZ cO I A L) H → va_S Z s.heap H locs → W p l e rmX7_readPart s m [.ref (q 0), .int x1].toArray below meth cd H locs 0 0 Q (F0 m 0 ls []) from hW s.heap hP hS
  clear hP hS hH H
  intro H hP hS
  refine lv_iload_n hx hb dX7_readPart_0 rfl (lv_at hl 1 rfl) ?_
  refine lv_bipush (v := 82) hx hb dX7_readPart_1 (by decide) ?_
  refine lv_icmp_ne (tgt := 83) hx hb dX7_readPart_3 (by decide) (fun c1 => ?_) (fun c1 => ?_)
  · rw [if_neg c1] at hf
    exact b_83 I A x1 H locs hP hD hS ls (lv_sub hl [0, 1] rfl) hf
  · rw [if_pos c1] at hf
    refine lv_aload_n hx hb dX7_readPart_6 rfl (lv_at hl 0 rfl) ?_
    refine va_get (D := G) (ci := 7) (v := .int (I 2)) (C := RX7) (T := TX7) (N := 33) hx hb hts inlX7 hown hE.1 hP 0 rfl rfl 14 (by decide) (hts _ (bg 10 1 rfl)) (fun _ h9 => h9) rfl dX7_readPart_7 ?_
    refine lv_iconst (v := 5) hx hb dX7_readPart_10 (by decide) ?_
    refine lv_icmp_ge (tgt := 83) hx hb dX7_readPart_11 (by decide) (fun c2 => ?_) (fun c2 => ?_)
    · rw [if_pos c2] at hf
      exact b_83 I A x1 H locs hP hD hS ls (lv_sub hl [0, 1] rfl) hf
    · rw [if_neg c2] at hf
      refine lv_aload_n hx hb dX7_readPart_14 rfl (lv_at hl 0 rfl) ?_
      refine lv_dup hx hb dX7_readPart_15 rfl ?_
      refine va_get (D := G) (ci := 7) (v := .int (I 5)) (C := RX7) (T := TX7) (N := 33) hx hb hts inlX7 hown hE.1 hP 0 rfl rfl 18 (by decide) (hts _ (bg 9 23 rfl)) (fun _ h9 => h9) rfl dX7_readPart_16 ?_
      refine lv_iconst (v := 1) hx hb dX7_readPart_19 (by decide) ?_
      refine lv_iadd hx hb dX7_readPart_20 ?_
      refine va_put (D := G) (ci := 7) (v := .int ((I 5) + 1)) (ty := .int) (C := RX7) (T := TX7) (N := 33) hx hb hts inlX7 tyX7 tyX7_ok nmX7 hown hE.1 hP hD hS 0 rfl rfl 18 (by decide) (hts _ (bg 9 23 rfl)) (fun _ h9 => h9) rfl (by decide +kernel) rfl rfl (Nat.le_of_ble_eq_true rfl) dX7_readPart_21 (fun H locs hP hD hS => ?_)
      have hP : va_P G vwCl (wX7 q cI cZ cO (upd I 5 ((I 5) + 1)) A L) H := hP
      have hD : va_D Z (wX7 q cI cZ cO (upd I 5 ((I 5) + 1)) A L) := hD
      refine lv_aload_n hx hb dX7_readPart_24 rfl (lv_at hl 0 rfl) ?_
      refine va_get (D := G) (ci := 7) (v := .ref (q 7)) (C := RX7) (T := TX7) (N := 33) hx hb hts inlX7 hown hE.1 hP 0 rfl rfl 8 (by decide) (hts _ (bg 3 20 rfl)) (fun _ h9 => h9) rfl dX7_readPart_25 ?_
      refine lv_aload_n hx hb dX7_readPart_28 rfl (lv_at hl 0 rfl) ?_
      refine va_get (D := G) (ci := 7) (v := .int (I 2)) (C := RX7) (T := TX7) (N := 33) hx hb hts inlX7 hown hE.1 hP 0 rfl rfl 14 (by decide) (hts _ (bg 10 1 rfl)) (fun _ h9 => h9) rfl dX7_readPart_29 ?_
      refine lv_aload_n hx hb dX7_readPart_32 rfl (lv_at hl 0 rfl) ?_
      refine lv_sipush (v := 1022) hx hb dX7_readPart_33 (by decide) ?_
      obtain ⟨z3, hz3, hf⟩ := bnd hf
      refine x_wrV (C := RX7) (n := 1) (ci := 7) (ws1 := (wX7 q cI cZ cO z3.2 A L)) hx hb hml hown hts hE (ct_X7_figureOf l G cI cZ cO q (upd I 5 ((I 5) + 1)) A L 1022 z3.1 z3.2 hz3) (bg 10 7 rfl) mb_X7_figureOf.1 mb_X7_figureOf.2.1 mb_X7_figureOf.2.2.1 mb_X7_figureOf.2.2.2 hd_X7_figureOf rfl (by decide) hP hD hS hA [0, 1, 2, 3, 4, 5, 6, 7, 8, 9, 10, 11, 12, 13, 14, 15, 16, 17, 18, 19, 20, 21, 22] [] (by decide) rfl rfl rfl rfl rfl rfl rfl rfl rfl rfl hl.1 (Nat.le_of_ble_eq_true rfl) ⟨Nat.zero_le _, Nat.zero_le _⟩ dX7_readPart_36 (fun H locs hP hD hS => ?_)
      obtain ⟨g4, hg4, hf⟩ := bnd hf
      refine x_iast hx hb hE.1 hP hD hS 7 0 rfl rfl hg4 dX7_readPart_39 (fun H locs hP hD hS => ?_)
      have hP : va_P G vwCl (wX7 q cI cZ cO z3.2 (va_up A 6 g4) L) H := hP
      have hD : va_D Z (wX7 q cI cZ cO z3.2 (va_up A 6 g4) L) := hD
      refine lv_aload_n hx hb dX7_readPart_40 rfl (lv_at hl 0 rfl) ?_
      refine va_get (D := G) (ci := 7) (v := .ref (q 8)) (C := RX7) (T := TX7) (N := 33) hx hb hts inlX7 hown hE.1 hP 0 rfl rfl 9 (by decide) (hts _ (bg 3 21 rfl)) (fun _ h9 => h9) rfl dX7_readPart_41 ?_
      refine lv_aload_n hx hb dX7_readPart_44 rfl (lv_at hl 0 rfl) ?_
      refine va_get (D := G) (ci := 7) (v := .int ((z3.2 2))) (C := RX7) (T := TX7) (N := 33) hx hb hts inlX7 hown hE.1 hP 0 rfl rfl 14 (by decide) (hts _ (bg 10 1 rfl)) (fun _ h9 => h9) rfl dX7_readPart_45 ?_
      refine lv_aload_n hx hb dX7_readPart_48 rfl (lv_at hl 0 rfl) ?_
      refine lv_iconst (v := 3) hx hb dX7_readPart_49 (by decide) ?_
      obtain ⟨z5, hz5, hf⟩ := bnd hf
      refine x_wrV (C := RX7) (n := 1) (ci := 7) (ws1 := (wX7 q cI cZ cO z5.2 (va_up A 6 g4) L)) hx hb hml hown hts hE (ct_X7_figureOf l G cI cZ cO q z3.2 (va_up A 6 g4) L 3 z5.1 z5.2 hz5) (bg 10 7 rfl) mb_X7_figureOf.1 mb_X7_figureOf.2.1 mb_X7_figureOf.2.2.1 mb_X7_figureOf.2.2.2 hd_X7_figureOf rfl (by decide) hP hD hS hA [0, 1, 2, 3, 4, 5, 6, 7, 8, 9, 10, 11, 12, 13, 14, 15, 16, 17, 18, 19, 20, 21, 22] [] (by decide) rfl rfl rfl rfl rfl rfl rfl rfl rfl rfl hl.1 (Nat.le_of_ble_eq_true rfl) ⟨Nat.zero_le _, Nat.zero_le _⟩ dX7_readPart_50 (fun H locs hP hD hS => ?_)
      obtain ⟨g6, hg6, hf⟩ := bnd hf
      refine x_iast hx hb hE.1 hP hD hS 8 0 rfl rfl hg6 dX7_readPart_53 (fun H locs hP hD hS => ?_)
      have hP : va_P G vwCl (wX7 q cI cZ cO z5.2 (va_up (va_up A 6 g4) 7 g6) L) H := hP
      have hD : va_D Z (wX7 q cI cZ cO z5.2 (va_up (va_up A 6 g4) 7 g6) L) := hD
      refine lv_aload_n hx hb dX7_readPart_54 rfl (lv_at hl 0 rfl) ?_
      refine va_get (D := G) (ci := 7) (v := .ref (q 9)) (C := RX7) (T := TX7) (N := 33) hx hb hts inlX7 hown hE.1 hP 0 rfl rfl 10 (by decide) (hts _ (bg 3 22 rfl)) (fun _ h9 => h9) rfl dX7_readPart_55 ?_
      refine lv_aload_n hx hb dX7_readPart_58 rfl (lv_at hl 0 rfl) ?_
      refine va_get (D := G) (ci := 7) (v := .int ((z5.2 2))) (C := RX7) (T := TX7) (N := 33) hx hb hts inlX7 hown hE.1 hP 0 rfl rfl 14 (by decide) (hts _ (bg 10 1 rfl)) (fun _ h9 => h9) rfl dX7_readPart_59 ?_
      refine lv_aload_n hx hb dX7_readPart_62 rfl (lv_at hl 0 rfl) ?_
      refine lv_sipush (v := 1023) hx hb dX7_readPart_63 (by decide) ?_
      obtain ⟨z7, hz7, hf⟩ := bnd hf
      refine x_wrV (C := RX7) (n := 1) (ci := 7) (ws1 := (wX7 q cI cZ cO z7.2 (va_up (va_up A 6 g4) 7 g6) L)) hx hb hml hown hts hE (ct_X7_figureOf l G cI cZ cO q z5.2 (va_up (va_up A 6 g4) 7 g6) L 1023 z7.1 z7.2 hz7) (bg 10 7 rfl) mb_X7_figureOf.1 mb_X7_figureOf.2.1 mb_X7_figureOf.2.2.1 mb_X7_figureOf.2.2.2 hd_X7_figureOf rfl (by decide) hP hD hS hA [0, 1, 2, 3, 4, 5, 6, 7, 8, 9, 10, 11, 12, 13, 14, 15, 16, 17, 18, 19, 20, 21, 22] [] (by decide) rfl rfl rfl rfl rfl rfl rfl rfl rfl rfl hl.1 (Nat.le_of_ble_eq_true rfl) ⟨Nat.zero_le _, Nat.zero_le _⟩ dX7_readPart_66 (fun H locs hP hD hS => ?_)
      obtain ⟨g8, hg8, hf⟩ := bnd hf
      refine x_iast hx hb hE.1 hP hD hS 9 0 rfl rfl hg8 dX7_readPart_69 (fun H locs hP hD hS => ?_)
      have hP : va_P G vwCl (wX7 q cI cZ cO z7.2 (va_up (va_up (va_up A 6 g4) 7 g6) 8 g8) L) H := hP
      have hD : va_D Z (wX7 q cI cZ cO z7.2 (va_up (va_up (va_up A 6 g4) 7 g6) 8 g8) L) := hD
      refine lv_aload_n hx hb dX7_readPart_70 rfl (lv_at hl 0 rfl) ?_
      refine lv_dup hx hb dX7_readPart_71 rfl ?_
      refine va_get (D := G) (ci := 7) (v := .int ((z7.2 2))) (C := RX7) (T := TX7) (N := 33) hx hb hts inlX7 hown hE.1 hP 0 rfl rfl 14 (by decide) (hts _ (bg 10 1 rfl)) (fun _ h9 => h9) rfl dX7_readPart_72 ?_
      refine lv_iconst (v := 1) hx hb dX7_readPart_75 (by decide) ?_
      refine lv_iadd hx hb dX7_readPart_76 ?_
      refine va_put (D := G) (ci := 7) (v := .int ((z7.2 2) + 1)) (ty := .int) (C := RX7) (T := TX7) (N := 33) hx hb hts inlX7 tyX7 tyX7_ok nmX7 hown hE.1 hP hD hS 0 rfl rfl 14 (by decide) (hts _ (bg 10 1 rfl)) (fun _ h9 => h9) rfl (by decide +kernel) rfl rfl (Nat.le_of_ble_eq_true rfl) dX7_readPart_77 (fun H locs hP hD hS => ?_)
      have hP : va_P G vwCl (wX7 q cI cZ cO (upd z7.2 2 ((z7.2 2) + 1)) (va_up (va_up (va_up A 6 g4) 7 g6) 8 g8) L) H := hP
      have hD : va_D Z (wX7 q cI cZ cO (upd z7.2 2 ((z7.2 2) + 1)) (va_up (va_up (va_up A 6 g4) 7 g6) 8 g8) L) := hD
      refine lv_goto (tgt := 297) hx hb dX7_readPart_80 (by decide) ?_
      exact b_297 (upd z7.2 2 ((z7.2 2) + 1)) (va_up (va_up (va_up A 6 g4) 7 g6) 8 g8) H locs hP hD hS ls (lv_sub hl [] rfl) hf
def fX7_readText_109 (I : Nat → Int32) (A : Nat → Nat → Int32) : Option (Int32 × (Nat → Int32) × (Nat → Nat → Int32)) := some ((I 6), I, A)
def fX7_readText_73 : Nat → (Nat → Int32) → (Nat → Nat → Int32) → Option (Int32 × (Nat → Int32) × (Nat → Nat → Int32))
  | 0, _, _ => none
  | n + 1, I, A => if (I 6) = (-9) then if (I 4) ≤ (I 5) then fX7_readText_109 I A else (rd 48 (A 12) (I 5)).bind fun v3 => (fX7_readPart I A v3).bind fun z4 => fX7_readText_73 n z4.1 z4.2 else fX7_readText_109 I A
def fX7_readText_66 (I : Nat → Int32) (A : Nat → Nat → Int32) : Option (Int32 × (Nat → Int32) × (Nat → Nat → Int32)) := some (0, I, A)
def fX7_readText_23 : Nat → (Nat → Int32) → (Nat → Nat → Int32) → Int32 → Option (Int32 × (Nat → Int32) × (Nat → Nat → Int32))
  | 0, _, _, _ => none
  | n + 1, I, A, u1 => if 5 ≤ u1 then if (I 4) = 0 then fX7_readText_66 I A else (rd 48 (A 12) 0).bind fun v3 => if v3 = 89 then fX7_readText_73 FU (upd I 5 1) A else fX7_readText_66 I A else (wr 5 (A 9) u1 0).bind fun g5 => (wr 5 (A 10) u1 0).bind fun g6 => fX7_readText_23 n I (va_up (va_up A 9 g5) 10 g6) (u1 + 1)
def fX7_readText (I : Nat → Int32) (A : Nat → Nat → Int32) : Option (Int32 × (Nat → Int32) × (Nat → Nat → Int32)) := fX7_readText_23 FU (upd (upd (upd (upd I 5 0) 6 (-9)) 2 0) 3 0) A 0
def rmX7_readText : Room := { frames := 4, cells := 0, slots := 0, locals := 89 }
theorem mb_X7_readText : Cond.instanceMethod yX7_readText ∈ wsL_law ∧ Cond.selects RX7 yX7_readText yX7_readText ∈ wsL_law ∧ Cond.initialized RX7 ∈ wsL_law ∧ Cond.code yX7_readText cX7_readText 2 (some .int) ∈ wsL_law := ⟨(bg 9 20 rfl), (bg 9 21 rfl), (bg 0 5 rfl), (bg 9 22 rfl)⟩
theorem hd_X7_readText : yX7_readText.cls = RX7 ∧ yX7_readText.cls ≠ "java/lang/invoke/MethodHandle" ∧ yX7_readText.cls ≠ "java/lang/invoke/VarHandle" ∧ (parseMethodDescriptor yX7_readText.desc).map (fun d => d.parameters.length) = some 0 := by decide +kernel
set_option maxRecDepth 100000 in
set_option maxHeartbeats 4000000 in
theorem ct_X7_readText (l : Launch) (G : va_G) (cI cZ cO : ClassId) (q : Nat → Nat) (I : Nat → Int32) (A : Nat → Nat → Int32) (L : Int64) (r : Int32) (Iz : Nat → Int32) (Az : Nat → Nat → Int32) (hf : fX7_readText I A = some (r, Iz, Az)) : CtI l yX7_readText cX7_readText 2 .int rmX7_readText G cI cZ cO [.ref (q 0)] (wX7 q cI cZ cO I A L) (wX7 q cI cZ cO Iz Az L) r := by
  refine mkCI (by decide) (Nat.le_of_ble_eq_true rfl) ?_
  intro p e s m below meth cd Q Z hC hP hE hD hA fin ls hl
  obtain ⟨hx, hb, hml, hown, hts⟩ := hC
  have hown : s.vm.findClass RX7 = some m.cls := hown
  have hl : lv_has ls 2 [(0, .ref (q 0))] := hl
  have b_109 : ∀ (I : Nat → Int32) (A : Nat → Nat → Int32), ∀ (H : Heap) (locs : List Loc), va_P G vwCl (wX7 q cI cZ cO I A L) H → va_D Z (wX7 q cI cZ cO I A L) → va_S Z s.heap H locs → ∀ ls : Array Slot, lv_has ls 2 [(0, .ref (q 0))] → fX7_readText_109 I A = some (r, Iz, Az) → W p l e rmX7_readText s m [.ref (q 0)].toArray below meth cd H locs 0 0 Q (F0 m 109 ls []) := by
    intro I A H locs hP hD hS ls hl hf
    unfold fX7_readText_109 at hf
    refine lv_aload_n hx hb dX7_readText_109 rfl (lv_at hl 0 rfl) ?_
    refine va_get (D := G) (ci := 7) (v := .int (I 6)) (C := RX7) (T := TX7) (N := 33) hx hb hts inlX7 hown hE.1 hP 0 rfl rfl 19 (by decide) (hts _ (bg 10 0 rfl)) (fun _ h9 => h9) rfl dX7_readText_110 ?_
    cases hf
    exact fin H locs 113 ls (nar_i _) hP hS dX7_readText_113
  have b_73 : ∀ n : Nat, ∀ (I : Nat → Int32) (A : Nat → Nat → Int32), ∀ (H : Heap) (locs : List Loc), va_P G vwCl (wX7 q cI cZ cO I A L) H → va_D Z (wX7 q cI cZ cO I A L) → va_S Z s.heap H locs → ∀ ls : Array Slot, lv_has ls 2 [(0, .ref (q 0))] → fX7_readText_73 n I A = some (r, Iz, Az) → W p l e rmX7_readText s m [.ref (q 0)].toArray below meth cd H locs 0 0 Q (F0 m 73 ls []) := by
    intro n
    induction n with
    | zero =>
      intro I A H locs hP hD hS ls hl hf
      rw [fX7_readText_73] at hf
      cases hf
    | succ n ih =>
      intro I A H locs hP hD hS ls hl hf
      rw [fX7_readText_73] at hf
      refine lv_aload_n hx hb dX7_readText_73 rfl (lv_at hl 0 rfl) ?_
      refine va_get (D := G) (ci := 7) (v := .int (I 6)) (C := RX7) (T := TX7) (N := 33) hx hb hts inlX7 hown hE.1 hP 0 rfl rfl 19 (by decide) (hts _ (bg 10 0 rfl)) (fun _ h9 => h9) rfl dX7_readText_74 ?_
      refine lv_bipush (v := (-9)) hx hb dX7_readText_77 (by decide) ?_
      refine lv_icmp_ne (tgt := 109) hx hb dX7_readText_79 (by decide) (fun c1 => ?_) (fun c1 => ?_)
      · rw [if_neg c1] at hf
        exact b_109 I A H locs hP hD hS ls (lv_sub hl [0] rfl) hf
      · rw [if_pos c1] at hf
        refine lv_aload_n hx hb dX7_readText_82 rfl (lv_at hl 0 rfl) ?_
        refine va_get (D := G) (ci := 7) (v := .int (I 5)) (C := RX7) (T := TX7) (N := 33) hx hb hts inlX7 hown hE.1 hP 0 rfl rfl 18 (by decide) (hts _ (bg 9 23 rfl)) (fun _ h9 => h9) rfl dX7_readText_83 ?_
        refine lv_aload_n hx hb dX7_readText_86 rfl (lv_at hl 0 rfl) ?_
        refine va_get (D := G) (ci := 7) (v := .int (I 4)) (C := RX7) (T := TX7) (N := 33) hx hb hts inlX7 hown hE.1 hP 0 rfl rfl 17 (by decide) (hts _ (bg 5 8 rfl)) (fun _ h9 => h9) rfl dX7_readText_87 ?_
        refine lv_icmp_ge (tgt := 109) hx hb dX7_readText_90 (by decide) (fun c2 => ?_) (fun c2 => ?_)
        · rw [if_pos c2] at hf
          exact b_109 I A H locs hP hD hS ls (lv_sub hl [0] rfl) hf
        · rw [if_neg c2] at hf
          refine lv_aload_n hx hb dX7_readText_93 rfl (lv_at hl 0 rfl) ?_
          refine lv_aload_n hx hb dX7_readText_94 rfl (lv_at hl 0 rfl) ?_
          refine va_get (D := G) (ci := 7) (v := .ref (q 13)) (C := RX7) (T := TX7) (N := 33) hx hb hts inlX7 hown hE.1 hP 0 rfl rfl 16 (by decide) (hts _ (bg 4 2 rfl)) (fun _ h9 => h9) rfl dX7_readText_95 ?_
          refine lv_aload_n hx hb dX7_readText_98 rfl (lv_at hl 0 rfl) ?_
          refine va_get (D := G) (ci := 7) (v := .int (I 5)) (C := RX7) (T := TX7) (N := 33) hx hb hts inlX7 hown hE.1 hP 0 rfl rfl 18 (by decide) (hts _ (bg 9 23 rfl)) (fun _ h9 => h9) rfl dX7_readText_99 ?_
          obtain ⟨v3, hv3, hf⟩ := bnd hf
          refine x_iald hx hb hE.1 hP 13 0 rfl rfl hv3 dX7_readText_102 ?_
          obtain ⟨z4, hz4, hf⟩ := bnd hf
          refine x_wrVv (C := RX7) (n := 1) (ci := 7) (ws1 := (wX7 q cI cZ cO z4.1 z4.2 L)) hx hb hml hown hts hE (ct_X7_readPart l G cI cZ cO q I A L v3 z4.1 z4.2 hz4) (bg 10 3 rfl) mb_X7_readPart.1 mb_X7_readPart.2.1 mb_X7_readPart.2.2.1 mb_X7_readPart.2.2.2 hd_X7_readPart rfl (by decide) hP hD hS hA [0, 1, 2, 3, 4, 5, 6, 7, 8, 9, 10, 11, 12, 13, 14, 15, 16, 17, 18, 19, 20, 21, 22] [] (by decide) rfl rfl rfl rfl rfl rfl rfl rfl rfl rfl hl.1 (Nat.le_of_ble_eq_true rfl) ⟨Nat.zero_le _, Nat.zero_le _⟩ dX7_readText_103 (fun H locs hP hD hS => ?_)
          refine lv_goto (tgt := 73) hx hb dX7_readText_106 (by decide) ?_
          exact ih z4.1 z4.2 H locs hP hD hS ls (lv_sub hl [0] rfl) hf
  have b_66 : ∀ (I : Nat → Int32) (A : Nat → Nat → Int32), ∀ (H : Heap) (locs : List Loc), va_P G vwCl (wX7 q cI cZ cO I A L) H → va_D Z (wX7 q cI cZ cO I A L) → va_S Z s.heap H locs → ∀ ls : Array Slot, lv_has ls 2 [] → fX7_readText_66 I A = some (r, Iz, Az) → W p l e rmX7_readText s m [.ref (q 0)].toArray below meth cd H locs 0 0 Q (F0 m 66 ls []) := by
    intro I A H locs hP hD hS ls hl hf
    unfold fX7_readText_66 at hf
    refine lv_iconst (v := 0) hx hb dX7_readText_66 (by decide) ?_
    cases hf
    exact fin H locs 67 ls (nar_i _) hP hS dX7_readText_67
  have b_23 : ∀ n : Nat, ∀ (I : Nat → Int32) (A : Nat → Nat → Int32) (u1 : Int32), ∀ (H : Heap) (locs : List Loc), va_P G vwCl (wX7 q cI cZ cO I A L) H → va_D Z (wX7 q cI cZ cO I A L) → va_S Z s.heap H locs → ∀ ls : Array Slot, lv_has ls 2 [(0, .ref (q 0)), (1, .int u1)] → fX7_readText_23 n I A u1 = some (r, Iz, Az) → W p l e rmX7_readText s m [.ref (q 0)].toArray below meth cd H locs 0 0 Q (F0 m 23 ls []) := by
    intro n
    induction n with
    | zero =>
      intro I A u1 H locs hP hD hS ls hl hf
      rw [fX7_readText_23] at hf
      cases hf
    | succ n ih =>
      intro I A u1 H locs hP hD hS ls hl hf
      rw [fX7_readText_23] at hf
      refine lv_iload_n hx hb dX7_readText_23 rfl (lv_at hl 1 rfl) ?_
      refine lv_iconst (v := 5) hx hb dX7_readText_24 (by decide) ?_
      refine lv_icmp_ge (tgt := 48) hx hb dX7_readText_25 (by decide) (fun c1 => ?_) (fun c1 => ?_)
      · rw [if_pos c1] at hf
        refine lv_aload_n hx hb dX7_readText_48 rfl (lv_at hl 0 rfl) ?_
        refine va_get (D := G) (ci := 7) (v := .int (I 4)) (C := RX7) (T := TX7) (N := 33) hx hb hts inlX7 hown hE.1 hP 0 rfl rfl 17 (by decide) (hts _ (bg 5 8 rfl)) (fun _ h9 => h9) rfl dX7_readText_49 ?_
        refine lv_if_eq (tgt := 66) hx hb dX7_readText_52 (by decide) (fun c2 => ?_) (fun c2 => ?_)
        · rw [if_pos c2] at hf
          exact b_66 I A H locs hP hD hS ls (lv_sub hl [] rfl) hf
        · rw [if_neg c2] at hf
          refine lv_aload_n hx hb dX7_readText_55 rfl (lv_at hl 0 rfl) ?_
          refine va_get (D := G) (ci := 7) (v := .ref (q 13)) (C := RX7) (T := TX7) (N := 33) hx hb hts inlX7 hown hE.1 hP 0 rfl rfl 16 (by decide) (hts _ (bg 4 2 rfl)) (fun _ h9 => h9) rfl dX7_readText_56 ?_
          refine lv_iconst (v := 0) hx hb dX7_readText_59 (by decide) ?_
          obtain ⟨v3, hv3, hf⟩ := bnd hf
          refine x_iald hx hb hE.1 hP 13 0 rfl rfl hv3 dX7_readText_60 ?_
          refine lv_bipush (v := 89) hx hb dX7_readText_61 (by decide) ?_
          refine lv_icmp_eq (tgt := 68) hx hb dX7_readText_63 (by decide) (fun c4 => ?_) (fun c4 => ?_)
          · rw [if_pos c4] at hf
            refine lv_aload_n hx hb dX7_readText_68 rfl (lv_at hl 0 rfl) ?_
            refine lv_iconst (v := 1) hx hb dX7_readText_69 (by decide) ?_
            refine va_put (D := G) (ci := 7) (v := .int 1) (ty := .int) (C := RX7) (T := TX7) (N := 33) hx hb hts inlX7 tyX7 tyX7_ok nmX7 hown hE.1 hP hD hS 0 rfl rfl 18 (by decide) (hts _ (bg 9 23 rfl)) (fun _ h9 => h9) rfl (by decide +kernel) rfl rfl (Nat.le_of_ble_eq_true rfl) dX7_readText_70 (fun H locs hP hD hS => ?_)
            have hP : va_P G vwCl (wX7 q cI cZ cO (upd I 5 1) A L) H := hP
            have hD : va_D Z (wX7 q cI cZ cO (upd I 5 1) A L) := hD
            exact b_73 FU (upd I 5 1) A H locs hP hD hS ls (lv_sub hl [0] rfl) hf
          · rw [if_neg c4] at hf
            exact b_66 I A H locs hP hD hS ls (lv_sub hl [] rfl) hf
      · rw [if_neg c1] at hf
        refine lv_aload_n hx hb dX7_readText_28 rfl (lv_at hl 0 rfl) ?_
        refine va_get (D := G) (ci := 7) (v := .ref (q 10)) (C := RX7) (T := TX7) (N := 33) hx hb hts inlX7 hown hE.1 hP 0 rfl rfl 11 (by decide) (hts _ (bg 3 23 rfl)) (fun _ h9 => h9) rfl dX7_readText_29 ?_
        refine lv_iload_n hx hb dX7_readText_32 rfl (lv_at hl 1 rfl) ?_
        refine lv_iconst (v := 0) hx hb dX7_readText_33 (by decide) ?_
        obtain ⟨g5, hg5, hf⟩ := bnd hf
        refine x_iast hx hb hE.1 hP hD hS 10 0 rfl rfl hg5 dX7_readText_34 (fun H locs hP hD hS => ?_)
        have hP : va_P G vwCl (wX7 q cI cZ cO I (va_up A 9 g5) L) H := hP
        have hD : va_D Z (wX7 q cI cZ cO I (va_up A 9 g5) L) := hD
        refine lv_aload_n hx hb dX7_readText_35 rfl (lv_at hl 0 rfl) ?_
        refine va_get (D := G) (ci := 7) (v := .ref (q 11)) (C := RX7) (T := TX7) (N := 33) hx hb hts inlX7 hown hE.1 hP 0 rfl rfl 12 (by decide) (hts _ (bg 4 0 rfl)) (fun _ h9 => h9) rfl dX7_readText_36 ?_
        refine lv_iload_n hx hb dX7_readText_39 rfl (lv_at hl 1 rfl) ?_
        refine lv_iconst (v := 0) hx hb dX7_readText_40 (by decide) ?_
        obtain ⟨g6, hg6, hf⟩ := bnd hf
        refine x_iast hx hb hE.1 hP hD hS 11 0 rfl rfl hg6 dX7_readText_41 (fun H locs hP hD hS => ?_)
        have hP : va_P G vwCl (wX7 q cI cZ cO I (va_up (va_up A 9 g5) 10 g6) L) H := hP
        have hD : va_D Z (wX7 q cI cZ cO I (va_up (va_up A 9 g5) 10 g6) L) := hD
        refine lv_iinc (v := u1 + 1) (lv' := [(1, .int (u1 + 1)), (0, .ref (q 0))]) hx hb dX7_readText_42 hl (k := 1) rfl rfl (by decide) rfl (fun ls hl => ?_)
        refine lv_goto (tgt := 23) hx hb dX7_readText_45 (by decide) ?_
        exact ih I (va_up (va_up A 9 g5) 10 g6) (u1 + 1) H locs hP hD hS ls (lv_sub hl [1, 0] rfl) hf
  unfold fX7_readText at hf
  have hS : va_S Z s.heap s.heap [] := va_S.rf
  obtain ⟨H, hH⟩ : ∃ H, H = s.heap := ⟨_, rfl⟩
  obtain ⟨locs, hlocs⟩ : ∃ locs : List Loc, locs = [] := ⟨_, rfl⟩
  rw [← hlocs]
  rw [← hlocs] at hS
  suffices hW : ∀ H : Heap, va_P G vwCl (wX7 q cI cZ cO I A L) H → va_S Z s.heap H locs → W p l e rmX7_readText s m [.ref (q 0)].toArray below meth cd H locs 0 0 Q (F0 m 0 ls []) from hW s.heap hP hS
  clear hP hS hH H
  intro H hP hS
  refine lv_aload_n hx hb dX7_readText_0 rfl (lv_at hl 0 rfl) ?_
  refine lv_iconst (v := 0) hx hb dX7_readText_1 (by decide) ?_
  refine va_put (D := G) (ci := 7) (v := .int 0) (ty := .int) (C := RX7) (T := TX7) (N := 33) hx hb hts inlX7 tyX7 tyX7_ok nmX7 hown hE.1 hP hD hS 0 rfl rfl 18 (by decide) (hts _ (bg 9 23 rfl)) (fun _ h9 => h9) rfl (by decide +kernel) rfl rfl (Nat.le_of_ble_eq_true rfl) dX7_readText_2 (fun H locs hP hD hS => ?_)
  have hP : va_P G vwCl (wX7 q cI cZ cO (upd I 5 0) A L) H := hP
  have hD : va_D Z (wX7 q cI cZ cO (upd I 5 0) A L) := hD
  refine lv_aload_n hx hb dX7_readText_5 rfl (lv_at hl 0 rfl) ?_
  refine lv_bipush (v := (-9)) hx hb dX7_readText_6 (by decide) ?_
  refine va_put (D := G) (ci := 7) (v := .int (-9)) (ty := .int) (C := RX7) (T := TX7) (N := 33) hx hb hts inlX7 tyX7 tyX7_ok nmX7 hown hE.1 hP hD hS 0 rfl rfl 19 (by decide) (hts _ (bg 10 0 rfl)) (fun _ h9 => h9) rfl (by decide +kernel) rfl rfl (Nat.le_of_ble_eq_true rfl) dX7_readText_8 (fun H locs hP hD hS => ?_)
  have hP : va_P G vwCl (wX7 q cI cZ cO (upd (upd I 5 0) 6 (-9)) A L) H := hP
  have hD : va_D Z (wX7 q cI cZ cO (upd (upd I 5 0) 6 (-9)) A L) := hD
  refine lv_aload_n hx hb dX7_readText_11 rfl (lv_at hl 0 rfl) ?_
  refine lv_iconst (v := 0) hx hb dX7_readText_12 (by decide) ?_
  refine va_put (D := G) (ci := 7) (v := .int 0) (ty := .int) (C := RX7) (T := TX7) (N := 33) hx hb hts inlX7 tyX7 tyX7_ok nmX7 hown hE.1 hP hD hS 0 rfl rfl 14 (by decide) (hts _ (bg 10 1 rfl)) (fun _ h9 => h9) rfl (by decide +kernel) rfl rfl (Nat.le_of_ble_eq_true rfl) dX7_readText_13 (fun H locs hP hD hS => ?_)
  have hP : va_P G vwCl (wX7 q cI cZ cO (upd (upd (upd I 5 0) 6 (-9)) 2 0) A L) H := hP
  have hD : va_D Z (wX7 q cI cZ cO (upd (upd (upd I 5 0) 6 (-9)) 2 0) A L) := hD
  refine lv_aload_n hx hb dX7_readText_16 rfl (lv_at hl 0 rfl) ?_
  refine lv_iconst (v := 0) hx hb dX7_readText_17 (by decide) ?_
  refine va_put (D := G) (ci := 7) (v := .int 0) (ty := .int) (C := RX7) (T := TX7) (N := 33) hx hb hts inlX7 tyX7 tyX7_ok nmX7 hown hE.1 hP hD hS 0 rfl rfl 15 (by decide) (hts _ (bg 10 2 rfl)) (fun _ h9 => h9) rfl (by decide +kernel) rfl rfl (Nat.le_of_ble_eq_true rfl) dX7_readText_18 (fun H locs hP hD hS => ?_)
  have hP : va_P G vwCl (wX7 q cI cZ cO (upd (upd (upd (upd I 5 0) 6 (-9)) 2 0) 3 0) A L) H := hP
  have hD : va_D Z (wX7 q cI cZ cO (upd (upd (upd (upd I 5 0) 6 (-9)) 2 0) 3 0) A L) := hD
  refine lv_iconst (v := 0) hx hb dX7_readText_21 (by decide) ?_
  refine lv_istore_n (lv' := [(1, .int 0), (0, .ref (q 0))]) hx hb dX7_readText_22 rfl hl (by decide) rfl (fun ls hl => ?_)
  exact b_23 FU (upd (upd (upd (upd I 5 0) 6 (-9)) 2 0) 3 0) A 0 H locs hP hD hS ls (lv_sub hl [1, 0] rfl) hf
end
section
theorem zz_t : True := trivial
end
