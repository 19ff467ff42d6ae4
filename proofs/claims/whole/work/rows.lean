section
-- ===== PART A: goes FIRST, ahead of the names: the tables' words, and 'selects' of the private methods out of them =====
/-- a private method of a class that the tables say can be made, by its rows of tables_1 -/
def lw_okq (q : MethodName × Nat) : Prop := (q.1.cls ≠ "java/lang/invoke/MethodHandle" ∧ q.1.cls ≠ "java/lang/invoke/VarHandle") ∧ Cond.instantiable q.1.cls q.2 ∈ tables_1 ∧ Cond.privateMethod q.1 ∈ tables_1 ∧ Cond.instanceMethod q.1 ∈ tables_1
theorem lw_p0 : lw_okq (⟨"DawnCoin$Reader", "takes", "(LDawnCoin$Town;I)Z"⟩, 6) := ⟨⟨by decide +kernel, by decide +kernel⟩, List.mem_of_getElem? (i := 21) (by decide +kernel), List.mem_of_getElem? (i := 250) (by decide +kernel), List.mem_of_getElem? (i := 251) (by decide +kernel)⟩
theorem lw_p1 : lw_okq (⟨"DawnCoin$Reader", "opensPart", "(LDawnCoin$Town;I)Z"⟩, 6) := ⟨⟨by decide +kernel, by decide +kernel⟩, List.mem_of_getElem? (i := 21) (by decide +kernel), List.mem_of_getElem? (i := 254) (by decide +kernel), List.mem_of_getElem? (i := 255) (by decide +kernel)⟩
theorem lw_p2 : lw_okq (⟨"DawnCoin$Reader", "takesOfRumour", "(LDawnCoin$Town;I)Z"⟩, 6) := ⟨⟨by decide +kernel, by decide +kernel⟩, List.mem_of_getElem? (i := 21) (by decide +kernel), List.mem_of_getElem? (i := 278) (by decide +kernel), List.mem_of_getElem? (i := 279) (by decide +kernel)⟩
theorem lw_p3 : lw_okq (⟨"DawnCoin$Reader", "endsRumour", "(LDawnCoin$Town;I)Z"⟩, 6) := ⟨⟨by decide +kernel, by decide +kernel⟩, List.mem_of_getElem? (i := 21) (by decide +kernel), List.mem_of_getElem? (i := 283) (by decide +kernel), List.mem_of_getElem? (i := 284) (by decide +kernel)⟩
theorem lw_p4 : lw_okq (⟨"DawnCoin$Reader", "takesOfRivals", "(LDawnCoin$Town;I)Z"⟩, 6) := ⟨⟨by decide +kernel, by decide +kernel⟩, List.mem_of_getElem? (i := 21) (by decide +kernel), List.mem_of_getElem? (i := 292) (by decide +kernel), List.mem_of_getElem? (i := 293) (by decide +kernel)⟩
theorem lw_p5 : lw_okq (⟨"DawnCoin$Reader", "takesOfPerson", "(LDawnCoin$Town;I)Z"⟩, 6) := ⟨⟨by decide +kernel, by decide +kernel⟩, List.mem_of_getElem? (i := 21) (by decide +kernel), List.mem_of_getElem? (i := 304) (by decide +kernel), List.mem_of_getElem? (i := 305) (by decide +kernel)⟩
theorem lw_p6 : lw_okq (⟨"DawnCoin$Reader", "takesOfOpening", "(LDawnCoin$Town;I)Z"⟩, 6) := ⟨⟨by decide +kernel, by decide +kernel⟩, List.mem_of_getElem? (i := 21) (by decide +kernel), List.mem_of_getElem? (i := 315) (by decide +kernel), List.mem_of_getElem? (i := 316) (by decide +kernel)⟩
theorem lw_p7 : lw_okq (⟨"DawnCoin$Standing", "strike", "(LDawnCoin$Town;I)I"⟩, 4) := ⟨⟨by decide +kernel, by decide +kernel⟩, List.mem_of_getElem? (i := 92) (by decide +kernel), List.mem_of_getElem? (i := 397) (by decide +kernel), List.mem_of_getElem? (i := 398) (by decide +kernel)⟩
theorem lw_p8 : lw_okq (⟨"DawnCoin$Standing", "hasRivalCoin", "(LDawnCoin$Town;II)Z"⟩, 4) := ⟨⟨by decide +kernel, by decide +kernel⟩, List.mem_of_getElem? (i := 92) (by decide +kernel), List.mem_of_getElem? (i := 477) (by decide +kernel), List.mem_of_getElem? (i := 478) (by decide +kernel)⟩
theorem lw_p9 : lw_okq (⟨"DawnCoin", "valueIn", "(III)I"⟩, 15) := ⟨⟨by decide +kernel, by decide +kernel⟩, List.mem_of_getElem? (i := 13) (by decide +kernel), List.mem_of_getElem? (i := 495) (by decide +kernel), List.mem_of_getElem? (i := 496) (by decide +kernel)⟩
theorem lw_p10 : lw_okq (⟨"DawnCoin", "saidIn", "(III)I"⟩, 15) := ⟨⟨by decide +kernel, by decide +kernel⟩, List.mem_of_getElem? (i := 13) (by decide +kernel), List.mem_of_getElem? (i := 499) (by decide +kernel), List.mem_of_getElem? (i := 500) (by decide +kernel)⟩
theorem lw_p11 : lw_okq (⟨"DawnCoin", "purseIn", "(II)I"⟩, 15) := ⟨⟨by decide +kernel, by decide +kernel⟩, List.mem_of_getElem? (i := 13) (by decide +kernel), List.mem_of_getElem? (i := 509) (by decide +kernel), List.mem_of_getElem? (i := 510) (by decide +kernel)⟩
theorem lw_p12 : lw_okq (⟨"DawnCoin", "coinValueIn", "(IIII)I"⟩, 15) := ⟨⟨by decide +kernel, by decide +kernel⟩, List.mem_of_getElem? (i := 13) (by decide +kernel), List.mem_of_getElem? (i := 513) (by decide +kernel), List.mem_of_getElem? (i := 514) (by decide +kernel)⟩
theorem lw_p13 : lw_okq (⟨"DawnCoin", "canSayThing", "(I)Z"⟩, 15) := ⟨⟨by decide +kernel, by decide +kernel⟩, List.mem_of_getElem? (i := 13) (by decide +kernel), List.mem_of_getElem? (i := 540) (by decide +kernel), List.mem_of_getElem? (i := 541) (by decide +kernel)⟩
theorem lw_p14 : lw_okq (⟨"DawnCoin", "gainOf", "(IIII)I"⟩, 15) := ⟨⟨by decide +kernel, by decide +kernel⟩, List.mem_of_getElem? (i := 13) (by decide +kernel), List.mem_of_getElem? (i := 547) (by decide +kernel), List.mem_of_getElem? (i := 548) (by decide +kernel)⟩
theorem lw_p15 : lw_okq (⟨"DawnCoin", "offerOneThing", "()V"⟩, 15) := ⟨⟨by decide +kernel, by decide +kernel⟩, List.mem_of_getElem? (i := 13) (by decide +kernel), List.mem_of_getElem? (i := 551) (by decide +kernel), List.mem_of_getElem? (i := 552) (by decide +kernel)⟩
def lw_privs_1 : List (MethodName × Nat) := [(⟨"DawnCoin$Reader", "takes", "(LDawnCoin$Town;I)Z"⟩, 6), (⟨"DawnCoin$Reader", "opensPart", "(LDawnCoin$Town;I)Z"⟩, 6), (⟨"DawnCoin$Reader", "takesOfRumour", "(LDawnCoin$Town;I)Z"⟩, 6), (⟨"DawnCoin$Reader", "endsRumour", "(LDawnCoin$Town;I)Z"⟩, 6), (⟨"DawnCoin$Reader", "takesOfRivals", "(LDawnCoin$Town;I)Z"⟩, 6), (⟨"DawnCoin$Reader", "takesOfPerson", "(LDawnCoin$Town;I)Z"⟩, 6), (⟨"DawnCoin$Reader", "takesOfOpening", "(LDawnCoin$Town;I)Z"⟩, 6), (⟨"DawnCoin$Standing", "strike", "(LDawnCoin$Town;I)I"⟩, 4), (⟨"DawnCoin$Standing", "hasRivalCoin", "(LDawnCoin$Town;II)Z"⟩, 4), (⟨"DawnCoin", "valueIn", "(III)I"⟩, 15), (⟨"DawnCoin", "saidIn", "(III)I"⟩, 15), (⟨"DawnCoin", "purseIn", "(II)I"⟩, 15), (⟨"DawnCoin", "coinValueIn", "(IIII)I"⟩, 15), (⟨"DawnCoin", "canSayThing", "(I)Z"⟩, 15), (⟨"DawnCoin", "gainOf", "(IIII)I"⟩, 15), (⟨"DawnCoin", "offerOneThing", "()V"⟩, 15)]
theorem lw_r1 : ∀ q ∈ lw_privs_1, lw_okq q := List.forall_mem_cons.mpr ⟨lw_p0, List.forall_mem_cons.mpr ⟨lw_p1, List.forall_mem_cons.mpr ⟨lw_p2, List.forall_mem_cons.mpr ⟨lw_p3, List.forall_mem_cons.mpr ⟨lw_p4, List.forall_mem_cons.mpr ⟨lw_p5, List.forall_mem_cons.mpr ⟨lw_p6, List.forall_mem_cons.mpr ⟨lw_p7, List.forall_mem_cons.mpr ⟨lw_p8, List.forall_mem_cons.mpr ⟨lw_p9, List.forall_mem_cons.mpr ⟨lw_p10, List.forall_mem_cons.mpr ⟨lw_p11, List.forall_mem_cons.mpr ⟨lw_p12, List.forall_mem_cons.mpr ⟨lw_p13, List.forall_mem_cons.mpr ⟨lw_p14, List.forall_mem_cons.mpr ⟨lw_p15, fun _ h => absurd h List.not_mem_nil⟩⟩⟩⟩⟩⟩⟩⟩⟩⟩⟩⟩⟩⟩⟩⟩
theorem lw_p16 : lw_okq (⟨"DawnCoin", "offerTwoThings", "(II)V"⟩, 15) := ⟨⟨by decide +kernel, by decide +kernel⟩, List.mem_of_getElem? (i := 13) (by decide +kernel), List.mem_of_getElem? (i := 559) (by decide +kernel), List.mem_of_getElem? (i := 560) (by decide +kernel)⟩
theorem lw_p17 : lw_okq (⟨"DawnCoin", "tryThing", "(I)Z"⟩, 15) := ⟨⟨by decide +kernel, by decide +kernel⟩, List.mem_of_getElem? (i := 13) (by decide +kernel), List.mem_of_getElem? (i := 586) (by decide +kernel), List.mem_of_getElem? (i := 587) (by decide +kernel)⟩
theorem lw_p18 : lw_okq (⟨"DawnCoin", "trySaying", "(II)Z"⟩, 15) := ⟨⟨by decide +kernel, by decide +kernel⟩, List.mem_of_getElem? (i := 13) (by decide +kernel), List.mem_of_getElem? (i := 590) (by decide +kernel), List.mem_of_getElem? (i := 591) (by decide +kernel)⟩
theorem lw_p19 : lw_okq (⟨"DawnCoin", "tryDenying", "(II)Z"⟩, 15) := ⟨⟨by decide +kernel, by decide +kernel⟩, List.mem_of_getElem? (i := 13) (by decide +kernel), List.mem_of_getElem? (i := 594) (by decide +kernel), List.mem_of_getElem? (i := 595) (by decide +kernel)⟩
theorem lw_p20 : lw_okq (⟨"DawnCoin", "agreesWithHeard", "(II)Z"⟩, 15) := ⟨⟨by decide +kernel, by decide +kernel⟩, List.mem_of_getElem? (i := 13) (by decide +kernel), List.mem_of_getElem? (i := 615) (by decide +kernel), List.mem_of_getElem? (i := 616) (by decide +kernel)⟩
theorem lw_p21 : lw_okq (⟨"DawnCoin", "weighChoices", "(III)V"⟩, 15) := ⟨⟨by decide +kernel, by decide +kernel⟩, List.mem_of_getElem? (i := 13) (by decide +kernel), List.mem_of_getElem? (i := 639) (by decide +kernel), List.mem_of_getElem? (i := 640) (by decide +kernel)⟩
theorem lw_p22 : lw_okq (⟨"DawnCoin", "canChoose", "(II)Z"⟩, 15) := ⟨⟨by decide +kernel, by decide +kernel⟩, List.mem_of_getElem? (i := 13) (by decide +kernel), List.mem_of_getElem? (i := 643) (by decide +kernel), List.mem_of_getElem? (i := 644) (by decide +kernel)⟩
theorem lw_p23 : lw_okq (⟨"DawnCoin", "isAtRest", "(IIII)Z"⟩, 15) := ⟨⟨by decide +kernel, by decide +kernel⟩, List.mem_of_getElem? (i := 13) (by decide +kernel), List.mem_of_getElem? (i := 647) (by decide +kernel), List.mem_of_getElem? (i := 648) (by decide +kernel)⟩
theorem lw_p24 : lw_okq (⟨"DawnCoin", "valueAfterDenials", "(II)I"⟩, 15) := ⟨⟨by decide +kernel, by decide +kernel⟩, List.mem_of_getElem? (i := 13) (by decide +kernel), List.mem_of_getElem? (i := 659) (by decide +kernel), List.mem_of_getElem? (i := 660) (by decide +kernel)⟩
theorem lw_p25 : lw_okq (⟨"DawnCoin", "slotAt", "(I)LDawnCoin$Standing;"⟩, 15) := ⟨⟨by decide +kernel, by decide +kernel⟩, List.mem_of_getElem? (i := 13) (by decide +kernel), List.mem_of_getElem? (i := 685) (by decide +kernel), List.mem_of_getElem? (i := 686) (by decide +kernel)⟩
theorem lw_p26 : lw_okq (⟨"DawnCoinModel", "readText", "()I"⟩, 33) := ⟨⟨by decide +kernel, by decide +kernel⟩, List.mem_of_getElem? (i := 706) (by decide +kernel), List.mem_of_getElem? (i := 828) (by decide +kernel), List.mem_of_getElem? (i := 829) (by decide +kernel)⟩
theorem lw_p27 : lw_okq (⟨"DawnCoinModel", "readPart", "(I)V"⟩, 33) := ⟨⟨by decide +kernel, by decide +kernel⟩, List.mem_of_getElem? (i := 706) (by decide +kernel), List.mem_of_getElem? (i := 832) (by decide +kernel), List.mem_of_getElem? (i := 833) (by decide +kernel)⟩
theorem lw_p28 : lw_okq (⟨"DawnCoinModel", "figureOf", "(I)I"⟩, 33) := ⟨⟨by decide +kernel, by decide +kernel⟩, List.mem_of_getElem? (i := 706) (by decide +kernel), List.mem_of_getElem? (i := 836) (by decide +kernel), List.mem_of_getElem? (i := 837) (by decide +kernel)⟩
theorem lw_p29 : lw_okq (⟨"DawnCoinModel", "firstsLeft", "()I"⟩, 33) := ⟨⟨by decide +kernel, by decide +kernel⟩, List.mem_of_getElem? (i := 706) (by decide +kernel), List.mem_of_getElem? (i := 844) (by decide +kernel), List.mem_of_getElem? (i := 845) (by decide +kernel)⟩
theorem lw_p30 : lw_okq (⟨"DawnCoinModel", "pairsLeft", "(I)I"⟩, 33) := ⟨⟨by decide +kernel, by decide +kernel⟩, List.mem_of_getElem? (i := 706) (by decide +kernel), List.mem_of_getElem? (i := 848) (by decide +kernel), List.mem_of_getElem? (i := 849) (by decide +kernel)⟩
theorem lw_p31 : lw_okq (⟨"DawnCoinModel", "saidLeft", "()I"⟩, 33) := ⟨⟨by decide +kernel, by decide +kernel⟩, List.mem_of_getElem? (i := 706) (by decide +kernel), List.mem_of_getElem? (i := 852) (by decide +kernel), List.mem_of_getElem? (i := 853) (by decide +kernel)⟩
def lw_privs_2 : List (MethodName × Nat) := [(⟨"DawnCoin", "offerTwoThings", "(II)V"⟩, 15), (⟨"DawnCoin", "tryThing", "(I)Z"⟩, 15), (⟨"DawnCoin", "trySaying", "(II)Z"⟩, 15), (⟨"DawnCoin", "tryDenying", "(II)Z"⟩, 15), (⟨"DawnCoin", "agreesWithHeard", "(II)Z"⟩, 15), (⟨"DawnCoin", "weighChoices", "(III)V"⟩, 15), (⟨"DawnCoin", "canChoose", "(II)Z"⟩, 15), (⟨"DawnCoin", "isAtRest", "(IIII)Z"⟩, 15), (⟨"DawnCoin", "valueAfterDenials", "(II)I"⟩, 15), (⟨"DawnCoin", "slotAt", "(I)LDawnCoin$Standing;"⟩, 15), (⟨"DawnCoinModel", "readText", "()I"⟩, 33), (⟨"DawnCoinModel", "readPart", "(I)V"⟩, 33), (⟨"DawnCoinModel", "figureOf", "(I)I"⟩, 33), (⟨"DawnCoinModel", "firstsLeft", "()I"⟩, 33), (⟨"DawnCoinModel", "pairsLeft", "(I)I"⟩, 33), (⟨"DawnCoinModel", "saidLeft", "()I"⟩, 33)]
theorem lw_r2 : ∀ q ∈ lw_privs_2, lw_okq q := List.forall_mem_cons.mpr ⟨lw_p16, List.forall_mem_cons.mpr ⟨lw_p17, List.forall_mem_cons.mpr ⟨lw_p18, List.forall_mem_cons.mpr ⟨lw_p19, List.forall_mem_cons.mpr ⟨lw_p20, List.forall_mem_cons.mpr ⟨lw_p21, List.forall_mem_cons.mpr ⟨lw_p22, List.forall_mem_cons.mpr ⟨lw_p23, List.forall_mem_cons.mpr ⟨lw_p24, List.forall_mem_cons.mpr ⟨lw_p25, List.forall_mem_cons.mpr ⟨lw_p26, List.forall_mem_cons.mpr ⟨lw_p27, List.forall_mem_cons.mpr ⟨lw_p28, List.forall_mem_cons.mpr ⟨lw_p29, List.forall_mem_cons.mpr ⟨lw_p30, List.forall_mem_cons.mpr ⟨lw_p31, fun _ h => absurd h List.not_mem_nil⟩⟩⟩⟩⟩⟩⟩⟩⟩⟩⟩⟩⟩⟩⟩⟩
theorem lw_p32 : lw_okq (⟨"DawnCoinModel", "isRumour", "(I)Z"⟩, 33) := ⟨⟨by decide +kernel, by decide +kernel⟩, List.mem_of_getElem? (i := 706) (by decide +kernel), List.mem_of_getElem? (i := 864) (by decide +kernel), List.mem_of_getElem? (i := 865) (by decide +kernel)⟩
theorem lw_p33 : lw_okq (⟨"DawnCoinModel", "isProved", "(II)Z"⟩, 33) := ⟨⟨by decide +kernel, by decide +kernel⟩, List.mem_of_getElem? (i := 706) (by decide +kernel), List.mem_of_getElem? (i := 868) (by decide +kernel), List.mem_of_getElem? (i := 869) (by decide +kernel)⟩
theorem lw_p34 : lw_okq (⟨"DawnCoinModel", "isPerson", "(I)Z"⟩, 33) := ⟨⟨by decide +kernel, by decide +kernel⟩, List.mem_of_getElem? (i := 706) (by decide +kernel), List.mem_of_getElem? (i := 876) (by decide +kernel), List.mem_of_getElem? (i := 877) (by decide +kernel)⟩
theorem lw_p35 : lw_okq (⟨"DawnCoinModel", "coinAt", "(III)I"⟩, 33) := ⟨⟨by decide +kernel, by decide +kernel⟩, List.mem_of_getElem? (i := 706) (by decide +kernel), List.mem_of_getElem? (i := 884) (by decide +kernel), List.mem_of_getElem? (i := 885) (by decide +kernel)⟩
theorem lw_p36 : lw_okq (⟨"DawnCoinModel", "keepAct", "()V"⟩, 33) := ⟨⟨by decide +kernel, by decide +kernel⟩, List.mem_of_getElem? (i := 706) (by decide +kernel), List.mem_of_getElem? (i := 892) (by decide +kernel), List.mem_of_getElem? (i := 893) (by decide +kernel)⟩
theorem lw_p37 : lw_okq (⟨"DawnCoinModel", "dawnOn", "(I)I"⟩, 33) := ⟨⟨by decide +kernel, by decide +kernel⟩, List.mem_of_getElem? (i := 706) (by decide +kernel), List.mem_of_getElem? (i := 896) (by decide +kernel), List.mem_of_getElem? (i := 897) (by decide +kernel)⟩
theorem lw_p38 : lw_okq (⟨"DawnCoinModel", "canSay", "(III)Z"⟩, 33) := ⟨⟨by decide +kernel, by decide +kernel⟩, List.mem_of_getElem? (i := 706) (by decide +kernel), List.mem_of_getElem? (i := 908) (by decide +kernel), List.mem_of_getElem? (i := 909) (by decide +kernel)⟩
theorem lw_p39 : lw_okq (⟨"DawnCoinModel", "canDeny", "(III)Z"⟩, 33) := ⟨⟨by decide +kernel, by decide +kernel⟩, List.mem_of_getElem? (i := 706) (by decide +kernel), List.mem_of_getElem? (i := 919) (by decide +kernel), List.mem_of_getElem? (i := 920) (by decide +kernel)⟩
theorem lw_p40 : lw_okq (⟨"DawnCoinModel", "denyOn", "(III)V"⟩, 33) := ⟨⟨by decide +kernel, by decide +kernel⟩, List.mem_of_getElem? (i := 706) (by decide +kernel), List.mem_of_getElem? (i := 923) (by decide +kernel), List.mem_of_getElem? (i := 924) (by decide +kernel)⟩
theorem lw_p41 : lw_okq (⟨"DawnCoinModel", "takes", "(II)Z"⟩, 33) := ⟨⟨by decide +kernel, by decide +kernel⟩, List.mem_of_getElem? (i := 706) (by decide +kernel), List.mem_of_getElem? (i := 931) (by decide +kernel), List.mem_of_getElem? (i := 932) (by decide +kernel)⟩
theorem lw_p42 : lw_okq (⟨"DawnCoinModel", "worthOf", "(II)I"⟩, 33) := ⟨⟨by decide +kernel, by decide +kernel⟩, List.mem_of_getElem? (i := 706) (by decide +kernel), List.mem_of_getElem? (i := 935) (by decide +kernel), List.mem_of_getElem? (i := 936) (by decide +kernel)⟩
theorem lw_p43 : lw_okq (⟨"DawnCoinModel", "layTrial", "()V"⟩, 33) := ⟨⟨by decide +kernel, by decide +kernel⟩, List.mem_of_getElem? (i := 706) (by decide +kernel), List.mem_of_getElem? (i := 948) (by decide +kernel), List.mem_of_getElem? (i := 949) (by decide +kernel)⟩
theorem lw_p44 : lw_okq (⟨"DawnCoinModel", "dawnTrial", "(I)V"⟩, 33) := ⟨⟨by decide +kernel, by decide +kernel⟩, List.mem_of_getElem? (i := 706) (by decide +kernel), List.mem_of_getElem? (i := 952) (by decide +kernel), List.mem_of_getElem? (i := 953) (by decide +kernel)⟩
theorem lw_p45 : lw_okq (⟨"DawnCoinModel", "purseOf", "(II)I"⟩, 33) := ⟨⟨by decide +kernel, by decide +kernel⟩, List.mem_of_getElem? (i := 706) (by decide +kernel), List.mem_of_getElem? (i := 960) (by decide +kernel), List.mem_of_getElem? (i := 961) (by decide +kernel)⟩
theorem lw_p46 : lw_okq (⟨"DawnCoinModel", "planned", "(III)I"⟩, 33) := ⟨⟨by decide +kernel, by decide +kernel⟩, List.mem_of_getElem? (i := 706) (by decide +kernel), List.mem_of_getElem? (i := 976) (by decide +kernel), List.mem_of_getElem? (i := 977) (by decide +kernel)⟩
theorem lw_p47 : lw_okq (⟨"DawnCoinModel", "sayTrial", "(II)Z"⟩, 33) := ⟨⟨by decide +kernel, by decide +kernel⟩, List.mem_of_getElem? (i := 706) (by decide +kernel), List.mem_of_getElem? (i := 980) (by decide +kernel), List.mem_of_getElem? (i := 981) (by decide +kernel)⟩
def lw_privs_3 : List (MethodName × Nat) := [(⟨"DawnCoinModel", "isRumour", "(I)Z"⟩, 33), (⟨"DawnCoinModel", "isProved", "(II)Z"⟩, 33), (⟨"DawnCoinModel", "isPerson", "(I)Z"⟩, 33), (⟨"DawnCoinModel", "coinAt", "(III)I"⟩, 33), (⟨"DawnCoinModel", "keepAct", "()V"⟩, 33), (⟨"DawnCoinModel", "dawnOn", "(I)I"⟩, 33), (⟨"DawnCoinModel", "canSay", "(III)Z"⟩, 33), (⟨"DawnCoinModel", "canDeny", "(III)Z"⟩, 33), (⟨"DawnCoinModel", "denyOn", "(III)V"⟩, 33), (⟨"DawnCoinModel", "takes", "(II)Z"⟩, 33), (⟨"DawnCoinModel", "worthOf", "(II)I"⟩, 33), (⟨"DawnCoinModel", "layTrial", "()V"⟩, 33), (⟨"DawnCoinModel", "dawnTrial", "(I)V"⟩, 33), (⟨"DawnCoinModel", "purseOf", "(II)I"⟩, 33), (⟨"DawnCoinModel", "planned", "(III)I"⟩, 33), (⟨"DawnCoinModel", "sayTrial", "(II)Z"⟩, 33)]
theorem lw_r3 : ∀ q ∈ lw_privs_3, lw_okq q := List.forall_mem_cons.mpr ⟨lw_p32, List.forall_mem_cons.mpr ⟨lw_p33, List.forall_mem_cons.mpr ⟨lw_p34, List.forall_mem_cons.mpr ⟨lw_p35, List.forall_mem_cons.mpr ⟨lw_p36, List.forall_mem_cons.mpr ⟨lw_p37, List.forall_mem_cons.mpr ⟨lw_p38, List.forall_mem_cons.mpr ⟨lw_p39, List.forall_mem_cons.mpr ⟨lw_p40, List.forall_mem_cons.mpr ⟨lw_p41, List.forall_mem_cons.mpr ⟨lw_p42, List.forall_mem_cons.mpr ⟨lw_p43, List.forall_mem_cons.mpr ⟨lw_p44, List.forall_mem_cons.mpr ⟨lw_p45, List.forall_mem_cons.mpr ⟨lw_p46, List.forall_mem_cons.mpr ⟨lw_p47, fun _ h => absurd h List.not_mem_nil⟩⟩⟩⟩⟩⟩⟩⟩⟩⟩⟩⟩⟩⟩⟩⟩
theorem lw_p48 : lw_okq (⟨"DawnCoinModel", "canBe", "(I)Z"⟩, 33) := ⟨⟨by decide +kernel, by decide +kernel⟩, List.mem_of_getElem? (i := 706) (by decide +kernel), List.mem_of_getElem? (i := 988) (by decide +kernel), List.mem_of_getElem? (i := 989) (by decide +kernel)⟩
theorem lw_p49 : lw_okq (⟨"DawnCoinModel", "allWorth", "(I)I"⟩, 33) := ⟨⟨by decide +kernel, by decide +kernel⟩, List.mem_of_getElem? (i := 706) (by decide +kernel), List.mem_of_getElem? (i := 1001) (by decide +kernel), List.mem_of_getElem? (i := 1002) (by decide +kernel)⟩
theorem lw_p50 : lw_okq (⟨"DawnCoinModel", "tryThing", "(I)Z"⟩, 33) := ⟨⟨by decide +kernel, by decide +kernel⟩, List.mem_of_getElem? (i := 706) (by decide +kernel), List.mem_of_getElem? (i := 1006) (by decide +kernel), List.mem_of_getElem? (i := 1007) (by decide +kernel)⟩
theorem lw_p51 : lw_okq (⟨"DawnCoinModel", "isHeard", "(II)Z"⟩, 33) := ⟨⟨by decide +kernel, by decide +kernel⟩, List.mem_of_getElem? (i := 706) (by decide +kernel), List.mem_of_getElem? (i := 1023) (by decide +kernel), List.mem_of_getElem? (i := 1024) (by decide +kernel)⟩
theorem lw_p52 : lw_okq (⟨"DawnCoinModel", "worthBy", "(III)I"⟩, 33) := ⟨⟨by decide +kernel, by decide +kernel⟩, List.mem_of_getElem? (i := 706) (by decide +kernel), List.mem_of_getElem? (i := 1034) (by decide +kernel), List.mem_of_getElem? (i := 1035) (by decide +kernel)⟩
theorem lw_p53 : lw_okq (⟨"DawnCoinModel", "layPairs", "(III)V"⟩, 33) := ⟨⟨by decide +kernel, by decide +kernel⟩, List.mem_of_getElem? (i := 706) (by decide +kernel), List.mem_of_getElem? (i := 1045) (by decide +kernel), List.mem_of_getElem? (i := 1046) (by decide +kernel)⟩
theorem lw_p54 : lw_okq (⟨"DawnCoinModel", "isChoice", "(II)Z"⟩, 33) := ⟨⟨by decide +kernel, by decide +kernel⟩, List.mem_of_getElem? (i := 706) (by decide +kernel), List.mem_of_getElem? (i := 1049) (by decide +kernel), List.mem_of_getElem? (i := 1050) (by decide +kernel)⟩
theorem lw_p55 : lw_okq (⟨"DawnCoinModel", "isRest", "(III)Z"⟩, 33) := ⟨⟨by decide +kernel, by decide +kernel⟩, List.mem_of_getElem? (i := 706) (by decide +kernel), List.mem_of_getElem? (i := 1053) (by decide +kernel), List.mem_of_getElem? (i := 1054) (by decide +kernel)⟩
theorem lw_p56 : lw_okq (⟨"DawnCoinModel", "allPurses", "(I)I"⟩, 33) := ⟨⟨by decide +kernel, by decide +kernel⟩, List.mem_of_getElem? (i := 706) (by decide +kernel), List.mem_of_getElem? (i := 1073) (by decide +kernel), List.mem_of_getElem? (i := 1074) (by decide +kernel)⟩
def lw_privs_4 : List (MethodName × Nat) := [(⟨"DawnCoinModel", "canBe", "(I)Z"⟩, 33), (⟨"DawnCoinModel", "allWorth", "(I)I"⟩, 33), (⟨"DawnCoinModel", "tryThing", "(I)Z"⟩, 33), (⟨"DawnCoinModel", "isHeard", "(II)Z"⟩, 33), (⟨"DawnCoinModel", "worthBy", "(III)I"⟩, 33), (⟨"DawnCoinModel", "layPairs", "(III)V"⟩, 33), (⟨"DawnCoinModel", "isChoice", "(II)Z"⟩, 33), (⟨"DawnCoinModel", "isRest", "(III)Z"⟩, 33), (⟨"DawnCoinModel", "allPurses", "(I)I"⟩, 33)]
theorem lw_r4 : ∀ q ∈ lw_privs_4, lw_okq q := List.forall_mem_cons.mpr ⟨lw_p48, List.forall_mem_cons.mpr ⟨lw_p49, List.forall_mem_cons.mpr ⟨lw_p50, List.forall_mem_cons.mpr ⟨lw_p51, List.forall_mem_cons.mpr ⟨lw_p52, List.forall_mem_cons.mpr ⟨lw_p53, List.forall_mem_cons.mpr ⟨lw_p54, List.forall_mem_cons.mpr ⟨lw_p55, List.forall_mem_cons.mpr ⟨lw_p56, fun _ h => absurd h List.not_mem_nil⟩⟩⟩⟩⟩⟩⟩⟩⟩
def lw_privs : List (MethodName × Nat) := lw_privs_1 ++ (lw_privs_2 ++ (lw_privs_3 ++ (lw_privs_4)))
def lw_tbl : List Cond := k2_sels lw_privs ++ tables_1
theorem lw_privs_ok : ∀ q ∈ lw_privs, lw_okq q := by
  show ∀ q ∈ lw_privs_1 ++ (lw_privs_2 ++ (lw_privs_3 ++ (lw_privs_4))), lw_okq q
  exact List.forall_mem_append.mpr ⟨lw_r1, List.forall_mem_append.mpr ⟨lw_r2, List.forall_mem_append.mpr ⟨lw_r3, lw_r4⟩⟩⟩
-- ===== end of PART A; then your names; then what follows =====
end
section
/-! ===== BEGIN words of one list among another's, by their places ===== -/
theorem goodIn_r {big : List Cond} (ws : List Cond) (ps : List Nat) (hp : ws = ps.filterMap (fun i => big[i]?)) (h : ws.all goodWord = true) : GoodIn big ws := by
  intro w hw
  have h1 := List.all_eq_true.mp h w hw
  rw [hp] at hw
  obtain ⟨i, -, hi⟩ := List.mem_filterMap.mp hw
  have hm : w ∈ big := by first | exact List.mem_of_getElem? hi | exact List.getElem?_mem hi
  exact ⟨hm, good_of_word h1⟩
theorem goodIn_app {big a b : List Cond} (ha : GoodIn big a) (hb : GoodIn big b) : GoodIn big (a ++ b) := fun w h => (List.mem_append.mp h).elim (ha w) (hb w)
theorem goodIn_ca {big a b : List Cond} {c : Cond} (ha : GoodIn big (c :: a)) (hb : GoodIn big b) : GoodIn big (c :: (a ++ b)) := fun w h => (List.mem_cons.mp h).elim (fun e => ha w (List.mem_cons.mpr (Or.inl e))) (fun h => (List.mem_append.mp h).elim (fun h => ha w (List.mem_cons.mpr (Or.inr h))) (hb w))
theorem goodIn_sub {big ws : List Cond} (hm : ∀ w ∈ ws, w ∈ big) (h : ws.all goodWord = true) : GoodIn big ws := fun w hw => ⟨hm w hw, good_of_word (List.all_eq_true.mp h w hw)⟩
/-! ===== END ===== -/

/-! ===== BEGIN printed: names, fields, word lists, decode rows ===== -/
def RX0 : String := "DawnCoin$ActRow"
def TX0 : u_T := fun k => match k with
  | 0 => ("DawnCoin$ActRow", "ahead", "[LDawnCoin$Standing;", true)
  | 1 => ("DawnCoin$ActRow", "next", "I", false)
  | _ => ("DawnCoin$ActRow", "held", "I", false)
def tyX0 : Nat → FieldType := fun k => match k with
  | 0 => .array (.object "DawnCoin$Standing")
  | 1 => .int
  | _ => .int
abbrev wsX00 : List Cond := u_ws RX0 TX0 3
theorem nmX0 : ∀ a, a < 3 → ∀ b, b < 3 → a ≠ b → (TX0 a).2.1 ≠ (TX0 b).2.1 := by decide +kernel
theorem tyX0_ok : ∀ k, k < 3 → parseFieldDescriptor (TX0 k).2.2.1 = some (tyX0 k) := by decide +kernel
abbrev cX0_init : ByteArray := prog_2_method_1_code
def yX0_init : MethodName := ⟨RX0, "<init>", "()V"⟩
abbrev cX0_remember : ByteArray := prog_2_method_2_code
def yX0_remember : MethodName := ⟨RX0, "remember", "(LDawnCoin$Standing;)V"⟩
abbrev cX0_takeBack : ByteArray := prog_2_method_3_code
def yX0_takeBack : MethodName := ⟨RX0, "takeBack", "(LDawnCoin$Standing;)Z"⟩
def RX1 : String := "DawnCoin$Best"
def TX1 : u_T := fun k => match k with
  | 0 => ("DawnCoin$Best", "most", "I", false)
  | _ => ("DawnCoin$Best", "which", "I", false)
def tyX1 : Nat → FieldType := fun k => match k with
  | 0 => .int
  | _ => .int
abbrev wsX10 : List Cond := u_ws RX1 TX1 2
theorem nmX1 : ∀ a, a < 2 → ∀ b, b < 2 → a ≠ b → (TX1 a).2.1 ≠ (TX1 b).2.1 := by decide +kernel
theorem tyX1_ok : ∀ k, k < 2 → parseFieldDescriptor (TX1 k).2.2.1 = some (tyX1 k) := by decide +kernel
abbrev cX1_init : ByteArray := prog_3_method_1_code
def yX1_init : MethodName := ⟨RX1, "<init>", "()V"⟩
abbrev cX1_start : ByteArray := prog_3_method_2_code
def yX1_start : MethodName := ⟨RX1, "start", "(II)V"⟩
abbrev cX1_offer : ByteArray := prog_3_method_3_code
def yX1_offer : MethodName := ⟨RX1, "offer", "(II)V"⟩
def RX2 : String := "DawnCoin$Hearsay"
def TX2 : u_T := fun k => match k with
  | 0 => ("DawnCoin$Hearsay", "rumour", "[I", true)
  | 1 => ("DawnCoin$Hearsay", "place", "[I", true)
  | 2 => ("DawnCoin$Hearsay", "days", "[I", true)
  | 3 => ("DawnCoin$Hearsay", "said", "[Z", true)
  | _ => ("DawnCoin$Hearsay", "held", "I", false)
def tyX2 : Nat → FieldType := fun k => match k with
  | 0 => .array .int
  | 1 => .array .int
  | 2 => .array .int
  | 3 => .array .boolean
  | _ => .int
abbrev wsX20 : List Cond := u_ws RX2 TX2 5
theorem nmX2 : ∀ a, a < 5 → ∀ b, b < 5 → a ≠ b → (TX2 a).2.1 ≠ (TX2 b).2.1 := by decide +kernel
theorem tyX2_ok : ∀ k, k < 5 → parseFieldDescriptor (TX2 k).2.2.1 = some (tyX2 k) := by decide +kernel
abbrev cX2_init : ByteArray := prog_4_method_1_code
def yX2_init : MethodName := ⟨RX2, "<init>", "()V"⟩
abbrev cX2_append : ByteArray := prog_4_method_2_code
def yX2_append : MethodName := ⟨RX2, "append", "(IIIZ)I"⟩
def RX3 : String := "DawnCoin$Reader"
def TX3 : u_T := fun k => match k with
  | 0 => ("DawnCoin$Reader", "letters", "[I", true)
  | 1 => ("DawnCoin$Reader", "part", "I", false)
  | 2 => ("DawnCoin$Reader", "figures", "I", false)
  | 3 => ("DawnCoin$Reader", "first", "I", false)
  | 4 => ("DawnCoin$Reader", "second", "I", false)
  | _ => ("DawnCoin$Reader", "length", "I", false)
def tyX3 : Nat → FieldType := fun k => match k with
  | 0 => .array .int
  | 1 => .int
  | 2 => .int
  | 3 => .int
  | 4 => .int
  | _ => .int
abbrev wsX30 : List Cond := u_ws RX3 TX3 6
theorem nmX3 : ∀ a, a < 6 → ∀ b, b < 6 → a ≠ b → (TX3 a).2.1 ≠ (TX3 b).2.1 := by decide +kernel
theorem tyX3_ok : ∀ k, k < 6 → parseFieldDescriptor (TX3 k).2.2.1 = some (tyX3 k) := by decide +kernel
abbrev cX3_init : ByteArray := prog_5_method_1_code
def yX3_init : MethodName := ⟨RX3, "<init>", "()V"⟩
abbrev cX3_append : ByteArray := prog_5_method_2_code
def yX3_append : MethodName := ⟨RX3, "append", "(I)I"⟩
abbrev cX3_readInto : ByteArray := prog_5_method_3_code
def yX3_readInto : MethodName := ⟨RX3, "readInto", "(LDawnCoin$Town;)I"⟩
abbrev cX3_takes : ByteArray := prog_5_method_4_code
def yX3_takes : MethodName := ⟨RX3, "takes", "(LDawnCoin$Town;I)Z"⟩
abbrev cX3_opensPart : ByteArray := prog_5_method_5_code
def yX3_opensPart : MethodName := ⟨RX3, "opensPart", "(LDawnCoin$Town;I)Z"⟩
abbrev cX3_takesOfRumour : ByteArray := prog_5_method_6_code
def yX3_takesOfRumour : MethodName := ⟨RX3, "takesOfRumour", "(LDawnCoin$Town;I)Z"⟩
abbrev cX3_endsRumour : ByteArray := prog_5_method_7_code
def yX3_endsRumour : MethodName := ⟨RX3, "endsRumour", "(LDawnCoin$Town;I)Z"⟩
abbrev cX3_takesOfRivals : ByteArray := prog_5_method_8_code
def yX3_takesOfRivals : MethodName := ⟨RX3, "takesOfRivals", "(LDawnCoin$Town;I)Z"⟩
abbrev cX3_takesOfPerson : ByteArray := prog_5_method_9_code
def yX3_takesOfPerson : MethodName := ⟨RX3, "takesOfPerson", "(LDawnCoin$Town;I)Z"⟩
abbrev cX3_takesOfOpening : ByteArray := prog_5_method_10_code
def yX3_takesOfOpening : MethodName := ⟨RX3, "takesOfOpening", "(LDawnCoin$Town;I)Z"⟩
def RX4 : String := "DawnCoin$Standing"
def TX4 : u_T := fun k => match k with
  | 0 => ("DawnCoin$Standing", "said", "[I", true)
  | 1 => ("DawnCoin$Standing", "denied", "[I", true)
  | 2 => ("DawnCoin$Standing", "coin", "[I", true)
  | _ => ("DawnCoin$Standing", "day", "I", false)
def tyX4 : Nat → FieldType := fun k => match k with
  | 0 => .array .int
  | 1 => .array .int
  | 2 => .array .int
  | _ => .int
abbrev wsX40 : List Cond := u_ws RX4 TX4 4
theorem nmX4 : ∀ a, a < 4 → ∀ b, b < 4 → a ≠ b → (TX4 a).2.1 ≠ (TX4 b).2.1 := by decide +kernel
theorem tyX4_ok : ∀ k, k < 4 → parseFieldDescriptor (TX4 k).2.2.1 = some (tyX4 k) := by decide +kernel
abbrev cX4_init : ByteArray := prog_6_method_1_code
def yX4_init : MethodName := ⟨RX4, "<init>", "()V"⟩
abbrev cX4_open : ByteArray := prog_6_method_2_code
def yX4_open : MethodName := ⟨RX4, "open", "(LDawnCoin$Town;)V"⟩
abbrev cX4_copyFrom : ByteArray := prog_6_method_3_code
def yX4_copyFrom : MethodName := ⟨RX4, "copyFrom", "(LDawnCoin$Standing;)V"⟩
abbrev cX4_saidOf : ByteArray := prog_6_method_4_code
def yX4_saidOf : MethodName := ⟨RX4, "saidOf", "(I)I"⟩
abbrev cX4_deniedOf : ByteArray := prog_6_method_5_code
def yX4_deniedOf : MethodName := ⟨RX4, "deniedOf", "(I)I"⟩
abbrev cX4_coinsOf : ByteArray := prog_6_method_6_code
def yX4_coinsOf : MethodName := ⟨RX4, "coinsOf", "(II)I"⟩
abbrev cX4_addCoins : ByteArray := prog_6_method_7_code
def yX4_addCoins : MethodName := ⟨RX4, "addCoins", "(III)V"⟩
abbrev cX4_canBeSaid : ByteArray := prog_6_method_8_code
def yX4_canBeSaid : MethodName := ⟨RX4, "canBeSaid", "(LDawnCoin$Town;II)Z"⟩
abbrev cX4_putSaid : ByteArray := prog_6_method_9_code
def yX4_putSaid : MethodName := ⟨RX4, "putSaid", "(II)V"⟩
abbrev cX4_canBeDenied : ByteArray := prog_6_method_10_code
def yX4_canBeDenied : MethodName := ⟨RX4, "canBeDenied", "(LDawnCoin$Town;II)Z"⟩
abbrev cX4_putDenied : ByteArray := prog_6_method_11_code
def yX4_putDenied : MethodName := ⟨RX4, "putDenied", "(II)V"⟩
abbrev cX4_isTakenBy : ByteArray := prog_6_method_12_code
def yX4_isTakenBy : MethodName := ⟨RX4, "isTakenBy", "(LDawnCoin$Town;II)Z"⟩
abbrev cX4_hasRivalCoin : ByteArray := prog_6_method_13_code
def yX4_hasRivalCoin : MethodName := ⟨RX4, "hasRivalCoin", "(LDawnCoin$Town;II)Z"⟩
abbrev cX4_passDawn : ByteArray := prog_6_method_14_code
def yX4_passDawn : MethodName := ⟨RX4, "passDawn", "(LDawnCoin$Town;)I"⟩
abbrev cX4_strike : ByteArray := prog_6_method_15_code
def yX4_strike : MethodName := ⟨RX4, "strike", "(LDawnCoin$Town;I)I"⟩
abbrev cX4_valueOf : ByteArray := prog_6_method_16_code
def yX4_valueOf : MethodName := ⟨RX4, "valueOf", "(LDawnCoin$Town;I)I"⟩
abbrev cX4_valueOfAll : ByteArray := prog_6_method_17_code
def yX4_valueOfAll : MethodName := ⟨RX4, "valueOfAll", "(LDawnCoin$Town;)I"⟩
abbrev cX4_valueOfSet : ByteArray := prog_6_method_18_code
def yX4_valueOfSet : MethodName := ⟨RX4, "valueOfSet", "(LDawnCoin$Town;II)I"⟩
abbrev cX4_valueOfPurses : ByteArray := prog_6_method_19_code
def yX4_valueOfPurses : MethodName := ⟨RX4, "valueOfPurses", "(LDawnCoin$Town;)I"⟩
abbrev cX4_allCoins : ByteArray := prog_6_method_20_code
def yX4_allCoins : MethodName := ⟨RX4, "allCoins", "()I"⟩
abbrev cX4_rumoursSaid : ByteArray := prog_6_method_21_code
def yX4_rumoursSaid : MethodName := ⟨RX4, "rumoursSaid", "()I"⟩
def RX5 : String := "DawnCoin$Town"
def TX5 : u_T := fun k => match k with
  | 0 => ("DawnCoin$Town", "word", "[I", true)
  | 1 => ("DawnCoin$Town", "lie", "[Z", true)
  | 2 => ("DawnCoin$Town", "proof", "[I", true)
  | 3 => ("DawnCoin$Town", "rivals", "[I", true)
  | 4 => ("DawnCoin$Town", "opening", "[I", true)
  | 5 => ("DawnCoin$Town", "seat", "[I", true)
  | 6 => ("DawnCoin$Town", "rumours", "I", false)
  | _ => ("DawnCoin$Town", "people", "I", false)
def tyX5 : Nat → FieldType := fun k => match k with
  | 0 => .array .int
  | 1 => .array .boolean
  | 2 => .array .int
  | 3 => .array .int
  | 4 => .array .int
  | 5 => .array .int
  | 6 => .int
  | _ => .int
abbrev wsX50 : List Cond := u_ws RX5 TX5 8
theorem nmX5 : ∀ a, a < 8 → ∀ b, b < 8 → a ≠ b → (TX5 a).2.1 ≠ (TX5 b).2.1 := by decide +kernel
theorem tyX5_ok : ∀ k, k < 8 → parseFieldDescriptor (TX5 k).2.2.1 = some (tyX5 k) := by decide +kernel
abbrev cX5_init : ByteArray := prog_7_method_1_code
def yX5_init : MethodName := ⟨RX5, "<init>", "()V"⟩
abbrev cX5_clear : ByteArray := prog_7_method_2_code
def yX5_clear : MethodName := ⟨RX5, "clear", "()V"⟩
abbrev cX5_hasRumour : ByteArray := prog_7_method_3_code
def yX5_hasRumour : MethodName := ⟨RX5, "hasRumour", "(I)Z"⟩
abbrev cX5_hasPerson : ByteArray := prog_7_method_4_code
def yX5_hasPerson : MethodName := ⟨RX5, "hasPerson", "(I)Z"⟩
abbrev cX5_seatOf : ByteArray := prog_7_method_5_code
def yX5_seatOf : MethodName := ⟨RX5, "seatOf", "(I)I"⟩
abbrev cX5_isLie : ByteArray := prog_7_method_6_code
def yX5_isLie : MethodName := ⟨RX5, "isLie", "(I)Z"⟩
abbrev cX5_isProved : ByteArray := prog_7_method_7_code
def yX5_isProved : MethodName := ⟨RX5, "isProved", "(II)Z"⟩
abbrev cX5_isProvedTrue : ByteArray := prog_7_method_8_code
def yX5_isProvedTrue : MethodName := ⟨RX5, "isProvedTrue", "(II)Z"⟩
abbrev cX5_valueOn : ByteArray := prog_7_method_9_code
def yX5_valueOn : MethodName := ⟨RX5, "valueOn", "(IIII)I"⟩
abbrev cX5_saidAfterDawn : ByteArray := prog_7_method_10_code
def yX5_saidAfterDawn : MethodName := ⟨RX5, "saidAfterDawn", "(IIII)I"⟩
abbrev cX5_isFreeOfRivals : ByteArray := prog_7_method_11_code
def yX5_isFreeOfRivals : MethodName := ⟨RX5, "isFreeOfRivals", "(I)Z"⟩
abbrev cX5_addRumour : ByteArray := prog_7_method_12_code
def yX5_addRumour : MethodName := ⟨RX5, "addRumour", "(IZI)V"⟩
abbrev cX5_addPerson : ByteArray := prog_7_method_13_code
def yX5_addPerson : MethodName := ⟨RX5, "addPerson", "(I)V"⟩
abbrev cX5_addRivals : ByteArray := prog_7_method_14_code
def yX5_addRivals : MethodName := ⟨RX5, "addRivals", "(II)V"⟩
abbrev cX5_addOpening : ByteArray := prog_7_method_15_code
def yX5_addOpening : MethodName := ⟨RX5, "addOpening", "(II)V"⟩
abbrev cX5_freePartners : ByteArray := prog_7_method_16_code
def yX5_freePartners : MethodName := ⟨RX5, "freePartners", "(I)I"⟩
abbrev cX5_freeTables : ByteArray := prog_7_method_17_code
def yX5_freeTables : MethodName := ⟨RX5, "freeTables", "(I)I"⟩
abbrev cX5_hasFreePair : ByteArray := prog_7_method_18_code
def yX5_hasFreePair : MethodName := ⟨RX5, "hasFreePair", "()Z"⟩
abbrev cX5_hasFreeTable : ByteArray := prog_7_method_19_code
def yX5_hasFreeTable : MethodName := ⟨RX5, "hasFreeTable", "()Z"⟩
def RX6 : String := "DawnCoin"
def TX6 : u_T := fun k => match k with
  | 0 => ("DawnCoin", "reader", "LDawnCoin$Reader;", true)
  | 1 => ("DawnCoin", "told", "LDawnCoin$Town;", true)
  | 2 => ("DawnCoin", "draft", "LDawnCoin$Town;", true)
  | 3 => ("DawnCoin", "now", "LDawnCoin$Standing;", true)
  | 4 => ("DawnCoin", "trial", "LDawnCoin$Standing;", true)
  | 5 => ("DawnCoin", "acts", "LDawnCoin$ActRow;", true)
  | 6 => ("DawnCoin", "hearsay", "LDawnCoin$Hearsay;", true)
  | 7 => ("DawnCoin", "slots", "[LDawnCoin$Standing;", true)
  | 8 => ("DawnCoin", "filled", "[Z", true)
  | 9 => ("DawnCoin", "best", "LDawnCoin$Best;", true)
  | 10 => ("DawnCoin", "gains", "[I", true)
  | 11 => ("DawnCoin", "things", "[I", true)
  | 12 => ("DawnCoin", "mine", "[I", true)
  | 13 => ("DawnCoin", "theirs", "[I", true)
  | _ => ("DawnCoin", "chain", "J", false)
def tyX6 : Nat → FieldType := fun k => match k with
  | 0 => .object "DawnCoin$Reader"
  | 1 => .object "DawnCoin$Town"
  | 2 => .object "DawnCoin$Town"
  | 3 => .object "DawnCoin$Standing"
  | 4 => .object "DawnCoin$Standing"
  | 5 => .object "DawnCoin$ActRow"
  | 6 => .object "DawnCoin$Hearsay"
  | 7 => .array (.object "DawnCoin$Standing")
  | 8 => .array .boolean
  | 9 => .object "DawnCoin$Best"
  | 10 => .array .int
  | 11 => .array .int
  | 12 => .array .int
  | 13 => .array .int
  | _ => .long
abbrev wsX60 : List Cond := u_ws RX6 TX6 15
theorem nmX6 : ∀ a, a < 15 → ∀ b, b < 15 → a ≠ b → (TX6 a).2.1 ≠ (TX6 b).2.1 := by decide +kernel
theorem tyX6_ok : ∀ k, k < 15 → parseFieldDescriptor (TX6 k).2.2.1 = some (tyX6 k) := by decide +kernel
abbrev cX6_init : ByteArray := prog_1_method_1_code
def yX6_init : MethodName := ⟨RX6, "<init>", "()V"⟩
abbrev cX6_write : ByteArray := prog_1_method_2_code
def yX6_write : MethodName := ⟨RX6, "write", "(I)I"⟩
abbrev cX6_wipe : ByteArray := prog_1_method_3_code
def yX6_wipe : MethodName := ⟨RX6, "wipe", "()I"⟩
abbrev cX6_fault : ByteArray := prog_1_method_4_code
def yX6_fault : MethodName := ⟨RX6, "fault", "()I"⟩
abbrev cX6_town : ByteArray := prog_1_method_5_code
def yX6_town : MethodName := ⟨RX6, "town", "()I"⟩
abbrev cX6_rumour : ByteArray := prog_1_method_6_code
def yX6_rumour : MethodName := ⟨RX6, "rumour", "(II)I"⟩
abbrev cX6_table : ByteArray := prog_1_method_7_code
def yX6_table : MethodName := ⟨RX6, "table", "(I)I"⟩
abbrev cX6_coins : ByteArray := prog_1_method_8_code
def yX6_coins : MethodName := ⟨RX6, "coins", "(II)I"⟩
abbrev cX6_dawn : ByteArray := prog_1_method_9_code
def yX6_dawn : MethodName := ⟨RX6, "dawn", "()I"⟩
abbrev cX6_say : ByteArray := prog_1_method_10_code
def yX6_say : MethodName := ⟨RX6, "say", "(II)I"⟩
abbrev cX6_deny : ByteArray := prog_1_method_11_code
def yX6_deny : MethodName := ⟨RX6, "deny", "(II)I"⟩
abbrev cX6_pay : ByteArray := prog_1_method_12_code
def yX6_pay : MethodName := ⟨RX6, "pay", "(III)I"⟩
abbrev cX6_undo : ByteArray := prog_1_method_13_code
def yX6_undo : MethodName := ⟨RX6, "undo", "()I"⟩
abbrev cX6_worth : ByteArray := prog_1_method_14_code
def yX6_worth : MethodName := ⟨RX6, "worth", "(II)I"⟩
abbrev cX6_purse : ByteArray := prog_1_method_15_code
def yX6_purse : MethodName := ⟨RX6, "purse", "(II)I"⟩
abbrev cX6_bestDay : ByteArray := prog_1_method_16_code
def yX6_bestDay : MethodName := ⟨RX6, "bestDay", "(I)I"⟩
abbrev cX6_reach : ByteArray := prog_1_method_17_code
def yX6_reach : MethodName := ⟨RX6, "reach", "(II)I"⟩
abbrev cX6_plan : ByteArray := prog_1_method_18_code
def yX6_plan : MethodName := ⟨RX6, "plan", "(IIZ)I"⟩
abbrev cX6_holds : ByteArray := prog_1_method_19_code
def yX6_holds : MethodName := ⟨RX6, "holds", "(IZ)I"⟩
abbrev cX6_judge : ByteArray := prog_1_method_20_code
def yX6_judge : MethodName := ⟨RX6, "judge", "(IJ)I"⟩
abbrev cX6_hear : ByteArray := prog_1_method_21_code
def yX6_hear : MethodName := ⟨RX6, "hear", "(IIIZ)I"⟩
abbrev cX6_unhear : ByteArray := prog_1_method_22_code
def yX6_unhear : MethodName := ⟨RX6, "unhear", "()I"⟩
abbrev cX6_where : ByteArray := prog_1_method_23_code
def yX6_where : MethodName := ⟨RX6, "where", "(II)I"⟩
abbrev cX6_share : ByteArray := prog_1_method_24_code
def yX6_share : MethodName := ⟨RX6, "share", "(IIIZ)I"⟩
abbrev cX6_rests : ByteArray := prog_1_method_25_code
def yX6_rests : MethodName := ⟨RX6, "rests", "(IIII)I"⟩
abbrev cX6_chance : ByteArray := prog_1_method_26_code
def yX6_chance : MethodName := ⟨RX6, "chance", "(IIIZ)I"⟩
abbrev cX6_seed : ByteArray := prog_1_method_27_code
def yX6_seed : MethodName := ⟨RX6, "seed", "(J)J"⟩
abbrev cX6_weeks : ByteArray := prog_1_method_28_code
def yX6_weeks : MethodName := ⟨RX6, "weeks", "(I)I"⟩
abbrev cX6_keep : ByteArray := prog_1_method_29_code
def yX6_keep : MethodName := ⟨RX6, "keep", "(I)I"⟩
abbrev cX6_again : ByteArray := prog_1_method_30_code
def yX6_again : MethodName := ⟨RX6, "again", "(I)I"⟩
abbrev cX6_count : ByteArray := prog_1_method_31_code
def yX6_count : MethodName := ⟨RX6, "count", "(I)I"⟩
abbrev cX6_saidIn : ByteArray := prog_1_method_32_code
def yX6_saidIn : MethodName := ⟨RX6, "saidIn", "(III)I"⟩
abbrev cX6_valueIn : ByteArray := prog_1_method_33_code
def yX6_valueIn : MethodName := ⟨RX6, "valueIn", "(III)I"⟩
abbrev cX6_coinValueIn : ByteArray := prog_1_method_34_code
def yX6_coinValueIn : MethodName := ⟨RX6, "coinValueIn", "(IIII)I"⟩
abbrev cX6_purseIn : ByteArray := prog_1_method_35_code
def yX6_purseIn : MethodName := ⟨RX6, "purseIn", "(II)I"⟩
abbrev cX6_valueAfterDenials : ByteArray := prog_1_method_36_code
def yX6_valueAfterDenials : MethodName := ⟨RX6, "valueAfterDenials", "(II)I"⟩
abbrev cX6_canSayThing : ByteArray := prog_1_method_37_code
def yX6_canSayThing : MethodName := ⟨RX6, "canSayThing", "(I)Z"⟩
abbrev cX6_thingBit : ByteArray := prog_1_method_38_code
def yX6_thingBit : MethodName := ⟨RX6, "thingBit", "(I)I"⟩
abbrev cX6_thingFigures : ByteArray := prog_1_method_39_code
def yX6_thingFigures : MethodName := ⟨RX6, "thingFigures", "(I)I"⟩
abbrev cX6_gainOf : ByteArray := prog_1_method_40_code
def yX6_gainOf : MethodName := ⟨RX6, "gainOf", "(IIII)I"⟩
abbrev cX6_offerOneThing : ByteArray := prog_1_method_41_code
def yX6_offerOneThing : MethodName := ⟨RX6, "offerOneThing", "()V"⟩
abbrev cX6_offerTwoThings : ByteArray := prog_1_method_42_code
def yX6_offerTwoThings : MethodName := ⟨RX6, "offerTwoThings", "(II)V"⟩
abbrev cX6_trySaying : ByteArray := prog_1_method_43_code
def yX6_trySaying : MethodName := ⟨RX6, "trySaying", "(II)Z"⟩
abbrev cX6_tryDenying : ByteArray := prog_1_method_44_code
def yX6_tryDenying : MethodName := ⟨RX6, "tryDenying", "(II)Z"⟩
abbrev cX6_tryThing : ByteArray := prog_1_method_45_code
def yX6_tryThing : MethodName := ⟨RX6, "tryThing", "(I)Z"⟩
abbrev cX6_agreesWithHeard : ByteArray := prog_1_method_46_code
def yX6_agreesWithHeard : MethodName := ⟨RX6, "agreesWithHeard", "(II)Z"⟩
abbrev cX6_canChoose : ByteArray := prog_1_method_47_code
def yX6_canChoose : MethodName := ⟨RX6, "canChoose", "(II)Z"⟩
abbrev cX6_pairOf : ByteArray := prog_1_method_48_code
def yX6_pairOf : MethodName := ⟨RX6, "pairOf", "(II)I"⟩
abbrev cX6_weighChoices : ByteArray := prog_1_method_49_code
def yX6_weighChoices : MethodName := ⟨RX6, "weighChoices", "(III)V"⟩
abbrev cX6_isAtRest : ByteArray := prog_1_method_50_code
def yX6_isAtRest : MethodName := ⟨RX6, "isAtRest", "(IIII)Z"⟩
abbrev cX6_slotAt : ByteArray := prog_1_method_51_code
def yX6_slotAt : MethodName := ⟨RX6, "slotAt", "(I)LDawnCoin$Standing;"⟩
abbrev cX6_isOutside : ByteArray := prog_1_method_52_code
def yX6_isOutside : MethodName := ⟨RX6, "isOutside", "(III)Z"⟩
abbrev cX6_isTable : ByteArray := prog_1_method_53_code
def yX6_isTable : MethodName := ⟨RX6, "isTable", "(I)Z"⟩
abbrev cX6_isIndex : ByteArray := prog_1_method_54_code
def yX6_isIndex : MethodName := ⟨RX6, "isIndex", "(II)Z"⟩
abbrev cX6_at : ByteArray := prog_1_method_55_code
def yX6_at : MethodName := ⟨RX6, "at", "([II)I"⟩
abbrev cX6_hasBit : ByteArray := prog_1_method_56_code
def yX6_hasBit : MethodName := ⟨RX6, "hasBit", "(II)Z"⟩
abbrev cX6_power : ByteArray := prog_1_method_57_code
def yX6_power : MethodName := ⟨RX6, "power", "(II)I"⟩
abbrev cX6_factorial : ByteArray := prog_1_method_58_code
def yX6_factorial : MethodName := ⟨RX6, "factorial", "(I)I"⟩
abbrev cX6_fraction : ByteArray := prog_1_method_59_code
def yX6_fraction : MethodName := ⟨RX6, "fraction", "(IIZ)I"⟩
abbrev cX6_commonDivisor : ByteArray := prog_1_method_60_code
def yX6_commonDivisor : MethodName := ⟨RX6, "commonDivisor", "(II)I"⟩
def RX7 : String := "DawnCoinModel"
def TX7 : u_T := fun k => match k with
  | 0 => ("DawnCoinModel", "rumours", "I", false)
  | 1 => ("DawnCoinModel", "people", "I", false)
  | 2 => ("DawnCoinModel", "word", "[I", true)
  | 3 => ("DawnCoinModel", "lie", "[I", true)
  | 4 => ("DawnCoinModel", "proved", "[I", true)
  | 5 => ("DawnCoinModel", "beside", "[I", true)
  | 6 => ("DawnCoinModel", "sits", "[I", true)
  | 7 => ("DawnCoinModel", "now", "[I", true)
  | 8 => ("DawnCoinModel", "readWord", "[I", true)
  | 9 => ("DawnCoinModel", "readLie", "[I", true)
  | 10 => ("DawnCoinModel", "readProved", "[I", true)
  | 11 => ("DawnCoinModel", "readBeside", "[I", true)
  | 12 => ("DawnCoinModel", "readSaid", "[I", true)
  | 13 => ("DawnCoinModel", "readSits", "[I", true)
  | 14 => ("DawnCoinModel", "readRumours", "I", false)
  | 15 => ("DawnCoinModel", "readPeople", "I", false)
  | 16 => ("DawnCoinModel", "text", "[I", true)
  | 17 => ("DawnCoinModel", "length", "I", false)
  | 18 => ("DawnCoinModel", "at", "I", false)
  | 19 => ("DawnCoinModel", "faultAt", "I", false)
  | 20 => ("DawnCoinModel", "acts", "I", false)
  | 21 => ("DawnCoinModel", "next", "I", false)
  | 22 => ("DawnCoinModel", "row", "[I", true)
  | 23 => ("DawnCoinModel", "heard", "I", false)
  | 24 => ("DawnCoinModel", "heardOf", "[I", true)
  | 25 => ("DawnCoinModel", "heardAt", "[I", true)
  | 26 => ("DawnCoinModel", "heardIn", "[I", true)
  | 27 => ("DawnCoinModel", "heardSaid", "[Z", true)
  | 28 => ("DawnCoinModel", "ones6", "[I", true)
  | 29 => ("DawnCoinModel", "others6", "[I", true)
  | 30 => ("DawnCoinModel", "seed", "J", false)
  | 31 => ("DawnCoinModel", "isKept", "[Z", true)
  | _ => ("DawnCoinModel", "kept", "[I", true)
def tyX7 : Nat → FieldType := fun k => match k with
  | 0 => .int
  | 1 => .int
  | 2 => .array .int
  | 3 => .array .int
  | 4 => .array .int
  | 5 => .array .int
  | 6 => .array .int
  | 7 => .array .int
  | 8 => .array .int
  | 9 => .array .int
  | 10 => .array .int
  | 11 => .array .int
  | 12 => .array .int
  | 13 => .array .int
  | 14 => .int
  | 15 => .int
  | 16 => .array .int
  | 17 => .int
  | 18 => .int
  | 19 => .int
  | 20 => .int
  | 21 => .int
  | 22 => .array .int
  | 23 => .int
  | 24 => .array .int
  | 25 => .array .int
  | 26 => .array .int
  | 27 => .array .boolean
  | 28 => .array .int
  | 29 => .array .int
  | 30 => .long
  | 31 => .array .boolean
  | _ => .array .int
abbrev wsX70 : List Cond := u_ws RX7 TX7 33
theorem nmX7 : ∀ a, a < 33 → ∀ b, b < 33 → a ≠ b → (TX7 a).2.1 ≠ (TX7 b).2.1 := by decide +kernel
theorem tyX7_ok : ∀ k, k < 33 → parseFieldDescriptor (TX7 k).2.2.1 = some (tyX7 k) := by decide +kernel
abbrev cX7_init : ByteArray := prog_9_method_1_code
def yX7_init : MethodName := ⟨RX7, "<init>", "()V"⟩
abbrev cX7_in : ByteArray := prog_9_method_3_code
def yX7_in : MethodName := ⟨RX7, "in", "(JJJ)Z"⟩
abbrev cX7_has : ByteArray := prog_9_method_4_code
def yX7_has : MethodName := ⟨RX7, "has", "(II)Z"⟩
abbrev cX7_ones : ByteArray := prog_9_method_5_code
def yX7_ones : MethodName := ⟨RX7, "ones", "(I)I"⟩
abbrev cX7_write : ByteArray := prog_9_method_6_code
def yX7_write : MethodName := ⟨RX7, "write", "(I)I"⟩
abbrev cX7_wipe : ByteArray := prog_9_method_7_code
def yX7_wipe : MethodName := ⟨RX7, "wipe", "()I"⟩
abbrev cX7_figureOf : ByteArray := prog_9_method_8_code
def yX7_figureOf : MethodName := ⟨RX7, "figureOf", "(I)I"⟩
abbrev cX7_pairsLeft : ByteArray := prog_9_method_9_code
def yX7_pairsLeft : MethodName := ⟨RX7, "pairsLeft", "(I)I"⟩
abbrev cX7_firstsLeft : ByteArray := prog_9_method_10_code
def yX7_firstsLeft : MethodName := ⟨RX7, "firstsLeft", "()I"⟩
abbrev cX7_saidLeft : ByteArray := prog_9_method_11_code
def yX7_saidLeft : MethodName := ⟨RX7, "saidLeft", "()I"⟩
abbrev cX7_readText : ByteArray := prog_9_method_12_code
def yX7_readText : MethodName := ⟨RX7, "readText", "()I"⟩
abbrev cX7_readPart : ByteArray := prog_9_method_13_code
def yX7_readPart : MethodName := ⟨RX7, "readPart", "(I)V"⟩
abbrev cX7_fault : ByteArray := prog_9_method_14_code
def yX7_fault : MethodName := ⟨RX7, "fault", "()I"⟩
abbrev cX7_town : ByteArray := prog_9_method_15_code
def yX7_town : MethodName := ⟨RX7, "town", "()I"⟩
abbrev cX7_isRumour : ByteArray := prog_9_method_16_code
def yX7_isRumour : MethodName := ⟨RX7, "isRumour", "(I)Z"⟩
abbrev cX7_isPerson : ByteArray := prog_9_method_17_code
def yX7_isPerson : MethodName := ⟨RX7, "isPerson", "(I)Z"⟩
abbrev cX7_isTable : ByteArray := prog_9_method_18_code
def yX7_isTable : MethodName := ⟨RX7, "isTable", "(I)Z"⟩
abbrev cX7_isProved : ByteArray := prog_9_method_19_code
def yX7_isProved : MethodName := ⟨RX7, "isProved", "(II)Z"⟩
abbrev cX7_worthOf : ByteArray := prog_9_method_20_code
def yX7_worthOf : MethodName := ⟨RX7, "worthOf", "(II)I"⟩
abbrev cX7_rumour : ByteArray := prog_9_method_21_code
def yX7_rumour : MethodName := ⟨RX7, "rumour", "(II)I"⟩
abbrev cX7_table : ByteArray := prog_9_method_22_code
def yX7_table : MethodName := ⟨RX7, "table", "(I)I"⟩
abbrev cX7_coinAt : ByteArray := prog_9_method_23_code
def yX7_coinAt : MethodName := ⟨RX7, "coinAt", "(III)I"⟩
abbrev cX7_coins : ByteArray := prog_9_method_24_code
def yX7_coins : MethodName := ⟨RX7, "coins", "(II)I"⟩
abbrev cX7_dawnOn : ByteArray := prog_9_method_25_code
def yX7_dawnOn : MethodName := ⟨RX7, "dawnOn", "(I)I"⟩
abbrev cX7_canSay : ByteArray := prog_9_method_26_code
def yX7_canSay : MethodName := ⟨RX7, "canSay", "(III)Z"⟩
abbrev cX7_canDeny : ByteArray := prog_9_method_27_code
def yX7_canDeny : MethodName := ⟨RX7, "canDeny", "(III)Z"⟩
abbrev cX7_denyOn : ByteArray := prog_9_method_28_code
def yX7_denyOn : MethodName := ⟨RX7, "denyOn", "(III)V"⟩
abbrev cX7_keepAct : ByteArray := prog_9_method_29_code
def yX7_keepAct : MethodName := ⟨RX7, "keepAct", "()V"⟩
abbrev cX7_dawn : ByteArray := prog_9_method_30_code
def yX7_dawn : MethodName := ⟨RX7, "dawn", "()I"⟩
abbrev cX7_say : ByteArray := prog_9_method_31_code
def yX7_say : MethodName := ⟨RX7, "say", "(II)I"⟩
abbrev cX7_deny : ByteArray := prog_9_method_32_code
def yX7_deny : MethodName := ⟨RX7, "deny", "(II)I"⟩
abbrev cX7_takes : ByteArray := prog_9_method_33_code
def yX7_takes : MethodName := ⟨RX7, "takes", "(II)Z"⟩
abbrev cX7_pay : ByteArray := prog_9_method_34_code
def yX7_pay : MethodName := ⟨RX7, "pay", "(III)I"⟩
abbrev cX7_undo : ByteArray := prog_9_method_35_code
def yX7_undo : MethodName := ⟨RX7, "undo", "()I"⟩
abbrev cX7_layTrial : ByteArray := prog_9_method_36_code
def yX7_layTrial : MethodName := ⟨RX7, "layTrial", "()V"⟩
abbrev cX7_dawnTrial : ByteArray := prog_9_method_37_code
def yX7_dawnTrial : MethodName := ⟨RX7, "dawnTrial", "(I)V"⟩
abbrev cX7_purseOf : ByteArray := prog_9_method_38_code
def yX7_purseOf : MethodName := ⟨RX7, "purseOf", "(II)I"⟩
abbrev cX7_worth : ByteArray := prog_9_method_39_code
def yX7_worth : MethodName := ⟨RX7, "worth", "(II)I"⟩
abbrev cX7_purse : ByteArray := prog_9_method_40_code
def yX7_purse : MethodName := ⟨RX7, "purse", "(II)I"⟩
abbrev cX7_bestDay : ByteArray := prog_9_method_41_code
def yX7_bestDay : MethodName := ⟨RX7, "bestDay", "(I)I"⟩
abbrev cX7_reach : ByteArray := prog_9_method_42_code
def yX7_reach : MethodName := ⟨RX7, "reach", "(II)I"⟩
abbrev cX7_sayTrial : ByteArray := prog_9_method_43_code
def yX7_sayTrial : MethodName := ⟨RX7, "sayTrial", "(II)Z"⟩
abbrev cX7_planned : ByteArray := prog_9_method_44_code
def yX7_planned : MethodName := ⟨RX7, "planned", "(III)I"⟩
abbrev cX7_plan : ByteArray := prog_9_method_45_code
def yX7_plan : MethodName := ⟨RX7, "plan", "(IIZ)I"⟩
abbrev cX7_canBe : ByteArray := prog_9_method_46_code
def yX7_canBe : MethodName := ⟨RX7, "canBe", "(I)Z"⟩
abbrev cX7_holds : ByteArray := prog_9_method_47_code
def yX7_holds : MethodName := ⟨RX7, "holds", "(IZ)I"⟩
abbrev cX7_tenTo : ByteArray := prog_9_method_48_code
def yX7_tenTo : MethodName := ⟨RX7, "tenTo", "(I)J"⟩
abbrev cX7_allWorth : ByteArray := prog_9_method_49_code
def yX7_allWorth : MethodName := ⟨RX7, "allWorth", "(I)I"⟩
abbrev cX7_tryThing : ByteArray := prog_9_method_50_code
def yX7_tryThing : MethodName := ⟨RX7, "tryThing", "(I)Z"⟩
abbrev cX7_judge : ByteArray := prog_9_method_51_code
def yX7_judge : MethodName := ⟨RX7, "judge", "(IJ)I"⟩
abbrev cX7_hear : ByteArray := prog_9_method_52_code
def yX7_hear : MethodName := ⟨RX7, "hear", "(IIIZ)I"⟩
abbrev cX7_unhear : ByteArray := prog_9_method_53_code
def yX7_unhear : MethodName := ⟨RX7, "unhear", "()I"⟩
abbrev cX7_isHeard : ByteArray := prog_9_method_54_code
def yX7_isHeard : MethodName := ⟨RX7, "isHeard", "(II)Z"⟩
abbrev cX7_where : ByteArray := prog_9_method_55_code
def yX7_where : MethodName := ⟨RX7, "where", "(II)I"⟩
abbrev cX7_factorial : ByteArray := prog_9_method_56_code
def yX7_factorial : MethodName := ⟨RX7, "factorial", "(I)I"⟩
abbrev cX7_common : ByteArray := prog_9_method_57_code
def yX7_common : MethodName := ⟨RX7, "common", "(II)I"⟩
abbrev cX7_worthBy : ByteArray := prog_9_method_58_code
def yX7_worthBy : MethodName := ⟨RX7, "worthBy", "(III)I"⟩
abbrev cX7_share : ByteArray := prog_9_method_59_code
def yX7_share : MethodName := ⟨RX7, "share", "(IIIZ)I"⟩
abbrev cX7_isChoice : ByteArray := prog_9_method_60_code
def yX7_isChoice : MethodName := ⟨RX7, "isChoice", "(II)Z"⟩
abbrev cX7_layPairs : ByteArray := prog_9_method_61_code
def yX7_layPairs : MethodName := ⟨RX7, "layPairs", "(III)V"⟩
abbrev cX7_isRest : ByteArray := prog_9_method_62_code
def yX7_isRest : MethodName := ⟨RX7, "isRest", "(III)Z"⟩
abbrev cX7_rests : ByteArray := prog_9_method_63_code
def yX7_rests : MethodName := ⟨RX7, "rests", "(IIII)I"⟩
abbrev cX7_chance : ByteArray := prog_9_method_64_code
def yX7_chance : MethodName := ⟨RX7, "chance", "(IIIZ)I"⟩
abbrev cX7_seed : ByteArray := prog_9_method_65_code
def yX7_seed : MethodName := ⟨RX7, "seed", "(J)J"⟩
abbrev cX7_allPurses : ByteArray := prog_9_method_66_code
def yX7_allPurses : MethodName := ⟨RX7, "allPurses", "(I)I"⟩
abbrev cX7_weeks : ByteArray := prog_9_method_67_code
def yX7_weeks : MethodName := ⟨RX7, "weeks", "(I)I"⟩
abbrev cX7_keep : ByteArray := prog_9_method_68_code
def yX7_keep : MethodName := ⟨RX7, "keep", "(I)I"⟩
abbrev cX7_again : ByteArray := prog_9_method_69_code
def yX7_again : MethodName := ⟨RX7, "again", "(I)I"⟩
abbrev cX7_count : ByteArray := prog_9_method_70_code
def yX7_count : MethodName := ⟨RX7, "count", "(I)I"⟩
def RJ6 : String := "java/lang/Integer"
def TJ6 : u_T := fun k => match k with
  | _ => ("", "", "", false)
def tyJ6 : Nat → FieldType := fun k => match k with
  | _ => .int
abbrev wsJ60 : List Cond := u_ws RJ6 TJ6 0
theorem nmJ6 : ∀ a, a < 0 → ∀ b, b < 0 → a ≠ b → (TJ6 a).2.1 ≠ (TJ6 b).2.1 := by decide +kernel
theorem tyJ6_ok : ∀ k, k < 0 → parseFieldDescriptor (TJ6 k).2.2.1 = some (tyJ6 k) := by decide +kernel
abbrev cJ6_bitCount_0f7a4 : ByteArray := prog_10_method_49_code
def yJ6_bitCount_0f7a4 : MethodName := ⟨RJ6, "bitCount", "(I)I"⟩
def RJ9 : String := "java/lang/Math"
def TJ9 : u_T := fun k => match k with
  | _ => ("", "", "", false)
def tyJ9 : Nat → FieldType := fun k => match k with
  | _ => .int
abbrev wsJ90 : List Cond := u_ws RJ9 TJ9 0
theorem nmJ9 : ∀ a, a < 0 → ∀ b, b < 0 → a ≠ b → (TJ9 a).2.1 ≠ (TJ9 b).2.1 := by decide +kernel
theorem tyJ9_ok : ∀ k, k < 0 → parseFieldDescriptor (TJ9 k).2.2.1 = some (tyJ9 k) := by decide +kernel
abbrev cJ9_abs_0f7a4 : ByteArray := prog_11_method_59_code
def yJ9_abs_0f7a4 : MethodName := ⟨RJ9, "abs", "(I)I"⟩
abbrev cJ9_max_7cf53 : ByteArray := prog_11_method_65_code
def yJ9_max_7cf53 : MethodName := ⟨RJ9, "max", "(II)I"⟩
abbrev cJ9_min_7cf53 : ByteArray := prog_11_method_69_code
def yJ9_min_7cf53 : MethodName := ⟨RJ9, "min", "(II)I"⟩
def RJ10 : String := "java/lang/System"
def TJ10 : u_T := fun k => match k with
  | _ => ("", "", "", false)
def tyJ10 : Nat → FieldType := fun k => match k with
  | _ => .int
abbrev wsJ100 : List Cond := u_ws RJ10 TJ10 0
theorem nmJ10 : ∀ a, a < 0 → ∀ b, b < 0 → a ≠ b → (TJ10 a).2.1 ≠ (TJ10 b).2.1 := by decide +kernel
theorem tyJ10_ok : ∀ k, k < 0 → parseFieldDescriptor (TJ10 k).2.2.1 = some (tyJ10 k) := by decide +kernel
def RL : String := "DawnCoinLaw"
abbrev cL_law : ByteArray := code
def yL_law : MethodName := ⟨RL, "law", "([I)Z"⟩
def wsL_law_r1 : List Cond := [Cond.classLink RL 7 RX6, Cond.instantiable RX6 15, Cond.initialized RX6, Cond.classLink RL 10 RX7, Cond.instantiable RX7 33, Cond.initialized RX7, Cond.constantLong RL 91 (4294967295), Cond.methodLink RL 9 yX6_init, Cond.instanceMethod yX6_init, Cond.code yX6_init cX6_init 2 none, Cond.methodLink RX6 3 objectInit, Cond.instanceMethod objectInit, Cond.code objectInit ⟨#[0xb1]⟩ 1 none, Cond.classLink RX6 9 RX3, Cond.instantiable RX3 6, Cond.initialized RX3, Cond.fieldLink RX6 12 "DawnCoin" "reader" "LDawnCoin$Reader;", Cond.classLink RX6 16 RX5, Cond.instantiable RX5 8, Cond.initialized RX5, Cond.fieldLink RX6 19 "DawnCoin" "told" "LDawnCoin$Town;", Cond.fieldLink RX6 23 "DawnCoin" "draft" "LDawnCoin$Town;", Cond.classLink RX6 26 RX4, Cond.instantiable RX4 4]
def wsL_law_r2 : List Cond := [Cond.initialized RX4, Cond.fieldLink RX6 29 "DawnCoin" "now" "LDawnCoin$Standing;", Cond.fieldLink RX6 33 "DawnCoin" "trial" "LDawnCoin$Standing;", Cond.classLink RX6 36 RX0, Cond.instantiable RX0 3, Cond.initialized RX0, Cond.fieldLink RX6 39 "DawnCoin" "acts" "LDawnCoin$ActRow;", Cond.classLink RX6 43 RX2, Cond.instantiable RX2 5, Cond.initialized RX2, Cond.fieldLink RX6 46 "DawnCoin" "hearsay" "LDawnCoin$Hearsay;", Cond.fieldLink RX6 50 "DawnCoin" "slots" "[LDawnCoin$Standing;", Cond.arrayClass .boolean, Cond.fieldLink RX6 54 "DawnCoin" "filled" "[Z", Cond.classLink RX6 58 RX1, Cond.instantiable RX1 2, Cond.initialized RX1, Cond.fieldLink RX6 61 "DawnCoin" "best" "LDawnCoin$Best;", Cond.arrayClass .int, Cond.fieldLink RX6 65 "DawnCoin" "gains" "[I", Cond.fieldLink RX6 69 "DawnCoin" "things" "[I", Cond.fieldLink RX6 72 "DawnCoin" "mine" "[I", Cond.fieldLink RX6 75 "DawnCoin" "theirs" "[I", Cond.instanceMethod yX3_init]
def wsL_law_r3 : List Cond := [Cond.code yX3_init cX3_init 1 none, Cond.methodLink RX3 3 objectInit, Cond.fieldLink RX3 9 "DawnCoin$Reader" "letters" "[I", Cond.instanceMethod yX5_init, Cond.code yX5_init cX5_init 1 none, Cond.methodLink RX5 3 objectInit, Cond.fieldLink RX5 9 "DawnCoin$Town" "word" "[I", Cond.fieldLink RX5 15 "DawnCoin$Town" "lie" "[Z", Cond.fieldLink RX5 19 "DawnCoin$Town" "proof" "[I", Cond.fieldLink RX5 22 "DawnCoin$Town" "rivals" "[I", Cond.fieldLink RX5 25 "DawnCoin$Town" "opening" "[I", Cond.fieldLink RX5 28 "DawnCoin$Town" "seat" "[I", Cond.instanceMethod yX4_init, Cond.code yX4_init cX4_init 1 none, Cond.methodLink RX4 3 objectInit, Cond.fieldLink RX4 9 "DawnCoin$Standing" "said" "[I", Cond.fieldLink RX4 15 "DawnCoin$Standing" "denied" "[I", Cond.fieldLink RX4 18 "DawnCoin$Standing" "coin" "[I", Cond.methodLink RX6 38 yX0_init, Cond.instanceMethod yX0_init, Cond.code yX0_init cX0_init 2 none, Cond.methodLink RX0 3 objectInit, Cond.classLink RX0 9 RX4, Cond.fieldLink RX0 11 "DawnCoin$ActRow" "ahead" "[LDawnCoin$Standing;"]
def wsL_law_r4 : List Cond := [Cond.instanceMethod yX2_init, Cond.code yX2_init cX2_init 1 none, Cond.methodLink RX2 3 objectInit, Cond.fieldLink RX2 9 "DawnCoin$Hearsay" "rumour" "[I", Cond.fieldLink RX2 15 "DawnCoin$Hearsay" "place" "[I", Cond.fieldLink RX2 18 "DawnCoin$Hearsay" "days" "[I", Cond.fieldLink RX2 21 "DawnCoin$Hearsay" "said" "[Z", Cond.instanceMethod yX1_init, Cond.code yX1_init cX1_init 1 none, Cond.methodLink RX1 1 objectInit, Cond.methodLink RL 12 yX7_init, Cond.instanceMethod yX7_init, Cond.code yX7_init cX7_init 1 none, Cond.methodLink RX7 1 objectInit, Cond.fieldLink RX7 7 "DawnCoinModel" "word" "[I", Cond.fieldLink RX7 13 "DawnCoinModel" "lie" "[I", Cond.fieldLink RX7 16 "DawnCoinModel" "proved" "[I", Cond.fieldLink RX7 19 "DawnCoinModel" "beside" "[I", Cond.fieldLink RX7 22 "DawnCoinModel" "sits" "[I", Cond.fieldLink RX7 25 "DawnCoinModel" "now" "[I", Cond.fieldLink RX7 28 "DawnCoinModel" "readWord" "[I", Cond.fieldLink RX7 31 "DawnCoinModel" "readLie" "[I", Cond.fieldLink RX7 34 "DawnCoinModel" "readProved" "[I", Cond.fieldLink RX7 37 "DawnCoinModel" "readBeside" "[I"]
def wsL_law_r5 : List Cond := [Cond.fieldLink RX7 40 "DawnCoinModel" "readSaid" "[I", Cond.fieldLink RX7 43 "DawnCoinModel" "readSits" "[I", Cond.fieldLink RX7 46 "DawnCoinModel" "text" "[I", Cond.fieldLink RX7 49 "DawnCoinModel" "row" "[I", Cond.fieldLink RX7 52 "DawnCoinModel" "heardOf" "[I", Cond.fieldLink RX7 55 "DawnCoinModel" "heardAt" "[I", Cond.fieldLink RX7 58 "DawnCoinModel" "heardIn" "[I", Cond.fieldLink RX7 61 "DawnCoinModel" "heardSaid" "[Z", Cond.fieldLink RX7 65 "DawnCoinModel" "ones6" "[I", Cond.fieldLink RX7 68 "DawnCoinModel" "others6" "[I", Cond.fieldLink RX7 71 "DawnCoinModel" "isKept" "[Z", Cond.fieldLink RX7 74 "DawnCoinModel" "kept" "[I", Cond.fieldLink RX7 77 "DawnCoinModel" "rumours" "I", Cond.methodLink RL 13 yX6_write, Cond.instanceMethod yX6_write, Cond.selects RX6 yX6_write yX6_write, Cond.code yX6_write cX6_write 2 (some .int), Cond.methodLink RX6 78 yX6_isOutside, Cond.static yX6_isOutside, Cond.code yX6_isOutside cX6_isOutside 3 (some .boolean), Cond.methodLink RX6 82 yX3_append, Cond.instanceMethod yX3_append, Cond.selects RX3 yX3_append yX3_append, Cond.code yX3_append cX3_append 2 (some .int)]
def wsL_law_r6 : List Cond := [Cond.fieldLink RX3 15 "DawnCoin$Reader" "length" "I", Cond.static yX6_isIndex, Cond.code yX6_isIndex cX6_isIndex 2 (some .boolean), Cond.methodLink RL 17 yX7_write, Cond.instanceMethod yX7_write, Cond.selects RX7 yX7_write yX7_write, Cond.code yX7_write cX7_write 2 (some .int), Cond.constantLong RX7 81 (255), Cond.fieldLink RX7 87 "DawnCoinModel" "length" "I", Cond.methodLink RX7 83 yX7_in, Cond.static yX7_in, Cond.code yX7_in cX7_in 6 (some .boolean), Cond.methodLink RL 18 yX6_wipe, Cond.instanceMethod yX6_wipe, Cond.selects RX6 yX6_wipe yX6_wipe, Cond.code yX6_wipe cX6_wipe 2 (some .int), Cond.fieldLink RX6 86 "DawnCoin$Reader" "length" "I", Cond.methodLink RL 22 yX7_wipe, Cond.instanceMethod yX7_wipe, Cond.selects RX7 yX7_wipe yX7_wipe, Cond.code yX7_wipe cX7_wipe 2 (some .int), Cond.methodLink RL 23 yX6_fault, Cond.instanceMethod yX6_fault, Cond.selects RX6 yX6_fault yX6_fault]
def wsL_law_r7 : List Cond := [Cond.code yX6_fault cX6_fault 1 (some .int), Cond.methodLink RX6 90 yX3_readInto, Cond.instanceMethod yX3_readInto, Cond.selects RX3 yX3_readInto yX3_readInto, Cond.code yX3_readInto cX3_readInto 3 (some .int), Cond.fieldLink RX3 28 "DawnCoin$Reader" "part" "I", Cond.methodLink RX3 23 yX5_clear, Cond.instanceMethod yX5_clear, Cond.selects RX5 yX5_clear yX5_clear, Cond.code yX5_clear cX5_clear 1 none, Cond.fieldLink RX5 31 "DawnCoin$Town" "rumours" "I", Cond.fieldLink RX5 35 "DawnCoin$Town" "people" "I", Cond.methodLink RX3 31 yX3_takes, Cond.instanceMethod yX3_takes, Cond.selects RX3 yX3_takes yX3_takes, Cond.code yX3_takes cX3_takes 4 (some .boolean), Cond.fieldLink RX3 35 "DawnCoin$Reader" "figures" "I", Cond.methodLink RX3 38 yX3_opensPart, Cond.instanceMethod yX3_opensPart, Cond.selects RX3 yX3_opensPart yX3_opensPart, Cond.code yX3_opensPart cX3_opensPart 3 (some .boolean), Cond.fieldLink RX3 53 "DawnCoin$Town" "rumours" "I", Cond.fieldLink RX3 60 "DawnCoin$Town" "people" "I", Cond.methodLink RX3 56 yX5_hasFreePair]
def wsL_law_r8 : List Cond := [Cond.instanceMethod yX5_hasFreePair, Cond.selects RX5 yX5_hasFreePair yX5_hasFreePair, Cond.code yX5_hasFreePair cX5_hasFreePair 3 (some .boolean), Cond.methodLink RX5 71 yX5_freePartners, Cond.instanceMethod yX5_freePartners, Cond.selects RX5 yX5_freePartners yX5_freePartners, Cond.code yX5_freePartners cX5_freePartners 3 (some .int), Cond.methodLink RX5 42 yX5_hasRumour, Cond.instanceMethod yX5_hasRumour, Cond.selects RX5 yX5_hasRumour yX5_hasRumour, Cond.code yX5_hasRumour cX5_hasRumour 2 (some .boolean), Cond.methodLink RX3 63 yX5_hasFreeTable, Cond.instanceMethod yX5_hasFreeTable, Cond.selects RX5 yX5_hasFreeTable yX5_hasFreeTable, Cond.code yX5_hasFreeTable cX5_hasFreeTable 3 (some .boolean), Cond.methodLink RX5 74 yX5_freeTables, Cond.instanceMethod yX5_freeTables, Cond.selects RX5 yX5_freeTables yX5_freeTables, Cond.code yX5_freeTables cX5_freeTables 2 (some .int), Cond.methodLink RX3 41 yX3_takesOfRumour, Cond.instanceMethod yX3_takesOfRumour, Cond.selects RX3 yX3_takesOfRumour yX3_takesOfRumour, Cond.code yX3_takesOfRumour cX3_takesOfRumour 3 (some .boolean), Cond.fieldLink RX3 66 "DawnCoin$Reader" "first" "I"]
def wsL_law_r9 : List Cond := [Cond.fieldLink RX3 73 "DawnCoin$Reader" "second" "I", Cond.methodLink RX3 76 yX3_endsRumour, Cond.instanceMethod yX3_endsRumour, Cond.selects RX3 yX3_endsRumour yX3_endsRumour, Cond.code yX3_endsRumour cX3_endsRumour 3 (some .boolean), Cond.methodLink RX3 79 yX5_addRumour, Cond.instanceMethod yX5_addRumour, Cond.selects RX5 yX5_addRumour yX5_addRumour, Cond.code yX5_addRumour cX5_addRumour 4 none, Cond.methodLink RX3 44 yX3_takesOfRivals, Cond.instanceMethod yX3_takesOfRivals, Cond.selects RX3 yX3_takesOfRivals yX3_takesOfRivals, Cond.code yX3_takesOfRivals cX3_takesOfRivals 3 (some .boolean), Cond.methodLink RX3 83 yX5_freePartners, Cond.static yX6_hasBit, Cond.code yX6_hasBit cX6_hasBit 2 (some .boolean), Cond.methodLink RX3 90 yX5_addRivals, Cond.instanceMethod yX5_addRivals, Cond.selects RX5 yX5_addRivals yX5_addRivals, Cond.code yX5_addRivals cX5_addRivals 3 none, Cond.methodLink RX3 47 yX3_takesOfPerson, Cond.instanceMethod yX3_takesOfPerson, Cond.selects RX3 yX3_takesOfPerson yX3_takesOfPerson, Cond.code yX3_takesOfPerson cX3_takesOfPerson 3 (some .boolean)]
def wsL_law_r10 : List Cond := [Cond.static yX6_isTable, Cond.code yX6_isTable cX6_isTable 1 (some .boolean), Cond.methodLink RX3 98 yX5_addPerson, Cond.instanceMethod yX5_addPerson, Cond.selects RX5 yX5_addPerson yX5_addPerson, Cond.code yX5_addPerson cX5_addPerson 2 none, Cond.methodLink RX3 50 yX3_takesOfOpening, Cond.instanceMethod yX3_takesOfOpening, Cond.selects RX3 yX3_takesOfOpening yX3_takesOfOpening, Cond.code yX3_takesOfOpening cX3_takesOfOpening 3 (some .boolean), Cond.methodLink RX3 102 yX5_freeTables, Cond.methodLink RX3 105 yX5_addOpening, Cond.instanceMethod yX5_addOpening, Cond.selects RX5 yX5_addOpening yX5_addOpening, Cond.code yX5_addOpening cX5_addOpening 3 none, Cond.methodLink RL 26 yX7_fault, Cond.instanceMethod yX7_fault, Cond.selects RX7 yX7_fault yX7_fault, Cond.code yX7_fault cX7_fault 1 (some .int), Cond.methodLink RX7 126 yX7_readText, Cond.instanceMethod yX7_readText, Cond.selects RX7 yX7_readText yX7_readText, Cond.code yX7_readText cX7_readText 2 (some .int), Cond.fieldLink RX7 93 "DawnCoinModel" "at" "I"]
def wsL_law_r11 : List Cond := [Cond.fieldLink RX7 90 "DawnCoinModel" "faultAt" "I", Cond.fieldLink RX7 102 "DawnCoinModel" "readRumours" "I", Cond.fieldLink RX7 109 "DawnCoinModel" "readPeople" "I", Cond.methodLink RX7 112 yX7_readPart, Cond.instanceMethod yX7_readPart, Cond.selects RX7 yX7_readPart yX7_readPart, Cond.code yX7_readPart cX7_readPart 4 none, Cond.methodLink RX7 116 yX7_figureOf, Cond.instanceMethod yX7_figureOf, Cond.selects RX7 yX7_figureOf yX7_figureOf, Cond.code yX7_figureOf cX7_figureOf 3 (some .int), Cond.constantLong RX7 96 (9), Cond.methodLink RX7 98 yX7_has, Cond.static yX7_has, Cond.code yX7_has cX7_has 2 (some .boolean), Cond.methodLink RX7 119 yX7_firstsLeft, Cond.instanceMethod yX7_firstsLeft, Cond.selects RX7 yX7_firstsLeft yX7_firstsLeft, Cond.code yX7_firstsLeft cX7_firstsLeft 3 (some .int), Cond.methodLink RX7 105 yX7_pairsLeft, Cond.instanceMethod yX7_pairsLeft, Cond.selects RX7 yX7_pairsLeft yX7_pairsLeft, Cond.code yX7_pairsLeft cX7_pairsLeft 4 (some .int), Cond.methodLink RX7 123 yX7_saidLeft]
def wsL_law_r12 : List Cond := [Cond.instanceMethod yX7_saidLeft, Cond.selects RX7 yX7_saidLeft yX7_saidLeft, Cond.code yX7_saidLeft cX7_saidLeft 3 (some .int), Cond.methodLink RL 27 yX6_town, Cond.instanceMethod yX6_town, Cond.selects RX6 yX6_town yX6_town, Cond.code yX6_town cX6_town 2 (some .int), Cond.fieldLink RX6 98 "DawnCoin$ActRow" "held" "I", Cond.fieldLink RX6 101 "DawnCoin$Town" "rumours" "I", Cond.fieldLink RX6 104 "DawnCoin$Town" "people" "I", Cond.methodLink RX6 94 yX4_open, Cond.instanceMethod yX4_open, Cond.selects RX4 yX4_open yX4_open, Cond.code yX4_open cX4_open 3 none, Cond.fieldLink RX4 21 "DawnCoin$Standing" "day" "I", Cond.fieldLink RX4 31 "DawnCoin$Town" "opening" "[I", Cond.methodLink RX4 25 yX5_hasRumour, Cond.methodLink RL 30 yX7_town, Cond.instanceMethod yX7_town, Cond.selects RX7 yX7_town yX7_town, Cond.code yX7_town cX7_town 2 (some .int), Cond.fieldLink RX7 129 "DawnCoinModel" "people" "I", Cond.fieldLink RX7 132 "DawnCoinModel" "acts" "I", Cond.methodLink RL 31 yX6_rumour]
def wsL_law_r13 : List Cond := [Cond.instanceMethod yX6_rumour, Cond.selects RX6 yX6_rumour yX6_rumour, Cond.code yX6_rumour cX6_rumour 3 (some .int), Cond.fieldLink RX6 111 "DawnCoin$Town" "word" "[I", Cond.fieldLink RX6 117 "DawnCoin$Town" "proof" "[I", Cond.fieldLink RX6 126 "DawnCoin$Town" "rivals" "[I", Cond.fieldLink RX6 129 "DawnCoin$Standing" "day" "I", Cond.methodLink RX6 107 yX5_hasRumour, Cond.methodLink RX6 114 yX5_isLie, Cond.instanceMethod yX5_isLie, Cond.selects RX5 yX5_isLie yX5_isLie, Cond.code yX5_isLie cX5_isLie 2 (some .boolean), Cond.methodLink RX6 120 yX4_saidOf, Cond.instanceMethod yX4_saidOf, Cond.selects RX4 yX4_saidOf yX4_saidOf, Cond.code yX4_saidOf cX4_saidOf 2 (some .int), Cond.static yX6_at, Cond.code yX6_at cX6_at 2 (some .int), Cond.methodLink RX6 123 yX4_deniedOf, Cond.instanceMethod yX4_deniedOf, Cond.selects RX4 yX4_deniedOf yX4_deniedOf, Cond.code yX4_deniedOf cX4_deniedOf 2 (some .int), Cond.methodLink RX6 132 yX5_isProved, Cond.instanceMethod yX5_isProved]
def wsL_law_r14 : List Cond := [Cond.selects RX5 yX5_isProved yX5_isProved, Cond.code yX5_isProved cX5_isProved 4 (some .boolean), Cond.methodLink RL 35 yX7_rumour, Cond.instanceMethod yX7_rumour, Cond.selects RX7 yX7_rumour yX7_rumour, Cond.code yX7_rumour cX7_rumour 3 (some .int), Cond.methodLink RX7 143 yX7_isRumour, Cond.instanceMethod yX7_isRumour, Cond.selects RX7 yX7_isRumour yX7_isRumour, Cond.code yX7_isRumour cX7_isRumour 2 (some .boolean), Cond.methodLink RX7 137 yX7_isProved, Cond.instanceMethod yX7_isProved, Cond.selects RX7 yX7_isProved yX7_isProved, Cond.code yX7_isProved cX7_isProved 3 (some .boolean), Cond.methodLink RL 36 yX6_table, Cond.instanceMethod yX6_table, Cond.selects RX6 yX6_table yX6_table, Cond.code yX6_table cX6_table 2 (some .int), Cond.fieldLink RX6 139 "DawnCoin$Town" "seat" "[I", Cond.methodLink RX6 136 yX5_hasPerson, Cond.instanceMethod yX5_hasPerson, Cond.selects RX5 yX5_hasPerson yX5_hasPerson, Cond.code yX5_hasPerson cX5_hasPerson 2 (some .boolean), Cond.methodLink RL 39 yX7_table]
def wsL_law_r15 : List Cond := [Cond.instanceMethod yX7_table, Cond.selects RX7 yX7_table yX7_table, Cond.code yX7_table cX7_table 2 (some .int), Cond.methodLink RX7 147 yX7_isPerson, Cond.instanceMethod yX7_isPerson, Cond.selects RX7 yX7_isPerson yX7_isPerson, Cond.code yX7_isPerson cX7_isPerson 2 (some .boolean), Cond.methodLink RL 40 yX6_coins, Cond.instanceMethod yX6_coins, Cond.selects RX6 yX6_coins yX6_coins, Cond.code yX6_coins cX6_coins 3 (some .int), Cond.methodLink RX6 142 yX4_coinsOf, Cond.instanceMethod yX4_coinsOf, Cond.selects RX4 yX4_coinsOf yX4_coinsOf, Cond.code yX4_coinsOf cX4_coinsOf 3 (some .int), Cond.methodLink RL 43 yX7_coins, Cond.instanceMethod yX7_coins, Cond.selects RX7 yX7_coins yX7_coins, Cond.code yX7_coins cX7_coins 3 (some .int), Cond.methodLink RX7 150 yX7_coinAt, Cond.instanceMethod yX7_coinAt, Cond.selects RX7 yX7_coinAt yX7_coinAt, Cond.code yX7_coinAt cX7_coinAt 4 (some .int), Cond.methodLink RL 44 yX6_dawn]
def wsL_law_r16 : List Cond := [Cond.instanceMethod yX6_dawn, Cond.selects RX6 yX6_dawn yX6_dawn, Cond.code yX6_dawn cX6_dawn 1 (some .int), Cond.methodLink RX6 146 yX0_remember, Cond.instanceMethod yX0_remember, Cond.selects RX0 yX0_remember yX0_remember, Cond.code yX0_remember cX0_remember 3 none, Cond.fieldLink RX0 18 "DawnCoin$ActRow" "next" "I", Cond.fieldLink RX0 30 "DawnCoin$ActRow" "held" "I", Cond.methodLink RX0 33 Lib.Math.min.name, Cond.static Lib.Math.min.name, Cond.initialized "java/lang/Math", Cond.code Lib.Math.min.name Lib.Math.min.code 2 (some .int), Cond.methodLink RX0 26 yX4_copyFrom, Cond.instanceMethod yX4_copyFrom, Cond.selects RX4 yX4_copyFrom yX4_copyFrom, Cond.code yX4_copyFrom cX4_copyFrom 2 none, Cond.methodLink RX4 34 arraycopyName, Cond.native arraycopyName, Cond.static arraycopyName, Cond.initialized "java/lang/System", Cond.methodLink RX6 150 yX4_passDawn, Cond.instanceMethod yX4_passDawn, Cond.selects RX4 yX4_passDawn yX4_passDawn]
def wsL_law_r17 : List Cond := [Cond.code yX4_passDawn cX4_passDawn 4 (some .int), Cond.methodLink RX4 82 yX4_strike, Cond.instanceMethod yX4_strike, Cond.selects RX4 yX4_strike yX4_strike, Cond.code yX4_strike cX4_strike 5 (some .int), Cond.fieldLink RX4 89 "DawnCoin$Town" "people" "I", Cond.methodLink RX4 54 yX4_saidOf, Cond.methodLink RX4 92 yX5_seatOf, Cond.instanceMethod yX5_seatOf, Cond.selects RX5 yX5_seatOf yX5_seatOf, Cond.code yX5_seatOf cX5_seatOf 2 (some .int), Cond.methodLink RX4 71 yX4_coinsOf, Cond.methodLink RX4 95 yX4_addCoins, Cond.instanceMethod yX4_addCoins, Cond.selects RX4 yX4_addCoins yX4_addCoins, Cond.code yX4_addCoins cX4_addCoins 5 none, Cond.methodLink RX4 85 yX5_saidAfterDawn, Cond.instanceMethod yX5_saidAfterDawn, Cond.selects RX5 yX5_saidAfterDawn yX5_saidAfterDawn, Cond.code yX5_saidAfterDawn cX5_saidAfterDawn 5 (some .int), Cond.methodLink RX5 46 yX5_isProved, Cond.methodLink RX5 50 yX5_isLie, Cond.methodLink RL 47 yX7_dawn, Cond.instanceMethod yX7_dawn]
def wsL_law_r18 : List Cond := [Cond.selects RX7 yX7_dawn yX7_dawn, Cond.code yX7_dawn cX7_dawn 1 (some .int), Cond.methodLink RX7 157 yX7_keepAct, Cond.instanceMethod yX7_keepAct, Cond.selects RX7 yX7_keepAct yX7_keepAct, Cond.code yX7_keepAct cX7_keepAct 2 none, Cond.fieldLink RX7 154 "DawnCoinModel" "next" "I", Cond.methodLink RX7 160 yX7_dawnOn, Cond.instanceMethod yX7_dawnOn, Cond.selects RX7 yX7_dawnOn yX7_dawnOn, Cond.code yX7_dawnOn cX7_dawnOn 7 (some .int), Cond.methodLink RL 48 yX6_say, Cond.instanceMethod yX6_say, Cond.selects RX6 yX6_say yX6_say, Cond.code yX6_say cX6_say 3 (some .int), Cond.methodLink RX6 153 yX6_isTable, Cond.methodLink RX6 156 yX4_canBeSaid, Cond.instanceMethod yX4_canBeSaid, Cond.selects RX4 yX4_canBeSaid yX4_canBeSaid, Cond.code yX4_canBeSaid cX4_canBeSaid 4 (some .boolean), Cond.methodLink RX4 51 yX5_isProved, Cond.methodLink RX4 58 yX4_deniedOf, Cond.methodLink RX6 160 yX4_putSaid, Cond.instanceMethod yX4_putSaid]
def wsL_law_r19 : List Cond := [Cond.selects RX4 yX4_putSaid yX4_putSaid, Cond.code yX4_putSaid cX4_putSaid 3 none, Cond.methodLink RX6 164 yJ6_bitCount_0f7a4, Cond.static yJ6_bitCount_0f7a4, Cond.initialized RJ6, Cond.code yJ6_bitCount_0f7a4 cJ6_bitCount_0f7a4 1 (some .int), Cond.constant RJ6 265 (1431655765), Cond.constant RJ6 266 (858993459), Cond.constant RJ6 267 (252645135), Cond.methodLink RL 51 yX7_say, Cond.instanceMethod yX7_say, Cond.selects RX7 yX7_say yX7_say, Cond.code yX7_say cX7_say 3 (some .int), Cond.methodLink RX7 163 yX7_isTable, Cond.static yX7_isTable, Cond.code yX7_isTable cX7_isTable 1 (some .boolean), Cond.constantLong RX7 135 (5), Cond.methodLink RX7 166 yX7_canSay, Cond.instanceMethod yX7_canSay, Cond.selects RX7 yX7_canSay yX7_canSay, Cond.code yX7_canSay cX7_canSay 5 (some .boolean), Cond.methodLink RX7 140 yX7_ones, Cond.static yX7_ones, Cond.code yX7_ones cX7_ones 3 (some .int)]
def wsL_law_r20 : List Cond := [Cond.methodLink RL 52 yX6_deny, Cond.instanceMethod yX6_deny, Cond.selects RX6 yX6_deny yX6_deny, Cond.code yX6_deny cX6_deny 3 (some .int), Cond.methodLink RX6 169 yX4_canBeDenied, Cond.instanceMethod yX4_canBeDenied, Cond.selects RX4 yX4_canBeDenied yX4_canBeDenied, Cond.code yX4_canBeDenied cX4_canBeDenied 4 (some .boolean), Cond.methodLink RX4 64 yX5_isProvedTrue, Cond.instanceMethod yX5_isProvedTrue, Cond.selects RX5 yX5_isProvedTrue yX5_isProvedTrue, Cond.code yX5_isProvedTrue cX5_isProvedTrue 3 (some .boolean), Cond.methodLink RX6 172 yX4_putDenied, Cond.instanceMethod yX4_putDenied, Cond.selects RX4 yX4_putDenied yX4_putDenied, Cond.code yX4_putDenied cX4_putDenied 3 none, Cond.methodLink RL 55 yX7_deny, Cond.instanceMethod yX7_deny, Cond.selects RX7 yX7_deny yX7_deny, Cond.code yX7_deny cX7_deny 3 (some .int), Cond.methodLink RX7 170 yX7_canDeny, Cond.instanceMethod yX7_canDeny, Cond.selects RX7 yX7_canDeny yX7_canDeny, Cond.code yX7_canDeny cX7_canDeny 4 (some .boolean)]
def wsL_law_r21 : List Cond := [Cond.methodLink RX7 173 yX7_denyOn, Cond.instanceMethod yX7_denyOn, Cond.selects RX7 yX7_denyOn yX7_denyOn, Cond.code yX7_denyOn cX7_denyOn 4 none, Cond.methodLink RL 56 yX6_pay, Cond.instanceMethod yX6_pay, Cond.selects RX6 yX6_pay yX6_pay, Cond.code yX6_pay cX6_pay 4 (some .int), Cond.methodLink RX6 175 yX4_isTakenBy, Cond.instanceMethod yX4_isTakenBy, Cond.selects RX4 yX4_isTakenBy yX4_isTakenBy, Cond.code yX4_isTakenBy cX4_isTakenBy 4 (some .boolean), Cond.methodLink RX4 67 yX4_valueOf, Cond.instanceMethod yX4_valueOf, Cond.selects RX4 yX4_valueOf yX4_valueOf, Cond.code yX4_valueOf cX4_valueOf 3 (some .int), Cond.methodLink RX4 99 yX5_valueOn, Cond.instanceMethod yX5_valueOn, Cond.selects RX5 yX5_valueOn yX5_valueOn, Cond.code yX5_valueOn cX5_valueOn 6 (some .int), Cond.methodLink RX5 59 Lib.Math.max.name, Cond.static Lib.Math.max.name, Cond.code Lib.Math.max.name Lib.Math.max.code 2 (some .int), Cond.methodLink RX5 53 yJ6_bitCount_0f7a4]
def wsL_law_r22 : List Cond := [Cond.methodLink RX4 75 yX4_hasRivalCoin, Cond.instanceMethod yX4_hasRivalCoin, Cond.selects RX4 yX4_hasRivalCoin yX4_hasRivalCoin, Cond.code yX4_hasRivalCoin cX4_hasRivalCoin 5 (some .boolean), Cond.fieldLink RX4 79 "DawnCoin$Town" "rivals" "[I", Cond.methodLink RX6 178 yX4_addCoins, Cond.methodLink RX6 182 yX4_valueOf, Cond.methodLink RL 60 yX7_pay, Cond.instanceMethod yX7_pay, Cond.selects RX7 yX7_pay yX7_pay, Cond.code yX7_pay cX7_pay 4 (some .int), Cond.methodLink RX7 181 yX7_takes, Cond.instanceMethod yX7_takes, Cond.selects RX7 yX7_takes yX7_takes, Cond.code yX7_takes cX7_takes 5 (some .boolean), Cond.methodLink RX7 177 yX7_worthOf, Cond.instanceMethod yX7_worthOf, Cond.selects RX7 yX7_worthOf yX7_worthOf, Cond.code yX7_worthOf cX7_worthOf 4 (some .int), Cond.methodLink RL 61 yX6_undo, Cond.instanceMethod yX6_undo, Cond.selects RX6 yX6_undo yX6_undo, Cond.code yX6_undo cX6_undo 1 (some .int), Cond.methodLink RX6 186 yX0_takeBack]
def wsL_law_r23 : List Cond := [Cond.instanceMethod yX0_takeBack, Cond.selects RX0 yX0_takeBack yX0_takeBack, Cond.code yX0_takeBack cX0_takeBack 4 (some .boolean), Cond.methodLink RL 64 yX7_undo, Cond.instanceMethod yX7_undo, Cond.selects RX7 yX7_undo yX7_undo, Cond.code yX7_undo cX7_undo 2 (some .int), Cond.methodLink RL 65 yX6_worth, Cond.instanceMethod yX6_worth, Cond.selects RX6 yX6_worth yX6_worth, Cond.code yX6_worth cX6_worth 3 (some .int), Cond.methodLink RX6 190 yX6_valueIn, Cond.instanceMethod yX6_valueIn, Cond.selects RX6 yX6_valueIn yX6_valueIn, Cond.code yX6_valueIn cX6_valueIn 4 (some .int), Cond.methodLink RX6 206 yX6_saidIn, Cond.instanceMethod yX6_saidIn, Cond.selects RX6 yX6_saidIn yX6_saidIn, Cond.code yX6_saidIn cX6_saidIn 6 (some .int), Cond.methodLink RX6 307 yX5_saidAfterDawn, Cond.methodLink RX6 310 yX5_valueOn, Cond.methodLink RL 68 yX7_worth, Cond.instanceMethod yX7_worth, Cond.selects RX7 yX7_worth yX7_worth]
def wsL_law_r24 : List Cond := [Cond.code yX7_worth cX7_worth 3 (some .int), Cond.constantLong RX7 184 (8), Cond.methodLink RX7 186 yX7_layTrial, Cond.instanceMethod yX7_layTrial, Cond.selects RX7 yX7_layTrial yX7_layTrial, Cond.code yX7_layTrial cX7_layTrial 2 none, Cond.methodLink RX7 189 yX7_dawnTrial, Cond.instanceMethod yX7_dawnTrial, Cond.selects RX7 yX7_dawnTrial yX7_dawnTrial, Cond.code yX7_dawnTrial cX7_dawnTrial 3 none, Cond.methodLink RL 69 yX6_purse, Cond.instanceMethod yX6_purse, Cond.selects RX6 yX6_purse yX6_purse, Cond.code yX6_purse cX6_purse 3 (some .int), Cond.methodLink RX6 194 yX6_purseIn, Cond.instanceMethod yX6_purseIn, Cond.selects RX6 yX6_purseIn yX6_purseIn, Cond.code yX6_purseIn cX6_purseIn 5 (some .int), Cond.methodLink RX6 316 yX6_coinValueIn, Cond.instanceMethod yX6_coinValueIn, Cond.selects RX6 yX6_coinValueIn yX6_coinValueIn, Cond.code yX6_coinValueIn cX6_coinValueIn 10 (some .int), Cond.methodLink RX6 313 yX5_seatOf, Cond.methodLink RX6 209 yX6_hasBit]
def wsL_law_r25 : List Cond := [Cond.methodLink RL 72 yX7_purse, Cond.instanceMethod yX7_purse, Cond.selects RX7 yX7_purse yX7_purse, Cond.code yX7_purse cX7_purse 3 (some .int), Cond.methodLink RX7 192 yX7_purseOf, Cond.instanceMethod yX7_purseOf, Cond.selects RX7 yX7_purseOf yX7_purseOf, Cond.code yX7_purseOf cX7_purseOf 5 (some .int), Cond.methodLink RL 73 yX6_bestDay, Cond.instanceMethod yX6_bestDay, Cond.selects RX6 yX6_bestDay yX6_bestDay, Cond.code yX6_bestDay cX6_bestDay 3 (some .int), Cond.fieldLink RX6 203 "DawnCoin$Best" "which" "I", Cond.methodLink RX6 197 yX1_start, Cond.instanceMethod yX1_start, Cond.selects RX1 yX1_start yX1_start, Cond.code yX1_start cX1_start 3 none, Cond.fieldLink RX1 7 "DawnCoin$Best" "most" "I", Cond.fieldLink RX1 13 "DawnCoin$Best" "which" "I", Cond.methodLink RX6 200 yX1_offer, Cond.instanceMethod yX1_offer, Cond.selects RX1 yX1_offer yX1_offer, Cond.code yX1_offer cX1_offer 3 none, Cond.methodLink RX1 16 yX1_start]
def wsL_law_r26 : List Cond := [Cond.methodLink RL 76 yX7_bestDay, Cond.instanceMethod yX7_bestDay, Cond.selects RX7 yX7_bestDay yX7_bestDay, Cond.code yX7_bestDay cX7_bestDay 5 (some .int), Cond.methodLink RL 77 yX6_reach, Cond.instanceMethod yX6_reach, Cond.selects RX6 yX6_reach yX6_reach, Cond.code yX6_reach cX6_reach 4 (some .int), Cond.methodLink RL 80 yX7_reach, Cond.instanceMethod yX7_reach, Cond.selects RX7 yX7_reach yX7_reach, Cond.code yX7_reach cX7_reach 4 (some .int), Cond.methodLink RL 81 yX6_plan, Cond.instanceMethod yX6_plan, Cond.selects RX6 yX6_plan yX6_plan, Cond.code yX6_plan cX6_plan 5 (some .int), Cond.fieldLink RX6 228 "DawnCoin$Best" "most" "I", Cond.methodLink RX6 212 yX6_canSayThing, Cond.instanceMethod yX6_canSayThing, Cond.selects RX6 yX6_canSayThing yX6_canSayThing, Cond.code yX6_canSayThing cX6_canSayThing 2 (some .boolean), Cond.methodLink RX6 215 yX6_thingBit, Cond.static yX6_thingBit, Cond.code yX6_thingBit cX6_thingBit 1 (some .int)]
def wsL_law_r27 : List Cond := [Cond.methodLink RX6 218 yX6_gainOf, Cond.instanceMethod yX6_gainOf, Cond.selects RX6 yX6_gainOf yX6_gainOf, Cond.code yX6_gainOf cX6_gainOf 6 (some .int), Cond.methodLink RX6 222 yX6_offerOneThing, Cond.instanceMethod yX6_offerOneThing, Cond.selects RX6 yX6_offerOneThing yX6_offerOneThing, Cond.code yX6_offerOneThing cX6_offerOneThing 2 none, Cond.methodLink RX6 319 yX6_at, Cond.methodLink RX6 323 yX6_thingFigures, Cond.static yX6_thingFigures, Cond.code yX6_thingFigures cX6_thingFigures 1 (some .int), Cond.methodLink RX6 225 yX6_offerTwoThings, Cond.instanceMethod yX6_offerTwoThings, Cond.selects RX6 yX6_offerTwoThings yX6_offerTwoThings, Cond.code yX6_offerTwoThings cX6_offerTwoThings 6 none, Cond.methodLink RL 85 yX7_plan, Cond.instanceMethod yX7_plan, Cond.selects RX7 yX7_plan yX7_plan, Cond.code yX7_plan cX7_plan 9 (some .int), Cond.methodLink RX7 198 yX7_planned, Cond.instanceMethod yX7_planned, Cond.selects RX7 yX7_planned yX7_planned, Cond.code yX7_planned cX7_planned 5 (some .int)]
def wsL_law_r28 : List Cond := [Cond.methodLink RX7 195 yX7_sayTrial, Cond.instanceMethod yX7_sayTrial, Cond.selects RX7 yX7_sayTrial yX7_sayTrial, Cond.code yX7_sayTrial cX7_sayTrial 4 (some .boolean), Cond.methodLink RL 86 yX6_holds, Cond.instanceMethod yX6_holds, Cond.selects RX6 yX6_holds yX6_holds, Cond.code yX6_holds cX6_holds 8 (some .int), Cond.methodLink RX6 231 yX4_valueOfSet, Cond.instanceMethod yX4_valueOfSet, Cond.selects RX4 yX4_valueOfSet yX4_valueOfSet, Cond.code yX4_valueOfSet cX4_valueOfSet 6 (some .int), Cond.fieldLink RX4 102 "DawnCoin$Town" "rumours" "I", Cond.methodLink RX6 235 yX5_isFreeOfRivals, Cond.instanceMethod yX5_isFreeOfRivals, Cond.selects RX5 yX5_isFreeOfRivals yX5_isFreeOfRivals, Cond.code yX5_isFreeOfRivals cX5_isFreeOfRivals 3 (some .boolean), Cond.methodLink RL 90 yX7_holds, Cond.instanceMethod yX7_holds, Cond.selects RX7 yX7_holds yX7_holds, Cond.code yX7_holds cX7_holds 8 (some .int), Cond.methodLink RX7 201 yX7_canBe, Cond.instanceMethod yX7_canBe, Cond.selects RX7 yX7_canBe yX7_canBe]
def wsL_law_r29 : List Cond := [Cond.code yX7_canBe cX7_canBe 4 (some .boolean), Cond.methodLink RL 93 yX6_judge, Cond.instanceMethod yX6_judge, Cond.selects RX6 yX6_judge yX6_judge, Cond.code yX6_judge cX6_judge 8 (some .int), Cond.constantLong RX6 238 (1000), Cond.methodLink RX6 240 yX4_copyFrom, Cond.methodLink RX6 243 yX4_valueOfAll, Cond.instanceMethod yX4_valueOfAll, Cond.selects RX4 yX4_valueOfAll yX4_valueOfAll, Cond.code yX4_valueOfAll cX4_valueOfAll 4 (some .int), Cond.methodLink RX6 246 yX6_tryThing, Cond.instanceMethod yX6_tryThing, Cond.selects RX6 yX6_tryThing yX6_tryThing, Cond.code yX6_tryThing cX6_tryThing 4 (some .boolean), Cond.methodLink RX6 290 yX6_trySaying, Cond.instanceMethod yX6_trySaying, Cond.selects RX6 yX6_trySaying yX6_trySaying, Cond.code yX6_trySaying cX6_trySaying 3 (some .boolean), Cond.methodLink RX6 326 yX6_tryDenying, Cond.instanceMethod yX6_tryDenying, Cond.selects RX6 yX6_tryDenying yX6_tryDenying, Cond.code yX6_tryDenying cX6_tryDenying 3 (some .boolean), Cond.methodLink RL 97 yX7_judge]
def wsL_law_r30 : List Cond := [Cond.instanceMethod yX7_judge, Cond.selects RX7 yX7_judge yX7_judge, Cond.code yX7_judge cX7_judge 6 (some .int), Cond.constantLong RX7 206 (4), Cond.constantLong RX7 215 (1000), Cond.methodLink RX7 208 yX7_tenTo, Cond.static yX7_tenTo, Cond.code yX7_tenTo cX7_tenTo 4 (some .long), Cond.constantLong RX7 204 (10), Cond.methodLink RX7 212 yX7_allWorth, Cond.instanceMethod yX7_allWorth, Cond.selects RX7 yX7_allWorth yX7_allWorth, Cond.code yX7_allWorth cX7_allWorth 4 (some .int), Cond.methodLink RX7 217 yX7_tryThing, Cond.instanceMethod yX7_tryThing, Cond.selects RX7 yX7_tryThing yX7_tryThing, Cond.code yX7_tryThing cX7_tryThing 5 (some .boolean), Cond.methodLink RL 98 yX6_hear, Cond.instanceMethod yX6_hear, Cond.selects RX6 yX6_hear yX6_hear, Cond.code yX6_hear cX6_hear 5 (some .int), Cond.methodLink RX6 249 yX2_append, Cond.instanceMethod yX2_append, Cond.selects RX2 yX2_append yX2_append]
def wsL_law_r31 : List Cond := [Cond.code yX2_append cX2_append 5 (some .int), Cond.fieldLink RX2 25 "DawnCoin$Hearsay" "held" "I", Cond.methodLink RL 102 yX7_hear, Cond.instanceMethod yX7_hear, Cond.selects RX7 yX7_hear yX7_hear, Cond.code yX7_hear cX7_hear 5 (some .int), Cond.fieldLink RX7 220 "DawnCoinModel" "heard" "I", Cond.methodLink RL 103 yX6_unhear, Cond.instanceMethod yX6_unhear, Cond.selects RX6 yX6_unhear yX6_unhear, Cond.code yX6_unhear cX6_unhear 2 (some .int), Cond.fieldLink RX6 252 "DawnCoin$Hearsay" "held" "I", Cond.methodLink RL 106 yX7_unhear, Cond.instanceMethod yX7_unhear, Cond.selects RX7 yX7_unhear yX7_unhear, Cond.code yX7_unhear cX7_unhear 2 (some .int), Cond.methodLink RL 107 yX6_where, Cond.instanceMethod yX6_where, Cond.selects RX6 yX6_where yX6_where, Cond.code yX6_where cX6_where 7 (some .int), Cond.methodLink RX6 253 yX6_agreesWithHeard, Cond.instanceMethod yX6_agreesWithHeard, Cond.selects RX6 yX6_agreesWithHeard yX6_agreesWithHeard, Cond.code yX6_agreesWithHeard cX6_agreesWithHeard 5 (some .boolean)]
def wsL_law_r32 : List Cond := [Cond.fieldLink RX6 329 "DawnCoin$Hearsay" "rumour" "[I", Cond.fieldLink RX6 332 "DawnCoin$Hearsay" "days" "[I", Cond.fieldLink RX6 335 "DawnCoin$Hearsay" "place" "[I", Cond.fieldLink RX6 338 "DawnCoin$Hearsay" "said" "[Z", Cond.methodLink RL 110 yX7_where, Cond.instanceMethod yX7_where, Cond.selects RX7 yX7_where yX7_where, Cond.code yX7_where cX7_where 7 (some .int), Cond.constantLong RX7 223 (2), Cond.methodLink RX7 225 yX7_isHeard, Cond.instanceMethod yX7_isHeard, Cond.selects RX7 yX7_isHeard yX7_isHeard, Cond.code yX7_isHeard cX7_isHeard 7 (some .boolean), Cond.methodLink RL 111 yX6_share, Cond.instanceMethod yX6_share, Cond.selects RX6 yX6_share yX6_share, Cond.code yX6_share cX6_share 12 (some .int), Cond.methodLink RX6 256 yX6_fraction, Cond.static yX6_fraction, Cond.code yX6_fraction cX6_fraction 4 (some .int), Cond.methodLink RX6 347 Lib.Math.abs.name, Cond.static Lib.Math.abs.name, Cond.code Lib.Math.abs.name Lib.Math.abs.code 1 (some .int), Cond.methodLink RX6 352 yX6_commonDivisor]
def wsL_law_r33 : List Cond := [Cond.static yX6_commonDivisor, Cond.code yX6_commonDivisor cX6_commonDivisor 6 (some .int), Cond.methodLink RX6 260 yX6_factorial, Cond.static yX6_factorial, Cond.code yX6_factorial cX6_factorial 3 (some .int), Cond.methodLink RL 114 yX7_share, Cond.instanceMethod yX7_share, Cond.selects RX7 yX7_share yX7_share, Cond.code yX7_share cX7_share 10 (some .int), Cond.methodLink RX7 228 yX7_factorial, Cond.static yX7_factorial, Cond.code yX7_factorial cX7_factorial 3 (some .int), Cond.methodLink RX7 231 yX7_worthBy, Cond.instanceMethod yX7_worthBy, Cond.selects RX7 yX7_worthBy yX7_worthBy, Cond.code yX7_worthBy cX7_worthBy 4 (some .int), Cond.methodLink RX7 234 yX7_common, Cond.static yX7_common, Cond.code yX7_common cX7_common 5 (some .int), Cond.methodLink RL 115 yX6_rests, Cond.instanceMethod yX6_rests, Cond.selects RX6 yX6_rests yX6_rests, Cond.code yX6_rests cX6_rests 9 (some .int), Cond.methodLink RX6 263 yX6_weighChoices]
def wsL_law_r34 : List Cond := [Cond.instanceMethod yX6_weighChoices, Cond.selects RX6 yX6_weighChoices yX6_weighChoices, Cond.code yX6_weighChoices cX6_weighChoices 7 none, Cond.methodLink RX6 266 yX6_canChoose, Cond.instanceMethod yX6_canChoose, Cond.selects RX6 yX6_canChoose yX6_canChoose, Cond.code yX6_canChoose cX6_canChoose 3 (some .boolean), Cond.methodLink RX6 269 yX6_isAtRest, Cond.instanceMethod yX6_isAtRest, Cond.selects RX6 yX6_isAtRest yX6_isAtRest, Cond.code yX6_isAtRest cX6_isAtRest 6 (some .boolean), Cond.methodLink RX6 341 yX6_pairOf, Cond.static yX6_pairOf, Cond.code yX6_pairOf cX6_pairOf 2 (some .int), Cond.methodLink RL 119 yX7_rests, Cond.instanceMethod yX7_rests, Cond.selects RX7 yX7_rests yX7_rests, Cond.code yX7_rests cX7_rests 8 (some .int), Cond.methodLink RX7 240 yX7_layPairs, Cond.instanceMethod yX7_layPairs, Cond.selects RX7 yX7_layPairs yX7_layPairs, Cond.code yX7_layPairs cX7_layPairs 5 none, Cond.methodLink RX7 237 yX7_isChoice, Cond.instanceMethod yX7_isChoice]
def wsL_law_r35 : List Cond := [Cond.selects RX7 yX7_isChoice yX7_isChoice, Cond.code yX7_isChoice cX7_isChoice 3 (some .boolean), Cond.methodLink RX7 243 yX7_isRest, Cond.instanceMethod yX7_isRest, Cond.selects RX7 yX7_isRest yX7_isRest, Cond.code yX7_isRest cX7_isRest 6 (some .boolean), Cond.methodLink RL 120 yX6_chance, Cond.instanceMethod yX6_chance, Cond.selects RX6 yX6_chance yX6_chance, Cond.code yX6_chance cX6_chance 10 (some .int), Cond.methodLink RX6 273 yX5_isProvedTrue, Cond.methodLink RX6 276 yX6_valueAfterDenials, Cond.instanceMethod yX6_valueAfterDenials, Cond.selects RX6 yX6_valueAfterDenials yX6_valueAfterDenials, Cond.code yX6_valueAfterDenials cX6_valueAfterDenials 5 (some .int), Cond.methodLink RX6 279 yX6_power, Cond.static yX6_power, Cond.code yX6_power cX6_power 4 (some .int), Cond.methodLink RL 123 yX7_chance, Cond.instanceMethod yX7_chance, Cond.selects RX7 yX7_chance yX7_chance, Cond.code yX7_chance cX7_chance 11 (some .int), Cond.constantLong RX7 246 (20), Cond.methodLink RL 124 yX6_seed]
def wsL_law_r36 : List Cond := [Cond.instanceMethod yX6_seed, Cond.selects RX6 yX6_seed yX6_seed, Cond.code yX6_seed cX6_seed 5 (some .long), Cond.fieldLink RX6 282 "DawnCoin" "chain" "J", Cond.methodLink RL 128 yX7_seed, Cond.instanceMethod yX7_seed, Cond.selects RX7 yX7_seed yX7_seed, Cond.code yX7_seed cX7_seed 5 (some .long), Cond.fieldLink RX7 248 "DawnCoinModel" "seed" "J", Cond.methodLink RL 129 yX6_weeks, Cond.instanceMethod yX6_weeks, Cond.selects RX6 yX6_weeks yX6_weeks, Cond.code yX6_weeks cX6_weeks 4 (some .int), Cond.constantLong RX6 286 (6364136223846793005), Cond.constantLong RX6 288 (1442695040888963407), Cond.methodLink RX6 293 yX4_valueOfPurses, Cond.instanceMethod yX4_valueOfPurses, Cond.selects RX4 yX4_valueOfPurses yX4_valueOfPurses, Cond.code yX4_valueOfPurses cX4_valueOfPurses 4 (some .int), Cond.methodLink RX4 105 yX4_valueOfSet, Cond.methodLink RL 132 yX7_weeks, Cond.instanceMethod yX7_weeks, Cond.selects RX7 yX7_weeks yX7_weeks, Cond.code yX7_weeks cX7_weeks 4 (some .int)]
def wsL_law_r37 : List Cond := [Cond.constantLong RX7 252 (6364136223846793005), Cond.constantLong RX7 254 (1442695040888963407), Cond.constantLong RX7 256 (60), Cond.methodLink RX7 258 yX7_allPurses, Cond.instanceMethod yX7_allPurses, Cond.selects RX7 yX7_allPurses yX7_allPurses, Cond.code yX7_allPurses cX7_allPurses 4 (some .int), Cond.methodLink RL 133 yX6_keep, Cond.instanceMethod yX6_keep, Cond.selects RX6 yX6_keep yX6_keep, Cond.code yX6_keep cX6_keep 3 (some .int), Cond.methodLink RX6 296 yX6_slotAt, Cond.instanceMethod yX6_slotAt, Cond.selects RX6 yX6_slotAt yX6_slotAt, Cond.code yX6_slotAt cX6_slotAt 2 (some (.object "DawnCoin$Standing")), Cond.methodLink RX6 344 yX6_isIndex, Cond.methodLink RL 136 yX7_keep, Cond.instanceMethod yX7_keep, Cond.selects RX7 yX7_keep yX7_keep, Cond.code yX7_keep cX7_keep 3 (some .int), Cond.methodLink RL 137 yX6_again, Cond.instanceMethod yX6_again, Cond.selects RX6 yX6_again yX6_again, Cond.code yX6_again cX6_again 3 (some .int)]
def wsL_law_r38 : List Cond := [Cond.methodLink RL 140 yX7_again, Cond.instanceMethod yX7_again, Cond.selects RX7 yX7_again yX7_again, Cond.code yX7_again cX7_again 3 (some .int), Cond.methodLink RL 141 yX6_count, Cond.instanceMethod yX6_count, Cond.selects RX6 yX6_count yX6_count, Cond.code yX6_count cX6_count 2 (some .int), Cond.methodLink RX6 300 yX4_allCoins, Cond.instanceMethod yX4_allCoins, Cond.selects RX4 yX4_allCoins yX4_allCoins, Cond.code yX4_allCoins cX4_allCoins 3 (some .int), Cond.methodLink RX6 304 yX4_rumoursSaid, Cond.instanceMethod yX4_rumoursSaid, Cond.selects RX4 yX4_rumoursSaid yX4_rumoursSaid, Cond.code yX4_rumoursSaid cX4_rumoursSaid 3 (some .int), Cond.methodLink RL 144 yX7_count, Cond.instanceMethod yX7_count, Cond.selects RX7 yX7_count yX7_count, Cond.code yX7_count cX7_count 6 (some .int)]
def wsL_law : List Cond := (wsL_law_r1 ++ (wsL_law_r2 ++ (wsL_law_r3 ++ (wsL_law_r4 ++ (wsL_law_r5 ++ (wsL_law_r6 ++ (wsL_law_r7 ++ (wsL_law_r8 ++ (wsL_law_r9 ++ (wsL_law_r10 ++ (wsL_law_r11 ++ (wsL_law_r12 ++ (wsL_law_r13 ++ (wsL_law_r14 ++ (wsL_law_r15 ++ (wsL_law_r16 ++ (wsL_law_r17 ++ (wsL_law_r18 ++ (wsL_law_r19 ++ (wsL_law_r20 ++ (wsL_law_r21 ++ (wsL_law_r22 ++ (wsL_law_r23 ++ (wsL_law_r24 ++ (wsL_law_r25 ++ (wsL_law_r26 ++ (wsL_law_r27 ++ (wsL_law_r28 ++ (wsL_law_r29 ++ (wsL_law_r30 ++ (wsL_law_r31 ++ (wsL_law_r32 ++ (wsL_law_r33 ++ (wsL_law_r34 ++ (wsL_law_r35 ++ (wsL_law_r36 ++ (wsL_law_r37 ++ wsL_law_r38))))))))))))))))))))))))))))))))))))) ++ wsX60 ++ wsX70 ++ wsX30 ++ wsX50 ++ wsX40 ++ wsX00 ++ wsX20 ++ wsX10 ++ ([] : List Cond)
theorem inlX0 : ∀ w ∈ wsX00, w ∈ wsL_law := fun _ h => List.mem_append_left _ (List.mem_append_left _ (List.mem_append_left _ (List.mem_append_right _ h)))
theorem inlX1 : ∀ w ∈ wsX10, w ∈ wsL_law := fun _ h => List.mem_append_left _ (List.mem_append_right _ h)
theorem inlX2 : ∀ w ∈ wsX20, w ∈ wsL_law := fun _ h => List.mem_append_left _ (List.mem_append_left _ (List.mem_append_right _ h))
theorem inlX3 : ∀ w ∈ wsX30, w ∈ wsL_law := fun _ h => List.mem_append_left _ (List.mem_append_left _ (List.mem_append_left _ (List.mem_append_left _ (List.mem_append_left _ (List.mem_append_left _ (List.mem_append_right _ h))))))
theorem inlX4 : ∀ w ∈ wsX40, w ∈ wsL_law := fun _ h => List.mem_append_left _ (List.mem_append_left _ (List.mem_append_left _ (List.mem_append_left _ (List.mem_append_right _ h))))
theorem inlX5 : ∀ w ∈ wsX50, w ∈ wsL_law := fun _ h => List.mem_append_left _ (List.mem_append_left _ (List.mem_append_left _ (List.mem_append_left _ (List.mem_append_left _ (List.mem_append_right _ h)))))
theorem inlX6 : ∀ w ∈ wsX60, w ∈ wsL_law := fun _ h => List.mem_append_left _ (List.mem_append_left _ (List.mem_append_left _ (List.mem_append_left _ (List.mem_append_left _ (List.mem_append_left _ (List.mem_append_left _ (List.mem_append_left _ (List.mem_append_right _ h))))))))
theorem inlX7 : ∀ w ∈ wsX70, w ∈ wsL_law := fun _ h => List.mem_append_left _ (List.mem_append_left _ (List.mem_append_left _ (List.mem_append_left _ (List.mem_append_left _ (List.mem_append_left _ (List.mem_append_left _ (List.mem_append_right _ h)))))))
abbrev vwCl : List vw_C := [(RX0, TX0, 3), (RX1, TX1, 2), (RX2, TX2, 5), (RX3, TX3, 6), (RX4, TX4, 4), (RX5, TX5, 8), (RX6, TX6, 15), (RX7, TX7, 33)]
end
section
theorem in_t0 {w : Cond} (h : w ∈ tables_1) : w ∈ lw_tbl := List.mem_append_right _ h
theorem in_sl {w : Cond} (h : w ∈ k2_sels lw_privs) : w ∈ lw_tbl := List.mem_append_left _ h
theorem in_t1 {w : Cond} (h : w ∈ tables_1_1) : w ∈ lw_tbl := in_t0 (List.mem_append_left _ h)
theorem in_t2 {w : Cond} (h : w ∈ tables_1_2) : w ∈ lw_tbl := in_t0 (List.mem_append_right _ (List.mem_append_left _ h))
theorem in_t3 {w : Cond} (h : w ∈ tables_1_3) : w ∈ lw_tbl := in_t0 (List.mem_append_right _ (List.mem_append_right _ (List.mem_append_left _ h)))
theorem in_t4 {w : Cond} (h : w ∈ tables_1_4) : w ∈ lw_tbl := in_t0 (List.mem_append_right _ (List.mem_append_right _ (List.mem_append_right _ (List.mem_append_left _ h))))
theorem in_t5 {w : Cond} (h : w ∈ tables_1_5) : w ∈ lw_tbl := in_t0 (List.mem_append_right _ (List.mem_append_right _ (List.mem_append_right _ (List.mem_append_right _ h))))
set_option maxRecDepth 20000 in
theorem inr1 : ∀ w ∈ wsL_law_r1, w ∈ lw_tbl :=
  List.forall_mem_cons.mpr ⟨in_t1 (List.mem_of_getElem? (i := 12) rfl),
  List.forall_mem_cons.mpr ⟨in_t1 (List.mem_of_getElem? (i := 13) rfl),
  List.forall_mem_cons.mpr ⟨in_t1 (List.mem_of_getElem? (i := 1) rfl),
  List.forall_mem_cons.mpr ⟨in_t3 (List.mem_of_getElem? (i := 225) rfl),
  List.forall_mem_cons.mpr ⟨in_t3 (List.mem_of_getElem? (i := 226) rfl),
  List.forall_mem_cons.mpr ⟨in_t1 (List.mem_of_getElem? (i := 8) rfl),
  List.forall_mem_cons.mpr ⟨in_t5 (List.mem_of_getElem? (i := 128) rfl),
  List.forall_mem_cons.mpr ⟨in_t1 (List.mem_of_getElem? (i := 14) rfl),
  List.forall_mem_cons.mpr ⟨in_t1 (List.mem_of_getElem? (i := 15) rfl),
  List.forall_mem_cons.mpr ⟨in_t1 (List.mem_of_getElem? (i := 16) rfl),
  List.forall_mem_cons.mpr ⟨in_t1 (List.mem_of_getElem? (i := 17) rfl),
  List.forall_mem_cons.mpr ⟨in_t1 (List.mem_of_getElem? (i := 18) rfl),
  List.forall_mem_cons.mpr ⟨in_t1 (List.mem_of_getElem? (i := 19) (by decide +kernel)),
  List.forall_mem_cons.mpr ⟨in_t1 (List.mem_of_getElem? (i := 20) rfl),
  List.forall_mem_cons.mpr ⟨in_t1 (List.mem_of_getElem? (i := 21) rfl),
  List.forall_mem_cons.mpr ⟨in_t1 (List.mem_of_getElem? (i := 2) rfl),
  List.forall_mem_cons.mpr ⟨in_t1 (List.mem_of_getElem? (i := 173) rfl),
  List.forall_mem_cons.mpr ⟨in_t1 (List.mem_of_getElem? (i := 47) rfl),
  List.forall_mem_cons.mpr ⟨in_t1 (List.mem_of_getElem? (i := 48) rfl),
  List.forall_mem_cons.mpr ⟨in_t1 (List.mem_of_getElem? (i := 3) rfl),
  List.forall_mem_cons.mpr ⟨in_t1 (List.mem_of_getElem? (i := 174) rfl),
  List.forall_mem_cons.mpr ⟨in_t1 (List.mem_of_getElem? (i := 175) rfl),
  List.forall_mem_cons.mpr ⟨in_t1 (List.mem_of_getElem? (i := 91) rfl),
  List.forall_mem_cons.mpr ⟨in_t1 (List.mem_of_getElem? (i := 92) rfl),
  fun _ h => absurd h List.not_mem_nil⟩⟩⟩⟩⟩⟩⟩⟩⟩⟩⟩⟩⟩⟩⟩⟩⟩⟩⟩⟩⟩⟩⟩⟩
set_option maxRecDepth 20000 in
theorem inr2 : ∀ w ∈ wsL_law_r2, w ∈ lw_tbl :=
  List.forall_mem_cons.mpr ⟨in_t1 (List.mem_of_getElem? (i := 4) rfl),
  List.forall_mem_cons.mpr ⟨in_t1 (List.mem_of_getElem? (i := 176) rfl),
  List.forall_mem_cons.mpr ⟨in_t1 (List.mem_of_getElem? (i := 177) rfl),
  List.forall_mem_cons.mpr ⟨in_t1 (List.mem_of_getElem? (i := 111) rfl),
  List.forall_mem_cons.mpr ⟨in_t1 (List.mem_of_getElem? (i := 112) rfl),
  List.forall_mem_cons.mpr ⟨in_t1 (List.mem_of_getElem? (i := 5) rfl),
  List.forall_mem_cons.mpr ⟨in_t1 (List.mem_of_getElem? (i := 178) rfl),
  List.forall_mem_cons.mpr ⟨in_t1 (List.mem_of_getElem? (i := 131) rfl),
  List.forall_mem_cons.mpr ⟨in_t1 (List.mem_of_getElem? (i := 132) rfl),
  List.forall_mem_cons.mpr ⟨in_t1 (List.mem_of_getElem? (i := 6) rfl),
  List.forall_mem_cons.mpr ⟨in_t1 (List.mem_of_getElem? (i := 179) rfl),
  List.forall_mem_cons.mpr ⟨in_t1 (List.mem_of_getElem? (i := 180) rfl),
  List.forall_mem_cons.mpr ⟨in_t1 (List.mem_of_getElem? (i := 90) rfl),
  List.forall_mem_cons.mpr ⟨in_t1 (List.mem_of_getElem? (i := 181) rfl),
  List.forall_mem_cons.mpr ⟨in_t1 (List.mem_of_getElem? (i := 158) rfl),
  List.forall_mem_cons.mpr ⟨in_t1 (List.mem_of_getElem? (i := 159) rfl),
  List.forall_mem_cons.mpr ⟨in_t1 (List.mem_of_getElem? (i := 7) rfl),
  List.forall_mem_cons.mpr ⟨in_t1 (List.mem_of_getElem? (i := 182) rfl),
  List.forall_mem_cons.mpr ⟨in_t1 (List.mem_of_getElem? (i := 46) rfl),
  List.forall_mem_cons.mpr ⟨in_t1 (List.mem_of_getElem? (i := 183) rfl),
  List.forall_mem_cons.mpr ⟨in_t1 (List.mem_of_getElem? (i := 184) rfl),
  List.forall_mem_cons.mpr ⟨in_t1 (List.mem_of_getElem? (i := 185) rfl),
  List.forall_mem_cons.mpr ⟨in_t1 (List.mem_of_getElem? (i := 186) rfl),
  List.forall_mem_cons.mpr ⟨in_t1 (List.mem_of_getElem? (i := 23) rfl),
  fun _ h => absurd h List.not_mem_nil⟩⟩⟩⟩⟩⟩⟩⟩⟩⟩⟩⟩⟩⟩⟩⟩⟩⟩⟩⟩⟩⟩⟩⟩
set_option maxRecDepth 20000 in
theorem inr3 : ∀ w ∈ wsL_law_r3, w ∈ lw_tbl :=
  List.forall_mem_cons.mpr ⟨in_t1 (List.mem_of_getElem? (i := 24) rfl),
  List.forall_mem_cons.mpr ⟨in_t1 (List.mem_of_getElem? (i := 25) rfl),
  List.forall_mem_cons.mpr ⟨in_t1 (List.mem_of_getElem? (i := 26) rfl),
  List.forall_mem_cons.mpr ⟨in_t1 (List.mem_of_getElem? (i := 50) rfl),
  List.forall_mem_cons.mpr ⟨in_t1 (List.mem_of_getElem? (i := 51) rfl),
  List.forall_mem_cons.mpr ⟨in_t1 (List.mem_of_getElem? (i := 52) rfl),
  List.forall_mem_cons.mpr ⟨in_t1 (List.mem_of_getElem? (i := 53) rfl),
  List.forall_mem_cons.mpr ⟨in_t1 (List.mem_of_getElem? (i := 55) rfl),
  List.forall_mem_cons.mpr ⟨in_t1 (List.mem_of_getElem? (i := 56) rfl),
  List.forall_mem_cons.mpr ⟨in_t1 (List.mem_of_getElem? (i := 58) rfl),
  List.forall_mem_cons.mpr ⟨in_t1 (List.mem_of_getElem? (i := 61) rfl),
  List.forall_mem_cons.mpr ⟨in_t1 (List.mem_of_getElem? (i := 63) rfl),
  List.forall_mem_cons.mpr ⟨in_t1 (List.mem_of_getElem? (i := 94) rfl),
  List.forall_mem_cons.mpr ⟨in_t1 (List.mem_of_getElem? (i := 95) rfl),
  List.forall_mem_cons.mpr ⟨in_t1 (List.mem_of_getElem? (i := 96) rfl),
  List.forall_mem_cons.mpr ⟨in_t1 (List.mem_of_getElem? (i := 97) rfl),
  List.forall_mem_cons.mpr ⟨in_t1 (List.mem_of_getElem? (i := 98) rfl),
  List.forall_mem_cons.mpr ⟨in_t1 (List.mem_of_getElem? (i := 99) rfl),
  List.forall_mem_cons.mpr ⟨in_t1 (List.mem_of_getElem? (i := 113) rfl),
  List.forall_mem_cons.mpr ⟨in_t1 (List.mem_of_getElem? (i := 114) rfl),
  List.forall_mem_cons.mpr ⟨in_t1 (List.mem_of_getElem? (i := 115) rfl),
  List.forall_mem_cons.mpr ⟨in_t1 (List.mem_of_getElem? (i := 116) rfl),
  List.forall_mem_cons.mpr ⟨in_t1 (List.mem_of_getElem? (i := 117) rfl),
  List.forall_mem_cons.mpr ⟨in_t1 (List.mem_of_getElem? (i := 120) rfl),
  fun _ h => absurd h List.not_mem_nil⟩⟩⟩⟩⟩⟩⟩⟩⟩⟩⟩⟩⟩⟩⟩⟩⟩⟩⟩⟩⟩⟩⟩⟩
set_option maxRecDepth 20000 in
theorem inr4 : ∀ w ∈ wsL_law_r4, w ∈ lw_tbl :=
  List.forall_mem_cons.mpr ⟨in_t1 (List.mem_of_getElem? (i := 134) rfl),
  List.forall_mem_cons.mpr ⟨in_t1 (List.mem_of_getElem? (i := 135) rfl),
  List.forall_mem_cons.mpr ⟨in_t1 (List.mem_of_getElem? (i := 136) rfl),
  List.forall_mem_cons.mpr ⟨in_t1 (List.mem_of_getElem? (i := 137) rfl),
  List.forall_mem_cons.mpr ⟨in_t1 (List.mem_of_getElem? (i := 139) rfl),
  List.forall_mem_cons.mpr ⟨in_t1 (List.mem_of_getElem? (i := 141) rfl),
  List.forall_mem_cons.mpr ⟨in_t1 (List.mem_of_getElem? (i := 143) rfl),
  List.forall_mem_cons.mpr ⟨in_t1 (List.mem_of_getElem? (i := 161) rfl),
  List.forall_mem_cons.mpr ⟨in_t1 (List.mem_of_getElem? (i := 162) rfl),
  List.forall_mem_cons.mpr ⟨in_t1 (List.mem_of_getElem? (i := 163) rfl),
  List.forall_mem_cons.mpr ⟨in_t3 (List.mem_of_getElem? (i := 227) rfl),
  List.forall_mem_cons.mpr ⟨in_t3 (List.mem_of_getElem? (i := 228) rfl),
  List.forall_mem_cons.mpr ⟨in_t3 (List.mem_of_getElem? (i := 229) rfl),
  List.forall_mem_cons.mpr ⟨in_t3 (List.mem_of_getElem? (i := 230) rfl),
  List.forall_mem_cons.mpr ⟨in_t3 (List.mem_of_getElem? (i := 233) rfl),
  List.forall_mem_cons.mpr ⟨in_t3 (List.mem_of_getElem? (i := 234) rfl),
  List.forall_mem_cons.mpr ⟨in_t3 (List.mem_of_getElem? (i := 235) rfl),
  List.forall_mem_cons.mpr ⟨in_t3 (List.mem_of_getElem? (i := 236) rfl),
  List.forall_mem_cons.mpr ⟨in_t3 (List.mem_of_getElem? (i := 237) rfl),
  List.forall_mem_cons.mpr ⟨in_t3 (List.mem_of_getElem? (i := 238) rfl),
  List.forall_mem_cons.mpr ⟨in_t3 (List.mem_of_getElem? (i := 239) rfl),
  List.forall_mem_cons.mpr ⟨in_t4 (List.mem_of_getElem? (i := 0) rfl),
  List.forall_mem_cons.mpr ⟨in_t4 (List.mem_of_getElem? (i := 1) rfl),
  List.forall_mem_cons.mpr ⟨in_t4 (List.mem_of_getElem? (i := 2) rfl),
  fun _ h => absurd h List.not_mem_nil⟩⟩⟩⟩⟩⟩⟩⟩⟩⟩⟩⟩⟩⟩⟩⟩⟩⟩⟩⟩⟩⟩⟩⟩
set_option maxRecDepth 20000 in
theorem inr5 : ∀ w ∈ wsL_law_r5, w ∈ lw_tbl :=
  List.forall_mem_cons.mpr ⟨in_t4 (List.mem_of_getElem? (i := 3) rfl),
  List.forall_mem_cons.mpr ⟨in_t4 (List.mem_of_getElem? (i := 4) rfl),
  List.forall_mem_cons.mpr ⟨in_t4 (List.mem_of_getElem? (i := 7) rfl),
  List.forall_mem_cons.mpr ⟨in_t4 (List.mem_of_getElem? (i := 13) rfl),
  List.forall_mem_cons.mpr ⟨in_t4 (List.mem_of_getElem? (i := 15) rfl),
  List.forall_mem_cons.mpr ⟨in_t4 (List.mem_of_getElem? (i := 16) rfl),
  List.forall_mem_cons.mpr ⟨in_t4 (List.mem_of_getElem? (i := 17) rfl),
  List.forall_mem_cons.mpr ⟨in_t4 (List.mem_of_getElem? (i := 18) rfl),
  List.forall_mem_cons.mpr ⟨in_t4 (List.mem_of_getElem? (i := 19) rfl),
  List.forall_mem_cons.mpr ⟨in_t4 (List.mem_of_getElem? (i := 20) rfl),
  List.forall_mem_cons.mpr ⟨in_t4 (List.mem_of_getElem? (i := 22) rfl),
  List.forall_mem_cons.mpr ⟨in_t4 (List.mem_of_getElem? (i := 23) rfl),
  List.forall_mem_cons.mpr ⟨in_t3 (List.mem_of_getElem? (i := 231) rfl),
  List.forall_mem_cons.mpr ⟨in_t1 (List.mem_of_getElem? (i := 219) rfl),
  List.forall_mem_cons.mpr ⟨in_t1 (List.mem_of_getElem? (i := 220) rfl),
  List.forall_mem_cons.mpr ⟨in_t1 (List.mem_of_getElem? (i := 221) rfl),
  List.forall_mem_cons.mpr ⟨in_t1 (List.mem_of_getElem? (i := 222) rfl),
  List.forall_mem_cons.mpr ⟨in_t1 (List.mem_of_getElem? (i := 223) rfl),
  List.forall_mem_cons.mpr ⟨in_t1 (List.mem_of_getElem? (i := 224) rfl),
  List.forall_mem_cons.mpr ⟨in_t1 (List.mem_of_getElem? (i := 225) rfl),
  List.forall_mem_cons.mpr ⟨in_t1 (List.mem_of_getElem? (i := 226) rfl),
  List.forall_mem_cons.mpr ⟨in_t1 (List.mem_of_getElem? (i := 227) rfl),
  List.forall_mem_cons.mpr ⟨in_t1 (List.mem_of_getElem? (i := 228) rfl),
  List.forall_mem_cons.mpr ⟨in_t1 (List.mem_of_getElem? (i := 229) rfl),
  fun _ h => absurd h List.not_mem_nil⟩⟩⟩⟩⟩⟩⟩⟩⟩⟩⟩⟩⟩⟩⟩⟩⟩⟩⟩⟩⟩⟩⟩⟩
set_option maxRecDepth 20000 in
theorem inr6 : ∀ w ∈ wsL_law_r6, w ∈ lw_tbl :=
  List.forall_mem_cons.mpr ⟨in_t1 (List.mem_of_getElem? (i := 31) rfl),
  List.forall_mem_cons.mpr ⟨in_t1 (List.mem_of_getElem? (i := 231) rfl),
  List.forall_mem_cons.mpr ⟨in_t1 (List.mem_of_getElem? (i := 232) rfl),
  List.forall_mem_cons.mpr ⟨in_t4 (List.mem_of_getElem? (i := 91) rfl),
  List.forall_mem_cons.mpr ⟨in_t4 (List.mem_of_getElem? (i := 92) rfl),
  List.forall_mem_cons.mpr ⟨in_t4 (List.mem_of_getElem? (i := 93) rfl),
  List.forall_mem_cons.mpr ⟨in_t4 (List.mem_of_getElem? (i := 94) rfl),
  List.forall_mem_cons.mpr ⟨in_t4 (List.mem_of_getElem? (i := 95) rfl),
  List.forall_mem_cons.mpr ⟨in_t4 (List.mem_of_getElem? (i := 8) rfl),
  List.forall_mem_cons.mpr ⟨in_t4 (List.mem_of_getElem? (i := 96) rfl),
  List.forall_mem_cons.mpr ⟨in_t4 (List.mem_of_getElem? (i := 97) rfl),
  List.forall_mem_cons.mpr ⟨in_t4 (List.mem_of_getElem? (i := 98) rfl),
  List.forall_mem_cons.mpr ⟨in_t1 (List.mem_of_getElem? (i := 233) rfl),
  List.forall_mem_cons.mpr ⟨in_t1 (List.mem_of_getElem? (i := 234) rfl),
  List.forall_mem_cons.mpr ⟨in_t1 (List.mem_of_getElem? (i := 235) rfl),
  List.forall_mem_cons.mpr ⟨in_t1 (List.mem_of_getElem? (i := 236) rfl),
  List.forall_mem_cons.mpr ⟨in_t1 (List.mem_of_getElem? (i := 32) rfl),
  List.forall_mem_cons.mpr ⟨in_t4 (List.mem_of_getElem? (i := 99) rfl),
  List.forall_mem_cons.mpr ⟨in_t4 (List.mem_of_getElem? (i := 100) rfl),
  List.forall_mem_cons.mpr ⟨in_t4 (List.mem_of_getElem? (i := 101) rfl),
  List.forall_mem_cons.mpr ⟨in_t4 (List.mem_of_getElem? (i := 102) rfl),
  List.forall_mem_cons.mpr ⟨in_t1 (List.mem_of_getElem? (i := 237) rfl),
  List.forall_mem_cons.mpr ⟨in_t1 (List.mem_of_getElem? (i := 238) rfl),
  List.forall_mem_cons.mpr ⟨in_t1 (List.mem_of_getElem? (i := 239) rfl),
  fun _ h => absurd h List.not_mem_nil⟩⟩⟩⟩⟩⟩⟩⟩⟩⟩⟩⟩⟩⟩⟩⟩⟩⟩⟩⟩⟩⟩⟩⟩
set_option maxRecDepth 20000 in
theorem inr7 : ∀ w ∈ wsL_law_r7, w ∈ lw_tbl :=
  List.forall_mem_cons.mpr ⟨in_t2 (List.mem_of_getElem? (i := 0) rfl),
  List.forall_mem_cons.mpr ⟨in_t2 (List.mem_of_getElem? (i := 1) rfl),
  List.forall_mem_cons.mpr ⟨in_t2 (List.mem_of_getElem? (i := 2) rfl),
  List.forall_mem_cons.mpr ⟨in_t2 (List.mem_of_getElem? (i := 3) rfl),
  List.forall_mem_cons.mpr ⟨in_t2 (List.mem_of_getElem? (i := 4) rfl),
  List.forall_mem_cons.mpr ⟨in_t1 (List.mem_of_getElem? (i := 27) rfl),
  List.forall_mem_cons.mpr ⟨in_t2 (List.mem_of_getElem? (i := 5) rfl),
  List.forall_mem_cons.mpr ⟨in_t2 (List.mem_of_getElem? (i := 6) rfl),
  List.forall_mem_cons.mpr ⟨in_t2 (List.mem_of_getElem? (i := 7) rfl),
  List.forall_mem_cons.mpr ⟨in_t2 (List.mem_of_getElem? (i := 8) rfl),
  List.forall_mem_cons.mpr ⟨in_t1 (List.mem_of_getElem? (i := 65) rfl),
  List.forall_mem_cons.mpr ⟨in_t1 (List.mem_of_getElem? (i := 69) rfl),
  List.forall_mem_cons.mpr ⟨in_t2 (List.mem_of_getElem? (i := 9) rfl),
  List.forall_mem_cons.mpr ⟨in_t2 (List.mem_of_getElem? (i := 11) rfl),
  List.forall_mem_cons.mpr ⟨in_sl (List.mem_of_getElem? (i := 0) rfl),
  List.forall_mem_cons.mpr ⟨in_t2 (List.mem_of_getElem? (i := 12) rfl),
  List.forall_mem_cons.mpr ⟨in_t1 (List.mem_of_getElem? (i := 28) rfl),
  List.forall_mem_cons.mpr ⟨in_t2 (List.mem_of_getElem? (i := 13) rfl),
  List.forall_mem_cons.mpr ⟨in_t2 (List.mem_of_getElem? (i := 15) rfl),
  List.forall_mem_cons.mpr ⟨in_sl (List.mem_of_getElem? (i := 1) rfl),
  List.forall_mem_cons.mpr ⟨in_t2 (List.mem_of_getElem? (i := 16) rfl),
  List.forall_mem_cons.mpr ⟨in_t1 (List.mem_of_getElem? (i := 66) rfl),
  List.forall_mem_cons.mpr ⟨in_t1 (List.mem_of_getElem? (i := 70) rfl),
  List.forall_mem_cons.mpr ⟨in_t2 (List.mem_of_getElem? (i := 17) rfl),
  fun _ h => absurd h List.not_mem_nil⟩⟩⟩⟩⟩⟩⟩⟩⟩⟩⟩⟩⟩⟩⟩⟩⟩⟩⟩⟩⟩⟩⟩⟩
set_option maxRecDepth 20000 in
theorem inr8 : ∀ w ∈ wsL_law_r8, w ∈ lw_tbl :=
  List.forall_mem_cons.mpr ⟨in_t2 (List.mem_of_getElem? (i := 18) rfl),
  List.forall_mem_cons.mpr ⟨in_t2 (List.mem_of_getElem? (i := 19) rfl),
  List.forall_mem_cons.mpr ⟨in_t2 (List.mem_of_getElem? (i := 20) rfl),
  List.forall_mem_cons.mpr ⟨in_t2 (List.mem_of_getElem? (i := 21) rfl),
  List.forall_mem_cons.mpr ⟨in_t2 (List.mem_of_getElem? (i := 22) rfl),
  List.forall_mem_cons.mpr ⟨in_t2 (List.mem_of_getElem? (i := 23) rfl),
  List.forall_mem_cons.mpr ⟨in_t2 (List.mem_of_getElem? (i := 24) rfl),
  List.forall_mem_cons.mpr ⟨in_t2 (List.mem_of_getElem? (i := 25) rfl),
  List.forall_mem_cons.mpr ⟨in_t2 (List.mem_of_getElem? (i := 26) rfl),
  List.forall_mem_cons.mpr ⟨in_t2 (List.mem_of_getElem? (i := 27) rfl),
  List.forall_mem_cons.mpr ⟨in_t2 (List.mem_of_getElem? (i := 28) rfl),
  List.forall_mem_cons.mpr ⟨in_t2 (List.mem_of_getElem? (i := 29) rfl),
  List.forall_mem_cons.mpr ⟨in_t2 (List.mem_of_getElem? (i := 30) rfl),
  List.forall_mem_cons.mpr ⟨in_t2 (List.mem_of_getElem? (i := 31) rfl),
  List.forall_mem_cons.mpr ⟨in_t2 (List.mem_of_getElem? (i := 32) rfl),
  List.forall_mem_cons.mpr ⟨in_t2 (List.mem_of_getElem? (i := 33) rfl),
  List.forall_mem_cons.mpr ⟨in_t2 (List.mem_of_getElem? (i := 34) rfl),
  List.forall_mem_cons.mpr ⟨in_t2 (List.mem_of_getElem? (i := 35) rfl),
  List.forall_mem_cons.mpr ⟨in_t2 (List.mem_of_getElem? (i := 36) rfl),
  List.forall_mem_cons.mpr ⟨in_t2 (List.mem_of_getElem? (i := 37) rfl),
  List.forall_mem_cons.mpr ⟨in_t2 (List.mem_of_getElem? (i := 39) rfl),
  List.forall_mem_cons.mpr ⟨in_sl (List.mem_of_getElem? (i := 2) rfl),
  List.forall_mem_cons.mpr ⟨in_t2 (List.mem_of_getElem? (i := 40) rfl),
  List.forall_mem_cons.mpr ⟨in_t1 (List.mem_of_getElem? (i := 29) rfl),
  fun _ h => absurd h List.not_mem_nil⟩⟩⟩⟩⟩⟩⟩⟩⟩⟩⟩⟩⟩⟩⟩⟩⟩⟩⟩⟩⟩⟩⟩⟩
set_option maxRecDepth 20000 in
theorem inr9 : ∀ w ∈ wsL_law_r9, w ∈ lw_tbl :=
  List.forall_mem_cons.mpr ⟨in_t1 (List.mem_of_getElem? (i := 30) rfl),
  List.forall_mem_cons.mpr ⟨in_t2 (List.mem_of_getElem? (i := 42) rfl),
  List.forall_mem_cons.mpr ⟨in_t2 (List.mem_of_getElem? (i := 44) rfl),
  List.forall_mem_cons.mpr ⟨in_sl (List.mem_of_getElem? (i := 3) rfl),
  List.forall_mem_cons.mpr ⟨in_t2 (List.mem_of_getElem? (i := 45) rfl),
  List.forall_mem_cons.mpr ⟨in_t2 (List.mem_of_getElem? (i := 46) rfl),
  List.forall_mem_cons.mpr ⟨in_t2 (List.mem_of_getElem? (i := 47) rfl),
  List.forall_mem_cons.mpr ⟨in_t2 (List.mem_of_getElem? (i := 48) rfl),
  List.forall_mem_cons.mpr ⟨in_t2 (List.mem_of_getElem? (i := 49) rfl),
  List.forall_mem_cons.mpr ⟨in_t2 (List.mem_of_getElem? (i := 51) rfl),
  List.forall_mem_cons.mpr ⟨in_t2 (List.mem_of_getElem? (i := 53) rfl),
  List.forall_mem_cons.mpr ⟨in_sl (List.mem_of_getElem? (i := 4) rfl),
  List.forall_mem_cons.mpr ⟨in_t2 (List.mem_of_getElem? (i := 54) rfl),
  List.forall_mem_cons.mpr ⟨in_t2 (List.mem_of_getElem? (i := 55) rfl),
  List.forall_mem_cons.mpr ⟨in_t2 (List.mem_of_getElem? (i := 57) rfl),
  List.forall_mem_cons.mpr ⟨in_t2 (List.mem_of_getElem? (i := 58) rfl),
  List.forall_mem_cons.mpr ⟨in_t2 (List.mem_of_getElem? (i := 59) rfl),
  List.forall_mem_cons.mpr ⟨in_t2 (List.mem_of_getElem? (i := 60) rfl),
  List.forall_mem_cons.mpr ⟨in_t2 (List.mem_of_getElem? (i := 61) rfl),
  List.forall_mem_cons.mpr ⟨in_t2 (List.mem_of_getElem? (i := 62) rfl),
  List.forall_mem_cons.mpr ⟨in_t2 (List.mem_of_getElem? (i := 63) rfl),
  List.forall_mem_cons.mpr ⟨in_t2 (List.mem_of_getElem? (i := 65) rfl),
  List.forall_mem_cons.mpr ⟨in_sl (List.mem_of_getElem? (i := 5) rfl),
  List.forall_mem_cons.mpr ⟨in_t2 (List.mem_of_getElem? (i := 66) rfl),
  fun _ h => absurd h List.not_mem_nil⟩⟩⟩⟩⟩⟩⟩⟩⟩⟩⟩⟩⟩⟩⟩⟩⟩⟩⟩⟩⟩⟩⟩⟩
set_option maxRecDepth 20000 in
theorem inr10 : ∀ w ∈ wsL_law_r10, w ∈ lw_tbl :=
  List.forall_mem_cons.mpr ⟨in_t2 (List.mem_of_getElem? (i := 68) rfl),
  List.forall_mem_cons.mpr ⟨in_t2 (List.mem_of_getElem? (i := 69) rfl),
  List.forall_mem_cons.mpr ⟨in_t2 (List.mem_of_getElem? (i := 70) rfl),
  List.forall_mem_cons.mpr ⟨in_t2 (List.mem_of_getElem? (i := 71) rfl),
  List.forall_mem_cons.mpr ⟨in_t2 (List.mem_of_getElem? (i := 72) rfl),
  List.forall_mem_cons.mpr ⟨in_t2 (List.mem_of_getElem? (i := 73) rfl),
  List.forall_mem_cons.mpr ⟨in_t2 (List.mem_of_getElem? (i := 74) rfl),
  List.forall_mem_cons.mpr ⟨in_t2 (List.mem_of_getElem? (i := 76) rfl),
  List.forall_mem_cons.mpr ⟨in_sl (List.mem_of_getElem? (i := 6) rfl),
  List.forall_mem_cons.mpr ⟨in_t2 (List.mem_of_getElem? (i := 77) rfl),
  List.forall_mem_cons.mpr ⟨in_t2 (List.mem_of_getElem? (i := 78) rfl),
  List.forall_mem_cons.mpr ⟨in_t2 (List.mem_of_getElem? (i := 79) rfl),
  List.forall_mem_cons.mpr ⟨in_t2 (List.mem_of_getElem? (i := 80) rfl),
  List.forall_mem_cons.mpr ⟨in_t2 (List.mem_of_getElem? (i := 81) rfl),
  List.forall_mem_cons.mpr ⟨in_t2 (List.mem_of_getElem? (i := 82) rfl),
  List.forall_mem_cons.mpr ⟨in_t4 (List.mem_of_getElem? (i := 103) rfl),
  List.forall_mem_cons.mpr ⟨in_t4 (List.mem_of_getElem? (i := 104) rfl),
  List.forall_mem_cons.mpr ⟨in_t4 (List.mem_of_getElem? (i := 105) rfl),
  List.forall_mem_cons.mpr ⟨in_t4 (List.mem_of_getElem? (i := 106) rfl),
  List.forall_mem_cons.mpr ⟨in_t4 (List.mem_of_getElem? (i := 107) rfl),
  List.forall_mem_cons.mpr ⟨in_t4 (List.mem_of_getElem? (i := 109) rfl),
  List.forall_mem_cons.mpr ⟨in_sl (List.mem_of_getElem? (i := 26) rfl),
  List.forall_mem_cons.mpr ⟨in_t4 (List.mem_of_getElem? (i := 110) rfl),
  List.forall_mem_cons.mpr ⟨in_t4 (List.mem_of_getElem? (i := 9) rfl),
  fun _ h => absurd h List.not_mem_nil⟩⟩⟩⟩⟩⟩⟩⟩⟩⟩⟩⟩⟩⟩⟩⟩⟩⟩⟩⟩⟩⟩⟩⟩
set_option maxRecDepth 20000 in
theorem inr11 : ∀ w ∈ wsL_law_r11, w ∈ lw_tbl :=
  List.forall_mem_cons.mpr ⟨in_t4 (List.mem_of_getElem? (i := 10) rfl),
  List.forall_mem_cons.mpr ⟨in_t4 (List.mem_of_getElem? (i := 5) rfl),
  List.forall_mem_cons.mpr ⟨in_t4 (List.mem_of_getElem? (i := 6) rfl),
  List.forall_mem_cons.mpr ⟨in_t4 (List.mem_of_getElem? (i := 111) rfl),
  List.forall_mem_cons.mpr ⟨in_t4 (List.mem_of_getElem? (i := 113) rfl),
  List.forall_mem_cons.mpr ⟨in_sl (List.mem_of_getElem? (i := 27) rfl),
  List.forall_mem_cons.mpr ⟨in_t4 (List.mem_of_getElem? (i := 114) rfl),
  List.forall_mem_cons.mpr ⟨in_t4 (List.mem_of_getElem? (i := 115) rfl),
  List.forall_mem_cons.mpr ⟨in_t4 (List.mem_of_getElem? (i := 117) rfl),
  List.forall_mem_cons.mpr ⟨in_sl (List.mem_of_getElem? (i := 28) rfl),
  List.forall_mem_cons.mpr ⟨in_t4 (List.mem_of_getElem? (i := 118) rfl),
  List.forall_mem_cons.mpr ⟨in_t4 (List.mem_of_getElem? (i := 119) rfl),
  List.forall_mem_cons.mpr ⟨in_t4 (List.mem_of_getElem? (i := 120) rfl),
  List.forall_mem_cons.mpr ⟨in_t4 (List.mem_of_getElem? (i := 121) rfl),
  List.forall_mem_cons.mpr ⟨in_t4 (List.mem_of_getElem? (i := 122) rfl),
  List.forall_mem_cons.mpr ⟨in_t4 (List.mem_of_getElem? (i := 123) rfl),
  List.forall_mem_cons.mpr ⟨in_t4 (List.mem_of_getElem? (i := 125) rfl),
  List.forall_mem_cons.mpr ⟨in_sl (List.mem_of_getElem? (i := 29) rfl),
  List.forall_mem_cons.mpr ⟨in_t4 (List.mem_of_getElem? (i := 126) rfl),
  List.forall_mem_cons.mpr ⟨in_t4 (List.mem_of_getElem? (i := 127) rfl),
  List.forall_mem_cons.mpr ⟨in_t4 (List.mem_of_getElem? (i := 129) rfl),
  List.forall_mem_cons.mpr ⟨in_sl (List.mem_of_getElem? (i := 30) rfl),
  List.forall_mem_cons.mpr ⟨in_t4 (List.mem_of_getElem? (i := 130) rfl),
  List.forall_mem_cons.mpr ⟨in_t4 (List.mem_of_getElem? (i := 131) rfl),
  fun _ h => absurd h List.not_mem_nil⟩⟩⟩⟩⟩⟩⟩⟩⟩⟩⟩⟩⟩⟩⟩⟩⟩⟩⟩⟩⟩⟩⟩⟩
set_option maxRecDepth 20000 in
theorem inr12 : ∀ w ∈ wsL_law_r12, w ∈ lw_tbl :=
  List.forall_mem_cons.mpr ⟨in_t4 (List.mem_of_getElem? (i := 133) rfl),
  List.forall_mem_cons.mpr ⟨in_sl (List.mem_of_getElem? (i := 31) rfl),
  List.forall_mem_cons.mpr ⟨in_t4 (List.mem_of_getElem? (i := 134) rfl),
  List.forall_mem_cons.mpr ⟨in_t2 (List.mem_of_getElem? (i := 83) rfl),
  List.forall_mem_cons.mpr ⟨in_t2 (List.mem_of_getElem? (i := 84) rfl),
  List.forall_mem_cons.mpr ⟨in_t2 (List.mem_of_getElem? (i := 85) rfl),
  List.forall_mem_cons.mpr ⟨in_t2 (List.mem_of_getElem? (i := 86) rfl),
  List.forall_mem_cons.mpr ⟨in_t1 (List.mem_of_getElem? (i := 123) rfl),
  List.forall_mem_cons.mpr ⟨in_t1 (List.mem_of_getElem? (i := 67) rfl),
  List.forall_mem_cons.mpr ⟨in_t1 (List.mem_of_getElem? (i := 71) rfl),
  List.forall_mem_cons.mpr ⟨in_t2 (List.mem_of_getElem? (i := 87) rfl),
  List.forall_mem_cons.mpr ⟨in_t2 (List.mem_of_getElem? (i := 88) rfl),
  List.forall_mem_cons.mpr ⟨in_t2 (List.mem_of_getElem? (i := 89) rfl),
  List.forall_mem_cons.mpr ⟨in_t2 (List.mem_of_getElem? (i := 90) rfl),
  List.forall_mem_cons.mpr ⟨in_t1 (List.mem_of_getElem? (i := 100) rfl),
  List.forall_mem_cons.mpr ⟨in_t1 (List.mem_of_getElem? (i := 62) rfl),
  List.forall_mem_cons.mpr ⟨in_t2 (List.mem_of_getElem? (i := 91) rfl),
  List.forall_mem_cons.mpr ⟨in_t4 (List.mem_of_getElem? (i := 135) rfl),
  List.forall_mem_cons.mpr ⟨in_t4 (List.mem_of_getElem? (i := 136) rfl),
  List.forall_mem_cons.mpr ⟨in_t4 (List.mem_of_getElem? (i := 137) rfl),
  List.forall_mem_cons.mpr ⟨in_t4 (List.mem_of_getElem? (i := 138) rfl),
  List.forall_mem_cons.mpr ⟨in_t3 (List.mem_of_getElem? (i := 232) rfl),
  List.forall_mem_cons.mpr ⟨in_t4 (List.mem_of_getElem? (i := 11) rfl),
  List.forall_mem_cons.mpr ⟨in_t2 (List.mem_of_getElem? (i := 92) rfl),
  fun _ h => absurd h List.not_mem_nil⟩⟩⟩⟩⟩⟩⟩⟩⟩⟩⟩⟩⟩⟩⟩⟩⟩⟩⟩⟩⟩⟩⟩⟩
set_option maxRecDepth 20000 in
theorem inr13 : ∀ w ∈ wsL_law_r13, w ∈ lw_tbl :=
  List.forall_mem_cons.mpr ⟨in_t2 (List.mem_of_getElem? (i := 93) rfl),
  List.forall_mem_cons.mpr ⟨in_t2 (List.mem_of_getElem? (i := 94) rfl),
  List.forall_mem_cons.mpr ⟨in_t2 (List.mem_of_getElem? (i := 95) rfl),
  List.forall_mem_cons.mpr ⟨in_t1 (List.mem_of_getElem? (i := 54) rfl),
  List.forall_mem_cons.mpr ⟨in_t1 (List.mem_of_getElem? (i := 57) rfl),
  List.forall_mem_cons.mpr ⟨in_t1 (List.mem_of_getElem? (i := 59) rfl),
  List.forall_mem_cons.mpr ⟨in_t1 (List.mem_of_getElem? (i := 101) rfl),
  List.forall_mem_cons.mpr ⟨in_t2 (List.mem_of_getElem? (i := 96) rfl),
  List.forall_mem_cons.mpr ⟨in_t2 (List.mem_of_getElem? (i := 97) rfl),
  List.forall_mem_cons.mpr ⟨in_t2 (List.mem_of_getElem? (i := 98) rfl),
  List.forall_mem_cons.mpr ⟨in_t2 (List.mem_of_getElem? (i := 99) rfl),
  List.forall_mem_cons.mpr ⟨in_t2 (List.mem_of_getElem? (i := 100) rfl),
  List.forall_mem_cons.mpr ⟨in_t2 (List.mem_of_getElem? (i := 101) rfl),
  List.forall_mem_cons.mpr ⟨in_t2 (List.mem_of_getElem? (i := 102) rfl),
  List.forall_mem_cons.mpr ⟨in_t2 (List.mem_of_getElem? (i := 103) rfl),
  List.forall_mem_cons.mpr ⟨in_t2 (List.mem_of_getElem? (i := 104) rfl),
  List.forall_mem_cons.mpr ⟨in_t2 (List.mem_of_getElem? (i := 106) rfl),
  List.forall_mem_cons.mpr ⟨in_t2 (List.mem_of_getElem? (i := 107) rfl),
  List.forall_mem_cons.mpr ⟨in_t2 (List.mem_of_getElem? (i := 108) rfl),
  List.forall_mem_cons.mpr ⟨in_t2 (List.mem_of_getElem? (i := 109) rfl),
  List.forall_mem_cons.mpr ⟨in_t2 (List.mem_of_getElem? (i := 110) rfl),
  List.forall_mem_cons.mpr ⟨in_t2 (List.mem_of_getElem? (i := 111) rfl),
  List.forall_mem_cons.mpr ⟨in_t2 (List.mem_of_getElem? (i := 112) rfl),
  List.forall_mem_cons.mpr ⟨in_t2 (List.mem_of_getElem? (i := 113) rfl),
  fun _ h => absurd h List.not_mem_nil⟩⟩⟩⟩⟩⟩⟩⟩⟩⟩⟩⟩⟩⟩⟩⟩⟩⟩⟩⟩⟩⟩⟩⟩
set_option maxRecDepth 20000 in
theorem inr14 : ∀ w ∈ wsL_law_r14, w ∈ lw_tbl :=
  List.forall_mem_cons.mpr ⟨in_t2 (List.mem_of_getElem? (i := 114) rfl),
  List.forall_mem_cons.mpr ⟨in_t2 (List.mem_of_getElem? (i := 115) rfl),
  List.forall_mem_cons.mpr ⟨in_t4 (List.mem_of_getElem? (i := 139) rfl),
  List.forall_mem_cons.mpr ⟨in_t4 (List.mem_of_getElem? (i := 140) rfl),
  List.forall_mem_cons.mpr ⟨in_t4 (List.mem_of_getElem? (i := 141) rfl),
  List.forall_mem_cons.mpr ⟨in_t4 (List.mem_of_getElem? (i := 142) rfl),
  List.forall_mem_cons.mpr ⟨in_t4 (List.mem_of_getElem? (i := 143) rfl),
  List.forall_mem_cons.mpr ⟨in_t4 (List.mem_of_getElem? (i := 145) rfl),
  List.forall_mem_cons.mpr ⟨in_sl (List.mem_of_getElem? (i := 32) rfl),
  List.forall_mem_cons.mpr ⟨in_t4 (List.mem_of_getElem? (i := 146) rfl),
  List.forall_mem_cons.mpr ⟨in_t4 (List.mem_of_getElem? (i := 147) rfl),
  List.forall_mem_cons.mpr ⟨in_t4 (List.mem_of_getElem? (i := 149) rfl),
  List.forall_mem_cons.mpr ⟨in_sl (List.mem_of_getElem? (i := 33) rfl),
  List.forall_mem_cons.mpr ⟨in_t4 (List.mem_of_getElem? (i := 150) rfl),
  List.forall_mem_cons.mpr ⟨in_t2 (List.mem_of_getElem? (i := 117) rfl),
  List.forall_mem_cons.mpr ⟨in_t2 (List.mem_of_getElem? (i := 118) rfl),
  List.forall_mem_cons.mpr ⟨in_t2 (List.mem_of_getElem? (i := 119) rfl),
  List.forall_mem_cons.mpr ⟨in_t2 (List.mem_of_getElem? (i := 120) rfl),
  List.forall_mem_cons.mpr ⟨in_t1 (List.mem_of_getElem? (i := 64) rfl),
  List.forall_mem_cons.mpr ⟨in_t2 (List.mem_of_getElem? (i := 121) rfl),
  List.forall_mem_cons.mpr ⟨in_t2 (List.mem_of_getElem? (i := 122) rfl),
  List.forall_mem_cons.mpr ⟨in_t2 (List.mem_of_getElem? (i := 123) rfl),
  List.forall_mem_cons.mpr ⟨in_t2 (List.mem_of_getElem? (i := 124) rfl),
  List.forall_mem_cons.mpr ⟨in_t4 (List.mem_of_getElem? (i := 151) rfl),
  fun _ h => absurd h List.not_mem_nil⟩⟩⟩⟩⟩⟩⟩⟩⟩⟩⟩⟩⟩⟩⟩⟩⟩⟩⟩⟩⟩⟩⟩⟩
set_option maxRecDepth 20000 in
theorem inr15 : ∀ w ∈ wsL_law_r15, w ∈ lw_tbl :=
  List.forall_mem_cons.mpr ⟨in_t4 (List.mem_of_getElem? (i := 152) rfl),
  List.forall_mem_cons.mpr ⟨in_t4 (List.mem_of_getElem? (i := 153) rfl),
  List.forall_mem_cons.mpr ⟨in_t4 (List.mem_of_getElem? (i := 154) rfl),
  List.forall_mem_cons.mpr ⟨in_t4 (List.mem_of_getElem? (i := 155) rfl),
  List.forall_mem_cons.mpr ⟨in_t4 (List.mem_of_getElem? (i := 157) rfl),
  List.forall_mem_cons.mpr ⟨in_sl (List.mem_of_getElem? (i := 34) rfl),
  List.forall_mem_cons.mpr ⟨in_t4 (List.mem_of_getElem? (i := 158) rfl),
  List.forall_mem_cons.mpr ⟨in_t2 (List.mem_of_getElem? (i := 125) rfl),
  List.forall_mem_cons.mpr ⟨in_t2 (List.mem_of_getElem? (i := 126) rfl),
  List.forall_mem_cons.mpr ⟨in_t2 (List.mem_of_getElem? (i := 127) rfl),
  List.forall_mem_cons.mpr ⟨in_t2 (List.mem_of_getElem? (i := 128) rfl),
  List.forall_mem_cons.mpr ⟨in_t2 (List.mem_of_getElem? (i := 129) rfl),
  List.forall_mem_cons.mpr ⟨in_t2 (List.mem_of_getElem? (i := 130) rfl),
  List.forall_mem_cons.mpr ⟨in_t2 (List.mem_of_getElem? (i := 131) rfl),
  List.forall_mem_cons.mpr ⟨in_t2 (List.mem_of_getElem? (i := 132) rfl),
  List.forall_mem_cons.mpr ⟨in_t4 (List.mem_of_getElem? (i := 159) rfl),
  List.forall_mem_cons.mpr ⟨in_t4 (List.mem_of_getElem? (i := 160) rfl),
  List.forall_mem_cons.mpr ⟨in_t4 (List.mem_of_getElem? (i := 161) rfl),
  List.forall_mem_cons.mpr ⟨in_t4 (List.mem_of_getElem? (i := 162) rfl),
  List.forall_mem_cons.mpr ⟨in_t4 (List.mem_of_getElem? (i := 163) rfl),
  List.forall_mem_cons.mpr ⟨in_t4 (List.mem_of_getElem? (i := 165) rfl),
  List.forall_mem_cons.mpr ⟨in_sl (List.mem_of_getElem? (i := 35) rfl),
  List.forall_mem_cons.mpr ⟨in_t4 (List.mem_of_getElem? (i := 166) rfl),
  List.forall_mem_cons.mpr ⟨in_t2 (List.mem_of_getElem? (i := 133) rfl),
  fun _ h => absurd h List.not_mem_nil⟩⟩⟩⟩⟩⟩⟩⟩⟩⟩⟩⟩⟩⟩⟩⟩⟩⟩⟩⟩⟩⟩⟩⟩
set_option maxRecDepth 20000 in
theorem inr16 : ∀ w ∈ wsL_law_r16, w ∈ lw_tbl :=
  List.forall_mem_cons.mpr ⟨in_t2 (List.mem_of_getElem? (i := 134) rfl),
  List.forall_mem_cons.mpr ⟨in_t2 (List.mem_of_getElem? (i := 135) rfl),
  List.forall_mem_cons.mpr ⟨in_t2 (List.mem_of_getElem? (i := 136) rfl),
  List.forall_mem_cons.mpr ⟨in_t2 (List.mem_of_getElem? (i := 137) rfl),
  List.forall_mem_cons.mpr ⟨in_t2 (List.mem_of_getElem? (i := 138) rfl),
  List.forall_mem_cons.mpr ⟨in_t2 (List.mem_of_getElem? (i := 139) rfl),
  List.forall_mem_cons.mpr ⟨in_t2 (List.mem_of_getElem? (i := 140) rfl),
  List.forall_mem_cons.mpr ⟨in_t1 (List.mem_of_getElem? (i := 121) rfl),
  List.forall_mem_cons.mpr ⟨in_t1 (List.mem_of_getElem? (i := 122) rfl),
  List.forall_mem_cons.mpr ⟨in_t2 (List.mem_of_getElem? (i := 149) rfl),
  List.forall_mem_cons.mpr ⟨in_t2 (List.mem_of_getElem? (i := 150) rfl),
  List.forall_mem_cons.mpr ⟨in_t1 (List.mem_of_getElem? (i := 10) rfl),
  List.forall_mem_cons.mpr ⟨in_t2 (List.mem_of_getElem? (i := 151) (by decide +kernel)),
  List.forall_mem_cons.mpr ⟨in_t2 (List.mem_of_getElem? (i := 142) rfl),
  List.forall_mem_cons.mpr ⟨in_t2 (List.mem_of_getElem? (i := 143) rfl),
  List.forall_mem_cons.mpr ⟨in_t2 (List.mem_of_getElem? (i := 144) rfl),
  List.forall_mem_cons.mpr ⟨in_t2 (List.mem_of_getElem? (i := 145) rfl),
  List.forall_mem_cons.mpr ⟨in_t2 (List.mem_of_getElem? (i := 146) rfl),
  List.forall_mem_cons.mpr ⟨in_t2 (List.mem_of_getElem? (i := 148) rfl),
  List.forall_mem_cons.mpr ⟨in_t2 (List.mem_of_getElem? (i := 147) rfl),
  List.forall_mem_cons.mpr ⟨in_t1 (List.mem_of_getElem? (i := 9) rfl),
  List.forall_mem_cons.mpr ⟨in_t2 (List.mem_of_getElem? (i := 152) rfl),
  List.forall_mem_cons.mpr ⟨in_t2 (List.mem_of_getElem? (i := 153) rfl),
  List.forall_mem_cons.mpr ⟨in_t2 (List.mem_of_getElem? (i := 154) rfl),
  fun _ h => absurd h List.not_mem_nil⟩⟩⟩⟩⟩⟩⟩⟩⟩⟩⟩⟩⟩⟩⟩⟩⟩⟩⟩⟩⟩⟩⟩⟩
set_option maxRecDepth 20000 in
theorem inr17 : ∀ w ∈ wsL_law_r17, w ∈ lw_tbl :=
  List.forall_mem_cons.mpr ⟨in_t2 (List.mem_of_getElem? (i := 155) rfl),
  List.forall_mem_cons.mpr ⟨in_t2 (List.mem_of_getElem? (i := 156) rfl),
  List.forall_mem_cons.mpr ⟨in_t2 (List.mem_of_getElem? (i := 158) rfl),
  List.forall_mem_cons.mpr ⟨in_sl (List.mem_of_getElem? (i := 7) rfl),
  List.forall_mem_cons.mpr ⟨in_t2 (List.mem_of_getElem? (i := 159) rfl),
  List.forall_mem_cons.mpr ⟨in_t1 (List.mem_of_getElem? (i := 72) rfl),
  List.forall_mem_cons.mpr ⟨in_t2 (List.mem_of_getElem? (i := 160) rfl),
  List.forall_mem_cons.mpr ⟨in_t2 (List.mem_of_getElem? (i := 161) rfl),
  List.forall_mem_cons.mpr ⟨in_t2 (List.mem_of_getElem? (i := 162) rfl),
  List.forall_mem_cons.mpr ⟨in_t2 (List.mem_of_getElem? (i := 163) rfl),
  List.forall_mem_cons.mpr ⟨in_t2 (List.mem_of_getElem? (i := 164) rfl),
  List.forall_mem_cons.mpr ⟨in_t2 (List.mem_of_getElem? (i := 166) rfl),
  List.forall_mem_cons.mpr ⟨in_t2 (List.mem_of_getElem? (i := 167) rfl),
  List.forall_mem_cons.mpr ⟨in_t2 (List.mem_of_getElem? (i := 168) rfl),
  List.forall_mem_cons.mpr ⟨in_t2 (List.mem_of_getElem? (i := 169) rfl),
  List.forall_mem_cons.mpr ⟨in_t2 (List.mem_of_getElem? (i := 170) rfl),
  List.forall_mem_cons.mpr ⟨in_t2 (List.mem_of_getElem? (i := 172) rfl),
  List.forall_mem_cons.mpr ⟨in_t2 (List.mem_of_getElem? (i := 173) rfl),
  List.forall_mem_cons.mpr ⟨in_t2 (List.mem_of_getElem? (i := 174) rfl),
  List.forall_mem_cons.mpr ⟨in_t2 (List.mem_of_getElem? (i := 175) rfl),
  List.forall_mem_cons.mpr ⟨in_t2 (List.mem_of_getElem? (i := 176) rfl),
  List.forall_mem_cons.mpr ⟨in_t2 (List.mem_of_getElem? (i := 177) rfl),
  List.forall_mem_cons.mpr ⟨in_t4 (List.mem_of_getElem? (i := 167) rfl),
  List.forall_mem_cons.mpr ⟨in_t4 (List.mem_of_getElem? (i := 168) rfl),
  fun _ h => absurd h List.not_mem_nil⟩⟩⟩⟩⟩⟩⟩⟩⟩⟩⟩⟩⟩⟩⟩⟩⟩⟩⟩⟩⟩⟩⟩⟩
set_option maxRecDepth 20000 in
theorem inr18 : ∀ w ∈ wsL_law_r18, w ∈ lw_tbl :=
  List.forall_mem_cons.mpr ⟨in_t4 (List.mem_of_getElem? (i := 169) rfl),
  List.forall_mem_cons.mpr ⟨in_t4 (List.mem_of_getElem? (i := 170) rfl),
  List.forall_mem_cons.mpr ⟨in_t4 (List.mem_of_getElem? (i := 171) rfl),
  List.forall_mem_cons.mpr ⟨in_t4 (List.mem_of_getElem? (i := 173) rfl),
  List.forall_mem_cons.mpr ⟨in_sl (List.mem_of_getElem? (i := 36) rfl),
  List.forall_mem_cons.mpr ⟨in_t4 (List.mem_of_getElem? (i := 174) rfl),
  List.forall_mem_cons.mpr ⟨in_t4 (List.mem_of_getElem? (i := 12) rfl),
  List.forall_mem_cons.mpr ⟨in_t4 (List.mem_of_getElem? (i := 175) rfl),
  List.forall_mem_cons.mpr ⟨in_t4 (List.mem_of_getElem? (i := 177) rfl),
  List.forall_mem_cons.mpr ⟨in_sl (List.mem_of_getElem? (i := 37) rfl),
  List.forall_mem_cons.mpr ⟨in_t4 (List.mem_of_getElem? (i := 178) rfl),
  List.forall_mem_cons.mpr ⟨in_t2 (List.mem_of_getElem? (i := 178) rfl),
  List.forall_mem_cons.mpr ⟨in_t2 (List.mem_of_getElem? (i := 179) rfl),
  List.forall_mem_cons.mpr ⟨in_t2 (List.mem_of_getElem? (i := 180) rfl),
  List.forall_mem_cons.mpr ⟨in_t2 (List.mem_of_getElem? (i := 181) rfl),
  List.forall_mem_cons.mpr ⟨in_t2 (List.mem_of_getElem? (i := 182) rfl),
  List.forall_mem_cons.mpr ⟨in_t2 (List.mem_of_getElem? (i := 183) rfl),
  List.forall_mem_cons.mpr ⟨in_t2 (List.mem_of_getElem? (i := 184) rfl),
  List.forall_mem_cons.mpr ⟨in_t2 (List.mem_of_getElem? (i := 185) rfl),
  List.forall_mem_cons.mpr ⟨in_t2 (List.mem_of_getElem? (i := 186) rfl),
  List.forall_mem_cons.mpr ⟨in_t2 (List.mem_of_getElem? (i := 188) rfl),
  List.forall_mem_cons.mpr ⟨in_t2 (List.mem_of_getElem? (i := 189) rfl),
  List.forall_mem_cons.mpr ⟨in_t2 (List.mem_of_getElem? (i := 190) rfl),
  List.forall_mem_cons.mpr ⟨in_t2 (List.mem_of_getElem? (i := 191) rfl),
  fun _ h => absurd h List.not_mem_nil⟩⟩⟩⟩⟩⟩⟩⟩⟩⟩⟩⟩⟩⟩⟩⟩⟩⟩⟩⟩⟩⟩⟩⟩
set_option maxRecDepth 20000 in
theorem inr19 : ∀ w ∈ wsL_law_r19, w ∈ lw_tbl :=
  List.forall_mem_cons.mpr ⟨in_t2 (List.mem_of_getElem? (i := 192) rfl),
  List.forall_mem_cons.mpr ⟨in_t2 (List.mem_of_getElem? (i := 193) rfl),
  List.forall_mem_cons.mpr ⟨in_t2 (List.mem_of_getElem? (i := 194) rfl),
  List.forall_mem_cons.mpr ⟨in_t2 (List.mem_of_getElem? (i := 195) rfl),
  List.forall_mem_cons.mpr ⟨in_t1 (List.mem_of_getElem? (i := 11) rfl),
  List.forall_mem_cons.mpr ⟨in_t2 (List.mem_of_getElem? (i := 196) rfl),
  List.forall_mem_cons.mpr ⟨in_t2 (List.mem_of_getElem? (i := 197) rfl),
  List.forall_mem_cons.mpr ⟨in_t2 (List.mem_of_getElem? (i := 198) rfl),
  List.forall_mem_cons.mpr ⟨in_t2 (List.mem_of_getElem? (i := 199) rfl),
  List.forall_mem_cons.mpr ⟨in_t4 (List.mem_of_getElem? (i := 179) rfl),
  List.forall_mem_cons.mpr ⟨in_t4 (List.mem_of_getElem? (i := 180) rfl),
  List.forall_mem_cons.mpr ⟨in_t4 (List.mem_of_getElem? (i := 181) rfl),
  List.forall_mem_cons.mpr ⟨in_t4 (List.mem_of_getElem? (i := 182) rfl),
  List.forall_mem_cons.mpr ⟨in_t4 (List.mem_of_getElem? (i := 183) rfl),
  List.forall_mem_cons.mpr ⟨in_t4 (List.mem_of_getElem? (i := 184) rfl),
  List.forall_mem_cons.mpr ⟨in_t4 (List.mem_of_getElem? (i := 185) rfl),
  List.forall_mem_cons.mpr ⟨in_t4 (List.mem_of_getElem? (i := 186) rfl),
  List.forall_mem_cons.mpr ⟨in_t4 (List.mem_of_getElem? (i := 187) rfl),
  List.forall_mem_cons.mpr ⟨in_t4 (List.mem_of_getElem? (i := 189) rfl),
  List.forall_mem_cons.mpr ⟨in_sl (List.mem_of_getElem? (i := 38) rfl),
  List.forall_mem_cons.mpr ⟨in_t4 (List.mem_of_getElem? (i := 190) rfl),
  List.forall_mem_cons.mpr ⟨in_t4 (List.mem_of_getElem? (i := 191) rfl),
  List.forall_mem_cons.mpr ⟨in_t4 (List.mem_of_getElem? (i := 192) rfl),
  List.forall_mem_cons.mpr ⟨in_t4 (List.mem_of_getElem? (i := 193) rfl),
  fun _ h => absurd h List.not_mem_nil⟩⟩⟩⟩⟩⟩⟩⟩⟩⟩⟩⟩⟩⟩⟩⟩⟩⟩⟩⟩⟩⟩⟩⟩
set_option maxRecDepth 20000 in
theorem inr20 : ∀ w ∈ wsL_law_r20, w ∈ lw_tbl :=
  List.forall_mem_cons.mpr ⟨in_t2 (List.mem_of_getElem? (i := 200) rfl),
  List.forall_mem_cons.mpr ⟨in_t2 (List.mem_of_getElem? (i := 201) rfl),
  List.forall_mem_cons.mpr ⟨in_t2 (List.mem_of_getElem? (i := 202) rfl),
  List.forall_mem_cons.mpr ⟨in_t2 (List.mem_of_getElem? (i := 203) rfl),
  List.forall_mem_cons.mpr ⟨in_t2 (List.mem_of_getElem? (i := 204) rfl),
  List.forall_mem_cons.mpr ⟨in_t2 (List.mem_of_getElem? (i := 205) rfl),
  List.forall_mem_cons.mpr ⟨in_t2 (List.mem_of_getElem? (i := 206) rfl),
  List.forall_mem_cons.mpr ⟨in_t2 (List.mem_of_getElem? (i := 207) rfl),
  List.forall_mem_cons.mpr ⟨in_t2 (List.mem_of_getElem? (i := 208) rfl),
  List.forall_mem_cons.mpr ⟨in_t2 (List.mem_of_getElem? (i := 209) rfl),
  List.forall_mem_cons.mpr ⟨in_t2 (List.mem_of_getElem? (i := 210) rfl),
  List.forall_mem_cons.mpr ⟨in_t2 (List.mem_of_getElem? (i := 211) rfl),
  List.forall_mem_cons.mpr ⟨in_t2 (List.mem_of_getElem? (i := 212) rfl),
  List.forall_mem_cons.mpr ⟨in_t2 (List.mem_of_getElem? (i := 213) rfl),
  List.forall_mem_cons.mpr ⟨in_t2 (List.mem_of_getElem? (i := 214) rfl),
  List.forall_mem_cons.mpr ⟨in_t2 (List.mem_of_getElem? (i := 215) rfl),
  List.forall_mem_cons.mpr ⟨in_t4 (List.mem_of_getElem? (i := 194) rfl),
  List.forall_mem_cons.mpr ⟨in_t4 (List.mem_of_getElem? (i := 195) rfl),
  List.forall_mem_cons.mpr ⟨in_t4 (List.mem_of_getElem? (i := 196) rfl),
  List.forall_mem_cons.mpr ⟨in_t4 (List.mem_of_getElem? (i := 197) rfl),
  List.forall_mem_cons.mpr ⟨in_t4 (List.mem_of_getElem? (i := 198) rfl),
  List.forall_mem_cons.mpr ⟨in_t4 (List.mem_of_getElem? (i := 200) rfl),
  List.forall_mem_cons.mpr ⟨in_sl (List.mem_of_getElem? (i := 39) rfl),
  List.forall_mem_cons.mpr ⟨in_t4 (List.mem_of_getElem? (i := 201) rfl),
  fun _ h => absurd h List.not_mem_nil⟩⟩⟩⟩⟩⟩⟩⟩⟩⟩⟩⟩⟩⟩⟩⟩⟩⟩⟩⟩⟩⟩⟩⟩
set_option maxRecDepth 20000 in
theorem inr21 : ∀ w ∈ wsL_law_r21, w ∈ lw_tbl :=
  List.forall_mem_cons.mpr ⟨in_t4 (List.mem_of_getElem? (i := 202) rfl),
  List.forall_mem_cons.mpr ⟨in_t4 (List.mem_of_getElem? (i := 204) rfl),
  List.forall_mem_cons.mpr ⟨in_sl (List.mem_of_getElem? (i := 40) rfl),
  List.forall_mem_cons.mpr ⟨in_t4 (List.mem_of_getElem? (i := 205) rfl),
  List.forall_mem_cons.mpr ⟨in_t2 (List.mem_of_getElem? (i := 216) rfl),
  List.forall_mem_cons.mpr ⟨in_t2 (List.mem_of_getElem? (i := 217) rfl),
  List.forall_mem_cons.mpr ⟨in_t2 (List.mem_of_getElem? (i := 218) rfl),
  List.forall_mem_cons.mpr ⟨in_t2 (List.mem_of_getElem? (i := 219) rfl),
  List.forall_mem_cons.mpr ⟨in_t2 (List.mem_of_getElem? (i := 220) rfl),
  List.forall_mem_cons.mpr ⟨in_t2 (List.mem_of_getElem? (i := 221) rfl),
  List.forall_mem_cons.mpr ⟨in_t2 (List.mem_of_getElem? (i := 222) rfl),
  List.forall_mem_cons.mpr ⟨in_t2 (List.mem_of_getElem? (i := 223) rfl),
  List.forall_mem_cons.mpr ⟨in_t2 (List.mem_of_getElem? (i := 224) rfl),
  List.forall_mem_cons.mpr ⟨in_t2 (List.mem_of_getElem? (i := 225) rfl),
  List.forall_mem_cons.mpr ⟨in_t2 (List.mem_of_getElem? (i := 226) rfl),
  List.forall_mem_cons.mpr ⟨in_t2 (List.mem_of_getElem? (i := 227) rfl),
  List.forall_mem_cons.mpr ⟨in_t2 (List.mem_of_getElem? (i := 228) rfl),
  List.forall_mem_cons.mpr ⟨in_t2 (List.mem_of_getElem? (i := 229) rfl),
  List.forall_mem_cons.mpr ⟨in_t2 (List.mem_of_getElem? (i := 230) rfl),
  List.forall_mem_cons.mpr ⟨in_t2 (List.mem_of_getElem? (i := 231) rfl),
  List.forall_mem_cons.mpr ⟨in_t2 (List.mem_of_getElem? (i := 233) rfl),
  List.forall_mem_cons.mpr ⟨in_t2 (List.mem_of_getElem? (i := 234) rfl),
  List.forall_mem_cons.mpr ⟨in_t2 (List.mem_of_getElem? (i := 235) (by decide +kernel)),
  List.forall_mem_cons.mpr ⟨in_t2 (List.mem_of_getElem? (i := 232) rfl),
  fun _ h => absurd h List.not_mem_nil⟩⟩⟩⟩⟩⟩⟩⟩⟩⟩⟩⟩⟩⟩⟩⟩⟩⟩⟩⟩⟩⟩⟩⟩
set_option maxRecDepth 20000 in
theorem inr22 : ∀ w ∈ wsL_law_r22, w ∈ lw_tbl :=
  List.forall_mem_cons.mpr ⟨in_t2 (List.mem_of_getElem? (i := 236) rfl),
  List.forall_mem_cons.mpr ⟨in_t2 (List.mem_of_getElem? (i := 238) rfl),
  List.forall_mem_cons.mpr ⟨in_sl (List.mem_of_getElem? (i := 8) rfl),
  List.forall_mem_cons.mpr ⟨in_t2 (List.mem_of_getElem? (i := 239) rfl),
  List.forall_mem_cons.mpr ⟨in_t1 (List.mem_of_getElem? (i := 60) rfl),
  List.forall_mem_cons.mpr ⟨in_t3 (List.mem_of_getElem? (i := 0) rfl),
  List.forall_mem_cons.mpr ⟨in_t3 (List.mem_of_getElem? (i := 1) rfl),
  List.forall_mem_cons.mpr ⟨in_t4 (List.mem_of_getElem? (i := 206) rfl),
  List.forall_mem_cons.mpr ⟨in_t4 (List.mem_of_getElem? (i := 207) rfl),
  List.forall_mem_cons.mpr ⟨in_t4 (List.mem_of_getElem? (i := 208) rfl),
  List.forall_mem_cons.mpr ⟨in_t4 (List.mem_of_getElem? (i := 209) rfl),
  List.forall_mem_cons.mpr ⟨in_t4 (List.mem_of_getElem? (i := 210) rfl),
  List.forall_mem_cons.mpr ⟨in_t4 (List.mem_of_getElem? (i := 212) rfl),
  List.forall_mem_cons.mpr ⟨in_sl (List.mem_of_getElem? (i := 41) rfl),
  List.forall_mem_cons.mpr ⟨in_t4 (List.mem_of_getElem? (i := 213) rfl),
  List.forall_mem_cons.mpr ⟨in_t4 (List.mem_of_getElem? (i := 214) rfl),
  List.forall_mem_cons.mpr ⟨in_t4 (List.mem_of_getElem? (i := 216) rfl),
  List.forall_mem_cons.mpr ⟨in_sl (List.mem_of_getElem? (i := 42) rfl),
  List.forall_mem_cons.mpr ⟨in_t4 (List.mem_of_getElem? (i := 217) rfl),
  List.forall_mem_cons.mpr ⟨in_t3 (List.mem_of_getElem? (i := 2) rfl),
  List.forall_mem_cons.mpr ⟨in_t3 (List.mem_of_getElem? (i := 3) rfl),
  List.forall_mem_cons.mpr ⟨in_t3 (List.mem_of_getElem? (i := 4) rfl),
  List.forall_mem_cons.mpr ⟨in_t3 (List.mem_of_getElem? (i := 5) rfl),
  List.forall_mem_cons.mpr ⟨in_t3 (List.mem_of_getElem? (i := 6) rfl),
  fun _ h => absurd h List.not_mem_nil⟩⟩⟩⟩⟩⟩⟩⟩⟩⟩⟩⟩⟩⟩⟩⟩⟩⟩⟩⟩⟩⟩⟩⟩
set_option maxRecDepth 20000 in
theorem inr23 : ∀ w ∈ wsL_law_r23, w ∈ lw_tbl :=
  List.forall_mem_cons.mpr ⟨in_t3 (List.mem_of_getElem? (i := 7) rfl),
  List.forall_mem_cons.mpr ⟨in_t3 (List.mem_of_getElem? (i := 8) rfl),
  List.forall_mem_cons.mpr ⟨in_t3 (List.mem_of_getElem? (i := 9) rfl),
  List.forall_mem_cons.mpr ⟨in_t4 (List.mem_of_getElem? (i := 218) rfl),
  List.forall_mem_cons.mpr ⟨in_t4 (List.mem_of_getElem? (i := 219) rfl),
  List.forall_mem_cons.mpr ⟨in_t4 (List.mem_of_getElem? (i := 220) rfl),
  List.forall_mem_cons.mpr ⟨in_t4 (List.mem_of_getElem? (i := 221) rfl),
  List.forall_mem_cons.mpr ⟨in_t3 (List.mem_of_getElem? (i := 10) rfl),
  List.forall_mem_cons.mpr ⟨in_t3 (List.mem_of_getElem? (i := 11) rfl),
  List.forall_mem_cons.mpr ⟨in_t3 (List.mem_of_getElem? (i := 12) rfl),
  List.forall_mem_cons.mpr ⟨in_t3 (List.mem_of_getElem? (i := 13) rfl),
  List.forall_mem_cons.mpr ⟨in_t3 (List.mem_of_getElem? (i := 14) rfl),
  List.forall_mem_cons.mpr ⟨in_t3 (List.mem_of_getElem? (i := 16) rfl),
  List.forall_mem_cons.mpr ⟨in_sl (List.mem_of_getElem? (i := 9) rfl),
  List.forall_mem_cons.mpr ⟨in_t3 (List.mem_of_getElem? (i := 17) rfl),
  List.forall_mem_cons.mpr ⟨in_t3 (List.mem_of_getElem? (i := 18) rfl),
  List.forall_mem_cons.mpr ⟨in_t3 (List.mem_of_getElem? (i := 20) rfl),
  List.forall_mem_cons.mpr ⟨in_sl (List.mem_of_getElem? (i := 10) rfl),
  List.forall_mem_cons.mpr ⟨in_t3 (List.mem_of_getElem? (i := 21) rfl),
  List.forall_mem_cons.mpr ⟨in_t3 (List.mem_of_getElem? (i := 22) rfl),
  List.forall_mem_cons.mpr ⟨in_t3 (List.mem_of_getElem? (i := 23) rfl),
  List.forall_mem_cons.mpr ⟨in_t4 (List.mem_of_getElem? (i := 222) rfl),
  List.forall_mem_cons.mpr ⟨in_t4 (List.mem_of_getElem? (i := 223) rfl),
  List.forall_mem_cons.mpr ⟨in_t4 (List.mem_of_getElem? (i := 224) rfl),
  fun _ h => absurd h List.not_mem_nil⟩⟩⟩⟩⟩⟩⟩⟩⟩⟩⟩⟩⟩⟩⟩⟩⟩⟩⟩⟩⟩⟩⟩⟩
set_option maxRecDepth 20000 in
theorem inr24 : ∀ w ∈ wsL_law_r24, w ∈ lw_tbl :=
  List.forall_mem_cons.mpr ⟨in_t4 (List.mem_of_getElem? (i := 225) rfl),
  List.forall_mem_cons.mpr ⟨in_t4 (List.mem_of_getElem? (i := 226) rfl),
  List.forall_mem_cons.mpr ⟨in_t4 (List.mem_of_getElem? (i := 227) rfl),
  List.forall_mem_cons.mpr ⟨in_t4 (List.mem_of_getElem? (i := 229) rfl),
  List.forall_mem_cons.mpr ⟨in_sl (List.mem_of_getElem? (i := 43) rfl),
  List.forall_mem_cons.mpr ⟨in_t4 (List.mem_of_getElem? (i := 230) rfl),
  List.forall_mem_cons.mpr ⟨in_t4 (List.mem_of_getElem? (i := 231) rfl),
  List.forall_mem_cons.mpr ⟨in_t4 (List.mem_of_getElem? (i := 233) rfl),
  List.forall_mem_cons.mpr ⟨in_sl (List.mem_of_getElem? (i := 44) rfl),
  List.forall_mem_cons.mpr ⟨in_t4 (List.mem_of_getElem? (i := 234) rfl),
  List.forall_mem_cons.mpr ⟨in_t3 (List.mem_of_getElem? (i := 24) rfl),
  List.forall_mem_cons.mpr ⟨in_t3 (List.mem_of_getElem? (i := 25) rfl),
  List.forall_mem_cons.mpr ⟨in_t3 (List.mem_of_getElem? (i := 26) rfl),
  List.forall_mem_cons.mpr ⟨in_t3 (List.mem_of_getElem? (i := 27) rfl),
  List.forall_mem_cons.mpr ⟨in_t3 (List.mem_of_getElem? (i := 28) rfl),
  List.forall_mem_cons.mpr ⟨in_t3 (List.mem_of_getElem? (i := 30) rfl),
  List.forall_mem_cons.mpr ⟨in_sl (List.mem_of_getElem? (i := 11) rfl),
  List.forall_mem_cons.mpr ⟨in_t3 (List.mem_of_getElem? (i := 31) rfl),
  List.forall_mem_cons.mpr ⟨in_t3 (List.mem_of_getElem? (i := 32) rfl),
  List.forall_mem_cons.mpr ⟨in_t3 (List.mem_of_getElem? (i := 34) rfl),
  List.forall_mem_cons.mpr ⟨in_sl (List.mem_of_getElem? (i := 12) rfl),
  List.forall_mem_cons.mpr ⟨in_t3 (List.mem_of_getElem? (i := 35) rfl),
  List.forall_mem_cons.mpr ⟨in_t3 (List.mem_of_getElem? (i := 36) rfl),
  List.forall_mem_cons.mpr ⟨in_t3 (List.mem_of_getElem? (i := 37) rfl),
  fun _ h => absurd h List.not_mem_nil⟩⟩⟩⟩⟩⟩⟩⟩⟩⟩⟩⟩⟩⟩⟩⟩⟩⟩⟩⟩⟩⟩⟩⟩
set_option maxRecDepth 20000 in
theorem inr25 : ∀ w ∈ wsL_law_r25, w ∈ lw_tbl :=
  List.forall_mem_cons.mpr ⟨in_t4 (List.mem_of_getElem? (i := 235) rfl),
  List.forall_mem_cons.mpr ⟨in_t4 (List.mem_of_getElem? (i := 236) rfl),
  List.forall_mem_cons.mpr ⟨in_t4 (List.mem_of_getElem? (i := 237) rfl),
  List.forall_mem_cons.mpr ⟨in_t4 (List.mem_of_getElem? (i := 238) rfl),
  List.forall_mem_cons.mpr ⟨in_t4 (List.mem_of_getElem? (i := 239) rfl),
  List.forall_mem_cons.mpr ⟨in_t5 (List.mem_of_getElem? (i := 1) rfl),
  List.forall_mem_cons.mpr ⟨in_sl (List.mem_of_getElem? (i := 45) rfl),
  List.forall_mem_cons.mpr ⟨in_t5 (List.mem_of_getElem? (i := 2) rfl),
  List.forall_mem_cons.mpr ⟨in_t3 (List.mem_of_getElem? (i := 38) rfl),
  List.forall_mem_cons.mpr ⟨in_t3 (List.mem_of_getElem? (i := 39) rfl),
  List.forall_mem_cons.mpr ⟨in_t3 (List.mem_of_getElem? (i := 40) rfl),
  List.forall_mem_cons.mpr ⟨in_t3 (List.mem_of_getElem? (i := 41) rfl),
  List.forall_mem_cons.mpr ⟨in_t1 (List.mem_of_getElem? (i := 167) rfl),
  List.forall_mem_cons.mpr ⟨in_t3 (List.mem_of_getElem? (i := 42) rfl),
  List.forall_mem_cons.mpr ⟨in_t3 (List.mem_of_getElem? (i := 43) rfl),
  List.forall_mem_cons.mpr ⟨in_t3 (List.mem_of_getElem? (i := 44) rfl),
  List.forall_mem_cons.mpr ⟨in_t3 (List.mem_of_getElem? (i := 45) rfl),
  List.forall_mem_cons.mpr ⟨in_t1 (List.mem_of_getElem? (i := 164) rfl),
  List.forall_mem_cons.mpr ⟨in_t1 (List.mem_of_getElem? (i := 166) rfl),
  List.forall_mem_cons.mpr ⟨in_t3 (List.mem_of_getElem? (i := 46) rfl),
  List.forall_mem_cons.mpr ⟨in_t3 (List.mem_of_getElem? (i := 47) rfl),
  List.forall_mem_cons.mpr ⟨in_t3 (List.mem_of_getElem? (i := 48) rfl),
  List.forall_mem_cons.mpr ⟨in_t3 (List.mem_of_getElem? (i := 49) rfl),
  List.forall_mem_cons.mpr ⟨in_t3 (List.mem_of_getElem? (i := 50) rfl),
  fun _ h => absurd h List.not_mem_nil⟩⟩⟩⟩⟩⟩⟩⟩⟩⟩⟩⟩⟩⟩⟩⟩⟩⟩⟩⟩⟩⟩⟩⟩
set_option maxRecDepth 20000 in
theorem inr26 : ∀ w ∈ wsL_law_r26, w ∈ lw_tbl :=
  List.forall_mem_cons.mpr ⟨in_t5 (List.mem_of_getElem? (i := 3) rfl),
  List.forall_mem_cons.mpr ⟨in_t5 (List.mem_of_getElem? (i := 4) rfl),
  List.forall_mem_cons.mpr ⟨in_t5 (List.mem_of_getElem? (i := 5) rfl),
  List.forall_mem_cons.mpr ⟨in_t5 (List.mem_of_getElem? (i := 6) rfl),
  List.forall_mem_cons.mpr ⟨in_t3 (List.mem_of_getElem? (i := 51) rfl),
  List.forall_mem_cons.mpr ⟨in_t3 (List.mem_of_getElem? (i := 52) rfl),
  List.forall_mem_cons.mpr ⟨in_t3 (List.mem_of_getElem? (i := 53) rfl),
  List.forall_mem_cons.mpr ⟨in_t3 (List.mem_of_getElem? (i := 54) rfl),
  List.forall_mem_cons.mpr ⟨in_t5 (List.mem_of_getElem? (i := 7) rfl),
  List.forall_mem_cons.mpr ⟨in_t5 (List.mem_of_getElem? (i := 8) rfl),
  List.forall_mem_cons.mpr ⟨in_t5 (List.mem_of_getElem? (i := 9) rfl),
  List.forall_mem_cons.mpr ⟨in_t5 (List.mem_of_getElem? (i := 10) rfl),
  List.forall_mem_cons.mpr ⟨in_t3 (List.mem_of_getElem? (i := 55) rfl),
  List.forall_mem_cons.mpr ⟨in_t3 (List.mem_of_getElem? (i := 56) rfl),
  List.forall_mem_cons.mpr ⟨in_t3 (List.mem_of_getElem? (i := 57) rfl),
  List.forall_mem_cons.mpr ⟨in_t3 (List.mem_of_getElem? (i := 58) rfl),
  List.forall_mem_cons.mpr ⟨in_t1 (List.mem_of_getElem? (i := 165) rfl),
  List.forall_mem_cons.mpr ⟨in_t3 (List.mem_of_getElem? (i := 59) rfl),
  List.forall_mem_cons.mpr ⟨in_t3 (List.mem_of_getElem? (i := 61) rfl),
  List.forall_mem_cons.mpr ⟨in_sl (List.mem_of_getElem? (i := 13) rfl),
  List.forall_mem_cons.mpr ⟨in_t3 (List.mem_of_getElem? (i := 62) rfl),
  List.forall_mem_cons.mpr ⟨in_t3 (List.mem_of_getElem? (i := 63) rfl),
  List.forall_mem_cons.mpr ⟨in_t3 (List.mem_of_getElem? (i := 64) rfl),
  List.forall_mem_cons.mpr ⟨in_t3 (List.mem_of_getElem? (i := 65) rfl),
  fun _ h => absurd h List.not_mem_nil⟩⟩⟩⟩⟩⟩⟩⟩⟩⟩⟩⟩⟩⟩⟩⟩⟩⟩⟩⟩⟩⟩⟩⟩
set_option maxRecDepth 20000 in
theorem inr27 : ∀ w ∈ wsL_law_r27, w ∈ lw_tbl :=
  List.forall_mem_cons.mpr ⟨in_t3 (List.mem_of_getElem? (i := 66) rfl),
  List.forall_mem_cons.mpr ⟨in_t3 (List.mem_of_getElem? (i := 68) rfl),
  List.forall_mem_cons.mpr ⟨in_sl (List.mem_of_getElem? (i := 14) rfl),
  List.forall_mem_cons.mpr ⟨in_t3 (List.mem_of_getElem? (i := 69) rfl),
  List.forall_mem_cons.mpr ⟨in_t3 (List.mem_of_getElem? (i := 70) rfl),
  List.forall_mem_cons.mpr ⟨in_t3 (List.mem_of_getElem? (i := 72) rfl),
  List.forall_mem_cons.mpr ⟨in_sl (List.mem_of_getElem? (i := 15) rfl),
  List.forall_mem_cons.mpr ⟨in_t3 (List.mem_of_getElem? (i := 73) rfl),
  List.forall_mem_cons.mpr ⟨in_t3 (List.mem_of_getElem? (i := 74) rfl),
  List.forall_mem_cons.mpr ⟨in_t3 (List.mem_of_getElem? (i := 75) rfl),
  List.forall_mem_cons.mpr ⟨in_t3 (List.mem_of_getElem? (i := 76) rfl),
  List.forall_mem_cons.mpr ⟨in_t3 (List.mem_of_getElem? (i := 77) rfl),
  List.forall_mem_cons.mpr ⟨in_t3 (List.mem_of_getElem? (i := 78) rfl),
  List.forall_mem_cons.mpr ⟨in_t3 (List.mem_of_getElem? (i := 80) rfl),
  List.forall_mem_cons.mpr ⟨in_sl (List.mem_of_getElem? (i := 16) rfl),
  List.forall_mem_cons.mpr ⟨in_t3 (List.mem_of_getElem? (i := 81) rfl),
  List.forall_mem_cons.mpr ⟨in_t5 (List.mem_of_getElem? (i := 11) rfl),
  List.forall_mem_cons.mpr ⟨in_t5 (List.mem_of_getElem? (i := 12) rfl),
  List.forall_mem_cons.mpr ⟨in_t5 (List.mem_of_getElem? (i := 13) rfl),
  List.forall_mem_cons.mpr ⟨in_t5 (List.mem_of_getElem? (i := 14) rfl),
  List.forall_mem_cons.mpr ⟨in_t5 (List.mem_of_getElem? (i := 15) rfl),
  List.forall_mem_cons.mpr ⟨in_t5 (List.mem_of_getElem? (i := 17) rfl),
  List.forall_mem_cons.mpr ⟨in_sl (List.mem_of_getElem? (i := 46) rfl),
  List.forall_mem_cons.mpr ⟨in_t5 (List.mem_of_getElem? (i := 18) rfl),
  fun _ h => absurd h List.not_mem_nil⟩⟩⟩⟩⟩⟩⟩⟩⟩⟩⟩⟩⟩⟩⟩⟩⟩⟩⟩⟩⟩⟩⟩⟩
set_option maxRecDepth 20000 in
theorem inr28 : ∀ w ∈ wsL_law_r28, w ∈ lw_tbl :=
  List.forall_mem_cons.mpr ⟨in_t5 (List.mem_of_getElem? (i := 19) rfl),
  List.forall_mem_cons.mpr ⟨in_t5 (List.mem_of_getElem? (i := 21) rfl),
  List.forall_mem_cons.mpr ⟨in_sl (List.mem_of_getElem? (i := 47) rfl),
  List.forall_mem_cons.mpr ⟨in_t5 (List.mem_of_getElem? (i := 22) rfl),
  List.forall_mem_cons.mpr ⟨in_t3 (List.mem_of_getElem? (i := 82) rfl),
  List.forall_mem_cons.mpr ⟨in_t3 (List.mem_of_getElem? (i := 83) rfl),
  List.forall_mem_cons.mpr ⟨in_t3 (List.mem_of_getElem? (i := 84) rfl),
  List.forall_mem_cons.mpr ⟨in_t3 (List.mem_of_getElem? (i := 85) rfl),
  List.forall_mem_cons.mpr ⟨in_t3 (List.mem_of_getElem? (i := 86) rfl),
  List.forall_mem_cons.mpr ⟨in_t3 (List.mem_of_getElem? (i := 87) rfl),
  List.forall_mem_cons.mpr ⟨in_t3 (List.mem_of_getElem? (i := 88) rfl),
  List.forall_mem_cons.mpr ⟨in_t3 (List.mem_of_getElem? (i := 89) rfl),
  List.forall_mem_cons.mpr ⟨in_t1 (List.mem_of_getElem? (i := 68) rfl),
  List.forall_mem_cons.mpr ⟨in_t3 (List.mem_of_getElem? (i := 90) rfl),
  List.forall_mem_cons.mpr ⟨in_t3 (List.mem_of_getElem? (i := 91) rfl),
  List.forall_mem_cons.mpr ⟨in_t3 (List.mem_of_getElem? (i := 92) rfl),
  List.forall_mem_cons.mpr ⟨in_t3 (List.mem_of_getElem? (i := 93) rfl),
  List.forall_mem_cons.mpr ⟨in_t5 (List.mem_of_getElem? (i := 23) rfl),
  List.forall_mem_cons.mpr ⟨in_t5 (List.mem_of_getElem? (i := 24) rfl),
  List.forall_mem_cons.mpr ⟨in_t5 (List.mem_of_getElem? (i := 25) rfl),
  List.forall_mem_cons.mpr ⟨in_t5 (List.mem_of_getElem? (i := 26) rfl),
  List.forall_mem_cons.mpr ⟨in_t5 (List.mem_of_getElem? (i := 27) rfl),
  List.forall_mem_cons.mpr ⟨in_t5 (List.mem_of_getElem? (i := 29) rfl),
  List.forall_mem_cons.mpr ⟨in_sl (List.mem_of_getElem? (i := 48) rfl),
  fun _ h => absurd h List.not_mem_nil⟩⟩⟩⟩⟩⟩⟩⟩⟩⟩⟩⟩⟩⟩⟩⟩⟩⟩⟩⟩⟩⟩⟩⟩
set_option maxRecDepth 20000 in
theorem inr29 : ∀ w ∈ wsL_law_r29, w ∈ lw_tbl :=
  List.forall_mem_cons.mpr ⟨in_t5 (List.mem_of_getElem? (i := 30) rfl),
  List.forall_mem_cons.mpr ⟨in_t3 (List.mem_of_getElem? (i := 95) rfl),
  List.forall_mem_cons.mpr ⟨in_t3 (List.mem_of_getElem? (i := 96) rfl),
  List.forall_mem_cons.mpr ⟨in_t3 (List.mem_of_getElem? (i := 97) rfl),
  List.forall_mem_cons.mpr ⟨in_t3 (List.mem_of_getElem? (i := 98) rfl),
  List.forall_mem_cons.mpr ⟨in_t3 (List.mem_of_getElem? (i := 99) rfl),
  List.forall_mem_cons.mpr ⟨in_t3 (List.mem_of_getElem? (i := 100) rfl),
  List.forall_mem_cons.mpr ⟨in_t3 (List.mem_of_getElem? (i := 101) rfl),
  List.forall_mem_cons.mpr ⟨in_t3 (List.mem_of_getElem? (i := 102) rfl),
  List.forall_mem_cons.mpr ⟨in_t3 (List.mem_of_getElem? (i := 103) rfl),
  List.forall_mem_cons.mpr ⟨in_t3 (List.mem_of_getElem? (i := 104) rfl),
  List.forall_mem_cons.mpr ⟨in_t3 (List.mem_of_getElem? (i := 105) rfl),
  List.forall_mem_cons.mpr ⟨in_t3 (List.mem_of_getElem? (i := 107) rfl),
  List.forall_mem_cons.mpr ⟨in_sl (List.mem_of_getElem? (i := 17) rfl),
  List.forall_mem_cons.mpr ⟨in_t3 (List.mem_of_getElem? (i := 108) rfl),
  List.forall_mem_cons.mpr ⟨in_t3 (List.mem_of_getElem? (i := 109) rfl),
  List.forall_mem_cons.mpr ⟨in_t3 (List.mem_of_getElem? (i := 111) rfl),
  List.forall_mem_cons.mpr ⟨in_sl (List.mem_of_getElem? (i := 18) rfl),
  List.forall_mem_cons.mpr ⟨in_t3 (List.mem_of_getElem? (i := 112) rfl),
  List.forall_mem_cons.mpr ⟨in_t3 (List.mem_of_getElem? (i := 113) rfl),
  List.forall_mem_cons.mpr ⟨in_t3 (List.mem_of_getElem? (i := 115) rfl),
  List.forall_mem_cons.mpr ⟨in_sl (List.mem_of_getElem? (i := 19) rfl),
  List.forall_mem_cons.mpr ⟨in_t3 (List.mem_of_getElem? (i := 116) rfl),
  List.forall_mem_cons.mpr ⟨in_t5 (List.mem_of_getElem? (i := 31) rfl),
  fun _ h => absurd h List.not_mem_nil⟩⟩⟩⟩⟩⟩⟩⟩⟩⟩⟩⟩⟩⟩⟩⟩⟩⟩⟩⟩⟩⟩⟩⟩
set_option maxRecDepth 20000 in
theorem inr30 : ∀ w ∈ wsL_law_r30, w ∈ lw_tbl :=
  List.forall_mem_cons.mpr ⟨in_t5 (List.mem_of_getElem? (i := 32) rfl),
  List.forall_mem_cons.mpr ⟨in_t5 (List.mem_of_getElem? (i := 33) rfl),
  List.forall_mem_cons.mpr ⟨in_t5 (List.mem_of_getElem? (i := 34) rfl),
  List.forall_mem_cons.mpr ⟨in_t5 (List.mem_of_getElem? (i := 35) rfl),
  List.forall_mem_cons.mpr ⟨in_t5 (List.mem_of_getElem? (i := 44) rfl),
  List.forall_mem_cons.mpr ⟨in_t5 (List.mem_of_getElem? (i := 36) rfl),
  List.forall_mem_cons.mpr ⟨in_t5 (List.mem_of_getElem? (i := 37) rfl),
  List.forall_mem_cons.mpr ⟨in_t5 (List.mem_of_getElem? (i := 38) rfl),
  List.forall_mem_cons.mpr ⟨in_t5 (List.mem_of_getElem? (i := 39) rfl),
  List.forall_mem_cons.mpr ⟨in_t5 (List.mem_of_getElem? (i := 40) rfl),
  List.forall_mem_cons.mpr ⟨in_t5 (List.mem_of_getElem? (i := 42) rfl),
  List.forall_mem_cons.mpr ⟨in_sl (List.mem_of_getElem? (i := 49) rfl),
  List.forall_mem_cons.mpr ⟨in_t5 (List.mem_of_getElem? (i := 43) rfl),
  List.forall_mem_cons.mpr ⟨in_t5 (List.mem_of_getElem? (i := 45) rfl),
  List.forall_mem_cons.mpr ⟨in_t5 (List.mem_of_getElem? (i := 47) rfl),
  List.forall_mem_cons.mpr ⟨in_sl (List.mem_of_getElem? (i := 50) rfl),
  List.forall_mem_cons.mpr ⟨in_t5 (List.mem_of_getElem? (i := 48) rfl),
  List.forall_mem_cons.mpr ⟨in_t3 (List.mem_of_getElem? (i := 117) rfl),
  List.forall_mem_cons.mpr ⟨in_t3 (List.mem_of_getElem? (i := 118) rfl),
  List.forall_mem_cons.mpr ⟨in_t3 (List.mem_of_getElem? (i := 119) rfl),
  List.forall_mem_cons.mpr ⟨in_t3 (List.mem_of_getElem? (i := 120) rfl),
  List.forall_mem_cons.mpr ⟨in_t3 (List.mem_of_getElem? (i := 121) rfl),
  List.forall_mem_cons.mpr ⟨in_t3 (List.mem_of_getElem? (i := 122) rfl),
  List.forall_mem_cons.mpr ⟨in_t3 (List.mem_of_getElem? (i := 123) rfl),
  fun _ h => absurd h List.not_mem_nil⟩⟩⟩⟩⟩⟩⟩⟩⟩⟩⟩⟩⟩⟩⟩⟩⟩⟩⟩⟩⟩⟩⟩⟩
set_option maxRecDepth 20000 in
theorem inr31 : ∀ w ∈ wsL_law_r31, w ∈ lw_tbl :=
  List.forall_mem_cons.mpr ⟨in_t3 (List.mem_of_getElem? (i := 124) rfl),
  List.forall_mem_cons.mpr ⟨in_t1 (List.mem_of_getElem? (i := 145) rfl),
  List.forall_mem_cons.mpr ⟨in_t5 (List.mem_of_getElem? (i := 49) rfl),
  List.forall_mem_cons.mpr ⟨in_t5 (List.mem_of_getElem? (i := 50) rfl),
  List.forall_mem_cons.mpr ⟨in_t5 (List.mem_of_getElem? (i := 51) rfl),
  List.forall_mem_cons.mpr ⟨in_t5 (List.mem_of_getElem? (i := 52) rfl),
  List.forall_mem_cons.mpr ⟨in_t4 (List.mem_of_getElem? (i := 14) rfl),
  List.forall_mem_cons.mpr ⟨in_t3 (List.mem_of_getElem? (i := 126) rfl),
  List.forall_mem_cons.mpr ⟨in_t3 (List.mem_of_getElem? (i := 127) rfl),
  List.forall_mem_cons.mpr ⟨in_t3 (List.mem_of_getElem? (i := 128) rfl),
  List.forall_mem_cons.mpr ⟨in_t3 (List.mem_of_getElem? (i := 129) rfl),
  List.forall_mem_cons.mpr ⟨in_t1 (List.mem_of_getElem? (i := 146) rfl),
  List.forall_mem_cons.mpr ⟨in_t5 (List.mem_of_getElem? (i := 53) rfl),
  List.forall_mem_cons.mpr ⟨in_t5 (List.mem_of_getElem? (i := 54) rfl),
  List.forall_mem_cons.mpr ⟨in_t5 (List.mem_of_getElem? (i := 55) rfl),
  List.forall_mem_cons.mpr ⟨in_t5 (List.mem_of_getElem? (i := 56) rfl),
  List.forall_mem_cons.mpr ⟨in_t3 (List.mem_of_getElem? (i := 130) rfl),
  List.forall_mem_cons.mpr ⟨in_t3 (List.mem_of_getElem? (i := 131) rfl),
  List.forall_mem_cons.mpr ⟨in_t3 (List.mem_of_getElem? (i := 132) rfl),
  List.forall_mem_cons.mpr ⟨in_t3 (List.mem_of_getElem? (i := 133) rfl),
  List.forall_mem_cons.mpr ⟨in_t3 (List.mem_of_getElem? (i := 134) rfl),
  List.forall_mem_cons.mpr ⟨in_t3 (List.mem_of_getElem? (i := 136) rfl),
  List.forall_mem_cons.mpr ⟨in_sl (List.mem_of_getElem? (i := 20) rfl),
  List.forall_mem_cons.mpr ⟨in_t3 (List.mem_of_getElem? (i := 137) rfl),
  fun _ h => absurd h List.not_mem_nil⟩⟩⟩⟩⟩⟩⟩⟩⟩⟩⟩⟩⟩⟩⟩⟩⟩⟩⟩⟩⟩⟩⟩⟩
set_option maxRecDepth 20000 in
theorem inr32 : ∀ w ∈ wsL_law_r32, w ∈ lw_tbl :=
  List.forall_mem_cons.mpr ⟨in_t1 (List.mem_of_getElem? (i := 138) rfl),
  List.forall_mem_cons.mpr ⟨in_t1 (List.mem_of_getElem? (i := 142) rfl),
  List.forall_mem_cons.mpr ⟨in_t1 (List.mem_of_getElem? (i := 140) rfl),
  List.forall_mem_cons.mpr ⟨in_t1 (List.mem_of_getElem? (i := 144) rfl),
  List.forall_mem_cons.mpr ⟨in_t5 (List.mem_of_getElem? (i := 57) rfl),
  List.forall_mem_cons.mpr ⟨in_t5 (List.mem_of_getElem? (i := 58) rfl),
  List.forall_mem_cons.mpr ⟨in_t5 (List.mem_of_getElem? (i := 59) rfl),
  List.forall_mem_cons.mpr ⟨in_t5 (List.mem_of_getElem? (i := 60) rfl),
  List.forall_mem_cons.mpr ⟨in_t5 (List.mem_of_getElem? (i := 61) rfl),
  List.forall_mem_cons.mpr ⟨in_t5 (List.mem_of_getElem? (i := 62) rfl),
  List.forall_mem_cons.mpr ⟨in_t5 (List.mem_of_getElem? (i := 64) rfl),
  List.forall_mem_cons.mpr ⟨in_sl (List.mem_of_getElem? (i := 51) rfl),
  List.forall_mem_cons.mpr ⟨in_t5 (List.mem_of_getElem? (i := 65) rfl),
  List.forall_mem_cons.mpr ⟨in_t3 (List.mem_of_getElem? (i := 138) rfl),
  List.forall_mem_cons.mpr ⟨in_t3 (List.mem_of_getElem? (i := 139) rfl),
  List.forall_mem_cons.mpr ⟨in_t3 (List.mem_of_getElem? (i := 140) rfl),
  List.forall_mem_cons.mpr ⟨in_t3 (List.mem_of_getElem? (i := 141) rfl),
  List.forall_mem_cons.mpr ⟨in_t3 (List.mem_of_getElem? (i := 142) rfl),
  List.forall_mem_cons.mpr ⟨in_t3 (List.mem_of_getElem? (i := 143) rfl),
  List.forall_mem_cons.mpr ⟨in_t3 (List.mem_of_getElem? (i := 144) rfl),
  List.forall_mem_cons.mpr ⟨in_t3 (List.mem_of_getElem? (i := 145) rfl),
  List.forall_mem_cons.mpr ⟨in_t3 (List.mem_of_getElem? (i := 146) rfl),
  List.forall_mem_cons.mpr ⟨in_t3 (List.mem_of_getElem? (i := 147) (by decide +kernel)),
  List.forall_mem_cons.mpr ⟨in_t3 (List.mem_of_getElem? (i := 148) rfl),
  fun _ h => absurd h List.not_mem_nil⟩⟩⟩⟩⟩⟩⟩⟩⟩⟩⟩⟩⟩⟩⟩⟩⟩⟩⟩⟩⟩⟩⟩⟩
set_option maxRecDepth 20000 in
theorem inr33 : ∀ w ∈ wsL_law_r33, w ∈ lw_tbl :=
  List.forall_mem_cons.mpr ⟨in_t3 (List.mem_of_getElem? (i := 149) rfl),
  List.forall_mem_cons.mpr ⟨in_t3 (List.mem_of_getElem? (i := 150) rfl),
  List.forall_mem_cons.mpr ⟨in_t3 (List.mem_of_getElem? (i := 151) rfl),
  List.forall_mem_cons.mpr ⟨in_t3 (List.mem_of_getElem? (i := 152) rfl),
  List.forall_mem_cons.mpr ⟨in_t3 (List.mem_of_getElem? (i := 153) rfl),
  List.forall_mem_cons.mpr ⟨in_t5 (List.mem_of_getElem? (i := 66) rfl),
  List.forall_mem_cons.mpr ⟨in_t5 (List.mem_of_getElem? (i := 67) rfl),
  List.forall_mem_cons.mpr ⟨in_t5 (List.mem_of_getElem? (i := 68) rfl),
  List.forall_mem_cons.mpr ⟨in_t5 (List.mem_of_getElem? (i := 69) rfl),
  List.forall_mem_cons.mpr ⟨in_t5 (List.mem_of_getElem? (i := 70) rfl),
  List.forall_mem_cons.mpr ⟨in_t5 (List.mem_of_getElem? (i := 71) rfl),
  List.forall_mem_cons.mpr ⟨in_t5 (List.mem_of_getElem? (i := 72) rfl),
  List.forall_mem_cons.mpr ⟨in_t5 (List.mem_of_getElem? (i := 73) rfl),
  List.forall_mem_cons.mpr ⟨in_t5 (List.mem_of_getElem? (i := 75) rfl),
  List.forall_mem_cons.mpr ⟨in_sl (List.mem_of_getElem? (i := 52) rfl),
  List.forall_mem_cons.mpr ⟨in_t5 (List.mem_of_getElem? (i := 76) rfl),
  List.forall_mem_cons.mpr ⟨in_t5 (List.mem_of_getElem? (i := 77) rfl),
  List.forall_mem_cons.mpr ⟨in_t5 (List.mem_of_getElem? (i := 78) rfl),
  List.forall_mem_cons.mpr ⟨in_t5 (List.mem_of_getElem? (i := 79) rfl),
  List.forall_mem_cons.mpr ⟨in_t3 (List.mem_of_getElem? (i := 154) rfl),
  List.forall_mem_cons.mpr ⟨in_t3 (List.mem_of_getElem? (i := 155) rfl),
  List.forall_mem_cons.mpr ⟨in_t3 (List.mem_of_getElem? (i := 156) rfl),
  List.forall_mem_cons.mpr ⟨in_t3 (List.mem_of_getElem? (i := 157) rfl),
  List.forall_mem_cons.mpr ⟨in_t3 (List.mem_of_getElem? (i := 158) rfl),
  fun _ h => absurd h List.not_mem_nil⟩⟩⟩⟩⟩⟩⟩⟩⟩⟩⟩⟩⟩⟩⟩⟩⟩⟩⟩⟩⟩⟩⟩⟩
set_option maxRecDepth 20000 in
theorem inr34 : ∀ w ∈ wsL_law_r34, w ∈ lw_tbl :=
  List.forall_mem_cons.mpr ⟨in_t3 (List.mem_of_getElem? (i := 160) rfl),
  List.forall_mem_cons.mpr ⟨in_sl (List.mem_of_getElem? (i := 21) rfl),
  List.forall_mem_cons.mpr ⟨in_t3 (List.mem_of_getElem? (i := 161) rfl),
  List.forall_mem_cons.mpr ⟨in_t3 (List.mem_of_getElem? (i := 162) rfl),
  List.forall_mem_cons.mpr ⟨in_t3 (List.mem_of_getElem? (i := 164) rfl),
  List.forall_mem_cons.mpr ⟨in_sl (List.mem_of_getElem? (i := 22) rfl),
  List.forall_mem_cons.mpr ⟨in_t3 (List.mem_of_getElem? (i := 165) rfl),
  List.forall_mem_cons.mpr ⟨in_t3 (List.mem_of_getElem? (i := 166) rfl),
  List.forall_mem_cons.mpr ⟨in_t3 (List.mem_of_getElem? (i := 168) rfl),
  List.forall_mem_cons.mpr ⟨in_sl (List.mem_of_getElem? (i := 23) rfl),
  List.forall_mem_cons.mpr ⟨in_t3 (List.mem_of_getElem? (i := 169) rfl),
  List.forall_mem_cons.mpr ⟨in_t3 (List.mem_of_getElem? (i := 170) rfl),
  List.forall_mem_cons.mpr ⟨in_t3 (List.mem_of_getElem? (i := 171) rfl),
  List.forall_mem_cons.mpr ⟨in_t3 (List.mem_of_getElem? (i := 172) rfl),
  List.forall_mem_cons.mpr ⟨in_t5 (List.mem_of_getElem? (i := 80) rfl),
  List.forall_mem_cons.mpr ⟨in_t5 (List.mem_of_getElem? (i := 81) rfl),
  List.forall_mem_cons.mpr ⟨in_t5 (List.mem_of_getElem? (i := 82) rfl),
  List.forall_mem_cons.mpr ⟨in_t5 (List.mem_of_getElem? (i := 83) rfl),
  List.forall_mem_cons.mpr ⟨in_t5 (List.mem_of_getElem? (i := 84) rfl),
  List.forall_mem_cons.mpr ⟨in_t5 (List.mem_of_getElem? (i := 86) rfl),
  List.forall_mem_cons.mpr ⟨in_sl (List.mem_of_getElem? (i := 53) rfl),
  List.forall_mem_cons.mpr ⟨in_t5 (List.mem_of_getElem? (i := 87) rfl),
  List.forall_mem_cons.mpr ⟨in_t5 (List.mem_of_getElem? (i := 88) rfl),
  List.forall_mem_cons.mpr ⟨in_t5 (List.mem_of_getElem? (i := 90) rfl),
  fun _ h => absurd h List.not_mem_nil⟩⟩⟩⟩⟩⟩⟩⟩⟩⟩⟩⟩⟩⟩⟩⟩⟩⟩⟩⟩⟩⟩⟩⟩
set_option maxRecDepth 20000 in
theorem inr35 : ∀ w ∈ wsL_law_r35, w ∈ lw_tbl :=
  List.forall_mem_cons.mpr ⟨in_sl (List.mem_of_getElem? (i := 54) rfl),
  List.forall_mem_cons.mpr ⟨in_t5 (List.mem_of_getElem? (i := 91) rfl),
  List.forall_mem_cons.mpr ⟨in_t5 (List.mem_of_getElem? (i := 92) rfl),
  List.forall_mem_cons.mpr ⟨in_t5 (List.mem_of_getElem? (i := 94) rfl),
  List.forall_mem_cons.mpr ⟨in_sl (List.mem_of_getElem? (i := 55) rfl),
  List.forall_mem_cons.mpr ⟨in_t5 (List.mem_of_getElem? (i := 95) rfl),
  List.forall_mem_cons.mpr ⟨in_t3 (List.mem_of_getElem? (i := 173) rfl),
  List.forall_mem_cons.mpr ⟨in_t3 (List.mem_of_getElem? (i := 174) rfl),
  List.forall_mem_cons.mpr ⟨in_t3 (List.mem_of_getElem? (i := 175) rfl),
  List.forall_mem_cons.mpr ⟨in_t3 (List.mem_of_getElem? (i := 176) rfl),
  List.forall_mem_cons.mpr ⟨in_t3 (List.mem_of_getElem? (i := 177) rfl),
  List.forall_mem_cons.mpr ⟨in_t3 (List.mem_of_getElem? (i := 178) rfl),
  List.forall_mem_cons.mpr ⟨in_t3 (List.mem_of_getElem? (i := 180) rfl),
  List.forall_mem_cons.mpr ⟨in_sl (List.mem_of_getElem? (i := 24) rfl),
  List.forall_mem_cons.mpr ⟨in_t3 (List.mem_of_getElem? (i := 181) rfl),
  List.forall_mem_cons.mpr ⟨in_t3 (List.mem_of_getElem? (i := 182) rfl),
  List.forall_mem_cons.mpr ⟨in_t3 (List.mem_of_getElem? (i := 183) rfl),
  List.forall_mem_cons.mpr ⟨in_t3 (List.mem_of_getElem? (i := 184) rfl),
  List.forall_mem_cons.mpr ⟨in_t5 (List.mem_of_getElem? (i := 96) rfl),
  List.forall_mem_cons.mpr ⟨in_t5 (List.mem_of_getElem? (i := 97) rfl),
  List.forall_mem_cons.mpr ⟨in_t5 (List.mem_of_getElem? (i := 98) rfl),
  List.forall_mem_cons.mpr ⟨in_t5 (List.mem_of_getElem? (i := 99) rfl),
  List.forall_mem_cons.mpr ⟨in_t5 (List.mem_of_getElem? (i := 100) rfl),
  List.forall_mem_cons.mpr ⟨in_t3 (List.mem_of_getElem? (i := 185) rfl),
  fun _ h => absurd h List.not_mem_nil⟩⟩⟩⟩⟩⟩⟩⟩⟩⟩⟩⟩⟩⟩⟩⟩⟩⟩⟩⟩⟩⟩⟩⟩
set_option maxRecDepth 20000 in
theorem inr36 : ∀ w ∈ wsL_law_r36, w ∈ lw_tbl :=
  List.forall_mem_cons.mpr ⟨in_t3 (List.mem_of_getElem? (i := 186) rfl),
  List.forall_mem_cons.mpr ⟨in_t3 (List.mem_of_getElem? (i := 187) rfl),
  List.forall_mem_cons.mpr ⟨in_t3 (List.mem_of_getElem? (i := 188) rfl),
  List.forall_mem_cons.mpr ⟨in_t1 (List.mem_of_getElem? (i := 187) rfl),
  List.forall_mem_cons.mpr ⟨in_t5 (List.mem_of_getElem? (i := 101) rfl),
  List.forall_mem_cons.mpr ⟨in_t5 (List.mem_of_getElem? (i := 102) rfl),
  List.forall_mem_cons.mpr ⟨in_t5 (List.mem_of_getElem? (i := 103) rfl),
  List.forall_mem_cons.mpr ⟨in_t5 (List.mem_of_getElem? (i := 104) rfl),
  List.forall_mem_cons.mpr ⟨in_t4 (List.mem_of_getElem? (i := 21) rfl),
  List.forall_mem_cons.mpr ⟨in_t3 (List.mem_of_getElem? (i := 189) rfl),
  List.forall_mem_cons.mpr ⟨in_t3 (List.mem_of_getElem? (i := 190) rfl),
  List.forall_mem_cons.mpr ⟨in_t3 (List.mem_of_getElem? (i := 191) rfl),
  List.forall_mem_cons.mpr ⟨in_t3 (List.mem_of_getElem? (i := 192) rfl),
  List.forall_mem_cons.mpr ⟨in_t3 (List.mem_of_getElem? (i := 193) rfl),
  List.forall_mem_cons.mpr ⟨in_t3 (List.mem_of_getElem? (i := 194) rfl),
  List.forall_mem_cons.mpr ⟨in_t3 (List.mem_of_getElem? (i := 195) rfl),
  List.forall_mem_cons.mpr ⟨in_t3 (List.mem_of_getElem? (i := 196) rfl),
  List.forall_mem_cons.mpr ⟨in_t3 (List.mem_of_getElem? (i := 197) rfl),
  List.forall_mem_cons.mpr ⟨in_t3 (List.mem_of_getElem? (i := 198) rfl),
  List.forall_mem_cons.mpr ⟨in_t3 (List.mem_of_getElem? (i := 199) rfl),
  List.forall_mem_cons.mpr ⟨in_t5 (List.mem_of_getElem? (i := 105) rfl),
  List.forall_mem_cons.mpr ⟨in_t5 (List.mem_of_getElem? (i := 106) rfl),
  List.forall_mem_cons.mpr ⟨in_t5 (List.mem_of_getElem? (i := 107) rfl),
  List.forall_mem_cons.mpr ⟨in_t5 (List.mem_of_getElem? (i := 108) rfl),
  fun _ h => absurd h List.not_mem_nil⟩⟩⟩⟩⟩⟩⟩⟩⟩⟩⟩⟩⟩⟩⟩⟩⟩⟩⟩⟩⟩⟩⟩⟩
set_option maxRecDepth 20000 in
theorem inr37 : ∀ w ∈ wsL_law_r37, w ∈ lw_tbl :=
  List.forall_mem_cons.mpr ⟨in_t5 (List.mem_of_getElem? (i := 109) rfl),
  List.forall_mem_cons.mpr ⟨in_t5 (List.mem_of_getElem? (i := 110) rfl),
  List.forall_mem_cons.mpr ⟨in_t5 (List.mem_of_getElem? (i := 111) rfl),
  List.forall_mem_cons.mpr ⟨in_t5 (List.mem_of_getElem? (i := 112) rfl),
  List.forall_mem_cons.mpr ⟨in_t5 (List.mem_of_getElem? (i := 114) rfl),
  List.forall_mem_cons.mpr ⟨in_sl (List.mem_of_getElem? (i := 56) rfl),
  List.forall_mem_cons.mpr ⟨in_t5 (List.mem_of_getElem? (i := 115) rfl),
  List.forall_mem_cons.mpr ⟨in_t3 (List.mem_of_getElem? (i := 200) rfl),
  List.forall_mem_cons.mpr ⟨in_t3 (List.mem_of_getElem? (i := 201) rfl),
  List.forall_mem_cons.mpr ⟨in_t3 (List.mem_of_getElem? (i := 202) rfl),
  List.forall_mem_cons.mpr ⟨in_t3 (List.mem_of_getElem? (i := 203) rfl),
  List.forall_mem_cons.mpr ⟨in_t3 (List.mem_of_getElem? (i := 204) rfl),
  List.forall_mem_cons.mpr ⟨in_t3 (List.mem_of_getElem? (i := 206) rfl),
  List.forall_mem_cons.mpr ⟨in_sl (List.mem_of_getElem? (i := 25) rfl),
  List.forall_mem_cons.mpr ⟨in_t3 (List.mem_of_getElem? (i := 207) rfl),
  List.forall_mem_cons.mpr ⟨in_t3 (List.mem_of_getElem? (i := 208) rfl),
  List.forall_mem_cons.mpr ⟨in_t5 (List.mem_of_getElem? (i := 116) rfl),
  List.forall_mem_cons.mpr ⟨in_t5 (List.mem_of_getElem? (i := 117) rfl),
  List.forall_mem_cons.mpr ⟨in_t5 (List.mem_of_getElem? (i := 118) rfl),
  List.forall_mem_cons.mpr ⟨in_t5 (List.mem_of_getElem? (i := 119) rfl),
  List.forall_mem_cons.mpr ⟨in_t3 (List.mem_of_getElem? (i := 209) rfl),
  List.forall_mem_cons.mpr ⟨in_t3 (List.mem_of_getElem? (i := 210) rfl),
  List.forall_mem_cons.mpr ⟨in_t3 (List.mem_of_getElem? (i := 211) rfl),
  List.forall_mem_cons.mpr ⟨in_t3 (List.mem_of_getElem? (i := 212) rfl),
  fun _ h => absurd h List.not_mem_nil⟩⟩⟩⟩⟩⟩⟩⟩⟩⟩⟩⟩⟩⟩⟩⟩⟩⟩⟩⟩⟩⟩⟩⟩
set_option maxRecDepth 20000 in
theorem inr38 : ∀ w ∈ wsL_law_r38, w ∈ lw_tbl :=
  List.forall_mem_cons.mpr ⟨in_t5 (List.mem_of_getElem? (i := 120) rfl),
  List.forall_mem_cons.mpr ⟨in_t5 (List.mem_of_getElem? (i := 121) rfl),
  List.forall_mem_cons.mpr ⟨in_t5 (List.mem_of_getElem? (i := 122) rfl),
  List.forall_mem_cons.mpr ⟨in_t5 (List.mem_of_getElem? (i := 123) rfl),
  List.forall_mem_cons.mpr ⟨in_t3 (List.mem_of_getElem? (i := 213) rfl),
  List.forall_mem_cons.mpr ⟨in_t3 (List.mem_of_getElem? (i := 214) rfl),
  List.forall_mem_cons.mpr ⟨in_t3 (List.mem_of_getElem? (i := 215) rfl),
  List.forall_mem_cons.mpr ⟨in_t3 (List.mem_of_getElem? (i := 216) rfl),
  List.forall_mem_cons.mpr ⟨in_t3 (List.mem_of_getElem? (i := 217) rfl),
  List.forall_mem_cons.mpr ⟨in_t3 (List.mem_of_getElem? (i := 218) rfl),
  List.forall_mem_cons.mpr ⟨in_t3 (List.mem_of_getElem? (i := 219) rfl),
  List.forall_mem_cons.mpr ⟨in_t3 (List.mem_of_getElem? (i := 220) rfl),
  List.forall_mem_cons.mpr ⟨in_t3 (List.mem_of_getElem? (i := 221) rfl),
  List.forall_mem_cons.mpr ⟨in_t3 (List.mem_of_getElem? (i := 222) rfl),
  List.forall_mem_cons.mpr ⟨in_t3 (List.mem_of_getElem? (i := 223) rfl),
  List.forall_mem_cons.mpr ⟨in_t3 (List.mem_of_getElem? (i := 224) rfl),
  List.forall_mem_cons.mpr ⟨in_t5 (List.mem_of_getElem? (i := 124) rfl),
  List.forall_mem_cons.mpr ⟨in_t5 (List.mem_of_getElem? (i := 125) rfl),
  List.forall_mem_cons.mpr ⟨in_t5 (List.mem_of_getElem? (i := 126) rfl),
  List.forall_mem_cons.mpr ⟨in_t5 (List.mem_of_getElem? (i := 127) rfl),
  fun _ h => absurd h List.not_mem_nil⟩⟩⟩⟩⟩⟩⟩⟩⟩⟩⟩⟩⟩⟩⟩⟩⟩⟩⟩⟩
set_option maxRecDepth 20000 in
theorem inX0 : ∀ w ∈ wsX00, w ∈ lw_tbl := by
  show ∀ w ∈ [u_lay RX0 TX0 0, u_lay RX0 TX0 1, u_lay RX0 TX0 2], w ∈ lw_tbl
  exact
    List.forall_mem_cons.mpr ⟨in_t1 (List.mem_of_getElem? (i := 124) rfl),
    List.forall_mem_cons.mpr ⟨in_t1 (List.mem_of_getElem? (i := 126) rfl),
    List.forall_mem_cons.mpr ⟨in_t1 (List.mem_of_getElem? (i := 128) rfl),
    fun _ h => absurd h List.not_mem_nil⟩⟩⟩
set_option maxRecDepth 20000 in
theorem inX1 : ∀ w ∈ wsX10, w ∈ lw_tbl := by
  show ∀ w ∈ [u_lay RX1 TX1 0, u_lay RX1 TX1 1], w ∈ lw_tbl
  exact
    List.forall_mem_cons.mpr ⟨in_t1 (List.mem_of_getElem? (i := 168) rfl),
    List.forall_mem_cons.mpr ⟨in_t1 (List.mem_of_getElem? (i := 170) rfl),
    fun _ h => absurd h List.not_mem_nil⟩⟩
set_option maxRecDepth 20000 in
theorem inX2 : ∀ w ∈ wsX20, w ∈ lw_tbl := by
  show ∀ w ∈ [u_lay RX2 TX2 0, u_lay RX2 TX2 1, u_lay RX2 TX2 2, u_lay RX2 TX2 3, u_lay RX2 TX2 4], w ∈ lw_tbl
  exact
    List.forall_mem_cons.mpr ⟨in_t1 (List.mem_of_getElem? (i := 147) rfl),
    List.forall_mem_cons.mpr ⟨in_t1 (List.mem_of_getElem? (i := 149) rfl),
    List.forall_mem_cons.mpr ⟨in_t1 (List.mem_of_getElem? (i := 151) rfl),
    List.forall_mem_cons.mpr ⟨in_t1 (List.mem_of_getElem? (i := 153) rfl),
    List.forall_mem_cons.mpr ⟨in_t1 (List.mem_of_getElem? (i := 155) rfl),
    fun _ h => absurd h List.not_mem_nil⟩⟩⟩⟩⟩
set_option maxRecDepth 20000 in
theorem inX3 : ∀ w ∈ wsX30, w ∈ lw_tbl := by
  show ∀ w ∈ [u_lay RX3 TX3 0, u_lay RX3 TX3 1, u_lay RX3 TX3 2, u_lay RX3 TX3 3, u_lay RX3 TX3 4, u_lay RX3 TX3 5], w ∈ lw_tbl
  exact
    List.forall_mem_cons.mpr ⟨in_t1 (List.mem_of_getElem? (i := 33) rfl),
    List.forall_mem_cons.mpr ⟨in_t1 (List.mem_of_getElem? (i := 35) rfl),
    List.forall_mem_cons.mpr ⟨in_t1 (List.mem_of_getElem? (i := 37) rfl),
    List.forall_mem_cons.mpr ⟨in_t1 (List.mem_of_getElem? (i := 39) rfl),
    List.forall_mem_cons.mpr ⟨in_t1 (List.mem_of_getElem? (i := 41) rfl),
    List.forall_mem_cons.mpr ⟨in_t1 (List.mem_of_getElem? (i := 43) rfl),
    fun _ h => absurd h List.not_mem_nil⟩⟩⟩⟩⟩⟩
set_option maxRecDepth 20000 in
theorem inX4 : ∀ w ∈ wsX40, w ∈ lw_tbl := by
  show ∀ w ∈ [u_lay RX4 TX4 0, u_lay RX4 TX4 1, u_lay RX4 TX4 2, u_lay RX4 TX4 3], w ∈ lw_tbl
  exact
    List.forall_mem_cons.mpr ⟨in_t1 (List.mem_of_getElem? (i := 102) rfl),
    List.forall_mem_cons.mpr ⟨in_t1 (List.mem_of_getElem? (i := 104) rfl),
    List.forall_mem_cons.mpr ⟨in_t1 (List.mem_of_getElem? (i := 106) rfl),
    List.forall_mem_cons.mpr ⟨in_t1 (List.mem_of_getElem? (i := 108) rfl),
    fun _ h => absurd h List.not_mem_nil⟩⟩⟩⟩
set_option maxRecDepth 20000 in
theorem inX5 : ∀ w ∈ wsX50, w ∈ lw_tbl := by
  show ∀ w ∈ [u_lay RX5 TX5 0, u_lay RX5 TX5 1, u_lay RX5 TX5 2, u_lay RX5 TX5 3, u_lay RX5 TX5 4, u_lay RX5 TX5 5, u_lay RX5 TX5 6, u_lay RX5 TX5 7], w ∈ lw_tbl
  exact
    List.forall_mem_cons.mpr ⟨in_t1 (List.mem_of_getElem? (i := 73) rfl),
    List.forall_mem_cons.mpr ⟨in_t1 (List.mem_of_getElem? (i := 75) rfl),
    List.forall_mem_cons.mpr ⟨in_t1 (List.mem_of_getElem? (i := 77) rfl),
    List.forall_mem_cons.mpr ⟨in_t1 (List.mem_of_getElem? (i := 79) rfl),
    List.forall_mem_cons.mpr ⟨in_t1 (List.mem_of_getElem? (i := 81) rfl),
    List.forall_mem_cons.mpr ⟨in_t1 (List.mem_of_getElem? (i := 83) rfl),
    List.forall_mem_cons.mpr ⟨in_t1 (List.mem_of_getElem? (i := 85) rfl),
    List.forall_mem_cons.mpr ⟨in_t1 (List.mem_of_getElem? (i := 87) rfl),
    fun _ h => absurd h List.not_mem_nil⟩⟩⟩⟩⟩⟩⟩⟩
set_option maxRecDepth 20000 in
theorem inX6 : ∀ w ∈ wsX60, w ∈ lw_tbl := by
  show ∀ w ∈ [u_lay RX6 TX6 0, u_lay RX6 TX6 1, u_lay RX6 TX6 2, u_lay RX6 TX6 3, u_lay RX6 TX6 4, u_lay RX6 TX6 5, u_lay RX6 TX6 6, u_lay RX6 TX6 7, u_lay RX6 TX6 8, u_lay RX6 TX6 9, u_lay RX6 TX6 10, u_lay RX6 TX6 11, u_lay RX6 TX6 12, u_lay RX6 TX6 13, u_lay RX6 TX6 14], w ∈ lw_tbl
  exact
    List.forall_mem_cons.mpr ⟨in_t1 (List.mem_of_getElem? (i := 188) rfl),
    List.forall_mem_cons.mpr ⟨in_t1 (List.mem_of_getElem? (i := 190) rfl),
    List.forall_mem_cons.mpr ⟨in_t1 (List.mem_of_getElem? (i := 192) rfl),
    List.forall_mem_cons.mpr ⟨in_t1 (List.mem_of_getElem? (i := 194) rfl),
    List.forall_mem_cons.mpr ⟨in_t1 (List.mem_of_getElem? (i := 196) rfl),
    List.forall_mem_cons.mpr ⟨in_t1 (List.mem_of_getElem? (i := 198) rfl),
    List.forall_mem_cons.mpr ⟨in_t1 (List.mem_of_getElem? (i := 200) rfl),
    List.forall_mem_cons.mpr ⟨in_t1 (List.mem_of_getElem? (i := 202) rfl),
    List.forall_mem_cons.mpr ⟨in_t1 (List.mem_of_getElem? (i := 204) rfl),
    List.forall_mem_cons.mpr ⟨in_t1 (List.mem_of_getElem? (i := 206) rfl),
    List.forall_mem_cons.mpr ⟨in_t1 (List.mem_of_getElem? (i := 208) rfl),
    List.forall_mem_cons.mpr ⟨in_t1 (List.mem_of_getElem? (i := 210) rfl),
    List.forall_mem_cons.mpr ⟨in_t1 (List.mem_of_getElem? (i := 212) rfl),
    List.forall_mem_cons.mpr ⟨in_t1 (List.mem_of_getElem? (i := 214) rfl),
    List.forall_mem_cons.mpr ⟨in_t1 (List.mem_of_getElem? (i := 216) rfl),
    fun _ h => absurd h List.not_mem_nil⟩⟩⟩⟩⟩⟩⟩⟩⟩⟩⟩⟩⟩⟩⟩
set_option maxRecDepth 20000 in
theorem inX7 : ∀ w ∈ wsX70, w ∈ lw_tbl := by
  show ∀ w ∈ [u_lay RX7 TX7 0, u_lay RX7 TX7 1, u_lay RX7 TX7 2, u_lay RX7 TX7 3, u_lay RX7 TX7 4, u_lay RX7 TX7 5, u_lay RX7 TX7 6, u_lay RX7 TX7 7, u_lay RX7 TX7 8, u_lay RX7 TX7 9, u_lay RX7 TX7 10, u_lay RX7 TX7 11, u_lay RX7 TX7 12, u_lay RX7 TX7 13, u_lay RX7 TX7 14, u_lay RX7 TX7 15, u_lay RX7 TX7 16, u_lay RX7 TX7 17, u_lay RX7 TX7 18, u_lay RX7 TX7 19, u_lay RX7 TX7 20, u_lay RX7 TX7 21, u_lay RX7 TX7 22, u_lay RX7 TX7 23, u_lay RX7 TX7 24, u_lay RX7 TX7 25, u_lay RX7 TX7 26, u_lay RX7 TX7 27, u_lay RX7 TX7 28, u_lay RX7 TX7 29, u_lay RX7 TX7 30, u_lay RX7 TX7 31, u_lay RX7 TX7 32], w ∈ lw_tbl
  exact
    List.forall_mem_cons.mpr ⟨in_t4 (List.mem_of_getElem? (i := 24) rfl),
    List.forall_mem_cons.mpr ⟨in_t4 (List.mem_of_getElem? (i := 26) rfl),
    List.forall_mem_cons.mpr ⟨in_t4 (List.mem_of_getElem? (i := 28) rfl),
    List.forall_mem_cons.mpr ⟨in_t4 (List.mem_of_getElem? (i := 30) rfl),
    List.forall_mem_cons.mpr ⟨in_t4 (List.mem_of_getElem? (i := 32) rfl),
    List.forall_mem_cons.mpr ⟨in_t4 (List.mem_of_getElem? (i := 34) rfl),
    List.forall_mem_cons.mpr ⟨in_t4 (List.mem_of_getElem? (i := 36) rfl),
    List.forall_mem_cons.mpr ⟨in_t4 (List.mem_of_getElem? (i := 38) rfl),
    List.forall_mem_cons.mpr ⟨in_t4 (List.mem_of_getElem? (i := 40) rfl),
    List.forall_mem_cons.mpr ⟨in_t4 (List.mem_of_getElem? (i := 42) rfl),
    List.forall_mem_cons.mpr ⟨in_t4 (List.mem_of_getElem? (i := 44) rfl),
    List.forall_mem_cons.mpr ⟨in_t4 (List.mem_of_getElem? (i := 46) rfl),
    List.forall_mem_cons.mpr ⟨in_t4 (List.mem_of_getElem? (i := 48) rfl),
    List.forall_mem_cons.mpr ⟨in_t4 (List.mem_of_getElem? (i := 50) rfl),
    List.forall_mem_cons.mpr ⟨in_t4 (List.mem_of_getElem? (i := 52) rfl),
    List.forall_mem_cons.mpr ⟨in_t4 (List.mem_of_getElem? (i := 54) rfl),
    List.forall_mem_cons.mpr ⟨in_t4 (List.mem_of_getElem? (i := 56) rfl),
    List.forall_mem_cons.mpr ⟨in_t4 (List.mem_of_getElem? (i := 58) rfl),
    List.forall_mem_cons.mpr ⟨in_t4 (List.mem_of_getElem? (i := 60) rfl),
    List.forall_mem_cons.mpr ⟨in_t4 (List.mem_of_getElem? (i := 62) rfl),
    List.forall_mem_cons.mpr ⟨in_t4 (List.mem_of_getElem? (i := 64) rfl),
    List.forall_mem_cons.mpr ⟨in_t4 (List.mem_of_getElem? (i := 66) rfl),
    List.forall_mem_cons.mpr ⟨in_t4 (List.mem_of_getElem? (i := 68) rfl),
    List.forall_mem_cons.mpr ⟨in_t4 (List.mem_of_getElem? (i := 70) rfl),
    List.forall_mem_cons.mpr ⟨in_t4 (List.mem_of_getElem? (i := 72) rfl),
    List.forall_mem_cons.mpr ⟨in_t4 (List.mem_of_getElem? (i := 74) rfl),
    List.forall_mem_cons.mpr ⟨in_t4 (List.mem_of_getElem? (i := 76) rfl),
    List.forall_mem_cons.mpr ⟨in_t4 (List.mem_of_getElem? (i := 78) rfl),
    List.forall_mem_cons.mpr ⟨in_t4 (List.mem_of_getElem? (i := 80) rfl),
    List.forall_mem_cons.mpr ⟨in_t4 (List.mem_of_getElem? (i := 82) rfl),
    List.forall_mem_cons.mpr ⟨in_t4 (List.mem_of_getElem? (i := 84) rfl),
    List.forall_mem_cons.mpr ⟨in_t4 (List.mem_of_getElem? (i := 86) rfl),
    List.forall_mem_cons.mpr ⟨in_t4 (List.mem_of_getElem? (i := 88) rfl),
    fun _ h => absurd h List.not_mem_nil⟩⟩⟩⟩⟩⟩⟩⟩⟩⟩⟩⟩⟩⟩⟩⟩⟩⟩⟩⟩⟩⟩⟩⟩⟩⟩⟩⟩⟩⟩⟩⟩⟩
theorem wsL_law_in : ∀ w ∈ wsL_law, w ∈ lw_tbl := List.forall_mem_append.mpr ⟨(List.forall_mem_append.mpr ⟨(List.forall_mem_append.mpr ⟨(List.forall_mem_append.mpr ⟨(List.forall_mem_append.mpr ⟨(List.forall_mem_append.mpr ⟨(List.forall_mem_append.mpr ⟨(List.forall_mem_append.mpr ⟨(List.forall_mem_append.mpr ⟨(List.forall_mem_append.mpr ⟨inr1, (List.forall_mem_append.mpr ⟨inr2, (List.forall_mem_append.mpr ⟨inr3, (List.forall_mem_append.mpr ⟨inr4, (List.forall_mem_append.mpr ⟨inr5, (List.forall_mem_append.mpr ⟨inr6, (List.forall_mem_append.mpr ⟨inr7, (List.forall_mem_append.mpr ⟨inr8, (List.forall_mem_append.mpr ⟨inr9, (List.forall_mem_append.mpr ⟨inr10, (List.forall_mem_append.mpr ⟨inr11, (List.forall_mem_append.mpr ⟨inr12, (List.forall_mem_append.mpr ⟨inr13, (List.forall_mem_append.mpr ⟨inr14, (List.forall_mem_append.mpr ⟨inr15, (List.forall_mem_append.mpr ⟨inr16, (List.forall_mem_append.mpr ⟨inr17, (List.forall_mem_append.mpr ⟨inr18, (List.forall_mem_append.mpr ⟨inr19, (List.forall_mem_append.mpr ⟨inr20, (List.forall_mem_append.mpr ⟨inr21, (List.forall_mem_append.mpr ⟨inr22, (List.forall_mem_append.mpr ⟨inr23, (List.forall_mem_append.mpr ⟨inr24, (List.forall_mem_append.mpr ⟨inr25, (List.forall_mem_append.mpr ⟨inr26, (List.forall_mem_append.mpr ⟨inr27, (List.forall_mem_append.mpr ⟨inr28, (List.forall_mem_append.mpr ⟨inr29, (List.forall_mem_append.mpr ⟨inr30, (List.forall_mem_append.mpr ⟨inr31, (List.forall_mem_append.mpr ⟨inr32, (List.forall_mem_append.mpr ⟨inr33, (List.forall_mem_append.mpr ⟨inr34, (List.forall_mem_append.mpr ⟨inr35, (List.forall_mem_append.mpr ⟨inr36, (List.forall_mem_append.mpr ⟨inr37, inr38⟩)⟩)⟩)⟩)⟩)⟩)⟩)⟩)⟩)⟩)⟩)⟩)⟩)⟩)⟩)⟩)⟩)⟩)⟩)⟩)⟩)⟩)⟩)⟩)⟩)⟩)⟩)⟩)⟩)⟩)⟩)⟩)⟩)⟩)⟩)⟩)⟩), inX6⟩), inX7⟩), inX3⟩), inX5⟩), inX4⟩), inX0⟩), inX2⟩), inX1⟩), fun _ h => absurd h List.not_mem_nil⟩
end
section
-- words: every method's words are its own code and wsL_law
def bgL : List (List Cond) := [wsL_law_r1, wsL_law_r2, wsL_law_r3, wsL_law_r4, wsL_law_r5, wsL_law_r6, wsL_law_r7, wsL_law_r8, wsL_law_r9, wsL_law_r10, wsL_law_r11, wsL_law_r12, wsL_law_r13, wsL_law_r14, wsL_law_r15, wsL_law_r16, wsL_law_r17, wsL_law_r18, wsL_law_r19, wsL_law_r20, wsL_law_r21, wsL_law_r22, wsL_law_r23, wsL_law_r24, wsL_law_r25, wsL_law_r26, wsL_law_r27, wsL_law_r28, wsL_law_r29, wsL_law_r30, wsL_law_r31, wsL_law_r32, wsL_law_r33, wsL_law_r34, wsL_law_r35, wsL_law_r36, wsL_law_r37, wsL_law_r38]
theorem bg_in : ∀ r ∈ bgL, ∀ w ∈ r, w ∈ wsL_law := by
  intro r hr w hw
  simp only [bgL, List.mem_cons, List.not_mem_nil, or_false] at hr
  simp only [wsL_law, List.mem_append]
  rcases hr with rfl | rfl | rfl | rfl | rfl | rfl | rfl | rfl | rfl | rfl | rfl | rfl | rfl | rfl | rfl | rfl | rfl | rfl | rfl | rfl | rfl | rfl | rfl | rfl | rfl | rfl | rfl | rfl | rfl | rfl | rfl | rfl | rfl | rfl | rfl | rfl | rfl | rfl <;> simp [hw]
theorem bg {w : Cond} (j i : Nat) (h : (bgL[j]?).bind (fun r => r[i]?) = some w) : w ∈ wsL_law := by
  cases hj : bgL[j]? with
  | none => rw [hj] at h; cases h
  | some r => rw [hj] at h; exact bg_in r (List.mem_of_getElem? hj) w (List.mem_of_getElem? h)
def bg_ok : Bool := wsL_law.all goodWord
theorem bg_good : bg_ok = true := by decide +kernel
theorem bg_gd {w : Cond} (h : w ∈ wsL_law) : w ∈ wsL_law ∧ ((w.onTables && w.keeps) = true ∨ ∃ ty, w = .arrayClass ty) := ⟨h, good_of_word (List.all_eq_true.mp bg_good w h)⟩
theorem gdW {y : MethodName} {c : ByteArray} {mL : Nat} {ret : Option FieldType} (h5 : Cond.code y c mL ret ∈ wsL_law) : GoodIn wsL_law (.code y c mL ret :: wsL_law) := by
  intro w hw
  rcases List.mem_cons.mp hw with rfl | hw
  · exact bg_gd h5
  · exact bg_gd hw
theorem gdV {own C : String} {idx : Nat} {y : MethodName} {c : ByteArray} {mL : Nat} {ret : Option FieldType} (h1 : Cond.methodLink own idx y ∈ wsL_law) (h2 : Cond.instanceMethod y ∈ wsL_law) (h3 : Cond.selects C y y ∈ wsL_law) (h4 : Cond.initialized C ∈ wsL_law) (h5 : Cond.code y c mL ret ∈ wsL_law) : GoodIn wsL_law (wsV own idx C y (.code y c mL ret :: wsL_law)) := by
  intro w hw
  rcases List.mem_append.mp hw with hw | hw
  · simp only [List.mem_cons, List.not_mem_nil, or_false] at hw
    rcases hw with rfl | rfl | rfl | rfl
    · exact bg_gd h1
    · exact bg_gd h2
    · exact bg_gd h3
    · exact bg_gd h4
  · exact gdW h5 w hw
theorem gdS {own : String} {idx : Nat} {y : MethodName} {c : ByteArray} {mL : Nat} {ret : Option FieldType} (h1 : Cond.methodLink own idx y ∈ wsL_law) (h2 : Cond.static y ∈ wsL_law) (h4 : Cond.initialized y.cls ∈ wsL_law) (h5 : Cond.code y c mL ret ∈ wsL_law) : GoodIn wsL_law (va_wsS own idx y (.code y c mL ret :: wsL_law)) := by
  intro w hw
  rcases List.mem_append.mp hw with hw | hw
  · simp only [List.mem_cons, List.not_mem_nil, or_false] at hw
    rcases hw with rfl | rfl | rfl
    · exact bg_gd h1
    · exact bg_gd h2
    · exact bg_gd h4
  · exact gdW h5 w hw
-- nest mates' links
def nsL : List (String × Nat × MethodName) := [(RX6, 11, yX3_init), (RX6, 18, yX5_init), (RX6, 28, yX4_init), (RX0, 17, yX4_init), (RX6, 45, yX2_init), (RX6, 60, yX1_init), (RX3, 19, yX6_isIndex), (RX3, 69, yX6_isOutside), (RX5, 68, yX6_isIndex), (RX3, 87, yX6_hasBit), (RX3, 94, yX6_isTable), (RX4, 40, yX6_at), (RX5, 38, yX6_at), (RX0, 22, yX6_isIndex), (RX4, 61, yX6_hasBit), (RX4, 44, yX6_isIndex), (RX4, 48, yX6_isTable), (RX5, 65, yX6_hasBit), (RX2, 29, yX6_isIndex)]
-- pure words
def sh {α : Type} (f : Nat → α) (b : Nat) : Nat → α := fun k => f (b + k)
def pt {α : Type} (f : Nat → α) (b n : Nat) (g : Nat → α) : Nat → α := fun k => if b ≤ k ∧ k < b + n then g (k - b) else f k
def rd (n : Nat) (f : Nat → Int32) (i : Int32) : Option Int32 := if i < 0 ∨ n ≤ i.toNatClampNeg then none else some (f i.toNatClampNeg)
def wr (n : Nat) (f : Nat → Int32) (i x : Int32) : Option (Nat → Int32) := if i < 0 ∨ n ≤ i.toNatClampNeg then none else some (upd f i.toNatClampNeg x)
def bz (v : Int32) : Option Int32 := if v = 0 ∨ v = 1 then some v else none
def nz (v : Int32) : Option Int32 := if v = 0 then none else some v
def nzL (v : Int64) : Option Int64 := if v = 0 then none else some v
theorem rd_in {n : Nat} {f : Nat → Int32} {i v : Int32} (h : rd n f i = some v) : vp_in i n ∧ f i.toNatClampNeg = v := by
  unfold rd at h
  split at h
  · cases h
  · rename_i h2; exact ⟨h2, Option.some.inj h⟩
theorem wr_in {n : Nat} {f g : Nat → Int32} {i x : Int32} (h : wr n f i x = some g) : vp_in i n ∧ upd f i.toNatClampNeg x = g := by
  unfold wr at h
  split at h
  · cases h
  · rename_i h2; exact ⟨h2, Option.some.inj h⟩
theorem bz_in {v w : Int32} (h : bz v = some w) : v = w ∧ (w = 0 ∨ w = 1) := by
  unfold bz at h
  split at h
  · rename_i h2; cases h; exact ⟨rfl, h2⟩
  · cases h
theorem nz_in {v w : Int32} (h : nz v = some w) : v = w ∧ ¬ w = 0 := by
  unfold nz at h
  split at h
  · cases h
  · rename_i h2; cases h; exact ⟨rfl, h2⟩
theorem nzL_in {v w : Int64} (h : nzL v = some w) : v = w ∧ ¬ w = 0 := by
  unfold nzL at h
  split at h
  · cases h
  · rename_i h2; cases h; exact ⟨rfl, h2⟩
theorem bnd {α β : Type} {x : Option α} {f : α → Option β} {r : β} (h : x.bind f = some r) : ∃ v, x = some v ∧ f v = some r := by
  cases x with
  | none => cases h
  | some v => exact ⟨v, rfl, h⟩
def FU : Nat := 20000
-- the surroundings that every contract has
def tyG (cI cZ cO : ClassId) : List (ClassId × FieldType) := [(cI, .int), (cZ, .boolean), (cO, .object "DawnCoin$Standing")]
def EnvO (D : va_G) (cI cZ cO : ClassId) (U : State) : Prop := va_K D vwCl (tyG cI cZ cO) U ∧ ∀ q ∈ nsL, va_Nw (.methodLinkNest q.1 q.2.1 q.2.2 "DawnCoin") U
theorem EnvO.warm {D : va_G} {cI cZ cO : ClassId} {s U : State} (hW : s.WarmedH U.vm) (h : EnvO D cI cZ cO s) : EnvO D cI cZ cO U := ⟨va_K.moved hW.alike h.1, fun q hq => va_Nw.warmM hW (h.2 q hq)⟩
theorem EnvO.call {D : va_G} {cI cZ cO : ClassId} {U : State} (g : JFrame) (mk : MethodId) (a : Array Value) (h : EnvO D cI cZ cO U) : EnvO D cI cZ cO (U.calling g mk a) := ⟨va_K.moved (u := U) (U := U.calling g mk a) (Vm.Alike.refl U.vm) h.1, fun q hq => va_Nw.same rfl rfl (h.2 q hq)⟩
def PreR (D : va_G) (cI cZ cO : ClassId) (ws : va_W) (U : State) : Prop := va_P D vwCl ws U.heap ∧ EnvO D cI cZ cO U
def PreW (D : va_G) (cI cZ cO : ClassId) (ws : va_W) (sz : Nat) (U : State) : Prop := U.heap.size = sz ∧ va_P D vwCl ws U.heap ∧ EnvO D cI cZ cO U ∧ va_D (fun _ => True) ws
def PosW (D : va_G) (ws1 : va_W) : Unit → State → Prop := fun _ t => va_P D vwCl ws1 t.heap
theorem PreR.blind {D : va_G} {cI cZ cO : ClassId} {av : List Value} {ws : va_W} : FrameBlind (va_Pc av (PreR D cI cZ cO ws)) := fun a U g mk q => ⟨q.1, q.2.1, q.2.2.call g mk a⟩
theorem PreW.blind {D : va_G} {cI cZ cO : ClassId} {av : List Value} {ws : va_W} {sz : Nat} : FrameBlind (va_Pc av (PreW D cI cZ cO ws sz)) := fun a U g mk q => ⟨q.1, q.2.1, q.2.2.1, q.2.2.2.1.call g mk a, q.2.2.2.2⟩
/-- a method that reads: its answer -/
def RtI (l : Launch) (y : MethodName) (c : ByteArray) (mL : Nat) (ty : FieldType) (rm : Room) (D : va_G) (cI cZ cO : ClassId) (av : List Value) (ws : va_W) (r : Int32) : Prop := Met l y (.code y c mL (some ty) :: wsL_law) rm (va_Pc av (PreR D cI cZ cO ws)) (vp_Si (fun r' => r' = r)) 0 0 (fun _ => False)
def RtL (l : Launch) (y : MethodName) (c : ByteArray) (mL : Nat) (rm : Room) (D : va_G) (cI cZ cO : ClassId) (av : List Value) (ws : va_W) (r : Int64) : Prop := Met l y (.code y c mL (some .long) :: wsL_law) rm (va_Pc av (PreR D cI cZ cO ws)) (vp_Sl (fun r' => r' = r)) 0 0 (fun _ => False)
/-- a method that writes: its answer, its world -/
def CtI (l : Launch) (y : MethodName) (c : ByteArray) (mL : Nat) (ty : FieldType) (rm : Room) (D : va_G) (cI cZ cO : ClassId) (av : List Value) (ws ws1 : va_W) (r : Int32) : Prop := ∀ sz : Nat, Met l y (.code y c mL (some ty) :: wsL_law) rm (va_Pc av (PreW D cI cZ cO ws sz)) (va_Qi (fun r' (_ : Unit) => r' = r) (PosW D ws1) (va_A ws sz)) 0 0 (va_A ws sz)
def CtL (l : Launch) (y : MethodName) (c : ByteArray) (mL : Nat) (rm : Room) (D : va_G) (cI cZ cO : ClassId) (av : List Value) (ws ws1 : va_W) (r : Int64) : Prop := ∀ sz : Nat, Met l y (.code y c mL (some .long) :: wsL_law) rm (va_Pc av (PreW D cI cZ cO ws sz)) (va_Ql (fun r' (_ : Unit) => r' = r) (PosW D ws1) (va_A ws sz)) 0 0 (va_A ws sz)
def CtV (l : Launch) (y : MethodName) (c : ByteArray) (mL : Nat) (rm : Room) (D : va_G) (cI cZ cO : ClassId) (av : List Value) (ws ws1 : va_W) : Prop := ∀ sz : Nat, Met l y (.code y c mL none :: wsL_law) rm (va_Pc av (PreW D cI cZ cO ws sz)) (va_Qv (fun (_ : Unit) => True) (PosW D ws1) (va_A ws sz)) 0 0 (va_A ws sz)
/-- what a walk of a method knows -/
def CxO (p : Program) (s : State) (m : MethodId) (meth : Method) (cd : Code) (c : ByteArray) (mL : Nat) (own : String) (args : Array Value) : Prop := p.tables.exec = Jvm.exec ∧ cd.code = c ∧ cd.maxLocals = mL ∧ s.vm.findClass own = some m.cls ∧ (∀ w ∈ wsL_law, w.before args s = true)
theorem mkRI {l : Launch} {y : MethodName} {c : ByteArray} {mL : Nat} {ty : FieldType} {rm : Room} {D : va_G} {cI cZ cO : ClassId} {av : List Value} {ws : va_W} {r : Int32} (hy : plainName y.cls = true) (hlen : (lg_sl av).length ≤ mL) (hty : narrow ty (.int r) = .int r) (hc : rm.cells = 0)
    (body : ∀ (p : Program) (e : Env) (s : State) (m : MethodId) (below : List Frame) (meth : Method) (cd : Code) (Q : State → Prop), CxO p s m meth cd c mL y.cls av.toArray → va_P D vwCl ws s.heap → EnvO D cI cZ cO s → (∀ (pc : Nat) (ls : Array Slot), decode c pc = .ok (.ireturn, 1) → W p l e rm s m av.toArray below meth cd s.heap [] 0 0 Q (F0 m pc ls [.int r])) → ∀ ls : Array Slot, lv_has ls mL (lv_args 0 av) → W p l e rm s m av.toArray below meth cd s.heap [] 0 0 Q (F0 m 0 ls [])) : RtI l y c mL ty rm D cI cZ cO av ws r := by
  refine Met.ofW (cc := c) (maxL := mL) (ret := some ty) hy rfl ?_
  intro p e s m args below meth cd s₁ B hml hv
  obtain ⟨rfl, hP, hE⟩ := hv
  have hl := lv_entry av (n := mL) hlen
  rw [lg_entry_eq]
  have hts := atoms_spec B.pre
  refine body p e s m below meth cd _ ⟨B.exec, B.bytes, hml, findClass_of_methodNamed B.named, fun w h => hts w (List.mem_cons_of_mem _ h)⟩ hP hE ?_ _ hl
  intro pc ls hd
  exact W.zret B.exec B.bytes B.returns hty (fun t ht hW => ⟨r, rfl, rfl, ht⟩) (fun q h => by cases h) hd B.notSynchronized
theorem mkRL {l : Launch} {y : MethodName} {c : ByteArray} {mL : Nat} {rm : Room} {D : va_G} {cI cZ cO : ClassId} {av : List Value} {ws : va_W} {r : Int64} (hy : plainName y.cls = true) (hlen : (lg_sl av).length ≤ mL)
    (body : ∀ (p : Program) (e : Env) (s : State) (m : MethodId) (below : List Frame) (meth : Method) (cd : Code) (Q : State → Prop), CxO p s m meth cd c mL y.cls av.toArray → va_P D vwCl ws s.heap → EnvO D cI cZ cO s → (∀ (pc : Nat) (ls : Array Slot), decode c pc = .ok (.lreturn, 1) → W p l e rm s m av.toArray below meth cd s.heap [] 0 0 Q (F0 m pc ls [.long r])) → ∀ ls : Array Slot, lv_has ls mL (lv_args 0 av) → W p l e rm s m av.toArray below meth cd s.heap [] 0 0 Q (F0 m 0 ls [])) : RtL l y c mL rm D cI cZ cO av ws r := by
  refine Met.ofW (cc := c) (maxL := mL) (ret := some .long) hy rfl ?_
  intro p e s m args below meth cd s₁ B hml hv
  obtain ⟨rfl, hP, hE⟩ := hv
  have hl := lv_entry av (n := mL) hlen
  rw [lg_entry_eq]
  have hts := atoms_spec B.pre
  refine body p e s m below meth cd _ ⟨B.exec, B.bytes, hml, findClass_of_methodNamed B.named, fun w h => hts w (List.mem_cons_of_mem _ h)⟩ hP hE ?_ _ hl
  intro pc ls hd
  exact W.lret B.exec B.bytes B.returns (fun t ht hW => ⟨r, rfl, rfl, ht⟩) (fun q h => by cases h) hd B.notSynchronized
theorem mkCI {l : Launch} {y : MethodName} {c : ByteArray} {mL : Nat} {ty : FieldType} {rm : Room} {D : va_G} {cI cZ cO : ClassId} {av : List Value} {ws ws1 : va_W} {r : Int32} (hy : plainName y.cls = true) (hlen : (lg_sl av).length ≤ mL) (hty : narrow ty (.int r) = .int r)
    (body : ∀ (p : Program) (e : Env) (s : State) (m : MethodId) (below : List Frame) (meth : Method) (cd : Code) (Q : State → Prop) (A : Nat → Prop), CxO p s m meth cd c mL y.cls av.toArray → va_P D vwCl ws s.heap → EnvO D cI cZ cO s → va_D A ws → (∀ q : Nat, s.heap.size ≤ q → A q) → (∀ (H : Heap) (locs : List Loc) (pc : Nat) (ls : Array Slot), va_P D vwCl ws1 H → va_S A s.heap H locs → decode c pc = .ok (.ireturn, 1) → W p l e rm s m av.toArray below meth cd H locs 0 0 Q (F0 m pc ls [.int r])) → ∀ ls : Array Slot, lv_has ls mL (lv_args 0 av) → W p l e rm s m av.toArray below meth cd s.heap [] 0 0 Q (F0 m 0 ls [])) : CtI l y c mL ty rm D cI cZ cO av ws ws1 r := by
  intro sz
  refine Met.ofW (cc := c) (maxL := mL) (ret := some ty) hy rfl ?_
  intro p e s m args below meth cd s₁ B hml hv
  obtain ⟨rfl, hsz, hP, hE, hD0⟩ := hv
  subst hsz
  have hl := lv_entry av (n := mL) hlen
  rw [lg_entry_eq]
  have hts := atoms_spec B.pre
  refine body p e s m below meth cd _ (va_A ws s.heap.size) ⟨B.exec, B.bytes, hml, findClass_of_methodNamed B.named, fun w h => hts w (List.mem_cons_of_mem _ h)⟩ hP hE (hD0.self (sz := s.heap.size)) (fun q h => Or.inr h) ?_ _ hl
  intro H locs pc ls hP1 hS hd
  exact W.zret B.exec B.bytes B.returns hty (fun t ht hW => ⟨⟨r, (), rfl, rfl, by show va_P D vwCl ws1 t.heap; rw [ht]; exact hP1⟩, hS.F ht⟩) hS.2.2 hd B.notSynchronized
theorem mkCL {l : Launch} {y : MethodName} {c : ByteArray} {mL : Nat} {rm : Room} {D : va_G} {cI cZ cO : ClassId} {av : List Value} {ws ws1 : va_W} {r : Int64} (hy : plainName y.cls = true) (hlen : (lg_sl av).length ≤ mL)
    (body : ∀ (p : Program) (e : Env) (s : State) (m : MethodId) (below : List Frame) (meth : Method) (cd : Code) (Q : State → Prop) (A : Nat → Prop), CxO p s m meth cd c mL y.cls av.toArray → va_P D vwCl ws s.heap → EnvO D cI cZ cO s → va_D A ws → (∀ q : Nat, s.heap.size ≤ q → A q) → (∀ (H : Heap) (locs : List Loc) (pc : Nat) (ls : Array Slot), va_P D vwCl ws1 H → va_S A s.heap H locs → decode c pc = .ok (.lreturn, 1) → W p l e rm s m av.toArray below meth cd H locs 0 0 Q (F0 m pc ls [.long r])) → ∀ ls : Array Slot, lv_has ls mL (lv_args 0 av) → W p l e rm s m av.toArray below meth cd s.heap [] 0 0 Q (F0 m 0 ls [])) : CtL l y c mL rm D cI cZ cO av ws ws1 r := by
  intro sz
  refine Met.ofW (cc := c) (maxL := mL) (ret := some .long) hy rfl ?_
  intro p e s m args below meth cd s₁ B hml hv
  obtain ⟨rfl, hsz, hP, hE, hD0⟩ := hv
  subst hsz
  have hl := lv_entry av (n := mL) hlen
  rw [lg_entry_eq]
  have hts := atoms_spec B.pre
  refine body p e s m below meth cd _ (va_A ws s.heap.size) ⟨B.exec, B.bytes, hml, findClass_of_methodNamed B.named, fun w h => hts w (List.mem_cons_of_mem _ h)⟩ hP hE (hD0.self (sz := s.heap.size)) (fun q h => Or.inr h) ?_ _ hl
  intro H locs pc ls hP1 hS hd
  exact W.lret B.exec B.bytes B.returns (fun t ht hW => ⟨⟨r, (), rfl, rfl, by show va_P D vwCl ws1 t.heap; rw [ht]; exact hP1⟩, hS.F ht⟩) hS.2.2 hd B.notSynchronized
theorem mkCV {l : Launch} {y : MethodName} {c : ByteArray} {mL : Nat} {rm : Room} {D : va_G} {cI cZ cO : ClassId} {av : List Value} {ws ws1 : va_W} (hy : plainName y.cls = true) (hlen : (lg_sl av).length ≤ mL)
    (body : ∀ (p : Program) (e : Env) (s : State) (m : MethodId) (below : List Frame) (meth : Method) (cd : Code) (Q : State → Prop) (A : Nat → Prop), CxO p s m meth cd c mL y.cls av.toArray → va_P D vwCl ws s.heap → EnvO D cI cZ cO s → va_D A ws → (∀ q : Nat, s.heap.size ≤ q → A q) → (∀ (H : Heap) (locs : List Loc) (pc : Nat) (ls : Array Slot), va_P D vwCl ws1 H → va_S A s.heap H locs → decode c pc = .ok (.return_, 1) → W p l e rm s m av.toArray below meth cd H locs 0 0 Q (F0 m pc ls [])) → ∀ ls : Array Slot, lv_has ls mL (lv_args 0 av) → W p l e rm s m av.toArray below meth cd s.heap [] 0 0 Q (F0 m 0 ls [])) : CtV l y c mL rm D cI cZ cO av ws ws1 := by
  intro sz
  refine Met.ofW (cc := c) (maxL := mL) (ret := none) hy rfl ?_
  intro p e s m args below meth cd s₁ B hml hv
  obtain ⟨rfl, hsz, hP, hE, hD0⟩ := hv
  subst hsz
  have hl := lv_entry av (n := mL) hlen
  rw [lg_entry_eq]
  have hts := atoms_spec B.pre
  refine body p e s m below meth cd _ (va_A ws s.heap.size) ⟨B.exec, B.bytes, hml, findClass_of_methodNamed B.named, fun w h => hts w (List.mem_cons_of_mem _ h)⟩ hP hE (hD0.self (sz := s.heap.size)) (fun q h => Or.inr h) ?_ _ hl
  intro H locs pc ls hP1 hS hd
  exact W.vret B.exec B.bytes B.returns (fun t ht hW => ⟨⟨(), rfl, trivial, by show va_P D vwCl ws1 t.heap; rw [ht]; exact hP1⟩, hS.F ht⟩) hS.2.2 hd B.notSynchronized
theorem nar_i (r : Int32) : narrow .int (.int r) = .int r := vp_nar_int r
theorem nar_z {r : Int32} (h : r = 0 ∨ r = 1) : narrow .boolean (.int r) = .int r := by rcases h with rfl | rfl <;> decide +kernel
end
section
theorem zz_t : True := trivial
end
