def fX6_where_121 (N : Nat) (tI : Nat → Int32) (tA : Nat → Nat → Int32) (wI : Nat → Int32) (wA : Nat → Nat → Int32) (eI : Nat → Int32) (eA : Nat → Nat → Int32) (y0 : Int32) : Option (Int32) := some y0
def fX6_where_85 (N : Nat) (k_37 : (Nat → Int32) → (Nat → Nat → Int32) → (Nat → Int32) → (Nat → Nat → Int32) → (Nat → Int32) → (Nat → Nat → Int32) → Int32 → Int32 → Int32 → Int32 → Int32 → Int32 → Option (Int32)) (tI : Nat → Int32) (tA : Nat → Nat → Int32) (wI : Nat → Int32) (wA : Nat → Nat → Int32) (eI : Nat → Int32) (eA : Nat → Nat → Int32) (u1 : Int32) (u2 : Int32) (u3 : Int32) (u4 : Int32) (u5 : Int32) (u6 : Int32) : Option (Int32) := k_37 tI tA wI wA eI eA u1 u2 u3 u4 u5 (u6 + 1)
def fX6_where_37s (N : Nat) (k_37 : (Nat → Int32) → (Nat → Nat → Int32) → (Nat → Int32) → (Nat → Nat → Int32) → (Nat → Int32) → (Nat → Nat → Int32) → Int32 → Int32 → Int32 → Int32 → Int32 → Int32 → Option (Int32)) (tI : Nat → Int32) (tA : Nat → Nat → Int32) (wI : Nat → Int32) (wA : Nat → Nat → Int32) (eI : Nat → Int32) (eA : Nat → Nat → Int32) (u1 : Int32) (u2 : Int32) (u3 : Int32) (u4 : Int32) (u5 : Int32) (u6 : Int32) : Option (Int32) := if 63 < u6 then if u2 = 0 then some u3 else if u3 = 0 then some (-9) else if u2 = 1 then fX6_where_121 N tI tA wI wA eI eA u4 else fX6_where_121 N tI tA wI wA eI eA (63 &&& (u5 ^^^ (-1))) else (fX4_deniedOf N wA u1).bind fun z5 => if (u6 &&& z5) = 0 then (fX6_agreesWithHeard N tI tA wI wA eI eA u1 u6).bind fun z7 => if z7 = 0 then fX6_where_85 N k_37 tI tA wI wA eI eA u1 u2 u3 u4 u5 u6 else fX6_where_85 N k_37 tI tA wI wA eI eA u1 u2 (u3 + 1) (u4 &&& u6) (u5 ||| u6) u6 else fX6_where_85 N k_37 tI tA wI wA eI eA u1 u2 u3 u4 u5 u6
def fX6_where_37 (N : Nat) : Nat → (Nat → Int32) → (Nat → Nat → Int32) → (Nat → Int32) → (Nat → Nat → Int32) → (Nat → Int32) → (Nat → Nat → Int32) → Int32 → Int32 → Int32 → Int32 → Int32 → Int32 → Option (Int32)
  | 0 => fun _ _ _ _ _ _ _ _ _ _ _ _ => none
  | n + 1 => fX6_where_37s N (fX6_where_37 N n)
def fX6_where (N : Nat) (tI : Nat → Int32) (tA : Nat → Nat → Int32) (wI : Nat → Int32) (wA : Nat → Nat → Int32) (eI : Nat → Int32) (eA : Nat → Nat → Int32) (x1 : Int32) (x2 : Int32) : Option (Int32) := (fX5_hasRumour N tI x1).bind fun z1 => if z1 = 0 then some (-1) else (fX6_isOutside N x2 0 2).bind fun z3 => if z3 = 0 then fX6_where_37 N N tI tA wI wA eI eA x1 x2 0 63 0 0 else some (-2)
def rmX6_where : Room := { frames := 5, cells := 0, slots := 0, locals := 117 }
theorem mb_X6_where : Cond.instanceMethod yX6_where ∈ wsL_law ∧ Cond.selects RX6 yX6_where yX6_where ∈ wsL_law ∧ Cond.initialized RX6 ∈ wsL_law ∧ Cond.code yX6_where cX6_where 7 (some .int) ∈ wsL_law := ⟨(bg 30 17 rfl), (bg 30 18 rfl), (bg 0 2 rfl), (bg 30 19 rfl)⟩
theorem hd_X6_where : yX6_where.cls = RX6 ∧ yX6_where.cls ≠ "java/lang/invoke/MethodHandle" ∧ yX6_where.cls ≠ "java/lang/invoke/VarHandle" ∧ (parseMethodDescriptor yX6_where.desc).map (fun d => d.parameters.length) = some 2 := by decide +kernel
set_option maxRecDepth 100000 in
set_option maxHeartbeats 4000000 in
theorem ct_X6_where (N : Nat) (l : Launch) (G : va_G) (cI cZ cO : ClassId) (q : Nat → Nat) (A : Nat → Nat → Int32) (L : Int64) (rI : Nat → Int32) (rA : Nat → Nat → Int32) (tI : Nat → Int32) (tA : Nat → Nat → Int32) (dI : Nat → Int32) (dA : Nat → Nat → Int32) (wI : Nat → Int32) (wA : Nat → Nat → Int32) (uI : Nat → Int32) (uA : Nat → Nat → Int32) (aI : Nat → Int32) (aS : Nat → Nat → Int32) (aT : Nat → Nat → Nat → Int32) (eI : Nat → Int32) (eA : Nat → Nat → Int32) (sS : Nat → Nat → Int32) (sT : Nat → Nat → Nat → Int32) (bI : Nat → Int32) (x1 : Int32) (x2 : Int32) (r : Int32) (hf : fX6_where N tI tA wI wA eI eA x1 x2 = some r) : RtI l yX6_where cX6_where 7 .int rmX6_where G cI cZ cO [.ref (q 0), .int x1, .int x2] (wX6 q cI cZ cO A L rI rA tI tA dI dA wI wA uI uA aI aS aT eI eA sS sT bI) r := by
  refine mkRI (by decide) (Nat.le_of_ble_eq_true rfl) ?_
  intro p e s m below meth cd Q hC hP hE fin ls hl
  obtain ⟨hx, hb, hml, hown, hts⟩ := hC
  have hown : s.vm.findClass RX6 = some m.cls := hown
  have hl : lv_has ls 7 [(0, .ref (q 0)), (1, .int x1), (2, .int x2)] := hl
  have b_121 : ∀ (y0 : Int32), ∀ ls : Array Slot, lv_has ls 7 [] → fX6_where_121 N tI tA wI wA eI eA y0 = some r → W p l e rmX6_where s m [.ref (q 0), .int x1, .int x2].toArray below meth cd s.heap [] 0 0 Q (F0 m 121 ls [.int y0]) := by
    intro y0 ls hl hf
    unfold fX6_where_121 at hf
    have e9 := Option.some.inj hf
    exact fin 121 ls _ e9 (nar_i _) dX6_where_121
  have b_85 : ∀ (k_37 : (Nat → Int32) → (Nat → Nat → Int32) → (Nat → Int32) → (Nat → Nat → Int32) → (Nat → Int32) → (Nat → Nat → Int32) → Int32 → Int32 → Int32 → Int32 → Int32 → Int32 → Option (Int32)) (hk_37 : ∀ (u1 : Int32) (u2 : Int32) (u3 : Int32) (u4 : Int32) (u5 : Int32) (u6 : Int32), ∀ ls : Array Slot, lv_has ls 7 [(0, .ref (q 0)), (1, .int u1), (2, .int u2), (3, .int u3), (4, .int u4), (5, .int u5), (6, .int u6)] → k_37 tI tA wI wA eI eA u1 u2 u3 u4 u5 u6 = some r → W p l e rmX6_where s m [.ref (q 0), .int x1, .int x2].toArray below meth cd s.heap [] 0 0 Q (F0 m 37 ls [])), ∀ (u1 : Int32) (u2 : Int32) (u3 : Int32) (u4 : Int32) (u5 : Int32) (u6 : Int32), ∀ ls : Array Slot, lv_has ls 7 [(0, .ref (q 0)), (1, .int u1), (2, .int u2), (3, .int u3), (4, .int u4), (5, .int u5), (6, .int u6)] → fX6_where_85 N k_37 tI tA wI wA eI eA u1 u2 u3 u4 u5 u6 = some r → W p l e rmX6_where s m [.ref (q 0), .int x1, .int x2].toArray below meth cd s.heap [] 0 0 Q (F0 m 85 ls []) := by
    intro k_37 hk_37 u1 u2 u3 u4 u5 u6 ls hl hf
    unfold fX6_where_85 at hf
    refine lv_iinc (v := u6 + 1) (lv' := [(6, .int (u6 + 1)), (0, .ref (q 0)), (1, .int u1), (2, .int u2), (3, .int u3), (4, .int u4), (5, .int u5)]) hx hb dX6_where_85 hl (k := 6) rfl rfl (by decide) rfl (fun ls hl => ?_)
    refine lv_goto (tgt := 37) hx hb dX6_where_88 (by decide) ?_
    exact hk_37 u1 u2 u3 u4 u5 (u6 + 1) ls (lv_sub hl [1, 2, 3, 4, 5, 6, 0] rfl) hf
  have b_37 : ∀ n : Nat, ∀ (u1 : Int32) (u2 : Int32) (u3 : Int32) (u4 : Int32) (u5 : Int32) (u6 : Int32), ∀ ls : Array Slot, lv_has ls 7 [(0, .ref (q 0)), (1, .int u1), (2, .int u2), (3, .int u3), (4, .int u4), (5, .int u5), (6, .int u6)] → fX6_where_37 N n tI tA wI wA eI eA u1 u2 u3 u4 u5 u6 = some r → W p l e rmX6_where s m [.ref (q 0), .int x1, .int x2].toArray below meth cd s.heap [] 0 0 Q (F0 m 37 ls []) := by
    intro n
    induction n with
    | zero =>
      intro u1 u2 u3 u4 u5 u6 ls hl hf
      cases hf
    | succ n hk_37 =>
      intro u1 u2 u3 u4 u5 u6 ls hl hf
      replace hf : fX6_where_37s N (fX6_where_37 N n) tI tA wI wA eI eA u1 u2 u3 u4 u5 u6 = some r := hf
      generalize fX6_where_37 N n = k_37 at hf hk_37
      unfold fX6_where_37s at hf
      refine lv_iload hx hb dX6_where_37 (lv_at hl 6 rfl) ?_
      refine lv_bipush (v := 63) hx hb dX6_where_39 (by decide) ?_
      refine lv_icmp_gt (tgt := 91) hx hb dX6_where_41 (by decide) (fun c1 => ?_) (fun c1 => ?_)
      · rw [if_pos c1] at hf
        refine lv_iload_n hx hb dX6_where_91 rfl (lv_at hl 2 rfl) ?_
        refine lv_if_ne (tgt := 97) hx hb dX6_where_92 (by decide) (fun c2 => ?_) (fun c2 => ?_)
        · rw [if_neg c2] at hf
          refine lv_iload_n hx hb dX6_where_97 rfl (lv_at hl 3 rfl) ?_
          refine lv_if_ne (tgt := 104) hx hb dX6_where_98 (by decide) (fun c3 => ?_) (fun c3 => ?_)
          · rw [if_neg c3] at hf
            refine lv_iload_n hx hb dX6_where_104 rfl (lv_at hl 2 rfl) ?_
            refine lv_iconst (v := 1) hx hb dX6_where_105 (by decide) ?_
            refine lv_icmp_ne (tgt := 114) hx hb dX6_where_106 (by decide) (fun c4 => ?_) (fun c4 => ?_)
            · rw [if_neg c4] at hf
              refine lv_bipush (v := 63) hx hb dX6_where_114 (by decide) ?_
              refine lv_iload hx hb dX6_where_116 (lv_at hl 5 rfl) ?_
              refine lv_iconst (v := (-1)) hx hb dX6_where_118 (by decide) ?_
              refine lv_ixor hx hb dX6_where_119 ?_
              refine lv_iand hx hb dX6_where_120 ?_
              exact b_121 (63 &&& (u5 ^^^ (-1))) ls (lv_sub hl [] rfl) hf
            · rw [if_pos c4] at hf
              refine lv_iload hx hb dX6_where_109 (lv_at hl 4 rfl) ?_
              refine lv_goto (tgt := 121) hx hb dX6_where_111 (by decide) ?_
              exact b_121 u4 ls (lv_sub hl [] rfl) hf
          · rw [if_pos c3] at hf
            refine lv_bipush (v := (-9)) hx hb dX6_where_101 (by decide) ?_
            have e9 := Option.some.inj hf
            exact fin 103 ls _ e9 (nar_i _) dX6_where_103
        · rw [if_pos c2] at hf
          refine lv_iload_n hx hb dX6_where_95 rfl (lv_at hl 3 rfl) ?_
          have e9 := Option.some.inj hf
          exact fin 96 ls _ e9 (nar_i _) dX6_where_96
      · rw [if_neg c1] at hf
        refine lv_iload hx hb dX6_where_44 (lv_at hl 6 rfl) ?_
        refine lv_aload_n hx hb dX6_where_46 rfl (lv_at hl 0 rfl) ?_
        refine va_get (D := G) (ci := 6) (v := .ref (q 17)) (C := RX6) (T := TX6) (N := 15) hx hb hts inlX6 hown hE.1 hP 0 rfl rfl 3 (by decide) (hts _ (bg 1 1 rfl)) (fun _ h9 => h9) rfl dX6_where_47 ?_
        refine lv_iload_n hx hb dX6_where_50 rfl (lv_at hl 1 rfl) ?_
        obtain ⟨z5, hz5, hf⟩ := bnd hf
        refine x_rdV (C := RX4) (n := 1) (ci := 4) hx hb hml hown hts hE (ct_X4_deniedOf N l G cI cZ cO (sh q 17) wI wA u1 z5 hz5) (bg 12 18 rfl) mb_X4_deniedOf.1 mb_X4_deniedOf.2.1 mb_X4_deniedOf.2.2.1 mb_X4_deniedOf.2.2.2 hd_X4_deniedOf rfl (by decide) (x_cut hP [17, 18, 19, 20] rfl) rfl rfl rfl rfl hl.1 (Nat.le_of_ble_eq_true rfl) ⟨Nat.zero_le _, Nat.zero_le _⟩ dX6_where_51 ?_
        refine lv_iand hx hb dX6_where_54 ?_
        refine lv_if_ne (tgt := 85) hx hb dX6_where_55 (by decide) (fun c6 => ?_) (fun c6 => ?_)
        · rw [if_neg c6] at hf
          exact b_85 k_37 hk_37 u1 u2 u3 u4 u5 u6 ls (lv_sub hl [0, 1, 2, 3, 4, 5, 6] rfl) hf
        · rw [if_pos c6] at hf
          refine lv_aload_n hx hb dX6_where_58 rfl (lv_at hl 0 rfl) ?_
          refine lv_iload_n hx hb dX6_where_59 rfl (lv_at hl 1 rfl) ?_
          refine lv_iload hx hb dX6_where_60 (lv_at hl 6 rfl) ?_
          obtain ⟨z7, hz7, hf⟩ := bnd hf
          refine x_rdV (C := RX6) (n := 2) (ci := 6) hx hb hml hown hts hE (ct_X6_agreesWithHeard N l G cI cZ cO q A L rI rA tI tA dI dA wI wA uI uA aI aS aT eI eA sS sT bI u1 u6 z7 hz7) (bg 30 20 rfl) mb_X6_agreesWithHeard.1 mb_X6_agreesWithHeard.2.1 mb_X6_agreesWithHeard.2.2.1 mb_X6_agreesWithHeard.2.2.2 hd_X6_agreesWithHeard rfl (by decide) hP rfl rfl rfl rfl hl.1 (Nat.le_of_ble_eq_true rfl) ⟨Nat.zero_le _, Nat.zero_le _⟩ dX6_where_62 ?_
          refine lv_if_eq (tgt := 85) hx hb dX6_where_65 (by decide) (fun c8 => ?_) (fun c8 => ?_)
          · rw [if_pos c8] at hf
            exact b_85 k_37 hk_37 u1 u2 u3 u4 u5 u6 ls (lv_sub hl [0, 1, 2, 3, 4, 5, 6] rfl) hf
          · rw [if_neg c8] at hf
            refine lv_iinc (v := u3 + 1) (lv' := [(3, .int (u3 + 1)), (0, .ref (q 0)), (1, .int u1), (2, .int u2), (4, .int u4), (5, .int u5), (6, .int u6)]) hx hb dX6_where_68 hl (k := 3) rfl rfl (by decide) rfl (fun ls hl => ?_)
            refine lv_iload hx hb dX6_where_71 (lv_at hl 4 rfl) ?_
            refine lv_iload hx hb dX6_where_73 (lv_at hl 6 rfl) ?_
            refine lv_iand hx hb dX6_where_75 ?_
            refine lv_istore (lv' := [(4, .int (u4 &&& u6)), (3, .int (u3 + 1)), (0, .ref (q 0)), (1, .int u1), (2, .int u2), (5, .int u5), (6, .int u6)]) hx hb dX6_where_76 hl (by decide) rfl (fun ls hl => ?_)
            refine lv_iload hx hb dX6_where_78 (lv_at hl 5 rfl) ?_
            refine lv_iload hx hb dX6_where_80 (lv_at hl 6 rfl) ?_
            refine lv_ior hx hb dX6_where_82 ?_
            refine lv_istore (lv' := [(5, .int (u5 ||| u6)), (4, .int (u4 &&& u6)), (3, .int (u3 + 1)), (0, .ref (q 0)), (1, .int u1), (2, .int u2), (6, .int u6)]) hx hb dX6_where_83 hl (by decide) rfl (fun ls hl => ?_)
            exact b_85 k_37 hk_37 u1 u2 (u3 + 1) (u4 &&& u6) (u5 ||| u6) u6 ls (lv_sub hl [3, 4, 5, 2, 1, 0, 6] rfl) hf
  unfold fX6_where at hf
  refine lv_aload_n hx hb dX6_where_0 rfl (lv_at hl 0 rfl) ?_
  refine va_get (D := G) (ci := 6) (v := .ref (q 3)) (C := RX6) (T := TX6) (N := 15) hx hb hts inlX6 hown hE.1 hP 0 rfl rfl 1 (by decide) (hts _ (bg 0 20 rfl)) (fun _ h9 => h9) rfl dX6_where_1 ?_
  refine lv_iload_n hx hb dX6_where_4 rfl (lv_at hl 1 rfl) ?_
  obtain ⟨z1, hz1, hf⟩ := bnd hf
  refine x_rdV (C := RX5) (n := 1) (ci := 5) hx hb hml hown hts hE (ct_X5_hasRumour N l G cI cZ cO (sh q 3) tI tA x1 z1 hz1) (bg 12 7 rfl) mb_X5_hasRumour.1 mb_X5_hasRumour.2.1 mb_X5_hasRumour.2.2.1 mb_X5_hasRumour.2.2.2 hd_X5_hasRumour rfl (by decide) (x_cut hP [3, 4, 5, 6, 7, 8, 9] rfl) rfl rfl rfl rfl hl.1 (Nat.le_of_ble_eq_true rfl) ⟨Nat.zero_le _, Nat.zero_le _⟩ dX6_where_5 ?_
  refine lv_if_ne (tgt := 13) hx hb dX6_where_8 (by decide) (fun c2 => ?_) (fun c2 => ?_)
  · rw [if_neg c2] at hf
    refine lv_iload_n hx hb dX6_where_13 rfl (lv_at hl 2 rfl) ?_
    refine lv_iconst (v := 0) hx hb dX6_where_14 (by decide) ?_
    refine lv_iconst (v := 2) hx hb dX6_where_15 (by decide) ?_
    obtain ⟨z3, hz3, hf⟩ := bnd hf
    refine x_rdS (n := 3) hx hb hml hown hts hE (ct_X6_isOutside N l G cI cZ cO x2 0 2 z3 hz3) (bg 4 17 rfl) mb_X6_isOutside.1 mb_X6_isOutside.2.1 mb_X6_isOutside.2.2 hd_X6_isOutside rfl (by decide) va_P_nil rfl hl.1 (Nat.le_of_ble_eq_true rfl) ⟨Nat.zero_le _, Nat.zero_le _⟩ dX6_where_16 ?_
    refine lv_if_eq (tgt := 25) hx hb dX6_where_19 (by decide) (fun c4 => ?_) (fun c4 => ?_)
    · rw [if_pos c4] at hf
      refine lv_iconst (v := 0) hx hb dX6_where_25 (by decide) ?_
      refine lv_istore_n (lv' := [(3, .int 0), (0, .ref (q 0)), (1, .int x1), (2, .int x2)]) hx hb dX6_where_26 rfl hl (by decide) rfl (fun ls hl => ?_)
      refine lv_bipush (v := 63) hx hb dX6_where_27 (by decide) ?_
      refine lv_istore (lv' := [(4, .int 63), (3, .int 0), (0, .ref (q 0)), (1, .int x1), (2, .int x2)]) hx hb dX6_where_29 hl (by decide) rfl (fun ls hl => ?_)
      refine lv_iconst (v := 0) hx hb dX6_where_31 (by decide) ?_
      refine lv_istore (lv' := [(5, .int 0), (4, .int 63), (3, .int 0), (0, .ref (q 0)), (1, .int x1), (2, .int x2)]) hx hb dX6_where_32 hl (by decide) rfl (fun ls hl => ?_)
      refine lv_iconst (v := 0) hx hb dX6_where_34 (by decide) ?_
      refine lv_istore (lv' := [(6, .int 0), (5, .int 0), (4, .int 63), (3, .int 0), (0, .ref (q 0)), (1, .int x1), (2, .int x2)]) hx hb dX6_where_35 hl (by decide) rfl (fun ls hl => ?_)
      exact b_37 N x1 x2 0 63 0 0 ls (lv_sub hl [4, 5, 6, 3, 2, 1, 0] rfl) hf
    · rw [if_neg c4] at hf
      refine lv_bipush (v := (-2)) hx hb dX6_where_22 (by decide) ?_
      have e9 := Option.some.inj hf
      exact fin 24 ls _ e9 (nar_i _) dX6_where_24
  · rw [if_pos c2] at hf
    refine lv_iconst (v := (-1)) hx hb dX6_where_11 (by decide) ?_
    have e9 := Option.some.inj hf
    exact fin 12 ls _ e9 (nar_i _) dX6_where_12
def fX6_commonDivisor_34 (N : Nat) (u2 : Int32) : Option (Int32) := some u2
def fX6_commonDivisor_7s (N : Nat) (k_7 : Int32 → Int32 → Int32 → Option (Int32)) (u2 : Int32) (u3 : Int32) (u4 : Int32) : Option (Int32) := if 64 ≤ u4 then fX6_commonDivisor_34 N u2 else if u3 = 0 then fX6_commonDivisor_34 N u2 else (nz u3).bind fun v3 => k_7 u3 (rem u2 v3) (u4 + 1)
def fX6_commonDivisor_7 (N : Nat) : Nat → Int32 → Int32 → Int32 → Option (Int32)
  | 0 => fun _ _ _ => none
  | n + 1 => fX6_commonDivisor_7s N (fX6_commonDivisor_7 N n)
def fX6_commonDivisor (N : Nat) (x0 : Int32) (x1 : Int32) : Option (Int32) := fX6_commonDivisor_7 N N x0 x1 0
def rmX6_commonDivisor : Room := { frames := 0, cells := 0, slots := 0, locals := 0 }
theorem mb_X6_commonDivisor : Cond.static yX6_commonDivisor ∈ wsL_law ∧ Cond.initialized yX6_commonDivisor.cls ∈ wsL_law ∧ Cond.code yX6_commonDivisor cX6_commonDivisor 6 (some .int) ∈ wsL_law := ⟨(bg 32 0 rfl), (bg 0 2 rfl), (bg 32 1 rfl)⟩
theorem hd_X6_commonDivisor : yX6_commonDivisor.cls ≠ "java/lang/invoke/MethodHandle" ∧ yX6_commonDivisor.cls ≠ "java/lang/invoke/VarHandle" ∧ (parseMethodDescriptor yX6_commonDivisor.desc).map (fun d => d.parameters.length) = some 2 := by decide +kernel
set_option maxRecDepth 100000 in
set_option maxHeartbeats 4000000 in
theorem ct_X6_commonDivisor (N : Nat) (l : Launch) (G : va_G) (cI cZ cO : ClassId) (x0 : Int32) (x1 : Int32) (r : Int32) (hf : fX6_commonDivisor N x0 x1 = some r) : RtI l yX6_commonDivisor cX6_commonDivisor 6 .int rmX6_commonDivisor G cI cZ cO [.int x0, .int x1] [] r := by
  refine mkRI (by decide) (Nat.le_of_ble_eq_true rfl) ?_
  intro p e s m below meth cd Q hC hP hE fin ls hl
  obtain ⟨hx, hb, hml, hown, hts⟩ := hC
  have hown : s.vm.findClass RX6 = some m.cls := hown
  have hl : lv_has ls 6 [(0, .int x0), (1, .int x1)] := hl
  have b_34 : ∀ (u2 : Int32), ∀ ls : Array Slot, lv_has ls 6 [(2, .int u2)] → fX6_commonDivisor_34 N u2 = some r → W p l e rmX6_commonDivisor s m [.int x0, .int x1].toArray below meth cd s.heap [] 0 0 Q (F0 m 34 ls []) := by
    intro u2 ls hl hf
    unfold fX6_commonDivisor_34 at hf
    refine lv_iload_n hx hb dX6_commonDivisor_34 rfl (lv_at hl 0 rfl) ?_
    have e9 := Option.some.inj hf
    exact fin 35 ls _ e9 (nar_i _) dX6_commonDivisor_35
  have b_7 : ∀ n : Nat, ∀ (u2 : Int32) (u3 : Int32) (u4 : Int32), ∀ ls : Array Slot, lv_has ls 6 [(2, .int u2), (3, .int u3), (4, .int u4)] → fX6_commonDivisor_7 N n u2 u3 u4 = some r → W p l e rmX6_commonDivisor s m [.int x0, .int x1].toArray below meth cd s.heap [] 0 0 Q (F0 m 7 ls []) := by
    intro n
    induction n with
    | zero =>
      intro u2 u3 u4 ls hl hf
      cases hf
    | succ n hk_7 =>
      intro u2 u3 u4 ls hl hf
      replace hf : fX6_commonDivisor_7s N (fX6_commonDivisor_7 N n) u2 u3 u4 = some r := hf
      generalize fX6_commonDivisor_7 N n = k_7 at hf hk_7
      unfold fX6_commonDivisor_7s at hf
      refine lv_iload hx hb dX6_commonDivisor_7 (lv_at hl 2 rfl) ?_
      refine lv_bipush (v := 64) hx hb dX6_commonDivisor_9 (by decide) ?_
      refine lv_icmp_ge (tgt := 34) hx hb dX6_commonDivisor_11 (by decide) (fun c1 => ?_) (fun c1 => ?_)
      · rw [if_pos c1] at hf
        exact b_34 u2 ls (lv_sub hl [0] rfl) hf
      · rw [if_neg c1] at hf
        refine lv_iload_n hx hb dX6_commonDivisor_14 rfl (lv_at hl 1 rfl) ?_
        refine lv_if_eq (tgt := 34) hx hb dX6_commonDivisor_15 (by decide) (fun c2 => ?_) (fun c2 => ?_)
        · rw [if_pos c2] at hf
          exact b_34 u2 ls (lv_sub hl [0] rfl) hf
        · rw [if_neg c2] at hf
          refine lv_iload_n hx hb dX6_commonDivisor_18 rfl (lv_at hl 0 rfl) ?_
          refine lv_iload_n hx hb dX6_commonDivisor_19 rfl (lv_at hl 1 rfl) ?_
          obtain ⟨v3, hv3, hf⟩ := bnd hf
          obtain ⟨ev3, hv3⟩ := nz_in hv3
          rw [ev3]
          refine x_irem hx hb dX6_commonDivisor_20 hv3 ?_
          refine lv_istore (lv' := [(5, .int (rem u2 v3)), (2, .int u2), (3, .int u3), (4, .int u4)]) hx hb dX6_commonDivisor_21 hl (by decide) rfl (fun ls hl => ?_)
          refine lv_iload_n hx hb dX6_commonDivisor_23 rfl (lv_at hl 2 rfl) ?_
          refine lv_istore_n (lv' := [(2, .int u3), (5, .int (rem u2 v3)), (3, .int u3), (4, .int u4)]) hx hb dX6_commonDivisor_24 rfl hl (by decide) rfl (fun ls hl => ?_)
          refine lv_iload hx hb dX6_commonDivisor_25 (lv_at hl 1 rfl) ?_
          refine lv_istore_n (lv' := [(3, .int (rem u2 v3)), (2, .int u3), (5, .int (rem u2 v3)), (4, .int u4)]) hx hb dX6_commonDivisor_27 rfl hl (by decide) rfl (fun ls hl => ?_)
          refine lv_iinc (v := u4 + 1) (lv' := [(4, .int (u4 + 1)), (3, .int (rem u2 v3)), (2, .int u3), (5, .int (rem u2 v3))]) hx hb dX6_commonDivisor_28 hl (k := 3) rfl rfl (by decide) rfl (fun ls hl => ?_)
          refine lv_goto (tgt := 7) hx hb dX6_commonDivisor_31 (by decide) ?_
          exact hk_7 u3 (rem u2 v3) (u4 + 1) ls (lv_sub hl [2, 1, 0] rfl) hf
  unfold fX6_commonDivisor at hf
  refine lv_iload_n hx hb dX6_commonDivisor_0 rfl (lv_at hl 0 rfl) ?_
  refine lv_istore_n (lv' := [(2, .int x0), (0, .int x0), (1, .int x1)]) hx hb dX6_commonDivisor_1 rfl hl (by decide) rfl (fun ls hl => ?_)
  refine lv_iload_n hx hb dX6_commonDivisor_2 rfl (lv_at hl 2 rfl) ?_
  refine lv_istore_n (lv' := [(3, .int x1), (2, .int x0), (0, .int x0), (1, .int x1)]) hx hb dX6_commonDivisor_3 rfl hl (by decide) rfl (fun ls hl => ?_)
  refine lv_iconst (v := 0) hx hb dX6_commonDivisor_4 (by decide) ?_
  refine lv_istore (lv' := [(4, .int 0), (3, .int x1), (2, .int x0), (0, .int x0), (1, .int x1)]) hx hb dX6_commonDivisor_5 hl (by decide) rfl (fun ls hl => ?_)
  exact b_7 N x0 x1 0 ls (lv_sub hl [2, 1, 0] rfl) hf
def fX6_fraction_37 (N : Nat) (y0 : Int32) : Option (Int32) := some y0
def fX6_fraction_23 (N : Nat) (y0 : Int32) : Option (Int32) := some y0
def fX6_fraction (N : Nat) (x0 : Int32) (x1 : Int32) (x2 : Int32) : Option (Int32) := (fX6_commonDivisor N (if 0 ≤ x0 then x0 else 0 - x0) x1).bind fun z1 => if 1 ≤ z1 then if x2 = 0 then (nz z1).bind fun v4 => fX6_fraction_37 N (x1 / v4) else (nz z1).bind fun v5 => fX6_fraction_37 N (x0 / v5) else if x2 = 0 then fX6_fraction_23 N x1 else fX6_fraction_23 N x0
def rmX6_fraction : Room := { frames := 1, cells := 0, slots := 0, locals := 60 }
theorem mb_X6_fraction : Cond.static yX6_fraction ∈ wsL_law ∧ Cond.initialized yX6_fraction.cls ∈ wsL_law ∧ Cond.code yX6_fraction cX6_fraction 4 (some .int) ∈ wsL_law := ⟨(bg 31 18 rfl), (bg 0 2 rfl), (bg 31 19 rfl)⟩
theorem hd_X6_fraction : yX6_fraction.cls ≠ "java/lang/invoke/MethodHandle" ∧ yX6_fraction.cls ≠ "java/lang/invoke/VarHandle" ∧ (parseMethodDescriptor yX6_fraction.desc).map (fun d => d.parameters.length) = some 3 := by decide +kernel
set_option maxRecDepth 100000 in
set_option maxHeartbeats 4000000 in
theorem ct_X6_fraction (N : Nat) (l : Launch) (G : va_G) (cI cZ cO : ClassId) (x0 : Int32) (x1 : Int32) (x2 : Int32) (r : Int32) (hf : fX6_fraction N x0 x1 x2 = some r) : RtI l yX6_fraction cX6_fraction 4 .int rmX6_fraction G cI cZ cO [.int x0, .int x1, .int x2] [] r := by
  refine mkRI (by decide) (Nat.le_of_ble_eq_true rfl) ?_
  intro p e s m below meth cd Q hC hP hE fin ls hl
  obtain ⟨hx, hb, hml, hown, hts⟩ := hC
  have hown : s.vm.findClass RX6 = some m.cls := hown
  have hl : lv_has ls 4 [(0, .int x0), (1, .int x1), (2, .int x2)] := hl
  have b_37 : ∀ (y0 : Int32), ∀ ls : Array Slot, lv_has ls 4 [] → fX6_fraction_37 N y0 = some r → W p l e rmX6_fraction s m [.int x0, .int x1, .int x2].toArray below meth cd s.heap [] 0 0 Q (F0 m 37 ls [.int y0]) := by
    intro y0 ls hl hf
    unfold fX6_fraction_37 at hf
    have e9 := Option.some.inj hf
    exact fin 37 ls _ e9 (nar_i _) dX6_fraction_37
  have b_23 : ∀ (y0 : Int32), ∀ ls : Array Slot, lv_has ls 4 [] → fX6_fraction_23 N y0 = some r → W p l e rmX6_fraction s m [.int x0, .int x1, .int x2].toArray below meth cd s.heap [] 0 0 Q (F0 m 23 ls [.int y0]) := by
    intro y0 ls hl hf
    unfold fX6_fraction_23 at hf
    have e9 := Option.some.inj hf
    exact fin 23 ls _ e9 (nar_i _) dX6_fraction_23
  unfold fX6_fraction at hf
  refine lv_iload_n hx hb dX6_fraction_0 rfl (lv_at hl 0 rfl) ?_
  refine va_mabs hx hb (hml.trans hl.1.symm) hown (hts _ (bg 31 20 rfl)) (hts _ (bg 31 21 rfl)) (hts _ (bg 15 11 rfl)) (hts _ (bg 31 22 rfl)) (by decide) (Nat.le_of_ble_eq_true rfl) (Nat.zero_le _) (Nat.zero_le _) dX6_fraction_1 ?_
  refine lv_iload_n hx hb dX6_fraction_4 rfl (lv_at hl 1 rfl) ?_
  obtain ⟨z1, hz1, hf⟩ := bnd hf
  refine x_rdS (n := 2) hx hb hml hown hts hE (ct_X6_commonDivisor N l G cI cZ cO (if 0 ≤ x0 then x0 else 0 - x0) x1 z1 hz1) (bg 31 23 rfl) mb_X6_commonDivisor.1 mb_X6_commonDivisor.2.1 mb_X6_commonDivisor.2.2 hd_X6_commonDivisor rfl (by decide) va_P_nil rfl hl.1 (Nat.le_of_ble_eq_true rfl) ⟨Nat.zero_le _, Nat.zero_le _⟩ dX6_fraction_5 ?_
  refine lv_istore_n (lv' := [(3, .int z1), (0, .int x0), (1, .int x1), (2, .int x2)]) hx hb dX6_fraction_8 rfl hl (by decide) rfl (fun ls hl => ?_)
  refine lv_iload_n hx hb dX6_fraction_9 rfl (lv_at hl 0 rfl) ?_
  refine lv_iconst (v := 1) hx hb dX6_fraction_10 (by decide) ?_
  refine lv_icmp_ge (tgt := 24) hx hb dX6_fraction_11 (by decide) (fun c2 => ?_) (fun c2 => ?_)
  · rw [if_pos c2] at hf
    refine lv_iload_n hx hb dX6_fraction_24 rfl (lv_at hl 3 rfl) ?_
    refine lv_if_eq (tgt := 34) hx hb dX6_fraction_25 (by decide) (fun c3 => ?_) (fun c3 => ?_)
    · rw [if_pos c3] at hf
      refine lv_iload_n hx hb dX6_fraction_34 rfl (lv_at hl 2 rfl) ?_
      refine lv_iload_n hx hb dX6_fraction_35 rfl (lv_at hl 0 rfl) ?_
      obtain ⟨v4, hv4, hf⟩ := bnd hf
      obtain ⟨ev4, hv4⟩ := nz_in hv4
      rw [ev4]
      refine lv_idiv hx hb dX6_fraction_36 hv4 ?_
      exact b_37 (x1 / v4) ls (lv_sub hl [] rfl) hf
    · rw [if_neg c3] at hf
      refine lv_iload_n hx hb dX6_fraction_28 rfl (lv_at hl 1 rfl) ?_
      refine lv_iload_n hx hb dX6_fraction_29 rfl (lv_at hl 0 rfl) ?_
      obtain ⟨v5, hv5, hf⟩ := bnd hf
      obtain ⟨ev5, hv5⟩ := nz_in hv5
      rw [ev5]
      refine lv_idiv hx hb dX6_fraction_30 hv5 ?_
      refine lv_goto (tgt := 37) hx hb dX6_fraction_31 (by decide) ?_
      exact b_37 (x0 / v5) ls (lv_sub hl [] rfl) hf
  · rw [if_neg c2] at hf
    refine lv_iload_n hx hb dX6_fraction_14 rfl (lv_at hl 3 rfl) ?_
    refine lv_if_eq (tgt := 22) hx hb dX6_fraction_15 (by decide) (fun c6 => ?_) (fun c6 => ?_)
    · rw [if_pos c6] at hf
      refine lv_iload_n hx hb dX6_fraction_22 rfl (lv_at hl 2 rfl) ?_
      exact b_23 x1 ls (lv_sub hl [] rfl) hf
    · rw [if_neg c6] at hf
      refine lv_iload_n hx hb dX6_fraction_18 rfl (lv_at hl 1 rfl) ?_
      refine lv_goto (tgt := 23) hx hb dX6_fraction_19 (by decide) ?_
      exact b_23 x0 ls (lv_sub hl [] rfl) hf
