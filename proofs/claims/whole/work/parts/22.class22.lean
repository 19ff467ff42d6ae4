def fX6_pairOf (N : Nat) (x0 : Int32) (x1 : Int32) : Option (Int32) := some ((6 * x0) + x1)
def rmX6_pairOf : Room := { frames := 0, cells := 0, slots := 0, locals := 0 }
theorem mb_X6_pairOf : Cond.static yX6_pairOf ∈ wsL_law ∧ Cond.initialized yX6_pairOf.cls ∈ wsL_law ∧ Cond.code yX6_pairOf cX6_pairOf 2 (some .int) ∈ wsL_law := ⟨(bg 33 12 rfl), (bg 0 2 rfl), (bg 33 13 rfl)⟩
theorem hd_X6_pairOf : yX6_pairOf.cls ≠ "java/lang/invoke/MethodHandle" ∧ yX6_pairOf.cls ≠ "java/lang/invoke/VarHandle" ∧ (parseMethodDescriptor yX6_pairOf.desc).map (fun d => d.parameters.length) = some 2 := by decide +kernel
set_option maxRecDepth 100000 in
set_option maxHeartbeats 4000000 in
theorem ct_X6_pairOf (N : Nat) (l : Launch) (G : va_G) (cI cZ cO : ClassId) (x0 : Int32) (x1 : Int32) (r : Int32) (hf : fX6_pairOf N x0 x1 = some r) : RtI l yX6_pairOf cX6_pairOf 2 .int rmX6_pairOf G cI cZ cO [.int x0, .int x1] [] r := by
  refine mkRI (by decide) (Nat.le_of_ble_eq_true rfl) ?_
  intro p e s m below meth cd Q hC hP hE fin ls hl
  obtain ⟨hx, hb, hml, hown, hts⟩ := hC
  have hown : s.vm.findClass RX6 = some m.cls := hown
  have hl : lv_has ls 2 [(0, .int x0), (1, .int x1)] := hl
  unfold fX6_pairOf at hf
  refine lv_bipush (v := 6) hx hb dX6_pairOf_0 (by decide) ?_
  refine lv_iload_n hx hb dX6_pairOf_2 rfl (lv_at hl 0 rfl) ?_
  refine lv_imul hx hb dX6_pairOf_3 ?_
  refine lv_iload_n hx hb dX6_pairOf_4 rfl (lv_at hl 1 rfl) ?_
  refine lv_iadd hx hb dX6_pairOf_5 ?_
  have e9 := Option.some.inj hf
  exact fin 6 ls _ e9 (nar_i _) dX6_pairOf_6
def fX6_isAtRest_93 (N : Nat) (k_3 : (Nat → Nat → Int32) → (Nat → Int32) → (Nat → Nat → Int32) → (Nat → Int32) → (Nat → Nat → Int32) → Int32 → Int32 → Int32 → Int32 → Int32 → Option (Int32)) (A : Nat → Nat → Int32) (tI : Nat → Int32) (tA : Nat → Nat → Int32) (wI : Nat → Int32) (wA : Nat → Nat → Int32) (u1 : Int32) (u2 : Int32) (u3 : Int32) (u4 : Int32) (u5 : Int32) : Option (Int32) := k_3 A tI tA wI wA u1 u2 u3 u4 (u5 + 1)
def fX6_isAtRest_52 (N : Nat) (k_3 : (Nat → Nat → Int32) → (Nat → Int32) → (Nat → Nat → Int32) → (Nat → Int32) → (Nat → Nat → Int32) → Int32 → Int32 → Int32 → Int32 → Int32 → Option (Int32)) (A : Nat → Nat → Int32) (tI : Nat → Int32) (tA : Nat → Nat → Int32) (wI : Nat → Int32) (wA : Nat → Nat → Int32) (u1 : Int32) (u2 : Int32) (u3 : Int32) (u4 : Int32) (u5 : Int32) : Option (Int32) := (fX6_canChoose N tI tA wI wA u3 u5).bind fun z1 => if z1 = 0 then fX6_isAtRest_93 N k_3 A tI tA wI wA u1 u2 u3 u4 u5 else (fX6_pairOf N u2 u5).bind fun z3 => (fX6_at N 36 (A 4) z3).bind fun z4 => (fX6_pairOf N u2 u4).bind fun z5 => (fX6_at N 36 (A 4) z5).bind fun z6 => if z4 ≤ z6 then fX6_isAtRest_93 N k_3 A tI tA wI wA u1 u2 u3 u4 u5 else some 0
def fX6_isAtRest_3s (N : Nat) (k_3 : (Nat → Nat → Int32) → (Nat → Int32) → (Nat → Nat → Int32) → (Nat → Int32) → (Nat → Nat → Int32) → Int32 → Int32 → Int32 → Int32 → Int32 → Option (Int32)) (A : Nat → Nat → Int32) (tI : Nat → Int32) (tA : Nat → Nat → Int32) (wI : Nat → Int32) (wA : Nat → Nat → Int32) (u1 : Int32) (u2 : Int32) (u3 : Int32) (u4 : Int32) (u5 : Int32) : Option (Int32) := if 6 ≤ u5 then some 1 else (fX6_canChoose N tI tA wI wA u1 u5).bind fun z2 => if z2 = 0 then fX6_isAtRest_52 N k_3 A tI tA wI wA u1 u2 u3 u4 u5 else (fX6_pairOf N u5 u4).bind fun z4 => (fX6_at N 36 (A 3) z4).bind fun z5 => (fX6_pairOf N u2 u4).bind fun z6 => (fX6_at N 36 (A 3) z6).bind fun z7 => if z5 ≤ z7 then fX6_isAtRest_52 N k_3 A tI tA wI wA u1 u2 u3 u4 u5 else some 0
def fX6_isAtRest_3 (N : Nat) : Nat → (Nat → Nat → Int32) → (Nat → Int32) → (Nat → Nat → Int32) → (Nat → Int32) → (Nat → Nat → Int32) → Int32 → Int32 → Int32 → Int32 → Int32 → Option (Int32)
  | 0 => fun _ _ _ _ _ _ _ _ _ _ => none
  | n + 1 => fX6_isAtRest_3s N (fX6_isAtRest_3 N n)
def fX6_isAtRest (N : Nat) (A : Nat → Nat → Int32) (tI : Nat → Int32) (tA : Nat → Nat → Int32) (wI : Nat → Int32) (wA : Nat → Nat → Int32) (x1 : Int32) (x2 : Int32) (x3 : Int32) (x4 : Int32) : Option (Int32) := fX6_isAtRest_3 N N A tI tA wI wA x1 x2 x3 x4 0
def rmX6_isAtRest : Room := { frames := 4, cells := 0, slots := 0, locals := 89 }
theorem mb_X6_isAtRest : Cond.instanceMethod yX6_isAtRest ∈ wsL_law ∧ Cond.selects RX6 yX6_isAtRest yX6_isAtRest ∈ wsL_law ∧ Cond.initialized RX6 ∈ wsL_law ∧ Cond.code yX6_isAtRest cX6_isAtRest 6 (some .boolean) ∈ wsL_law := ⟨(bg 33 8 rfl), (bg 33 9 rfl), (bg 0 2 rfl), (bg 33 10 rfl)⟩
theorem hd_X6_isAtRest : yX6_isAtRest.cls = RX6 ∧ yX6_isAtRest.cls ≠ "java/lang/invoke/MethodHandle" ∧ yX6_isAtRest.cls ≠ "java/lang/invoke/VarHandle" ∧ (parseMethodDescriptor yX6_isAtRest.desc).map (fun d => d.parameters.length) = some 4 := by decide +kernel
set_option maxRecDepth 100000 in
set_option maxHeartbeats 4000000 in
theorem ct_X6_isAtRest (N : Nat) (l : Launch) (G : va_G) (cI cZ cO : ClassId) (q : Nat → Nat) (A : Nat → Nat → Int32) (L : Int64) (rI : Nat → Int32) (rA : Nat → Nat → Int32) (tI : Nat → Int32) (tA : Nat → Nat → Int32) (dI : Nat → Int32) (dA : Nat → Nat → Int32) (wI : Nat → Int32) (wA : Nat → Nat → Int32) (uI : Nat → Int32) (uA : Nat → Nat → Int32) (aI : Nat → Int32) (aS : Nat → Nat → Int32) (aT : Nat → Nat → Nat → Int32) (eI : Nat → Int32) (eA : Nat → Nat → Int32) (sS : Nat → Nat → Int32) (sT : Nat → Nat → Nat → Int32) (bI : Nat → Int32) (x1 : Int32) (x2 : Int32) (x3 : Int32) (x4 : Int32) (r : Int32) (hf : fX6_isAtRest N A tI tA wI wA x1 x2 x3 x4 = some r) : RtI l yX6_isAtRest cX6_isAtRest 6 .boolean rmX6_isAtRest G cI cZ cO [.ref (q 0), .int x1, .int x2, .int x3, .int x4] (wX6 q cI cZ cO A L rI rA tI tA dI dA wI wA uI uA aI aS aT eI eA sS sT bI) r := by
  refine mkRI (by decide) (Nat.le_of_ble_eq_true rfl) ?_
  intro p e s m below meth cd Q hC hP hE fin ls hl
  obtain ⟨hx, hb, hml, hown, hts⟩ := hC
  have hown : s.vm.findClass RX6 = some m.cls := hown
  have hl : lv_has ls 6 [(0, .ref (q 0)), (1, .int x1), (2, .int x2), (3, .int x3), (4, .int x4)] := hl
  have b_93 : ∀ (k_3 : (Nat → Nat → Int32) → (Nat → Int32) → (Nat → Nat → Int32) → (Nat → Int32) → (Nat → Nat → Int32) → Int32 → Int32 → Int32 → Int32 → Int32 → Option (Int32)) (hk_3 : ∀ (u1 : Int32) (u2 : Int32) (u3 : Int32) (u4 : Int32) (u5 : Int32), ∀ ls : Array Slot, lv_has ls 6 [(0, .ref (q 0)), (1, .int u1), (2, .int u2), (3, .int u3), (4, .int u4), (5, .int u5)] → k_3 A tI tA wI wA u1 u2 u3 u4 u5 = some r → W p l e rmX6_isAtRest s m [.ref (q 0), .int x1, .int x2, .int x3, .int x4].toArray below meth cd s.heap [] 0 0 Q (F0 m 3 ls [])), ∀ (u1 : Int32) (u2 : Int32) (u3 : Int32) (u4 : Int32) (u5 : Int32), ∀ ls : Array Slot, lv_has ls 6 [(0, .ref (q 0)), (1, .int u1), (2, .int u2), (3, .int u3), (4, .int u4), (5, .int u5)] → fX6_isAtRest_93 N k_3 A tI tA wI wA u1 u2 u3 u4 u5 = some r → W p l e rmX6_isAtRest s m [.ref (q 0), .int x1, .int x2, .int x3, .int x4].toArray below meth cd s.heap [] 0 0 Q (F0 m 93 ls []) := by
    intro k_3 hk_3 u1 u2 u3 u4 u5 ls hl hf
    unfold fX6_isAtRest_93 at hf
    refine lv_iinc (v := u5 + 1) (lv' := [(5, .int (u5 + 1)), (0, .ref (q 0)), (1, .int u1), (2, .int u2), (3, .int u3), (4, .int u4)]) hx hb dX6_isAtRest_93 hl (k := 5) rfl rfl (by decide) rfl (fun ls hl => ?_)
    refine lv_goto (tgt := 3) hx hb dX6_isAtRest_96 (by decide) ?_
    exact hk_3 u1 u2 u3 u4 (u5 + 1) ls (lv_sub hl [1, 2, 3, 4, 5, 0] rfl) hf
  have b_52 : ∀ (k_3 : (Nat → Nat → Int32) → (Nat → Int32) → (Nat → Nat → Int32) → (Nat → Int32) → (Nat → Nat → Int32) → Int32 → Int32 → Int32 → Int32 → Int32 → Option (Int32)) (hk_3 : ∀ (u1 : Int32) (u2 : Int32) (u3 : Int32) (u4 : Int32) (u5 : Int32), ∀ ls : Array Slot, lv_has ls 6 [(0, .ref (q 0)), (1, .int u1), (2, .int u2), (3, .int u3), (4, .int u4), (5, .int u5)] → k_3 A tI tA wI wA u1 u2 u3 u4 u5 = some r → W p l e rmX6_isAtRest s m [.ref (q 0), .int x1, .int x2, .int x3, .int x4].toArray below meth cd s.heap [] 0 0 Q (F0 m 3 ls [])), ∀ (u1 : Int32) (u2 : Int32) (u3 : Int32) (u4 : Int32) (u5 : Int32), ∀ ls : Array Slot, lv_has ls 6 [(0, .ref (q 0)), (1, .int u1), (2, .int u2), (3, .int u3), (4, .int u4), (5, .int u5)] → fX6_isAtRest_52 N k_3 A tI tA wI wA u1 u2 u3 u4 u5 = some r → W p l e rmX6_isAtRest s m [.ref (q 0), .int x1, .int x2, .int x3, .int x4].toArray below meth cd s.heap [] 0 0 Q (F0 m 52 ls []) := by
    intro k_3 hk_3 u1 u2 u3 u4 u5 ls hl hf
    unfold fX6_isAtRest_52 at hf
    refine lv_aload_n hx hb dX6_isAtRest_52 rfl (lv_at hl 0 rfl) ?_
    refine lv_iload_n hx hb dX6_isAtRest_53 rfl (lv_at hl 3 rfl) ?_
    refine lv_iload hx hb dX6_isAtRest_54 (lv_at hl 5 rfl) ?_
    obtain ⟨z1, hz1, hf⟩ := bnd hf
    refine x_rdV (C := RX6) (n := 2) (ci := 6) hx hb hml hown hts hE (ct_X6_canChoose N l G cI cZ cO q A L rI rA tI tA dI dA wI wA uI uA aI aS aT eI eA sS sT bI u3 u5 z1 hz1) (bg 33 3 rfl) mb_X6_canChoose.1 mb_X6_canChoose.2.1 mb_X6_canChoose.2.2.1 mb_X6_canChoose.2.2.2 hd_X6_canChoose rfl (by decide) hP rfl rfl rfl rfl hl.1 (Nat.le_of_ble_eq_true rfl) ⟨Nat.zero_le _, Nat.zero_le _⟩ dX6_isAtRest_56 ?_
    refine lv_if_eq (tgt := 93) hx hb dX6_isAtRest_59 (by decide) (fun c2 => ?_) (fun c2 => ?_)
    · rw [if_pos c2] at hf
      exact b_93 k_3 hk_3 u1 u2 u3 u4 u5 ls (lv_sub hl [0, 1, 2, 3, 4, 5] rfl) hf
    · rw [if_neg c2] at hf
      refine lv_aload_n hx hb dX6_isAtRest_62 rfl (lv_at hl 0 rfl) ?_
      refine va_get (D := G) (ci := 6) (v := .ref (q 102)) (C := RX6) (T := TX6) (N := 15) hx hb hts inlX6 hown hE.1 hP 0 rfl rfl 13 (by decide) (hts _ (bg 1 22 rfl)) (fun _ h9 => h9) rfl dX6_isAtRest_63 ?_
      refine lv_iload_n hx hb dX6_isAtRest_66 rfl (lv_at hl 2 rfl) ?_
      refine lv_iload hx hb dX6_isAtRest_67 (lv_at hl 5 rfl) ?_
      obtain ⟨z3, hz3, hf⟩ := bnd hf
      refine x_rdS (n := 2) hx hb hml hown hts hE (ct_X6_pairOf N l G cI cZ cO u2 u5 z3 hz3) (bg 33 11 rfl) mb_X6_pairOf.1 mb_X6_pairOf.2.1 mb_X6_pairOf.2.2 hd_X6_pairOf rfl (by decide) va_P_nil rfl hl.1 (Nat.le_of_ble_eq_true rfl) ⟨Nat.zero_le _, Nat.zero_le _⟩ dX6_isAtRest_69 ?_
      obtain ⟨z4, hz4, hf⟩ := bnd hf
      refine x_rdS (n := 2) hx hb hml hown hts hE (ct_X6_at N l G cI cZ cO (q 102) 36 (A 4) z3 z4 hz4) (bg 26 8 rfl) mb_X6_at.1 mb_X6_at.2.1 mb_X6_at.2.2 hd_X6_at rfl (by decide) (x_cut hP [102] rfl) rfl hl.1 (Nat.le_of_ble_eq_true rfl) ⟨Nat.zero_le _, Nat.zero_le _⟩ dX6_isAtRest_72 ?_
      refine lv_aload_n hx hb dX6_isAtRest_75 rfl (lv_at hl 0 rfl) ?_
      refine va_get (D := G) (ci := 6) (v := .ref (q 102)) (C := RX6) (T := TX6) (N := 15) hx hb hts inlX6 hown hE.1 hP 0 rfl rfl 13 (by decide) (hts _ (bg 1 22 rfl)) (fun _ h9 => h9) rfl dX6_isAtRest_76 ?_
      refine lv_iload_n hx hb dX6_isAtRest_79 rfl (lv_at hl 2 rfl) ?_
      refine lv_iload hx hb dX6_isAtRest_80 (lv_at hl 4 rfl) ?_
      obtain ⟨z5, hz5, hf⟩ := bnd hf
      refine x_rdS (n := 2) hx hb hml hown hts hE (ct_X6_pairOf N l G cI cZ cO u2 u4 z5 hz5) (bg 33 11 rfl) mb_X6_pairOf.1 mb_X6_pairOf.2.1 mb_X6_pairOf.2.2 hd_X6_pairOf rfl (by decide) va_P_nil rfl hl.1 (Nat.le_of_ble_eq_true rfl) ⟨Nat.zero_le _, Nat.zero_le _⟩ dX6_isAtRest_82 ?_
      obtain ⟨z6, hz6, hf⟩ := bnd hf
      refine x_rdS (n := 2) hx hb hml hown hts hE (ct_X6_at N l G cI cZ cO (q 102) 36 (A 4) z5 z6 hz6) (bg 26 8 rfl) mb_X6_at.1 mb_X6_at.2.1 mb_X6_at.2.2 hd_X6_at rfl (by decide) (x_cut hP [102] rfl) rfl hl.1 (Nat.le_of_ble_eq_true rfl) ⟨Nat.zero_le _, Nat.zero_le _⟩ dX6_isAtRest_85 ?_
      refine lv_icmp_le (tgt := 93) hx hb dX6_isAtRest_88 (by decide) (fun c7 => ?_) (fun c7 => ?_)
      · rw [if_pos c7] at hf
        exact b_93 k_3 hk_3 u1 u2 u3 u4 u5 ls (lv_sub hl [0, 1, 2, 3, 4, 5] rfl) hf
      · rw [if_neg c7] at hf
        refine lv_iconst (v := 0) hx hb dX6_isAtRest_91 (by decide) ?_
        have e9 := Option.some.inj hf
        exact fin 92 ls _ e9 (nar_z (Or.inl e9.symm)) dX6_isAtRest_92
  have b_3 : ∀ n : Nat, ∀ (u1 : Int32) (u2 : Int32) (u3 : Int32) (u4 : Int32) (u5 : Int32), ∀ ls : Array Slot, lv_has ls 6 [(0, .ref (q 0)), (1, .int u1), (2, .int u2), (3, .int u3), (4, .int u4), (5, .int u5)] → fX6_isAtRest_3 N n A tI tA wI wA u1 u2 u3 u4 u5 = some r → W p l e rmX6_isAtRest s m [.ref (q 0), .int x1, .int x2, .int x3, .int x4].toArray below meth cd s.heap [] 0 0 Q (F0 m 3 ls []) := by
    intro n
    induction n with
    | zero =>
      intro u1 u2 u3 u4 u5 ls hl hf
      cases hf
    | succ n hk_3 =>
      intro u1 u2 u3 u4 u5 ls hl hf
      replace hf : fX6_isAtRest_3s N (fX6_isAtRest_3 N n) A tI tA wI wA u1 u2 u3 u4 u5 = some r := hf
      generalize fX6_isAtRest_3 N n = k_3 at hf hk_3
      unfold fX6_isAtRest_3s at hf
      refine lv_iload hx hb dX6_isAtRest_3 (lv_at hl 5 rfl) ?_
      refine lv_bipush (v := 6) hx hb dX6_isAtRest_5 (by decide) ?_
      refine lv_icmp_ge (tgt := 99) hx hb dX6_isAtRest_7 (by decide) (fun c1 => ?_) (fun c1 => ?_)
      · rw [if_pos c1] at hf
        refine lv_iconst (v := 1) hx hb dX6_isAtRest_99 (by decide) ?_
        have e9 := Option.some.inj hf
        exact fin 100 ls _ e9 (nar_z (Or.inr e9.symm)) dX6_isAtRest_100
      · rw [if_neg c1] at hf
        refine lv_aload_n hx hb dX6_isAtRest_10 rfl (lv_at hl 0 rfl) ?_
        refine lv_iload_n hx hb dX6_isAtRest_11 rfl (lv_at hl 1 rfl) ?_
        refine lv_iload hx hb dX6_isAtRest_12 (lv_at hl 5 rfl) ?_
        obtain ⟨z2, hz2, hf⟩ := bnd hf
        refine x_rdV (C := RX6) (n := 2) (ci := 6) hx hb hml hown hts hE (ct_X6_canChoose N l G cI cZ cO q A L rI rA tI tA dI dA wI wA uI uA aI aS aT eI eA sS sT bI u1 u5 z2 hz2) (bg 33 3 rfl) mb_X6_canChoose.1 mb_X6_canChoose.2.1 mb_X6_canChoose.2.2.1 mb_X6_canChoose.2.2.2 hd_X6_canChoose rfl (by decide) hP rfl rfl rfl rfl hl.1 (Nat.le_of_ble_eq_true rfl) ⟨Nat.zero_le _, Nat.zero_le _⟩ dX6_isAtRest_14 ?_
        refine lv_if_eq (tgt := 52) hx hb dX6_isAtRest_17 (by decide) (fun c3 => ?_) (fun c3 => ?_)
        · rw [if_pos c3] at hf
          exact b_52 k_3 hk_3 u1 u2 u3 u4 u5 ls (lv_sub hl [0, 1, 2, 3, 4, 5] rfl) hf
        · rw [if_neg c3] at hf
          refine lv_aload_n hx hb dX6_isAtRest_20 rfl (lv_at hl 0 rfl) ?_
          refine va_get (D := G) (ci := 6) (v := .ref (q 101)) (C := RX6) (T := TX6) (N := 15) hx hb hts inlX6 hown hE.1 hP 0 rfl rfl 12 (by decide) (hts _ (bg 1 21 rfl)) (fun _ h9 => h9) rfl dX6_isAtRest_21 ?_
          refine lv_iload hx hb dX6_isAtRest_24 (lv_at hl 5 rfl) ?_
          refine lv_iload hx hb dX6_isAtRest_26 (lv_at hl 4 rfl) ?_
          obtain ⟨z4, hz4, hf⟩ := bnd hf
          refine x_rdS (n := 2) hx hb hml hown hts hE (ct_X6_pairOf N l G cI cZ cO u5 u4 z4 hz4) (bg 33 11 rfl) mb_X6_pairOf.1 mb_X6_pairOf.2.1 mb_X6_pairOf.2.2 hd_X6_pairOf rfl (by decide) va_P_nil rfl hl.1 (Nat.le_of_ble_eq_true rfl) ⟨Nat.zero_le _, Nat.zero_le _⟩ dX6_isAtRest_28 ?_
          obtain ⟨z5, hz5, hf⟩ := bnd hf
          refine x_rdS (n := 2) hx hb hml hown hts hE (ct_X6_at N l G cI cZ cO (q 101) 36 (A 3) z4 z5 hz5) (bg 26 8 rfl) mb_X6_at.1 mb_X6_at.2.1 mb_X6_at.2.2 hd_X6_at rfl (by decide) (x_cut hP [101] rfl) rfl hl.1 (Nat.le_of_ble_eq_true rfl) ⟨Nat.zero_le _, Nat.zero_le _⟩ dX6_isAtRest_31 ?_
          refine lv_aload_n hx hb dX6_isAtRest_34 rfl (lv_at hl 0 rfl) ?_
          refine va_get (D := G) (ci := 6) (v := .ref (q 101)) (C := RX6) (T := TX6) (N := 15) hx hb hts inlX6 hown hE.1 hP 0 rfl rfl 12 (by decide) (hts _ (bg 1 21 rfl)) (fun _ h9 => h9) rfl dX6_isAtRest_35 ?_
          refine lv_iload_n hx hb dX6_isAtRest_38 rfl (lv_at hl 2 rfl) ?_
          refine lv_iload hx hb dX6_isAtRest_39 (lv_at hl 4 rfl) ?_
          obtain ⟨z6, hz6, hf⟩ := bnd hf
          refine x_rdS (n := 2) hx hb hml hown hts hE (ct_X6_pairOf N l G cI cZ cO u2 u4 z6 hz6) (bg 33 11 rfl) mb_X6_pairOf.1 mb_X6_pairOf.2.1 mb_X6_pairOf.2.2 hd_X6_pairOf rfl (by decide) va_P_nil rfl hl.1 (Nat.le_of_ble_eq_true rfl) ⟨Nat.zero_le _, Nat.zero_le _⟩ dX6_isAtRest_41 ?_
          obtain ⟨z7, hz7, hf⟩ := bnd hf
          refine x_rdS (n := 2) hx hb hml hown hts hE (ct_X6_at N l G cI cZ cO (q 101) 36 (A 3) z6 z7 hz7) (bg 26 8 rfl) mb_X6_at.1 mb_X6_at.2.1 mb_X6_at.2.2 hd_X6_at rfl (by decide) (x_cut hP [101] rfl) rfl hl.1 (Nat.le_of_ble_eq_true rfl) ⟨Nat.zero_le _, Nat.zero_le _⟩ dX6_isAtRest_44 ?_
          refine lv_icmp_le (tgt := 52) hx hb dX6_isAtRest_47 (by decide) (fun c8 => ?_) (fun c8 => ?_)
          · rw [if_pos c8] at hf
            exact b_52 k_3 hk_3 u1 u2 u3 u4 u5 ls (lv_sub hl [0, 1, 2, 3, 4, 5] rfl) hf
          · rw [if_neg c8] at hf
            refine lv_iconst (v := 0) hx hb dX6_isAtRest_50 (by decide) ?_
            have e9 := Option.some.inj hf
            exact fin 51 ls _ e9 (nar_z (Or.inl e9.symm)) dX6_isAtRest_51
  unfold fX6_isAtRest at hf
  refine lv_iconst (v := 0) hx hb dX6_isAtRest_0 (by decide) ?_
  refine lv_istore (lv' := [(5, .int 0), (0, .ref (q 0)), (1, .int x1), (2, .int x2), (3, .int x3), (4, .int x4)]) hx hb dX6_isAtRest_1 hl (by decide) rfl (fun ls hl => ?_)
  exact b_3 N x1 x2 x3 x4 0 ls (lv_sub hl [1, 2, 3, 4, 5, 0] rfl) hf
def fX6_rests_166 (N : Nat) (A : Nat → Nat → Int32) (tI : Nat → Int32) (tA : Nat → Nat → Int32) (wI : Nat → Int32) (wA : Nat → Nat → Int32) (y0 : Int32) : Option (Int32 × (Nat → Nat → Int32)) := some (y0, A)
def fX6_rests_142 (N : Nat) (k_69 : (Nat → Nat → Int32) → (Nat → Int32) → (Nat → Nat → Int32) → (Nat → Int32) → (Nat → Nat → Int32) → Int32 → Int32 → Int32 → Int32 → Int32 → Int32 → Option (Int32 × (Nat → Nat → Int32))) (k_79 : (Nat → Nat → Int32) → (Nat → Int32) → (Nat → Nat → Int32) → (Nat → Int32) → (Nat → Nat → Int32) → Int32 → Int32 → Int32 → Int32 → Int32 → Int32 → Int32 → Option (Int32 × (Nat → Nat → Int32))) (A : Nat → Nat → Int32) (tI : Nat → Int32) (tA : Nat → Nat → Int32) (wI : Nat → Int32) (wA : Nat → Nat → Int32) (u1 : Int32) (u2 : Int32) (u4 : Int32) (u5 : Int32) (u6 : Int32) (u7 : Int32) (u8 : Int32) : Option (Int32 × (Nat → Nat → Int32)) := k_79 A tI tA wI wA u1 u2 u4 u5 u6 u7 (u8 + 1)
def fX6_rests_137 (N : Nat) (k_69 : (Nat → Nat → Int32) → (Nat → Int32) → (Nat → Nat → Int32) → (Nat → Int32) → (Nat → Nat → Int32) → Int32 → Int32 → Int32 → Int32 → Int32 → Int32 → Option (Int32 × (Nat → Nat → Int32))) (k_79 : (Nat → Nat → Int32) → (Nat → Int32) → (Nat → Nat → Int32) → (Nat → Int32) → (Nat → Nat → Int32) → Int32 → Int32 → Int32 → Int32 → Int32 → Int32 → Int32 → Option (Int32 × (Nat → Nat → Int32))) (A : Nat → Nat → Int32) (tI : Nat → Int32) (tA : Nat → Nat → Int32) (wI : Nat → Int32) (wA : Nat → Nat → Int32) (u1 : Int32) (u2 : Int32) (u4 : Int32) (u5 : Int32) (u7 : Int32) (u8 : Int32) (y0 : Int32) : Option (Int32 × (Nat → Nat → Int32)) := fX6_rests_142 N k_69 k_79 A tI tA wI wA u1 u2 u4 (u5 + 1) y0 u7 u8
def fX6_rests_79s (N : Nat) (k_69 : (Nat → Nat → Int32) → (Nat → Int32) → (Nat → Nat → Int32) → (Nat → Int32) → (Nat → Nat → Int32) → Int32 → Int32 → Int32 → Int32 → Int32 → Int32 → Option (Int32 × (Nat → Nat → Int32))) (k_79 : (Nat → Nat → Int32) → (Nat → Int32) → (Nat → Nat → Int32) → (Nat → Int32) → (Nat → Nat → Int32) → Int32 → Int32 → Int32 → Int32 → Int32 → Int32 → Int32 → Option (Int32 × (Nat → Nat → Int32))) (A : Nat → Nat → Int32) (tI : Nat → Int32) (tA : Nat → Nat → Int32) (wI : Nat → Int32) (wA : Nat → Nat → Int32) (u1 : Int32) (u2 : Int32) (u4 : Int32) (u5 : Int32) (u6 : Int32) (u7 : Int32) (u8 : Int32) : Option (Int32 × (Nat → Nat → Int32)) := if 6 ≤ u8 then k_69 A tI tA wI wA u1 u2 u4 u5 u6 (u7 + 1) else (fX6_canChoose N tI tA wI wA u1 u7).bind fun z2 => if z2 = 0 then fX6_rests_142 N k_69 k_79 A tI tA wI wA u1 u2 u4 u5 u6 u7 u8 else (fX6_canChoose N tI tA wI wA u2 u8).bind fun z4 => if z4 = 0 then fX6_rests_142 N k_69 k_79 A tI tA wI wA u1 u2 u4 u5 u6 u7 u8 else (fX6_isAtRest N A tI tA wI wA u1 u7 u2 u8).bind fun z6 => if z6 = 0 then fX6_rests_142 N k_69 k_79 A tI tA wI wA u1 u2 u4 u5 u6 u7 u8 else if u5 = 0 then fX6_rests_137 N k_69 k_79 A tI tA wI wA u1 u2 u4 u5 u7 u8 ((10 * u7) + u8) else fX6_rests_137 N k_69 k_79 A tI tA wI wA u1 u2 u4 u5 u7 u8 u6
def fX6_rests_79 (N : Nat) (k_69 : (Nat → Nat → Int32) → (Nat → Int32) → (Nat → Nat → Int32) → (Nat → Int32) → (Nat → Nat → Int32) → Int32 → Int32 → Int32 → Int32 → Int32 → Int32 → Option (Int32 × (Nat → Nat → Int32))) : Nat → (Nat → Nat → Int32) → (Nat → Int32) → (Nat → Nat → Int32) → (Nat → Int32) → (Nat → Nat → Int32) → Int32 → Int32 → Int32 → Int32 → Int32 → Int32 → Int32 → Option (Int32 × (Nat → Nat → Int32))
  | 0 => fun _ _ _ _ _ _ _ _ _ _ _ _ => none
  | n + 1 => fX6_rests_79s N k_69 (fX6_rests_79 N k_69 n)
def fX6_rests_69s (N : Nat) (k_69 : (Nat → Nat → Int32) → (Nat → Int32) → (Nat → Nat → Int32) → (Nat → Int32) → (Nat → Nat → Int32) → Int32 → Int32 → Int32 → Int32 → Int32 → Int32 → Option (Int32 × (Nat → Nat → Int32))) (A : Nat → Nat → Int32) (tI : Nat → Int32) (tA : Nat → Nat → Int32) (wI : Nat → Int32) (wA : Nat → Nat → Int32) (u1 : Int32) (u2 : Int32) (u4 : Int32) (u5 : Int32) (u6 : Int32) (u7 : Int32) : Option (Int32 × (Nat → Nat → Int32)) := if 6 ≤ u7 then if u4 = 0 then fX6_rests_166 N A tI tA wI wA u5 else fX6_rests_166 N A tI tA wI wA u6 else fX6_rests_79 N k_69 N A tI tA wI wA u1 u2 u4 u5 u6 u7 0
def fX6_rests_69 (N : Nat) : Nat → (Nat → Nat → Int32) → (Nat → Int32) → (Nat → Nat → Int32) → (Nat → Int32) → (Nat → Nat → Int32) → Int32 → Int32 → Int32 → Int32 → Int32 → Int32 → Option (Int32 × (Nat → Nat → Int32))
  | 0 => fun _ _ _ _ _ _ _ _ _ _ _ => none
  | n + 1 => fX6_rests_69s N (fX6_rests_69 N n)
def fX6_rests_49 (N : Nat) (A : Nat → Nat → Int32) (tI : Nat → Int32) (tA : Nat → Nat → Int32) (wI : Nat → Int32) (wA : Nat → Nat → Int32) : Option (Int32 × (Nat → Nat → Int32)) := some ((-2), A)
def fX6_rests_22 (N : Nat) (A : Nat → Nat → Int32) (tI : Nat → Int32) (tA : Nat → Nat → Int32) (wI : Nat → Int32) (wA : Nat → Nat → Int32) : Option (Int32 × (Nat → Nat → Int32)) := some ((-1), A)
def fX6_rests (N : Nat) (A : Nat → Nat → Int32) (tI : Nat → Int32) (tA : Nat → Nat → Int32) (wI : Nat → Int32) (wA : Nat → Nat → Int32) (x1 : Int32) (x2 : Int32) (x3 : Int32) (x4 : Int32) : Option (Int32 × (Nat → Nat → Int32)) := (fX5_hasPerson N tI x1).bind fun z1 => if z1 = 0 then fX6_rests_22 N A tI tA wI wA else (fX5_hasPerson N tI x2).bind fun z3 => if z3 = 0 then fX6_rests_22 N A tI tA wI wA else if x1 = x2 then fX6_rests_49 N A tI tA wI wA else (fX6_isOutside N x3 0 8).bind fun z6 => if z6 = 0 then (fX6_isOutside N x4 0 1).bind fun z8 => if z8 = 0 then (fX6_weighChoices N A tI tA wI wA x1 x2 x3).bind fun z10 => fX6_rests_69 N N z10 tI tA wI wA x1 x2 x4 0 (-9) 0 else fX6_rests_49 N A tI tA wI wA else fX6_rests_49 N A tI tA wI wA
def rmX6_rests : Room := { frames := 5, cells := 0, slots := 0, locals := 140 }
theorem mb_X6_rests : Cond.instanceMethod yX6_rests ∈ wsL_law ∧ Cond.selects RX6 yX6_rests yX6_rests ∈ wsL_law ∧ Cond.initialized RX6 ∈ wsL_law ∧ Cond.code yX6_rests cX6_rests 9 (some .int) ∈ wsL_law := ⟨(bg 32 20 rfl), (bg 32 21 rfl), (bg 0 2 rfl), (bg 32 22 rfl)⟩
theorem hd_X6_rests : yX6_rests.cls = RX6 ∧ yX6_rests.cls ≠ "java/lang/invoke/MethodHandle" ∧ yX6_rests.cls ≠ "java/lang/invoke/VarHandle" ∧ (parseMethodDescriptor yX6_rests.desc).map (fun d => d.parameters.length) = some 4 := by decide +kernel
set_option maxRecDepth 100000 in
set_option maxHeartbeats 4000000 in
theorem ct_X6_rests (N : Nat) (l : Launch) (G : va_G) (cI cZ cO : ClassId) (q : Nat → Nat) (A : Nat → Nat → Int32) (L : Int64) (rI : Nat → Int32) (rA : Nat → Nat → Int32) (tI : Nat → Int32) (tA : Nat → Nat → Int32) (dI : Nat → Int32) (dA : Nat → Nat → Int32) (wI : Nat → Int32) (wA : Nat → Nat → Int32) (uI : Nat → Int32) (uA : Nat → Nat → Int32) (aI : Nat → Int32) (aS : Nat → Nat → Int32) (aT : Nat → Nat → Nat → Int32) (eI : Nat → Int32) (eA : Nat → Nat → Int32) (sS : Nat → Nat → Int32) (sT : Nat → Nat → Nat → Int32) (bI : Nat → Int32) (x1 : Int32) (x2 : Int32) (x3 : Int32) (x4 : Int32) (r : Int32) (Az : Nat → Nat → Int32) (hf : fX6_rests N A tI tA wI wA x1 x2 x3 x4 = some (r, Az)) : CtI l yX6_rests cX6_rests 9 .int rmX6_rests G cI cZ cO [.ref (q 0), .int x1, .int x2, .int x3, .int x4] (wX6 q cI cZ cO A L rI rA tI tA dI dA wI wA uI uA aI aS aT eI eA sS sT bI) (wX6 q cI cZ cO Az L rI rA tI tA dI dA wI wA uI uA aI aS aT eI eA sS sT bI) r := by
  refine mkCI (by decide) (Nat.le_of_ble_eq_true rfl) ?_
  intro p e s m below meth cd Q Z hC hP hE hD hA fin ls hl
  obtain ⟨hx, hb, hml, hown, hts⟩ := hC
  have hown : s.vm.findClass RX6 = some m.cls := hown
  have hl : lv_has ls 9 [(0, .ref (q 0)), (1, .int x1), (2, .int x2), (3, .int x3), (4, .int x4)] := hl
  have b_166 : ∀ (A : Nat → Nat → Int32) (y0 : Int32), ∀ (H : Heap) (locs : List Loc), va_P G vwCl (wX6 q cI cZ cO A L rI rA tI tA dI dA wI wA uI uA aI aS aT eI eA sS sT bI) H → va_D Z (wX6 q cI cZ cO A L rI rA tI tA dI dA wI wA uI uA aI aS aT eI eA sS sT bI) → va_S Z s.heap H locs → ∀ ls : Array Slot, lv_has ls 9 [] → fX6_rests_166 N A tI tA wI wA y0 = some (r, Az) → W p l e rmX6_rests s m [.ref (q 0), .int x1, .int x2, .int x3, .int x4].toArray below meth cd H locs 0 0 Q (F0 m 166 ls [.int y0]) := by
    intro A y0 H locs hP hD hS ls hl hf
    unfold fX6_rests_166 at hf
    have e9 := Option.some.inj hf
    exact fin H locs 166 ls _ (Prod.mk.inj e9).1 (nar_i _) (by rw [← (Prod.mk.inj e9).2]; exact hP) hS dX6_rests_166
  have b_142 : ∀ (k_69 : (Nat → Nat → Int32) → (Nat → Int32) → (Nat → Nat → Int32) → (Nat → Int32) → (Nat → Nat → Int32) → Int32 → Int32 → Int32 → Int32 → Int32 → Int32 → Option (Int32 × (Nat → Nat → Int32))) (hk_69 : ∀ (A : Nat → Nat → Int32) (u1 : Int32) (u2 : Int32) (u4 : Int32) (u5 : Int32) (u6 : Int32) (u7 : Int32), ∀ (H : Heap) (locs : List Loc), va_P G vwCl (wX6 q cI cZ cO A L rI rA tI tA dI dA wI wA uI uA aI aS aT eI eA sS sT bI) H → va_D Z (wX6 q cI cZ cO A L rI rA tI tA dI dA wI wA uI uA aI aS aT eI eA sS sT bI) → va_S Z s.heap H locs → ∀ ls : Array Slot, lv_has ls 9 [(0, .ref (q 0)), (1, .int u1), (2, .int u2), (4, .int u4), (5, .int u5), (6, .int u6), (7, .int u7)] → k_69 A tI tA wI wA u1 u2 u4 u5 u6 u7 = some (r, Az) → W p l e rmX6_rests s m [.ref (q 0), .int x1, .int x2, .int x3, .int x4].toArray below meth cd H locs 0 0 Q (F0 m 69 ls [])), ∀ (k_79 : (Nat → Nat → Int32) → (Nat → Int32) → (Nat → Nat → Int32) → (Nat → Int32) → (Nat → Nat → Int32) → Int32 → Int32 → Int32 → Int32 → Int32 → Int32 → Int32 → Option (Int32 × (Nat → Nat → Int32))) (hk_79 : ∀ (A : Nat → Nat → Int32) (u1 : Int32) (u2 : Int32) (u4 : Int32) (u5 : Int32) (u6 : Int32) (u7 : Int32) (u8 : Int32), ∀ (H : Heap) (locs : List Loc), va_P G vwCl (wX6 q cI cZ cO A L rI rA tI tA dI dA wI wA uI uA aI aS aT eI eA sS sT bI) H → va_D Z (wX6 q cI cZ cO A L rI rA tI tA dI dA wI wA uI uA aI aS aT eI eA sS sT bI) → va_S Z s.heap H locs → ∀ ls : Array Slot, lv_has ls 9 [(0, .ref (q 0)), (1, .int u1), (2, .int u2), (4, .int u4), (5, .int u5), (6, .int u6), (7, .int u7), (8, .int u8)] → k_79 A tI tA wI wA u1 u2 u4 u5 u6 u7 u8 = some (r, Az) → W p l e rmX6_rests s m [.ref (q 0), .int x1, .int x2, .int x3, .int x4].toArray below meth cd H locs 0 0 Q (F0 m 79 ls [])), ∀ (A : Nat → Nat → Int32) (u1 : Int32) (u2 : Int32) (u4 : Int32) (u5 : Int32) (u6 : Int32) (u7 : Int32) (u8 : Int32), ∀ (H : Heap) (locs : List Loc), va_P G vwCl (wX6 q cI cZ cO A L rI rA tI tA dI dA wI wA uI uA aI aS aT eI eA sS sT bI) H → va_D Z (wX6 q cI cZ cO A L rI rA tI tA dI dA wI wA uI uA aI aS aT eI eA sS sT bI) → va_S Z s.heap H locs → ∀ ls : Array Slot, lv_has ls 9 [(0, .ref (q 0)), (1, .int u1), (2, .int u2), (4, .int u4), (5, .int u5), (6, .int u6), (7, .int u7), (8, .int u8)] → fX6_rests_142 N k_69 k_79 A tI tA wI wA u1 u2 u4 u5 u6 u7 u8 = some (r, Az) → W p l e rmX6_rests s m [.ref (q 0), .int x1, .int x2, .int x3, .int x4].toArray below meth cd H locs 0 0 Q (F0 m 142 ls []) := by
    intro k_69 hk_69 k_79 hk_79 A u1 u2 u4 u5 u6 u7 u8 H locs hP hD hS ls hl hf
    unfold fX6_rests_142 at hf
    refine lv_iinc (v := u8 + 1) (lv' := [(8, .int (u8 + 1)), (0, .ref (q 0)), (1, .int u1), (2, .int u2), (4, .int u4), (5, .int u5), (6, .int u6), (7, .int u7)]) hx hb dX6_rests_142 hl (k := 7) rfl rfl (by decide) rfl (fun ls hl => ?_)
    refine lv_goto (tgt := 79) hx hb dX6_rests_145 (by decide) ?_
    exact hk_79 A u1 u2 u4 u5 u6 u7 (u8 + 1) H locs hP hD hS ls (lv_sub hl [1, 2, 3, 4, 5, 6, 7, 0] rfl) hf
  have b_137 : ∀ (k_69 : (Nat → Nat → Int32) → (Nat → Int32) → (Nat → Nat → Int32) → (Nat → Int32) → (Nat → Nat → Int32) → Int32 → Int32 → Int32 → Int32 → Int32 → Int32 → Option (Int32 × (Nat → Nat → Int32))) (hk_69 : ∀ (A : Nat → Nat → Int32) (u1 : Int32) (u2 : Int32) (u4 : Int32) (u5 : Int32) (u6 : Int32) (u7 : Int32), ∀ (H : Heap) (locs : List Loc), va_P G vwCl (wX6 q cI cZ cO A L rI rA tI tA dI dA wI wA uI uA aI aS aT eI eA sS sT bI) H → va_D Z (wX6 q cI cZ cO A L rI rA tI tA dI dA wI wA uI uA aI aS aT eI eA sS sT bI) → va_S Z s.heap H locs → ∀ ls : Array Slot, lv_has ls 9 [(0, .ref (q 0)), (1, .int u1), (2, .int u2), (4, .int u4), (5, .int u5), (6, .int u6), (7, .int u7)] → k_69 A tI tA wI wA u1 u2 u4 u5 u6 u7 = some (r, Az) → W p l e rmX6_rests s m [.ref (q 0), .int x1, .int x2, .int x3, .int x4].toArray below meth cd H locs 0 0 Q (F0 m 69 ls [])), ∀ (k_79 : (Nat → Nat → Int32) → (Nat → Int32) → (Nat → Nat → Int32) → (Nat → Int32) → (Nat → Nat → Int32) → Int32 → Int32 → Int32 → Int32 → Int32 → Int32 → Int32 → Option (Int32 × (Nat → Nat → Int32))) (hk_79 : ∀ (A : Nat → Nat → Int32) (u1 : Int32) (u2 : Int32) (u4 : Int32) (u5 : Int32) (u6 : Int32) (u7 : Int32) (u8 : Int32), ∀ (H : Heap) (locs : List Loc), va_P G vwCl (wX6 q cI cZ cO A L rI rA tI tA dI dA wI wA uI uA aI aS aT eI eA sS sT bI) H → va_D Z (wX6 q cI cZ cO A L rI rA tI tA dI dA wI wA uI uA aI aS aT eI eA sS sT bI) → va_S Z s.heap H locs → ∀ ls : Array Slot, lv_has ls 9 [(0, .ref (q 0)), (1, .int u1), (2, .int u2), (4, .int u4), (5, .int u5), (6, .int u6), (7, .int u7), (8, .int u8)] → k_79 A tI tA wI wA u1 u2 u4 u5 u6 u7 u8 = some (r, Az) → W p l e rmX6_rests s m [.ref (q 0), .int x1, .int x2, .int x3, .int x4].toArray below meth cd H locs 0 0 Q (F0 m 79 ls [])), ∀ (A : Nat → Nat → Int32) (u1 : Int32) (u2 : Int32) (u4 : Int32) (u5 : Int32) (u7 : Int32) (u8 : Int32) (y0 : Int32), ∀ (H : Heap) (locs : List Loc), va_P G vwCl (wX6 q cI cZ cO A L rI rA tI tA dI dA wI wA uI uA aI aS aT eI eA sS sT bI) H → va_D Z (wX6 q cI cZ cO A L rI rA tI tA dI dA wI wA uI uA aI aS aT eI eA sS sT bI) → va_S Z s.heap H locs → ∀ ls : Array Slot, lv_has ls 9 [(0, .ref (q 0)), (1, .int u1), (2, .int u2), (4, .int u4), (5, .int u5), (7, .int u7), (8, .int u8)] → fX6_rests_137 N k_69 k_79 A tI tA wI wA u1 u2 u4 u5 u7 u8 y0 = some (r, Az) → W p l e rmX6_rests s m [.ref (q 0), .int x1, .int x2, .int x3, .int x4].toArray below meth cd H locs 0 0 Q (F0 m 137 ls [.int y0]) := by
    intro k_69 hk_69 k_79 hk_79 A u1 u2 u4 u5 u7 u8 y0 H locs hP hD hS ls hl hf
    unfold fX6_rests_137 at hf
    refine lv_istore (lv' := [(6, .int y0), (0, .ref (q 0)), (1, .int u1), (2, .int u2), (4, .int u4), (5, .int u5), (7, .int u7), (8, .int u8)]) hx hb dX6_rests_137 hl (by decide) rfl (fun ls hl => ?_)
    refine lv_iinc (v := u5 + 1) (lv' := [(5, .int (u5 + 1)), (6, .int y0), (0, .ref (q 0)), (1, .int u1), (2, .int u2), (4, .int u4), (7, .int u7), (8, .int u8)]) hx hb dX6_rests_139 hl (k := 5) rfl rfl (by decide) rfl (fun ls hl => ?_)
    exact b_142 k_69 hk_69 k_79 hk_79 A u1 u2 u4 (u5 + 1) y0 u7 u8 H locs hP hD hS ls (lv_sub hl [2, 3, 4, 5, 0, 1, 6, 7] rfl) hf
  have b_79 : ∀ (k_69 : (Nat → Nat → Int32) → (Nat → Int32) → (Nat → Nat → Int32) → (Nat → Int32) → (Nat → Nat → Int32) → Int32 → Int32 → Int32 → Int32 → Int32 → Int32 → Option (Int32 × (Nat → Nat → Int32))) (hk_69 : ∀ (A : Nat → Nat → Int32) (u1 : Int32) (u2 : Int32) (u4 : Int32) (u5 : Int32) (u6 : Int32) (u7 : Int32), ∀ (H : Heap) (locs : List Loc), va_P G vwCl (wX6 q cI cZ cO A L rI rA tI tA dI dA wI wA uI uA aI aS aT eI eA sS sT bI) H → va_D Z (wX6 q cI cZ cO A L rI rA tI tA dI dA wI wA uI uA aI aS aT eI eA sS sT bI) → va_S Z s.heap H locs → ∀ ls : Array Slot, lv_has ls 9 [(0, .ref (q 0)), (1, .int u1), (2, .int u2), (4, .int u4), (5, .int u5), (6, .int u6), (7, .int u7)] → k_69 A tI tA wI wA u1 u2 u4 u5 u6 u7 = some (r, Az) → W p l e rmX6_rests s m [.ref (q 0), .int x1, .int x2, .int x3, .int x4].toArray below meth cd H locs 0 0 Q (F0 m 69 ls [])), ∀ n : Nat, ∀ (A : Nat → Nat → Int32) (u1 : Int32) (u2 : Int32) (u4 : Int32) (u5 : Int32) (u6 : Int32) (u7 : Int32) (u8 : Int32), ∀ (H : Heap) (locs : List Loc), va_P G vwCl (wX6 q cI cZ cO A L rI rA tI tA dI dA wI wA uI uA aI aS aT eI eA sS sT bI) H → va_D Z (wX6 q cI cZ cO A L rI rA tI tA dI dA wI wA uI uA aI aS aT eI eA sS sT bI) → va_S Z s.heap H locs → ∀ ls : Array Slot, lv_has ls 9 [(0, .ref (q 0)), (1, .int u1), (2, .int u2), (4, .int u4), (5, .int u5), (6, .int u6), (7, .int u7), (8, .int u8)] → fX6_rests_79 N k_69 n A tI tA wI wA u1 u2 u4 u5 u6 u7 u8 = some (r, Az) → W p l e rmX6_rests s m [.ref (q 0), .int x1, .int x2, .int x3, .int x4].toArray below meth cd H locs 0 0 Q (F0 m 79 ls []) := by
    intro k_69 hk_69
    intro n
    induction n with
    | zero =>
      intro A u1 u2 u4 u5 u6 u7 u8 H locs hP hD hS ls hl hf
      cases hf
    | succ n hk_79 =>
      intro A u1 u2 u4 u5 u6 u7 u8 H locs hP hD hS ls hl hf
      replace hf : fX6_rests_79s N k_69 (fX6_rests_79 N k_69 n) A tI tA wI wA u1 u2 u4 u5 u6 u7 u8 = some (r, Az) := hf
      generalize fX6_rests_79 N k_69 n = k_79 at hf hk_79
      unfold fX6_rests_79s at hf
      refine lv_iload hx hb dX6_rests_79 (lv_at hl 7 rfl) ?_
      refine lv_bipush (v := 6) hx hb dX6_rests_81 (by decide) ?_
      refine lv_icmp_ge (tgt := 148) hx hb dX6_rests_83 (by decide) (fun c1 => ?_) (fun c1 => ?_)
      · rw [if_pos c1] at hf
        refine lv_iinc (v := u7 + 1) (lv' := [(7, .int (u7 + 1)), (0, .ref (q 0)), (1, .int u1), (2, .int u2), (4, .int u4), (5, .int u5), (6, .int u6), (8, .int u8)]) hx hb dX6_rests_148 hl (k := 6) rfl rfl (by decide) rfl (fun ls hl => ?_)
        refine lv_goto (tgt := 69) hx hb dX6_rests_151 (by decide) ?_
        exact hk_69 A u1 u2 u4 u5 u6 (u7 + 1) H locs hP hD hS ls (lv_sub hl [1, 2, 3, 4, 5, 6, 0] rfl) hf
      · rw [if_neg c1] at hf
        refine lv_aload_n hx hb dX6_rests_86 rfl (lv_at hl 0 rfl) ?_
        refine lv_iload_n hx hb dX6_rests_87 rfl (lv_at hl 1 rfl) ?_
        refine lv_iload hx hb dX6_rests_88 (lv_at hl 6 rfl) ?_
        obtain ⟨z2, hz2, hf⟩ := bnd hf
        refine x_rdV (C := RX6) (n := 2) (ci := 6) hx hb hml hown hts hE (ct_X6_canChoose N l G cI cZ cO q A L rI rA tI tA dI dA wI wA uI uA aI aS aT eI eA sS sT bI u1 u7 z2 hz2) (bg 33 3 rfl) mb_X6_canChoose.1 mb_X6_canChoose.2.1 mb_X6_canChoose.2.2.1 mb_X6_canChoose.2.2.2 hd_X6_canChoose rfl (by decide) hP rfl rfl rfl rfl hl.1 (Nat.le_of_ble_eq_true rfl) ⟨Nat.zero_le _, Nat.zero_le _⟩ dX6_rests_90 ?_
        refine lv_if_eq (tgt := 142) hx hb dX6_rests_93 (by decide) (fun c3 => ?_) (fun c3 => ?_)
        · rw [if_pos c3] at hf
          exact b_142 k_69 hk_69 k_79 hk_79 A u1 u2 u4 u5 u6 u7 u8 H locs hP hD hS ls (lv_sub hl [0, 1, 2, 3, 4, 5, 6, 7] rfl) hf
        · rw [if_neg c3] at hf
          refine lv_aload_n hx hb dX6_rests_96 rfl (lv_at hl 0 rfl) ?_
          refine lv_iload_n hx hb dX6_rests_97 rfl (lv_at hl 2 rfl) ?_
          refine lv_iload hx hb dX6_rests_98 (lv_at hl 7 rfl) ?_
          obtain ⟨z4, hz4, hf⟩ := bnd hf
          refine x_rdV (C := RX6) (n := 2) (ci := 6) hx hb hml hown hts hE (ct_X6_canChoose N l G cI cZ cO q A L rI rA tI tA dI dA wI wA uI uA aI aS aT eI eA sS sT bI u2 u8 z4 hz4) (bg 33 3 rfl) mb_X6_canChoose.1 mb_X6_canChoose.2.1 mb_X6_canChoose.2.2.1 mb_X6_canChoose.2.2.2 hd_X6_canChoose rfl (by decide) hP rfl rfl rfl rfl hl.1 (Nat.le_of_ble_eq_true rfl) ⟨Nat.zero_le _, Nat.zero_le _⟩ dX6_rests_100 ?_
          refine lv_if_eq (tgt := 142) hx hb dX6_rests_103 (by decide) (fun c5 => ?_) (fun c5 => ?_)
          · rw [if_pos c5] at hf
            exact b_142 k_69 hk_69 k_79 hk_79 A u1 u2 u4 u5 u6 u7 u8 H locs hP hD hS ls (lv_sub hl [0, 1, 2, 3, 4, 5, 6, 7] rfl) hf
          · rw [if_neg c5] at hf
            refine lv_aload_n hx hb dX6_rests_106 rfl (lv_at hl 0 rfl) ?_
            refine lv_iload_n hx hb dX6_rests_107 rfl (lv_at hl 1 rfl) ?_
            refine lv_iload hx hb dX6_rests_108 (lv_at hl 6 rfl) ?_
            refine lv_iload_n hx hb dX6_rests_110 rfl (lv_at hl 2 rfl) ?_
            refine lv_iload hx hb dX6_rests_111 (lv_at hl 7 rfl) ?_
            obtain ⟨z6, hz6, hf⟩ := bnd hf
            refine x_rdV (C := RX6) (n := 4) (ci := 6) hx hb hml hown hts hE (ct_X6_isAtRest N l G cI cZ cO q A L rI rA tI tA dI dA wI wA uI uA aI aS aT eI eA sS sT bI u1 u7 u2 u8 z6 hz6) (bg 33 7 rfl) mb_X6_isAtRest.1 mb_X6_isAtRest.2.1 mb_X6_isAtRest.2.2.1 mb_X6_isAtRest.2.2.2 hd_X6_isAtRest rfl (by decide) hP rfl rfl rfl rfl hl.1 (Nat.le_of_ble_eq_true rfl) ⟨Nat.zero_le _, Nat.zero_le _⟩ dX6_rests_113 ?_
            refine lv_if_eq (tgt := 142) hx hb dX6_rests_116 (by decide) (fun c7 => ?_) (fun c7 => ?_)
            · rw [if_pos c7] at hf
              exact b_142 k_69 hk_69 k_79 hk_79 A u1 u2 u4 u5 u6 u7 u8 H locs hP hD hS ls (lv_sub hl [0, 1, 2, 3, 4, 5, 6, 7] rfl) hf
            · rw [if_neg c7] at hf
              refine lv_iload hx hb dX6_rests_119 (lv_at hl 4 rfl) ?_
              refine lv_if_ne (tgt := 135) hx hb dX6_rests_121 (by decide) (fun c8 => ?_) (fun c8 => ?_)
              · rw [if_neg c8] at hf
                refine lv_iload hx hb dX6_rests_135 (lv_at hl 5 rfl) ?_
                exact b_137 k_69 hk_69 k_79 hk_79 A u1 u2 u4 u5 u7 u8 u6 H locs hP hD hS ls (lv_sub hl [0, 1, 2, 3, 4, 6, 7] rfl) hf
              · rw [if_pos c8] at hf
                refine lv_bipush (v := 10) hx hb dX6_rests_124 (by decide) ?_
                refine lv_iload hx hb dX6_rests_126 (lv_at hl 6 rfl) ?_
                refine lv_imul hx hb dX6_rests_128 ?_
                refine lv_iload hx hb dX6_rests_129 (lv_at hl 7 rfl) ?_
                refine lv_iadd hx hb dX6_rests_131 ?_
                refine lv_goto (tgt := 137) hx hb dX6_rests_132 (by decide) ?_
                exact b_137 k_69 hk_69 k_79 hk_79 A u1 u2 u4 u5 u7 u8 ((10 * u7) + u8) H locs hP hD hS ls (lv_sub hl [0, 1, 2, 3, 4, 6, 7] rfl) hf
  have b_69 : ∀ n : Nat, ∀ (A : Nat → Nat → Int32) (u1 : Int32) (u2 : Int32) (u4 : Int32) (u5 : Int32) (u6 : Int32) (u7 : Int32), ∀ (H : Heap) (locs : List Loc), va_P G vwCl (wX6 q cI cZ cO A L rI rA tI tA dI dA wI wA uI uA aI aS aT eI eA sS sT bI) H → va_D Z (wX6 q cI cZ cO A L rI rA tI tA dI dA wI wA uI uA aI aS aT eI eA sS sT bI) → va_S Z s.heap H locs → ∀ ls : Array Slot, lv_has ls 9 [(0, .ref (q 0)), (1, .int u1), (2, .int u2), (4, .int u4), (5, .int u5), (6, .int u6), (7, .int u7)] → fX6_rests_69 N n A tI tA wI wA u1 u2 u4 u5 u6 u7 = some (r, Az) → W p l e rmX6_rests s m [.ref (q 0), .int x1, .int x2, .int x3, .int x4].toArray below meth cd H locs 0 0 Q (F0 m 69 ls []) := by
    intro n
    induction n with
    | zero =>
      intro A u1 u2 u4 u5 u6 u7 H locs hP hD hS ls hl hf
      cases hf
    | succ n hk_69 =>
      intro A u1 u2 u4 u5 u6 u7 H locs hP hD hS ls hl hf
      replace hf : fX6_rests_69s N (fX6_rests_69 N n) A tI tA wI wA u1 u2 u4 u5 u6 u7 = some (r, Az) := hf
      generalize fX6_rests_69 N n = k_69 at hf hk_69
      unfold fX6_rests_69s at hf
      refine lv_iload hx hb dX6_rests_69 (lv_at hl 6 rfl) ?_
      refine lv_bipush (v := 6) hx hb dX6_rests_71 (by decide) ?_
      refine lv_icmp_ge (tgt := 154) hx hb dX6_rests_73 (by decide) (fun c1 => ?_) (fun c1 => ?_)
      · rw [if_pos c1] at hf
        refine lv_iload hx hb dX6_rests_154 (lv_at hl 3 rfl) ?_
        refine lv_if_ne (tgt := 164) hx hb dX6_rests_156 (by decide) (fun c2 => ?_) (fun c2 => ?_)
        · rw [if_neg c2] at hf
          refine lv_iload hx hb dX6_rests_164 (lv_at hl 5 rfl) ?_
          exact b_166 A u6 H locs hP hD hS ls (lv_sub hl [] rfl) hf
        · rw [if_pos c2] at hf
          refine lv_iload hx hb dX6_rests_159 (lv_at hl 4 rfl) ?_
          refine lv_goto (tgt := 166) hx hb dX6_rests_161 (by decide) ?_
          exact b_166 A u5 H locs hP hD hS ls (lv_sub hl [] rfl) hf
      · rw [if_neg c1] at hf
        refine lv_iconst (v := 0) hx hb dX6_rests_76 (by decide) ?_
        refine lv_istore (lv' := [(8, .int 0), (0, .ref (q 0)), (1, .int u1), (2, .int u2), (4, .int u4), (5, .int u5), (6, .int u6), (7, .int u7)]) hx hb dX6_rests_77 hl (by decide) rfl (fun ls hl => ?_)
        exact b_79 k_69 hk_69 N A u1 u2 u4 u5 u6 u7 0 H locs hP hD hS ls (lv_sub hl [1, 2, 3, 4, 5, 6, 7, 0] rfl) hf
  have b_49 : ∀ (A : Nat → Nat → Int32), ∀ (H : Heap) (locs : List Loc), va_P G vwCl (wX6 q cI cZ cO A L rI rA tI tA dI dA wI wA uI uA aI aS aT eI eA sS sT bI) H → va_D Z (wX6 q cI cZ cO A L rI rA tI tA dI dA wI wA uI uA aI aS aT eI eA sS sT bI) → va_S Z s.heap H locs → ∀ ls : Array Slot, lv_has ls 9 [] → fX6_rests_49 N A tI tA wI wA = some (r, Az) → W p l e rmX6_rests s m [.ref (q 0), .int x1, .int x2, .int x3, .int x4].toArray below meth cd H locs 0 0 Q (F0 m 49 ls []) := by
    intro A H locs hP hD hS ls hl hf
    unfold fX6_rests_49 at hf
    refine lv_bipush (v := (-2)) hx hb dX6_rests_49 (by decide) ?_
    have e9 := Option.some.inj hf
    exact fin H locs 51 ls _ (Prod.mk.inj e9).1 (nar_i _) (by rw [← (Prod.mk.inj e9).2]; exact hP) hS dX6_rests_51
  have b_22 : ∀ (A : Nat → Nat → Int32), ∀ (H : Heap) (locs : List Loc), va_P G vwCl (wX6 q cI cZ cO A L rI rA tI tA dI dA wI wA uI uA aI aS aT eI eA sS sT bI) H → va_D Z (wX6 q cI cZ cO A L rI rA tI tA dI dA wI wA uI uA aI aS aT eI eA sS sT bI) → va_S Z s.heap H locs → ∀ ls : Array Slot, lv_has ls 9 [] → fX6_rests_22 N A tI tA wI wA = some (r, Az) → W p l e rmX6_rests s m [.ref (q 0), .int x1, .int x2, .int x3, .int x4].toArray below meth cd H locs 0 0 Q (F0 m 22 ls []) := by
    intro A H locs hP hD hS ls hl hf
    unfold fX6_rests_22 at hf
    refine lv_iconst (v := (-1)) hx hb dX6_rests_22 (by decide) ?_
    have e9 := Option.some.inj hf
    exact fin H locs 23 ls _ (Prod.mk.inj e9).1 (nar_i _) (by rw [← (Prod.mk.inj e9).2]; exact hP) hS dX6_rests_23
  unfold fX6_rests at hf
  have hS : va_S Z s.heap s.heap [] := va_S.rf
  obtain ⟨H, hH⟩ : ∃ H, H = s.heap := ⟨_, rfl⟩
  obtain ⟨locs, hlocs⟩ : ∃ locs : List Loc, locs = [] := ⟨_, rfl⟩
  rw [← hlocs]
  rw [← hlocs] at hS
  suffices hW : ∀ H : Heap, va_P G vwCl (wX6 q cI cZ cO A L rI rA tI tA dI dA wI wA uI uA aI aS aT eI eA sS sT bI) H → va_S Z s.heap H locs → W p l e rmX6_rests s m [.ref (q 0), .int x1, .int x2, .int x3, .int x4].toArray below meth cd H locs 0 0 Q (F0 m 0 ls []) from hW s.heap hP hS
  clear hP hS hH H
  intro H hP hS
  refine lv_aload_n hx hb dX6_rests_0 rfl (lv_at hl 0 rfl) ?_
  refine va_get (D := G) (ci := 6) (v := .ref (q 3)) (C := RX6) (T := TX6) (N := 15) hx hb hts inlX6 hown hE.1 hP 0 rfl rfl 1 (by decide) (hts _ (bg 0 20 rfl)) (fun _ h9 => h9) rfl dX6_rests_1 ?_
  refine lv_iload_n hx hb dX6_rests_4 rfl (lv_at hl 1 rfl) ?_
  obtain ⟨z1, hz1, hf⟩ := bnd hf
  refine x_rdV (C := RX5) (n := 1) (ci := 5) hx hb hml hown hts hE (ct_X5_hasPerson N l G cI cZ cO (sh q 3) tI tA x1 z1 hz1) (bg 13 19 rfl) mb_X5_hasPerson.1 mb_X5_hasPerson.2.1 mb_X5_hasPerson.2.2.1 mb_X5_hasPerson.2.2.2 hd_X5_hasPerson rfl (by decide) (x_cut hP [3, 4, 5, 6, 7, 8, 9] rfl) rfl rfl rfl rfl hl.1 (Nat.le_of_ble_eq_true rfl) ⟨Nat.zero_le _, Nat.zero_le _⟩ dX6_rests_5 ?_
  refine lv_if_eq (tgt := 22) hx hb dX6_rests_8 (by decide) (fun c2 => ?_) (fun c2 => ?_)
  · rw [if_pos c2] at hf
    exact b_22 A H locs hP hD hS ls (lv_sub hl [] rfl) hf
  · rw [if_neg c2] at hf
    refine lv_aload_n hx hb dX6_rests_11 rfl (lv_at hl 0 rfl) ?_
    refine va_get (D := G) (ci := 6) (v := .ref (q 3)) (C := RX6) (T := TX6) (N := 15) hx hb hts inlX6 hown hE.1 hP 0 rfl rfl 1 (by decide) (hts _ (bg 0 20 rfl)) (fun _ h9 => h9) rfl dX6_rests_12 ?_
    refine lv_iload_n hx hb dX6_rests_15 rfl (lv_at hl 2 rfl) ?_
    obtain ⟨z3, hz3, hf⟩ := bnd hf
    refine x_rdV (C := RX5) (n := 1) (ci := 5) hx hb hml hown hts hE (ct_X5_hasPerson N l G cI cZ cO (sh q 3) tI tA x2 z3 hz3) (bg 13 19 rfl) mb_X5_hasPerson.1 mb_X5_hasPerson.2.1 mb_X5_hasPerson.2.2.1 mb_X5_hasPerson.2.2.2 hd_X5_hasPerson rfl (by decide) (x_cut hP [3, 4, 5, 6, 7, 8, 9] rfl) rfl rfl rfl rfl hl.1 (Nat.le_of_ble_eq_true rfl) ⟨Nat.zero_le _, Nat.zero_le _⟩ dX6_rests_16 ?_
    refine lv_if_ne (tgt := 24) hx hb dX6_rests_19 (by decide) (fun c4 => ?_) (fun c4 => ?_)
    · rw [if_neg c4] at hf
      refine lv_iload_n hx hb dX6_rests_24 rfl (lv_at hl 1 rfl) ?_
      refine lv_iload_n hx hb dX6_rests_25 rfl (lv_at hl 2 rfl) ?_
      refine lv_icmp_eq (tgt := 49) hx hb dX6_rests_26 (by decide) (fun c5 => ?_) (fun c5 => ?_)
      · rw [if_pos c5] at hf
        exact b_49 A H locs hP hD hS ls (lv_sub hl [] rfl) hf
      · rw [if_neg c5] at hf
        refine lv_iload_n hx hb dX6_rests_29 rfl (lv_at hl 3 rfl) ?_
        refine lv_iconst (v := 0) hx hb dX6_rests_30 (by decide) ?_
        refine lv_bipush (v := 8) hx hb dX6_rests_31 (by decide) ?_
        obtain ⟨z6, hz6, hf⟩ := bnd hf
        refine x_rdS (n := 3) hx hb hml hown hts hE (ct_X6_isOutside N l G cI cZ cO x3 0 8 z6 hz6) (bg 4 17 rfl) mb_X6_isOutside.1 mb_X6_isOutside.2.1 mb_X6_isOutside.2.2 hd_X6_isOutside rfl (by decide) va_P_nil rfl hl.1 (Nat.le_of_ble_eq_true rfl) ⟨Nat.zero_le _, Nat.zero_le _⟩ dX6_rests_33 ?_
        refine lv_if_ne (tgt := 49) hx hb dX6_rests_36 (by decide) (fun c7 => ?_) (fun c7 => ?_)
        · rw [if_neg c7] at hf
          exact b_49 A H locs hP hD hS ls (lv_sub hl [] rfl) hf
        · rw [if_pos c7] at hf
          refine lv_iload hx hb dX6_rests_39 (lv_at hl 4 rfl) ?_
          refine lv_iconst (v := 0) hx hb dX6_rests_41 (by decide) ?_
          refine lv_iconst (v := 1) hx hb dX6_rests_42 (by decide) ?_
          obtain ⟨z8, hz8, hf⟩ := bnd hf
          refine x_rdS (n := 3) hx hb hml hown hts hE (ct_X6_isOutside N l G cI cZ cO x4 0 1 z8 hz8) (bg 4 17 rfl) mb_X6_isOutside.1 mb_X6_isOutside.2.1 mb_X6_isOutside.2.2 hd_X6_isOutside rfl (by decide) va_P_nil rfl hl.1 (Nat.le_of_ble_eq_true rfl) ⟨Nat.zero_le _, Nat.zero_le _⟩ dX6_rests_43 ?_
          refine lv_if_eq (tgt := 52) hx hb dX6_rests_46 (by decide) (fun c9 => ?_) (fun c9 => ?_)
          · rw [if_pos c9] at hf
            refine lv_aload_n hx hb dX6_rests_52 rfl (lv_at hl 0 rfl) ?_
            refine lv_iload_n hx hb dX6_rests_53 rfl (lv_at hl 1 rfl) ?_
            refine lv_iload_n hx hb dX6_rests_54 rfl (lv_at hl 2 rfl) ?_
            refine lv_iload_n hx hb dX6_rests_55 rfl (lv_at hl 3 rfl) ?_
            obtain ⟨z10, hz10, hf⟩ := bnd hf
            refine x_wwVv (C := RX6) (n := 3) (ci := 6) hx hb hml hown hts hE (ct_X6_weighChoices N l G cI cZ cO q A L rI rA tI tA dI dA wI wA uI uA aI aS aT eI eA sS sT bI x1 x2 x3 z10 hz10) (bg 32 23 rfl) mb_X6_weighChoices.1 mb_X6_weighChoices.2.1 mb_X6_weighChoices.2.2.1 mb_X6_weighChoices.2.2.2 hd_X6_weighChoices rfl (by decide) hP hD hS hA rfl rfl rfl rfl rfl hl.1 (Nat.le_of_ble_eq_true rfl) ⟨Nat.zero_le _, Nat.zero_le _⟩ dX6_rests_56 (fun H locs hP hD hS => ?_)
            have hP : va_P G vwCl (wX6 q cI cZ cO z10 L rI rA tI tA dI dA wI wA uI uA aI aS aT eI eA sS sT bI) H := hP
            have hD : va_D Z (wX6 q cI cZ cO z10 L rI rA tI tA dI dA wI wA uI uA aI aS aT eI eA sS sT bI) := hD
            refine lv_iconst (v := 0) hx hb dX6_rests_59 (by decide) ?_
            refine lv_istore (lv' := [(5, .int 0), (0, .ref (q 0)), (1, .int x1), (2, .int x2), (3, .int x3), (4, .int x4)]) hx hb dX6_rests_60 hl (by decide) rfl (fun ls hl => ?_)
            refine lv_bipush (v := (-9)) hx hb dX6_rests_62 (by decide) ?_
            refine lv_istore (lv' := [(6, .int (-9)), (5, .int 0), (0, .ref (q 0)), (1, .int x1), (2, .int x2), (3, .int x3), (4, .int x4)]) hx hb dX6_rests_64 hl (by decide) rfl (fun ls hl => ?_)
            refine lv_iconst (v := 0) hx hb dX6_rests_66 (by decide) ?_
            refine lv_istore (lv' := [(7, .int 0), (6, .int (-9)), (5, .int 0), (0, .ref (q 0)), (1, .int x1), (2, .int x2), (3, .int x3), (4, .int x4)]) hx hb dX6_rests_67 hl (by decide) rfl (fun ls hl => ?_)
            exact b_69 N z10 x1 x2 x4 0 (-9) 0 H locs hP hD hS ls (lv_sub hl [3, 4, 5, 7, 2, 1, 0] rfl) hf
          · rw [if_neg c9] at hf
            exact b_49 A H locs hP hD hS ls (lv_sub hl [] rfl) hf
    · rw [if_pos c4] at hf
      exact b_22 A H locs hP hD hS ls (lv_sub hl [] rfl) hf
