def fX3_takesOfRivals_36 (N : Nat) (I : Nat → Int32) (I1 : Nat → Int32) (A1 : Nat → Nat → Int32) (y0 : Int32) : Option (Int32 × (Nat → Int32) × (Nat → Nat → Int32)) := (bz y0).bind fun v1 => some (v1, I, A1)
def fX3_takesOfRivals (N : Nat) (I : Nat → Int32) (I1 : Nat → Int32) (A1 : Nat → Nat → Int32) (x2 : Int32) : Option (Int32 × (Nat → Int32) × (Nat → Nat → Int32)) := if ((I 1) + 1) = 1 then (fX5_freePartners N I1 A1 x2).bind fun z6 => if z6 = 0 then fX3_takesOfRivals_36 N (upd (upd I 1 ((I 1) + 1)) 2 x2) I1 A1 0 else fX3_takesOfRivals_36 N (upd (upd I 1 ((I 1) + 1)) 2 x2) I1 A1 1 else (fX5_freePartners N I1 A1 (I 2)).bind fun z2 => (fX6_hasBit N z2 x2).bind fun z3 => if z3 = 0 then some (0, upd I 1 ((I 1) + 1), A1) else (fX5_addRivals N I1 A1 (I 2) x2).bind fun z5 => some (1, upd (upd I 1 ((I 1) + 1)) 0 1, z5)
def rmX3_takesOfRivals : Room := { frames := 2, cells := 0, slots := 0, locals := 43 }
theorem mb_X3_takesOfRivals : Cond.instanceMethod yX3_takesOfRivals ∈ wsL_law ∧ Cond.selects RX3 yX3_takesOfRivals yX3_takesOfRivals ∈ wsL_law ∧ Cond.initialized RX3 ∈ wsL_law ∧ Cond.code yX3_takesOfRivals cX3_takesOfRivals 3 (some .boolean) ∈ wsL_law := ⟨(bg 8 10 rfl), (bg 8 11 rfl), (bg 0 15 rfl), (bg 8 12 rfl)⟩
theorem hd_X3_takesOfRivals : yX3_takesOfRivals.cls = RX3 ∧ yX3_takesOfRivals.cls ≠ "java/lang/invoke/MethodHandle" ∧ yX3_takesOfRivals.cls ≠ "java/lang/invoke/VarHandle" ∧ (parseMethodDescriptor yX3_takesOfRivals.desc).map (fun d => d.parameters.length) = some 2 := by decide +kernel
set_option maxRecDepth 100000 in
set_option maxHeartbeats 4000000 in
theorem ct_X3_takesOfRivals (N : Nat) (l : Launch) (G : va_G) (cI cZ cO : ClassId) (q : Nat → Nat) (I : Nat → Int32) (A : Nat → Nat → Int32) (q1 : Nat → Nat) (I1 : Nat → Int32) (A1 : Nat → Nat → Int32) (x2 : Int32) (r : Int32) (Iz : Nat → Int32) (A1z : Nat → Nat → Int32) (hf : fX3_takesOfRivals N I I1 A1 x2 = some (r, Iz, A1z)) : CtI l yX3_takesOfRivals cX3_takesOfRivals 3 .boolean rmX3_takesOfRivals G cI cZ cO [.ref (q 0), .ref (q1 0), .int x2] (wX3 q cI cZ cO I A ++ wX5 q1 cI cZ cO I1 A1) (wX3 q cI cZ cO Iz A ++ wX5 q1 cI cZ cO I1 A1z) r := by
  refine mkCI (by decide) (Nat.le_of_ble_eq_true rfl) ?_
  intro p e s m below meth cd Q Z hC hP hE hD hA fin ls hl
  obtain ⟨hx, hb, hml, hown, hts⟩ := hC
  have hown : s.vm.findClass RX3 = some m.cls := hown
  have hl : lv_has ls 3 [(0, .ref (q 0)), (1, .ref (q1 0)), (2, .int x2)] := hl
  have b_36 : ∀ (I : Nat → Int32) (A1 : Nat → Nat → Int32) (y0 : Int32), ∀ (H : Heap) (locs : List Loc), va_P G vwCl (wX3 q cI cZ cO I A ++ wX5 q1 cI cZ cO I1 A1) H → va_D Z (wX3 q cI cZ cO I A ++ wX5 q1 cI cZ cO I1 A1) → va_S Z s.heap H locs → ∀ ls : Array Slot, lv_has ls 3 [] → fX3_takesOfRivals_36 N I I1 A1 y0 = some (r, Iz, A1z) → W p l e rmX3_takesOfRivals s m [.ref (q 0), .ref (q1 0), .int x2].toArray below meth cd H locs 0 0 Q (F0 m 36 ls [.int y0]) := by
    intro I A1 y0 H locs hP hD hS ls hl hf
    unfold fX3_takesOfRivals_36 at hf
    obtain ⟨v1, hv1, hf⟩ := bnd hf
    obtain ⟨ev1, hv1⟩ := bz_in hv1
    rw [ev1]
    have e9 := Option.some.inj hf
    exact fin H locs 36 ls _ (Prod.mk.inj e9).1 (nar_z (by rw [← (Prod.mk.inj e9).1]; exact hv1)) (by rw [← (Prod.mk.inj (Prod.mk.inj e9).2).1, ← (Prod.mk.inj (Prod.mk.inj e9).2).2]; exact hP) hS dX3_takesOfRivals_36
  unfold fX3_takesOfRivals at hf
  have hS : va_S Z s.heap s.heap [] := va_S.rf
  obtain ⟨H, hH⟩ : ∃ H, H = s.heap := ⟨_, rfl⟩
  obtain ⟨locs, hlocs⟩ : ∃ locs : List Loc, locs = [] := ⟨_, rfl⟩
  rw [← hlocs]
  rw [← hlocs] at hS
  suffices hW : ∀ H : Heap, va_P G vwCl (wX3 q cI cZ cO I A ++ wX5 q1 cI cZ cO I1 A1) H → va_S Z s.heap H locs → W p l e rmX3_takesOfRivals s m [.ref (q 0), .ref (q1 0), .int x2].toArray below meth cd H locs 0 0 Q (F0 m 0 ls []) from hW s.heap hP hS
  clear hP hS hH H
  intro H hP hS
  refine lv_aload_n hx hb dX3_takesOfRivals_0 rfl (lv_at hl 0 rfl) ?_
  refine lv_dup hx hb dX3_takesOfRivals_1 rfl ?_
  refine va_get (D := G) (ci := 3) (v := .int ((I 1))) (C := RX3) (T := TX3) (N := 6) hx hb hts inlX3 hown hE.1 hP 0 rfl rfl 2 (by decide) (hts _ (bg 6 16 rfl)) (fun _ h9 => h9) rfl dX3_takesOfRivals_2 ?_
  refine lv_iconst (v := 1) hx hb dX3_takesOfRivals_5 (by decide) ?_
  refine lv_iadd hx hb dX3_takesOfRivals_6 ?_
  refine va_put (D := G) (ci := 3) (v := .int ((I 1) + 1)) (ty := .int) (C := RX3) (T := TX3) (N := 6) hx hb hts inlX3 tyX3 tyX3_ok nmX3 hown hE.1 hP hD hS 0 rfl rfl 2 (by decide) (hts _ (bg 6 16 rfl)) (fun _ h9 => h9) rfl (by decide +kernel) rfl rfl (Nat.le_of_ble_eq_true rfl) dX3_takesOfRivals_7 (fun H locs hP hD hS => ?_)
  have hP : va_P G vwCl (wX3 q cI cZ cO (upd I 1 ((I 1) + 1)) A ++ wX5 q1 cI cZ cO I1 A1) H := hP
  have hD : va_D Z (wX3 q cI cZ cO (upd I 1 ((I 1) + 1)) A ++ wX5 q1 cI cZ cO I1 A1) := hD
  refine lv_aload_n hx hb dX3_takesOfRivals_10 rfl (lv_at hl 0 rfl) ?_
  refine va_get (D := G) (ci := 3) (v := .int ((I 1) + 1)) (C := RX3) (T := TX3) (N := 6) hx hb hts inlX3 hown hE.1 hP 0 rfl rfl 2 (by decide) (hts _ (bg 6 16 rfl)) (fun _ h9 => h9) rfl dX3_takesOfRivals_11 ?_
  refine lv_iconst (v := 1) hx hb dX3_takesOfRivals_14 (by decide) ?_
  refine lv_icmp_ne (tgt := 37) hx hb dX3_takesOfRivals_15 (by decide) (fun c1 => ?_) (fun c1 => ?_)
  · rw [if_neg c1] at hf
    refine lv_aload_n hx hb dX3_takesOfRivals_37 rfl (lv_at hl 1 rfl) ?_
    refine lv_aload_n hx hb dX3_takesOfRivals_38 rfl (lv_at hl 0 rfl) ?_
    refine va_get (D := G) (ci := 3) (v := .int ((I 2))) (C := RX3) (T := TX3) (N := 6) hx hb hts inlX3 hown hE.1 hP 0 rfl rfl 3 (by decide) (hts _ (bg 7 23 rfl)) (fun _ h9 => h9) rfl dX3_takesOfRivals_39 ?_
    obtain ⟨z2, hz2, hf⟩ := bnd hf
    refine x_rdV (C := RX5) (n := 1) (ci := 5) hx hb hml hown hts hE (ct_X5_freePartners N l G cI cZ cO q1 I1 A1 (I 2) z2 hz2) (bg 8 13 rfl) mb_X5_freePartners.1 mb_X5_freePartners.2.1 mb_X5_freePartners.2.2.1 mb_X5_freePartners.2.2.2 hd_X5_freePartners rfl (by decide) (x_cut hP [2, 3, 4, 5, 6, 7, 8] rfl) rfl rfl rfl rfl hl.1 (Nat.le_of_ble_eq_true rfl) ⟨Nat.zero_le _, Nat.zero_le _⟩ dX3_takesOfRivals_42 ?_
    refine lv_iload_n hx hb dX3_takesOfRivals_45 rfl (lv_at hl 2 rfl) ?_
    obtain ⟨z3, hz3, hf⟩ := bnd hf
    refine x_rdN (n := 2) hx hb hml hown hts hE (ct_X6_hasBit N l G cI cZ cO z2 x2 z3 hz3) (List.mem_of_getElem? (i := 9) rfl) mb_X6_hasBit.1 mb_X6_hasBit.2.1 mb_X6_hasBit.2.2 hd_X6_hasBit rfl (by decide) va_P_nil rfl hl.1 (Nat.le_of_ble_eq_true rfl) ⟨Nat.zero_le _, Nat.zero_le _⟩ dX3_takesOfRivals_46 ?_
    refine lv_if_ne (tgt := 54) hx hb dX3_takesOfRivals_49 (by decide) (fun c4 => ?_) (fun c4 => ?_)
    · rw [if_neg c4] at hf
      refine lv_aload_n hx hb dX3_takesOfRivals_54 rfl (lv_at hl 0 rfl) ?_
      refine lv_iconst (v := 1) hx hb dX3_takesOfRivals_55 (by decide) ?_
      refine va_put (D := G) (ci := 3) (v := .int 1) (ty := .int) (C := RX3) (T := TX3) (N := 6) hx hb hts inlX3 tyX3 tyX3_ok nmX3 hown hE.1 hP hD hS 0 rfl rfl 1 (by decide) (hts _ (bg 6 5 rfl)) (fun _ h9 => h9) rfl (by decide +kernel) rfl rfl (Nat.le_of_ble_eq_true rfl) dX3_takesOfRivals_56 (fun H locs hP hD hS => ?_)
      have hP : va_P G vwCl (wX3 q cI cZ cO (upd (upd I 1 ((I 1) + 1)) 0 1) A ++ wX5 q1 cI cZ cO I1 A1) H := hP
      have hD : va_D Z (wX3 q cI cZ cO (upd (upd I 1 ((I 1) + 1)) 0 1) A ++ wX5 q1 cI cZ cO I1 A1) := hD
      refine lv_aload_n hx hb dX3_takesOfRivals_59 rfl (lv_at hl 1 rfl) ?_
      refine lv_aload_n hx hb dX3_takesOfRivals_60 rfl (lv_at hl 0 rfl) ?_
      refine va_get (D := G) (ci := 3) (v := .int ((I 2))) (C := RX3) (T := TX3) (N := 6) hx hb hts inlX3 hown hE.1 hP 0 rfl rfl 3 (by decide) (hts _ (bg 7 23 rfl)) (fun _ h9 => h9) rfl dX3_takesOfRivals_61 ?_
      refine lv_iload_n hx hb dX3_takesOfRivals_64 rfl (lv_at hl 2 rfl) ?_
      obtain ⟨z5, hz5, hf⟩ := bnd hf
      refine x_wrVv (C := RX5) (n := 2) (ci := 5) (ws1 := (wX3 q cI cZ cO (upd (upd I 1 ((I 1) + 1)) 0 1) A ++ wX5 q1 cI cZ cO I1 z5)) hx hb hml hown hts hE (ct_X5_addRivals N l G cI cZ cO q1 I1 A1 (I 2) x2 z5 hz5) (bg 8 16 rfl) mb_X5_addRivals.1 mb_X5_addRivals.2.1 mb_X5_addRivals.2.2.1 mb_X5_addRivals.2.2.2 hd_X5_addRivals rfl (by decide) hP hD hS hA [2, 3, 4, 5, 6, 7, 8] [false, false, true, true, true, true, true, true, true] (by decide) (by decide +kernel) rfl rfl ⟨rfl, rfl, rfl, rfl, rfl, rfl, rfl, rfl, rfl, trivial⟩ rfl rfl rfl rfl hl.1 (Nat.le_of_ble_eq_true rfl) ⟨Nat.zero_le _, Nat.zero_le _⟩ dX3_takesOfRivals_65 (fun H locs hP hD hS => ?_)
      refine lv_iconst (v := 1) hx hb dX3_takesOfRivals_68 (by decide) ?_
      have e9 := Option.some.inj hf
      exact fin H locs 69 ls _ (Prod.mk.inj e9).1 (nar_z (Or.inr (Prod.mk.inj e9).1.symm)) (by rw [← (Prod.mk.inj (Prod.mk.inj e9).2).1, ← (Prod.mk.inj (Prod.mk.inj e9).2).2]; exact hP) hS dX3_takesOfRivals_69
    · rw [if_pos c4] at hf
      refine lv_iconst (v := 0) hx hb dX3_takesOfRivals_52 (by decide) ?_
      have e9 := Option.some.inj hf
      exact fin H locs 53 ls _ (Prod.mk.inj e9).1 (nar_z (Or.inl (Prod.mk.inj e9).1.symm)) (by rw [← (Prod.mk.inj (Prod.mk.inj e9).2).1, ← (Prod.mk.inj (Prod.mk.inj e9).2).2]; exact hP) hS dX3_takesOfRivals_53
  · rw [if_pos c1] at hf
    refine lv_aload_n hx hb dX3_takesOfRivals_18 rfl (lv_at hl 0 rfl) ?_
    refine lv_iload_n hx hb dX3_takesOfRivals_19 rfl (lv_at hl 2 rfl) ?_
    refine va_put (D := G) (ci := 3) (v := .int x2) (ty := .int) (C := RX3) (T := TX3) (N := 6) hx hb hts inlX3 tyX3 tyX3_ok nmX3 hown hE.1 hP hD hS 0 rfl rfl 3 (by decide) (hts _ (bg 7 23 rfl)) (fun _ h9 => h9) rfl (by decide +kernel) rfl rfl (Nat.le_of_ble_eq_true rfl) dX3_takesOfRivals_20 (fun H locs hP hD hS => ?_)
    have hP : va_P G vwCl (wX3 q cI cZ cO (upd (upd I 1 ((I 1) + 1)) 2 x2) A ++ wX5 q1 cI cZ cO I1 A1) H := hP
    have hD : va_D Z (wX3 q cI cZ cO (upd (upd I 1 ((I 1) + 1)) 2 x2) A ++ wX5 q1 cI cZ cO I1 A1) := hD
    refine lv_aload_n hx hb dX3_takesOfRivals_23 rfl (lv_at hl 1 rfl) ?_
    refine lv_iload_n hx hb dX3_takesOfRivals_24 rfl (lv_at hl 2 rfl) ?_
    obtain ⟨z6, hz6, hf⟩ := bnd hf
    refine x_rdV (C := RX5) (n := 1) (ci := 5) hx hb hml hown hts hE (ct_X5_freePartners N l G cI cZ cO q1 I1 A1 x2 z6 hz6) (bg 8 13 rfl) mb_X5_freePartners.1 mb_X5_freePartners.2.1 mb_X5_freePartners.2.2.1 mb_X5_freePartners.2.2.2 hd_X5_freePartners rfl (by decide) (x_cut hP [2, 3, 4, 5, 6, 7, 8] rfl) rfl rfl rfl rfl hl.1 (Nat.le_of_ble_eq_true rfl) ⟨Nat.zero_le _, Nat.zero_le _⟩ dX3_takesOfRivals_25 ?_
    refine lv_if_eq (tgt := 35) hx hb dX3_takesOfRivals_28 (by decide) (fun c7 => ?_) (fun c7 => ?_)
    · rw [if_pos c7] at hf
      refine lv_iconst (v := 0) hx hb dX3_takesOfRivals_35 (by decide) ?_
      exact b_36 (upd (upd I 1 ((I 1) + 1)) 2 x2) A1 0 H locs hP hD hS ls (lv_sub hl [] rfl) hf
    · rw [if_neg c7] at hf
      refine lv_iconst (v := 1) hx hb dX3_takesOfRivals_31 (by decide) ?_
      refine lv_goto (tgt := 36) hx hb dX3_takesOfRivals_32 (by decide) ?_
      exact b_36 (upd (upd I 1 ((I 1) + 1)) 2 x2) A1 1 H locs hP hD hS ls (lv_sub hl [] rfl) hf
def fX6_isTable_15 (N : Nat) (y0 : Int32) : Option (Int32) := (bz y0).bind fun v1 => some v1
def fX6_isTable_14 (N : Nat) : Option (Int32) := fX6_isTable_15 N 0
def fX6_isTable (N : Nat) (x0 : Int32) : Option (Int32) := if x0 < 0 then fX6_isTable_14 N else if 6 ≤ x0 then fX6_isTable_14 N else fX6_isTable_15 N 1
def rmX6_isTable : Room := { frames := 0, cells := 0, slots := 0, locals := 0 }
theorem mb_X6_isTable : Cond.static yX6_isTable ∈ wsL_law ∧ Cond.initialized yX6_isTable.cls ∈ wsL_law ∧ Cond.code yX6_isTable cX6_isTable 1 (some .boolean) ∈ wsL_law := ⟨(bg 9 0 rfl), (bg 0 2 rfl), (bg 9 1 rfl)⟩
theorem hd_X6_isTable : yX6_isTable.cls ≠ "java/lang/invoke/MethodHandle" ∧ yX6_isTable.cls ≠ "java/lang/invoke/VarHandle" ∧ (parseMethodDescriptor yX6_isTable.desc).map (fun d => d.parameters.length) = some 1 := by decide +kernel
set_option maxRecDepth 100000 in
set_option maxHeartbeats 4000000 in
theorem ct_X6_isTable (N : Nat) (l : Launch) (G : va_G) (cI cZ cO : ClassId) (x0 : Int32) (r : Int32) (hf : fX6_isTable N x0 = some r) : RtI l yX6_isTable cX6_isTable 1 .boolean rmX6_isTable G cI cZ cO [.int x0] [] r := by
  refine mkRI (by decide) (Nat.le_of_ble_eq_true rfl) ?_
  intro p e s m below meth cd Q hC hP hE fin ls hl
  obtain ⟨hx, hb, hml, hown, hts⟩ := hC
  have hown : s.vm.findClass RX6 = some m.cls := hown
  have hl : lv_has ls 1 [(0, .int x0)] := hl
  have b_15 : ∀ (y0 : Int32), ∀ ls : Array Slot, lv_has ls 1 [] → fX6_isTable_15 N y0 = some r → W p l e rmX6_isTable s m [.int x0].toArray below meth cd s.heap [] 0 0 Q (F0 m 15 ls [.int y0]) := by
    intro y0 ls hl hf
    unfold fX6_isTable_15 at hf
    obtain ⟨v1, hv1, hf⟩ := bnd hf
    obtain ⟨ev1, hv1⟩ := bz_in hv1
    rw [ev1]
    have e9 := Option.some.inj hf
    exact fin 15 ls _ e9 (nar_z (by rw [← e9]; exact hv1)) dX6_isTable_15
  have b_14 : ∀ ls : Array Slot, lv_has ls 1 [] → fX6_isTable_14 N = some r → W p l e rmX6_isTable s m [.int x0].toArray below meth cd s.heap [] 0 0 Q (F0 m 14 ls []) := by
    intro ls hl hf
    unfold fX6_isTable_14 at hf
    refine lv_iconst (v := 0) hx hb dX6_isTable_14 (by decide) ?_
    exact b_15 0 ls (lv_sub hl [] rfl) hf
  unfold fX6_isTable at hf
  refine lv_iload_n hx hb dX6_isTable_0 rfl (lv_at hl 0 rfl) ?_
  refine lv_if_lt (tgt := 14) hx hb dX6_isTable_1 (by decide) (fun c1 => ?_) (fun c1 => ?_)
  · rw [if_pos c1] at hf
    exact b_14 ls (lv_sub hl [] rfl) hf
  · rw [if_neg c1] at hf
    refine lv_iload_n hx hb dX6_isTable_4 rfl (lv_at hl 0 rfl) ?_
    refine lv_bipush (v := 6) hx hb dX6_isTable_5 (by decide) ?_
    refine lv_icmp_ge (tgt := 14) hx hb dX6_isTable_7 (by decide) (fun c2 => ?_) (fun c2 => ?_)
    · rw [if_pos c2] at hf
      exact b_14 ls (lv_sub hl [] rfl) hf
    · rw [if_neg c2] at hf
      refine lv_iconst (v := 1) hx hb dX6_isTable_10 (by decide) ?_
      refine lv_goto (tgt := 15) hx hb dX6_isTable_11 (by decide) ?_
      exact b_15 1 ls (lv_sub hl [] rfl) hf
def fX5_addPerson_31 (N : Nat) (I : Nat → Int32) (A : Nat → Nat → Int32) : Option ((Nat → Int32) × (Nat → Nat → Int32)) := some (I, A)
def fX5_addPerson (N : Nat) (I : Nat → Int32) (A : Nat → Nat → Int32) (x1 : Int32) : Option ((Nat → Int32) × (Nat → Nat → Int32)) := (fX6_isIndex N (I 1) 4).bind fun z1 => if z1 = 0 then fX5_addPerson_31 N I A else (wr 4 (A 5) (I 1) x1).bind fun g3 => fX5_addPerson_31 N (upd I 1 ((I 1) + 1)) (va_up A 5 g3)
def rmX5_addPerson : Room := { frames := 1, cells := 0, slots := 0, locals := 21 }
theorem mb_X5_addPerson : Cond.instanceMethod yX5_addPerson ∈ wsL_law ∧ Cond.selects RX5 yX5_addPerson yX5_addPerson ∈ wsL_law ∧ Cond.initialized RX5 ∈ wsL_law ∧ Cond.code yX5_addPerson cX5_addPerson 2 none ∈ wsL_law := ⟨(bg 9 3 rfl), (bg 9 4 rfl), (bg 0 19 rfl), (bg 9 5 rfl)⟩
theorem hd_X5_addPerson : yX5_addPerson.cls = RX5 ∧ yX5_addPerson.cls ≠ "java/lang/invoke/MethodHandle" ∧ yX5_addPerson.cls ≠ "java/lang/invoke/VarHandle" ∧ (parseMethodDescriptor yX5_addPerson.desc).map (fun d => d.parameters.length) = some 1 := by decide +kernel
set_option maxRecDepth 100000 in
set_option maxHeartbeats 4000000 in
theorem ct_X5_addPerson (N : Nat) (l : Launch) (G : va_G) (cI cZ cO : ClassId) (q : Nat → Nat) (I : Nat → Int32) (A : Nat → Nat → Int32) (x1 : Int32) (Iz : Nat → Int32) (Az : Nat → Nat → Int32) (hf : fX5_addPerson N I A x1 = some (Iz, Az)) : CtV l yX5_addPerson cX5_addPerson 2 rmX5_addPerson G cI cZ cO [.ref (q 0), .int x1] (wX5 q cI cZ cO I A) (wX5 q cI cZ cO Iz Az) := by
  refine mkCV (by decide) (Nat.le_of_ble_eq_true rfl) ?_
  intro p e s m below meth cd Q Z hC hP hE hD hA fin ls hl
  obtain ⟨hx, hb, hml, hown, hts⟩ := hC
  have hown : s.vm.findClass RX5 = some m.cls := hown
  have hl : lv_has ls 2 [(0, .ref (q 0)), (1, .int x1)] := hl
  have b_31 : ∀ (I : Nat → Int32) (A : Nat → Nat → Int32), ∀ (H : Heap) (locs : List Loc), va_P G vwCl (wX5 q cI cZ cO I A) H → va_D Z (wX5 q cI cZ cO I A) → va_S Z s.heap H locs → ∀ ls : Array Slot, lv_has ls 2 [] → fX5_addPerson_31 N I A = some (Iz, Az) → W p l e rmX5_addPerson s m [.ref (q 0), .int x1].toArray below meth cd H locs 0 0 Q (F0 m 31 ls []) := by
    intro I A H locs hP hD hS ls hl hf
    unfold fX5_addPerson_31 at hf
    have e9 := Option.some.inj hf
    exact fin H locs 31 ls (by rw [← (Prod.mk.inj e9).1, ← (Prod.mk.inj e9).2]; exact hP) hS dX5_addPerson_31
  unfold fX5_addPerson at hf
  have hS : va_S Z s.heap s.heap [] := va_S.rf
  obtain ⟨H, hH⟩ : ∃ H, H = s.heap := ⟨_, rfl⟩
  obtain ⟨locs, hlocs⟩ : ∃ locs : List Loc, locs = [] := ⟨_, rfl⟩
  rw [← hlocs]
  rw [← hlocs] at hS
  suffices hW : ∀ H : Heap, va_P G vwCl (wX5 q cI cZ cO I A) H → va_S Z s.heap H locs → W p l e rmX5_addPerson s m [.ref (q 0), .int x1].toArray below meth cd H locs 0 0 Q (F0 m 0 ls []) from hW s.heap hP hS
  clear hP hS hH H
  intro H hP hS
  refine lv_aload_n hx hb dX5_addPerson_0 rfl (lv_at hl 0 rfl) ?_
  refine va_get (D := G) (ci := 5) (v := .int ((I 1))) (C := RX5) (T := TX5) (N := 8) hx hb hts inlX5 hown hE.1 hP 0 rfl rfl 7 (by decide) (hts _ (bg 6 11 rfl)) (fun _ h9 => h9) rfl dX5_addPerson_1 ?_
  refine lv_iconst (v := 4) hx hb dX5_addPerson_4 (by decide) ?_
  obtain ⟨z1, hz1, hf⟩ := bnd hf
  refine x_rdN (n := 2) hx hb hml hown hts hE (ct_X6_isIndex N l G cI cZ cO (I 1) 4 z1 hz1) (List.mem_of_getElem? (i := 8) rfl) mb_X6_isIndex.1 mb_X6_isIndex.2.1 mb_X6_isIndex.2.2 hd_X6_isIndex rfl (by decide) va_P_nil rfl hl.1 (Nat.le_of_ble_eq_true rfl) ⟨Nat.zero_le _, Nat.zero_le _⟩ dX5_addPerson_5 ?_
  refine lv_if_eq (tgt := 31) hx hb dX5_addPerson_8 (by decide) (fun c2 => ?_) (fun c2 => ?_)
  · rw [if_pos c2] at hf
    exact b_31 I A H locs hP hD hS ls (lv_sub hl [] rfl) hf
  · rw [if_neg c2] at hf
    refine lv_aload_n hx hb dX5_addPerson_11 rfl (lv_at hl 0 rfl) ?_
    refine va_get (D := G) (ci := 5) (v := .ref (q 6)) (C := RX5) (T := TX5) (N := 8) hx hb hts inlX5 hown hE.1 hP 0 rfl rfl 5 (by decide) (hts _ (bg 2 11 rfl)) (fun _ h9 => h9) rfl dX5_addPerson_12 ?_
    refine lv_aload_n hx hb dX5_addPerson_15 rfl (lv_at hl 0 rfl) ?_
    refine va_get (D := G) (ci := 5) (v := .int ((I 1))) (C := RX5) (T := TX5) (N := 8) hx hb hts inlX5 hown hE.1 hP 0 rfl rfl 7 (by decide) (hts _ (bg 6 11 rfl)) (fun _ h9 => h9) rfl dX5_addPerson_16 ?_
    refine lv_iload_n hx hb dX5_addPerson_19 rfl (lv_at hl 1 rfl) ?_
    obtain ⟨g3, hg3, hf⟩ := bnd hf
    refine x_iast hx hb hE.1 hP hD hS 6 0 rfl rfl hg3 dX5_addPerson_20 (fun H locs hP hD hS => ?_)
    have hP : va_P G vwCl (wX5 q cI cZ cO I (va_up A 5 g3)) H := hP
    have hD : va_D Z (wX5 q cI cZ cO I (va_up A 5 g3)) := hD
    refine lv_aload_n hx hb dX5_addPerson_21 rfl (lv_at hl 0 rfl) ?_
    refine lv_dup hx hb dX5_addPerson_22 rfl ?_
    refine va_get (D := G) (ci := 5) (v := .int ((I 1))) (C := RX5) (T := TX5) (N := 8) hx hb hts inlX5 hown hE.1 hP 0 rfl rfl 7 (by decide) (hts _ (bg 6 11 rfl)) (fun _ h9 => h9) rfl dX5_addPerson_23 ?_
    refine lv_iconst (v := 1) hx hb dX5_addPerson_26 (by decide) ?_
    refine lv_iadd hx hb dX5_addPerson_27 ?_
    refine va_put (D := G) (ci := 5) (v := .int ((I 1) + 1)) (ty := .int) (C := RX5) (T := TX5) (N := 8) hx hb hts inlX5 tyX5 tyX5_ok nmX5 hown hE.1 hP hD hS 0 rfl rfl 7 (by decide) (hts _ (bg 6 11 rfl)) (fun _ h9 => h9) rfl (by decide +kernel) rfl rfl (Nat.le_of_ble_eq_true rfl) dX5_addPerson_28 (fun H locs hP hD hS => ?_)
    have hP : va_P G vwCl (wX5 q cI cZ cO (upd I 1 ((I 1) + 1)) (va_up A 5 g3)) H := hP
    have hD : va_D Z (wX5 q cI cZ cO (upd I 1 ((I 1) + 1)) (va_up A 5 g3)) := hD
    exact b_31 (upd I 1 ((I 1) + 1)) (va_up A 5 g3) H locs hP hD hS ls (lv_sub hl [] rfl) hf
def fX3_takesOfPerson (N : Nat) (I : Nat → Int32) (I1 : Nat → Int32) (A1 : Nat → Nat → Int32) (x2 : Int32) : Option (Int32 × (Nat → Int32) × (Nat → Int32) × (Nat → Nat → Int32)) := (fX6_isTable N x2).bind fun z1 => if z1 = 0 then some (0, I, I1, A1) else (fX5_addPerson N I1 A1 x2).bind fun z3 => some (1, upd I 0 1, z3.1, z3.2)
def rmX3_takesOfPerson : Room := { frames := 2, cells := 0, slots := 0, locals := 42 }
theorem mb_X3_takesOfPerson : Cond.instanceMethod yX3_takesOfPerson ∈ wsL_law ∧ Cond.selects RX3 yX3_takesOfPerson yX3_takesOfPerson ∈ wsL_law ∧ Cond.initialized RX3 ∈ wsL_law ∧ Cond.code yX3_takesOfPerson cX3_takesOfPerson 3 (some .boolean) ∈ wsL_law := ⟨(bg 8 21 rfl), (bg 8 22 rfl), (bg 0 15 rfl), (bg 8 23 rfl)⟩
theorem hd_X3_takesOfPerson : yX3_takesOfPerson.cls = RX3 ∧ yX3_takesOfPerson.cls ≠ "java/lang/invoke/MethodHandle" ∧ yX3_takesOfPerson.cls ≠ "java/lang/invoke/VarHandle" ∧ (parseMethodDescriptor yX3_takesOfPerson.desc).map (fun d => d.parameters.length) = some 2 := by decide +kernel
set_option maxRecDepth 100000 in
set_option maxHeartbeats 4000000 in
theorem ct_X3_takesOfPerson (N : Nat) (l : Launch) (G : va_G) (cI cZ cO : ClassId) (q : Nat → Nat) (I : Nat → Int32) (A : Nat → Nat → Int32) (q1 : Nat → Nat) (I1 : Nat → Int32) (A1 : Nat → Nat → Int32) (x2 : Int32) (r : Int32) (Iz : Nat → Int32) (I1z : Nat → Int32) (A1z : Nat → Nat → Int32) (hf : fX3_takesOfPerson N I I1 A1 x2 = some (r, Iz, I1z, A1z)) : CtI l yX3_takesOfPerson cX3_takesOfPerson 3 .boolean rmX3_takesOfPerson G cI cZ cO [.ref (q 0), .ref (q1 0), .int x2] (wX3 q cI cZ cO I A ++ wX5 q1 cI cZ cO I1 A1) (wX3 q cI cZ cO Iz A ++ wX5 q1 cI cZ cO I1z A1z) r := by
  refine mkCI (by decide) (Nat.le_of_ble_eq_true rfl) ?_
  intro p e s m below meth cd Q Z hC hP hE hD hA fin ls hl
  obtain ⟨hx, hb, hml, hown, hts⟩ := hC
  have hown : s.vm.findClass RX3 = some m.cls := hown
  have hl : lv_has ls 3 [(0, .ref (q 0)), (1, .ref (q1 0)), (2, .int x2)] := hl
  unfold fX3_takesOfPerson at hf
  have hS : va_S Z s.heap s.heap [] := va_S.rf
  obtain ⟨H, hH⟩ : ∃ H, H = s.heap := ⟨_, rfl⟩
  obtain ⟨locs, hlocs⟩ : ∃ locs : List Loc, locs = [] := ⟨_, rfl⟩
  rw [← hlocs]
  rw [← hlocs] at hS
  suffices hW : ∀ H : Heap, va_P G vwCl (wX3 q cI cZ cO I A ++ wX5 q1 cI cZ cO I1 A1) H → va_S Z s.heap H locs → W p l e rmX3_takesOfPerson s m [.ref (q 0), .ref (q1 0), .int x2].toArray below meth cd H locs 0 0 Q (F0 m 0 ls []) from hW s.heap hP hS
  clear hP hS hH H
  intro H hP hS
  refine lv_iload_n hx hb dX3_takesOfPerson_0 rfl (lv_at hl 2 rfl) ?_
  obtain ⟨z1, hz1, hf⟩ := bnd hf
  refine x_rdN (n := 1) hx hb hml hown hts hE (ct_X6_isTable N l G cI cZ cO x2 z1 hz1) (List.mem_of_getElem? (i := 10) rfl) mb_X6_isTable.1 mb_X6_isTable.2.1 mb_X6_isTable.2.2 hd_X6_isTable rfl (by decide) va_P_nil rfl hl.1 (Nat.le_of_ble_eq_true rfl) ⟨Nat.zero_le _, Nat.zero_le _⟩ dX3_takesOfPerson_1 ?_
  refine lv_if_ne (tgt := 9) hx hb dX3_takesOfPerson_4 (by decide) (fun c2 => ?_) (fun c2 => ?_)
  · rw [if_neg c2] at hf
    refine lv_aload_n hx hb dX3_takesOfPerson_9 rfl (lv_at hl 0 rfl) ?_
    refine lv_iconst (v := 1) hx hb dX3_takesOfPerson_10 (by decide) ?_
    refine va_put (D := G) (ci := 3) (v := .int 1) (ty := .int) (C := RX3) (T := TX3) (N := 6) hx hb hts inlX3 tyX3 tyX3_ok nmX3 hown hE.1 hP hD hS 0 rfl rfl 1 (by decide) (hts _ (bg 6 5 rfl)) (fun _ h9 => h9) rfl (by decide +kernel) rfl rfl (Nat.le_of_ble_eq_true rfl) dX3_takesOfPerson_11 (fun H locs hP hD hS => ?_)
    have hP : va_P G vwCl (wX3 q cI cZ cO (upd I 0 1) A ++ wX5 q1 cI cZ cO I1 A1) H := hP
    have hD : va_D Z (wX3 q cI cZ cO (upd I 0 1) A ++ wX5 q1 cI cZ cO I1 A1) := hD
    refine lv_aload_n hx hb dX3_takesOfPerson_14 rfl (lv_at hl 1 rfl) ?_
    refine lv_iload_n hx hb dX3_takesOfPerson_15 rfl (lv_at hl 2 rfl) ?_
    obtain ⟨z3, hz3, hf⟩ := bnd hf
    refine x_wrVv (C := RX5) (n := 1) (ci := 5) (ws1 := (wX3 q cI cZ cO (upd I 0 1) A ++ wX5 q1 cI cZ cO z3.1 z3.2)) hx hb hml hown hts hE (ct_X5_addPerson N l G cI cZ cO q1 I1 A1 x2 z3.1 z3.2 hz3) (bg 9 2 rfl) mb_X5_addPerson.1 mb_X5_addPerson.2.1 mb_X5_addPerson.2.2.1 mb_X5_addPerson.2.2.2 hd_X5_addPerson rfl (by decide) hP hD hS hA [2, 3, 4, 5, 6, 7, 8] [false, false, true, true, true, true, true, true, true] (by decide) (by decide +kernel) rfl rfl ⟨rfl, rfl, rfl, rfl, rfl, rfl, rfl, rfl, rfl, trivial⟩ rfl rfl rfl rfl hl.1 (Nat.le_of_ble_eq_true rfl) ⟨Nat.zero_le _, Nat.zero_le _⟩ dX3_takesOfPerson_16 (fun H locs hP hD hS => ?_)
    refine lv_iconst (v := 1) hx hb dX3_takesOfPerson_19 (by decide) ?_
    have e9 := Option.some.inj hf
    exact fin H locs 20 ls _ (Prod.mk.inj e9).1 (nar_z (Or.inr (Prod.mk.inj e9).1.symm)) (by rw [← (Prod.mk.inj (Prod.mk.inj e9).2).1, ← (Prod.mk.inj (Prod.mk.inj (Prod.mk.inj e9).2).2).1, ← (Prod.mk.inj (Prod.mk.inj (Prod.mk.inj e9).2).2).2]; exact hP) hS dX3_takesOfPerson_20
  · rw [if_pos c2] at hf
    refine lv_iconst (v := 0) hx hb dX3_takesOfPerson_7 (by decide) ?_
    have e9 := Option.some.inj hf
    exact fin H locs 8 ls _ (Prod.mk.inj e9).1 (nar_z (Or.inl (Prod.mk.inj e9).1.symm)) (by rw [← (Prod.mk.inj (Prod.mk.inj e9).2).1, ← (Prod.mk.inj (Prod.mk.inj (Prod.mk.inj e9).2).2).1, ← (Prod.mk.inj (Prod.mk.inj (Prod.mk.inj e9).2).2).2]; exact hP) hS dX3_takesOfPerson_8
def fX5_addOpening_20 (N : Nat) (I : Nat → Int32) (A : Nat → Nat → Int32) : Option ((Nat → Nat → Int32)) := some A
def fX5_addOpening (N : Nat) (I : Nat → Int32) (A : Nat → Nat → Int32) (x1 : Int32) (x2 : Int32) : Option ((Nat → Nat → Int32)) := (fX5_hasRumour N I x1).bind fun z1 => if z1 = 0 then fX5_addOpening_20 N I A else (rd 5 (A 4) x1).bind fun v3 => (wr 5 (A 4) x1 (v3 ||| (shl 1 x2))).bind fun g4 => fX5_addOpening_20 N I (va_up A 4 g4)
def rmX5_addOpening : Room := { frames := 1, cells := 0, slots := 0, locals := 21 }
theorem mb_X5_addOpening : Cond.instanceMethod yX5_addOpening ∈ wsL_law ∧ Cond.selects RX5 yX5_addOpening yX5_addOpening ∈ wsL_law ∧ Cond.initialized RX5 ∈ wsL_law ∧ Cond.code yX5_addOpening cX5_addOpening 3 none ∈ wsL_law := ⟨(bg 9 12 rfl), (bg 9 13 rfl), (bg 0 19 rfl), (bg 9 14 rfl)⟩
theorem hd_X5_addOpening : yX5_addOpening.cls = RX5 ∧ yX5_addOpening.cls ≠ "java/lang/invoke/MethodHandle" ∧ yX5_addOpening.cls ≠ "java/lang/invoke/VarHandle" ∧ (parseMethodDescriptor yX5_addOpening.desc).map (fun d => d.parameters.length) = some 2 := by decide +kernel
set_option maxRecDepth 100000 in
set_option maxHeartbeats 4000000 in
theorem ct_X5_addOpening (N : Nat) (l : Launch) (G : va_G) (cI cZ cO : ClassId) (q : Nat → Nat) (I : Nat → Int32) (A : Nat → Nat → Int32) (x1 : Int32) (x2 : Int32) (Az : Nat → Nat → Int32) (hf : fX5_addOpening N I A x1 x2 = some Az) : CtV l yX5_addOpening cX5_addOpening 3 rmX5_addOpening G cI cZ cO [.ref (q 0), .int x1, .int x2] (wX5 q cI cZ cO I A) (wX5 q cI cZ cO I Az) := by
  refine mkCV (by decide) (Nat.le_of_ble_eq_true rfl) ?_
  intro p e s m below meth cd Q Z hC hP hE hD hA fin ls hl
  obtain ⟨hx, hb, hml, hown, hts⟩ := hC
  have hown : s.vm.findClass RX5 = some m.cls := hown
  have hl : lv_has ls 3 [(0, .ref (q 0)), (1, .int x1), (2, .int x2)] := hl
  have b_20 : ∀ (A : Nat → Nat → Int32), ∀ (H : Heap) (locs : List Loc), va_P G vwCl (wX5 q cI cZ cO I A) H → va_D Z (wX5 q cI cZ cO I A) → va_S Z s.heap H locs → ∀ ls : Array Slot, lv_has ls 3 [] → fX5_addOpening_20 N I A = some Az → W p l e rmX5_addOpening s m [.ref (q 0), .int x1, .int x2].toArray below meth cd H locs 0 0 Q (F0 m 20 ls []) := by
    intro A H locs hP hD hS ls hl hf
    unfold fX5_addOpening_20 at hf
    have e9 := Option.some.inj hf
    exact fin H locs 20 ls (by rw [← e9]; exact hP) hS dX5_addOpening_20
  unfold fX5_addOpening at hf
  have hS : va_S Z s.heap s.heap [] := va_S.rf
  obtain ⟨H, hH⟩ : ∃ H, H = s.heap := ⟨_, rfl⟩
  obtain ⟨locs, hlocs⟩ : ∃ locs : List Loc, locs = [] := ⟨_, rfl⟩
  rw [← hlocs]
  rw [← hlocs] at hS
  suffices hW : ∀ H : Heap, va_P G vwCl (wX5 q cI cZ cO I A) H → va_S Z s.heap H locs → W p l e rmX5_addOpening s m [.ref (q 0), .int x1, .int x2].toArray below meth cd H locs 0 0 Q (F0 m 0 ls []) from hW s.heap hP hS
  clear hP hS hH H
  intro H hP hS
  refine lv_aload_n hx hb dX5_addOpening_0 rfl (lv_at hl 0 rfl) ?_
  refine lv_iload_n hx hb dX5_addOpening_1 rfl (lv_at hl 1 rfl) ?_
  obtain ⟨z1, hz1, hf⟩ := bnd hf
  refine x_rdV (C := RX5) (n := 1) (ci := 5) hx hb hml hown hts hE (ct_X5_hasRumour N l G cI cZ cO q I A x1 z1 hz1) (bg 7 7 rfl) mb_X5_hasRumour.1 mb_X5_hasRumour.2.1 mb_X5_hasRumour.2.2.1 mb_X5_hasRumour.2.2.2 hd_X5_hasRumour rfl (by decide) hP rfl rfl rfl rfl hl.1 (Nat.le_of_ble_eq_true rfl) ⟨Nat.zero_le _, Nat.zero_le _⟩ dX5_addOpening_2 ?_
  refine lv_if_eq (tgt := 20) hx hb dX5_addOpening_5 (by decide) (fun c2 => ?_) (fun c2 => ?_)
  · rw [if_pos c2] at hf
    exact b_20 A H locs hP hD hS ls (lv_sub hl [] rfl) hf
  · rw [if_neg c2] at hf
    refine lv_aload_n hx hb dX5_addOpening_8 rfl (lv_at hl 0 rfl) ?_
    refine va_get (D := G) (ci := 5) (v := .ref (q 5)) (C := RX5) (T := TX5) (N := 8) hx hb hts inlX5 hown hE.1 hP 0 rfl rfl 4 (by decide) (hts _ (bg 2 10 rfl)) (fun _ h9 => h9) rfl dX5_addOpening_9 ?_
    refine lv_iload_n hx hb dX5_addOpening_12 rfl (lv_at hl 1 rfl) ?_
    refine lv_dup2_11 hx hb dX5_addOpening_13 rfl rfl ?_
    obtain ⟨v3, hv3, hf⟩ := bnd hf
    refine x_iald hx hb hE.1 hP 5 0 rfl rfl hv3 dX5_addOpening_14 ?_
    refine lv_iconst (v := 1) hx hb dX5_addOpening_15 (by decide) ?_
    refine lv_iload_n hx hb dX5_addOpening_16 rfl (lv_at hl 2 rfl) ?_
    refine x_ishl hx hb dX5_addOpening_17 ?_
    refine lv_ior hx hb dX5_addOpening_18 ?_
    obtain ⟨g4, hg4, hf⟩ := bnd hf
    refine x_iast hx hb hE.1 hP hD hS 5 0 rfl rfl hg4 dX5_addOpening_19 (fun H locs hP hD hS => ?_)
    have hP : va_P G vwCl (wX5 q cI cZ cO I (va_up A 4 g4)) H := hP
    have hD : va_D Z (wX5 q cI cZ cO I (va_up A 4 g4)) := hD
    exact b_20 (va_up A 4 g4) H locs hP hD hS ls (lv_sub hl [] rfl) hf
def fX3_takesOfOpening_36 (N : Nat) (I : Nat → Int32) (I1 : Nat → Int32) (A1 : Nat → Nat → Int32) (y0 : Int32) : Option (Int32 × (Nat → Int32) × (Nat → Nat → Int32)) := (bz y0).bind fun v1 => some (v1, I, A1)
def fX3_takesOfOpening (N : Nat) (I : Nat → Int32) (I1 : Nat → Int32) (A1 : Nat → Nat → Int32) (x2 : Int32) : Option (Int32 × (Nat → Int32) × (Nat → Nat → Int32)) := if ((I 1) + 1) = 1 then (fX5_freeTables N I1 A1 x2).bind fun z6 => if z6 = 0 then fX3_takesOfOpening_36 N (upd (upd I 1 ((I 1) + 1)) 2 x2) I1 A1 0 else fX3_takesOfOpening_36 N (upd (upd I 1 ((I 1) + 1)) 2 x2) I1 A1 1 else (fX5_freeTables N I1 A1 (I 2)).bind fun z2 => (fX6_hasBit N z2 x2).bind fun z3 => if z3 = 0 then some (0, upd I 1 ((I 1) + 1), A1) else (fX5_addOpening N I1 A1 (I 2) x2).bind fun z5 => some (1, upd (upd I 1 ((I 1) + 1)) 0 1, z5)
def rmX3_takesOfOpening : Room := { frames := 2, cells := 0, slots := 0, locals := 43 }
theorem mb_X3_takesOfOpening : Cond.instanceMethod yX3_takesOfOpening ∈ wsL_law ∧ Cond.selects RX3 yX3_takesOfOpening yX3_takesOfOpening ∈ wsL_law ∧ Cond.initialized RX3 ∈ wsL_law ∧ Cond.code yX3_takesOfOpening cX3_takesOfOpening 3 (some .boolean) ∈ wsL_law := ⟨(bg 9 7 rfl), (bg 9 8 rfl), (bg 0 15 rfl), (bg 9 9 rfl)⟩
theorem hd_X3_takesOfOpening : yX3_takesOfOpening.cls = RX3 ∧ yX3_takesOfOpening.cls ≠ "java/lang/invoke/MethodHandle" ∧ yX3_takesOfOpening.cls ≠ "java/lang/invoke/VarHandle" ∧ (parseMethodDescriptor yX3_takesOfOpening.desc).map (fun d => d.parameters.length) = some 2 := by decide +kernel
set_option maxRecDepth 100000 in
set_option maxHeartbeats 4000000 in
theorem ct_X3_takesOfOpening (N : Nat) (l : Launch) (G : va_G) (cI cZ cO : ClassId) (q : Nat → Nat) (I : Nat → Int32) (A : Nat → Nat → Int32) (q1 : Nat → Nat) (I1 : Nat → Int32) (A1 : Nat → Nat → Int32) (x2 : Int32) (r : Int32) (Iz : Nat → Int32) (A1z : Nat → Nat → Int32) (hf : fX3_takesOfOpening N I I1 A1 x2 = some (r, Iz, A1z)) : CtI l yX3_takesOfOpening cX3_takesOfOpening 3 .boolean rmX3_takesOfOpening G cI cZ cO [.ref (q 0), .ref (q1 0), .int x2] (wX3 q cI cZ cO I A ++ wX5 q1 cI cZ cO I1 A1) (wX3 q cI cZ cO Iz A ++ wX5 q1 cI cZ cO I1 A1z) r := by
  refine mkCI (by decide) (Nat.le_of_ble_eq_true rfl) ?_
  intro p e s m below meth cd Q Z hC hP hE hD hA fin ls hl
  obtain ⟨hx, hb, hml, hown, hts⟩ := hC
  have hown : s.vm.findClass RX3 = some m.cls := hown
  have hl : lv_has ls 3 [(0, .ref (q 0)), (1, .ref (q1 0)), (2, .int x2)] := hl
  have b_36 : ∀ (I : Nat → Int32) (A1 : Nat → Nat → Int32) (y0 : Int32), ∀ (H : Heap) (locs : List Loc), va_P G vwCl (wX3 q cI cZ cO I A ++ wX5 q1 cI cZ cO I1 A1) H → va_D Z (wX3 q cI cZ cO I A ++ wX5 q1 cI cZ cO I1 A1) → va_S Z s.heap H locs → ∀ ls : Array Slot, lv_has ls 3 [] → fX3_takesOfOpening_36 N I I1 A1 y0 = some (r, Iz, A1z) → W p l e rmX3_takesOfOpening s m [.ref (q 0), .ref (q1 0), .int x2].toArray below meth cd H locs 0 0 Q (F0 m 36 ls [.int y0]) := by
    intro I A1 y0 H locs hP hD hS ls hl hf
    unfold fX3_takesOfOpening_36 at hf
    obtain ⟨v1, hv1, hf⟩ := bnd hf
    obtain ⟨ev1, hv1⟩ := bz_in hv1
    rw [ev1]
    have e9 := Option.some.inj hf
    exact fin H locs 36 ls _ (Prod.mk.inj e9).1 (nar_z (by rw [← (Prod.mk.inj e9).1]; exact hv1)) (by rw [← (Prod.mk.inj (Prod.mk.inj e9).2).1, ← (Prod.mk.inj (Prod.mk.inj e9).2).2]; exact hP) hS dX3_takesOfOpening_36
  unfold fX3_takesOfOpening at hf
  have hS : va_S Z s.heap s.heap [] := va_S.rf
  obtain ⟨H, hH⟩ : ∃ H, H = s.heap := ⟨_, rfl⟩
  obtain ⟨locs, hlocs⟩ : ∃ locs : List Loc, locs = [] := ⟨_, rfl⟩
  rw [← hlocs]
  rw [← hlocs] at hS
  suffices hW : ∀ H : Heap, va_P G vwCl (wX3 q cI cZ cO I A ++ wX5 q1 cI cZ cO I1 A1) H → va_S Z s.heap H locs → W p l e rmX3_takesOfOpening s m [.ref (q 0), .ref (q1 0), .int x2].toArray below meth cd H locs 0 0 Q (F0 m 0 ls []) from hW s.heap hP hS
  clear hP hS hH H
  intro H hP hS
  refine lv_aload_n hx hb dX3_takesOfOpening_0 rfl (lv_at hl 0 rfl) ?_
  refine lv_dup hx hb dX3_takesOfOpening_1 rfl ?_
  refine va_get (D := G) (ci := 3) (v := .int ((I 1))) (C := RX3) (T := TX3) (N := 6) hx hb hts inlX3 hown hE.1 hP 0 rfl rfl 2 (by decide) (hts _ (bg 6 16 rfl)) (fun _ h9 => h9) rfl dX3_takesOfOpening_2 ?_
  refine lv_iconst (v := 1) hx hb dX3_takesOfOpening_5 (by decide) ?_
  refine lv_iadd hx hb dX3_takesOfOpening_6 ?_
  refine va_put (D := G) (ci := 3) (v := .int ((I 1) + 1)) (ty := .int) (C := RX3) (T := TX3) (N := 6) hx hb hts inlX3 tyX3 tyX3_ok nmX3 hown hE.1 hP hD hS 0 rfl rfl 2 (by decide) (hts _ (bg 6 16 rfl)) (fun _ h9 => h9) rfl (by decide +kernel) rfl rfl (Nat.le_of_ble_eq_true rfl) dX3_takesOfOpening_7 (fun H locs hP hD hS => ?_)
  have hP : va_P G vwCl (wX3 q cI cZ cO (upd I 1 ((I 1) + 1)) A ++ wX5 q1 cI cZ cO I1 A1) H := hP
  have hD : va_D Z (wX3 q cI cZ cO (upd I 1 ((I 1) + 1)) A ++ wX5 q1 cI cZ cO I1 A1) := hD
  refine lv_aload_n hx hb dX3_takesOfOpening_10 rfl (lv_at hl 0 rfl) ?_
  refine va_get (D := G) (ci := 3) (v := .int ((I 1) + 1)) (C := RX3) (T := TX3) (N := 6) hx hb hts inlX3 hown hE.1 hP 0 rfl rfl 2 (by decide) (hts _ (bg 6 16 rfl)) (fun _ h9 => h9) rfl dX3_takesOfOpening_11 ?_
  refine lv_iconst (v := 1) hx hb dX3_takesOfOpening_14 (by decide) ?_
  refine lv_icmp_ne (tgt := 37) hx hb dX3_takesOfOpening_15 (by decide) (fun c1 => ?_) (fun c1 => ?_)
  · rw [if_neg c1] at hf
    refine lv_aload_n hx hb dX3_takesOfOpening_37 rfl (lv_at hl 1 rfl) ?_
    refine lv_aload_n hx hb dX3_takesOfOpening_38 rfl (lv_at hl 0 rfl) ?_
    refine va_get (D := G) (ci := 3) (v := .int ((I 2))) (C := RX3) (T := TX3) (N := 6) hx hb hts inlX3 hown hE.1 hP 0 rfl rfl 3 (by decide) (hts _ (bg 7 23 rfl)) (fun _ h9 => h9) rfl dX3_takesOfOpening_39 ?_
    obtain ⟨z2, hz2, hf⟩ := bnd hf
    refine x_rdV (C := RX5) (n := 1) (ci := 5) hx hb hml hown hts hE (ct_X5_freeTables N l G cI cZ cO q1 I1 A1 (I 2) z2 hz2) (bg 9 10 rfl) mb_X5_freeTables.1 mb_X5_freeTables.2.1 mb_X5_freeTables.2.2.1 mb_X5_freeTables.2.2.2 hd_X5_freeTables rfl (by decide) (x_cut hP [2, 3, 4, 5, 6, 7, 8] rfl) rfl rfl rfl rfl hl.1 (Nat.le_of_ble_eq_true rfl) ⟨Nat.zero_le _, Nat.zero_le _⟩ dX3_takesOfOpening_42 ?_
    refine lv_iload_n hx hb dX3_takesOfOpening_45 rfl (lv_at hl 2 rfl) ?_
    obtain ⟨z3, hz3, hf⟩ := bnd hf
    refine x_rdN (n := 2) hx hb hml hown hts hE (ct_X6_hasBit N l G cI cZ cO z2 x2 z3 hz3) (List.mem_of_getElem? (i := 9) rfl) mb_X6_hasBit.1 mb_X6_hasBit.2.1 mb_X6_hasBit.2.2 hd_X6_hasBit rfl (by decide) va_P_nil rfl hl.1 (Nat.le_of_ble_eq_true rfl) ⟨Nat.zero_le _, Nat.zero_le _⟩ dX3_takesOfOpening_46 ?_
    refine lv_if_ne (tgt := 54) hx hb dX3_takesOfOpening_49 (by decide) (fun c4 => ?_) (fun c4 => ?_)
    · rw [if_neg c4] at hf
      refine lv_aload_n hx hb dX3_takesOfOpening_54 rfl (lv_at hl 0 rfl) ?_
      refine lv_iconst (v := 1) hx hb dX3_takesOfOpening_55 (by decide) ?_
      refine va_put (D := G) (ci := 3) (v := .int 1) (ty := .int) (C := RX3) (T := TX3) (N := 6) hx hb hts inlX3 tyX3 tyX3_ok nmX3 hown hE.1 hP hD hS 0 rfl rfl 1 (by decide) (hts _ (bg 6 5 rfl)) (fun _ h9 => h9) rfl (by decide +kernel) rfl rfl (Nat.le_of_ble_eq_true rfl) dX3_takesOfOpening_56 (fun H locs hP hD hS => ?_)
      have hP : va_P G vwCl (wX3 q cI cZ cO (upd (upd I 1 ((I 1) + 1)) 0 1) A ++ wX5 q1 cI cZ cO I1 A1) H := hP
      have hD : va_D Z (wX3 q cI cZ cO (upd (upd I 1 ((I 1) + 1)) 0 1) A ++ wX5 q1 cI cZ cO I1 A1) := hD
      refine lv_aload_n hx hb dX3_takesOfOpening_59 rfl (lv_at hl 1 rfl) ?_
      refine lv_aload_n hx hb dX3_takesOfOpening_60 rfl (lv_at hl 0 rfl) ?_
      refine va_get (D := G) (ci := 3) (v := .int ((I 2))) (C := RX3) (T := TX3) (N := 6) hx hb hts inlX3 hown hE.1 hP 0 rfl rfl 3 (by decide) (hts _ (bg 7 23 rfl)) (fun _ h9 => h9) rfl dX3_takesOfOpening_61 ?_
      refine lv_iload_n hx hb dX3_takesOfOpening_64 rfl (lv_at hl 2 rfl) ?_
      obtain ⟨z5, hz5, hf⟩ := bnd hf
      refine x_wrVv (C := RX5) (n := 2) (ci := 5) (ws1 := (wX3 q cI cZ cO (upd (upd I 1 ((I 1) + 1)) 0 1) A ++ wX5 q1 cI cZ cO I1 z5)) hx hb hml hown hts hE (ct_X5_addOpening N l G cI cZ cO q1 I1 A1 (I 2) x2 z5 hz5) (bg 9 11 rfl) mb_X5_addOpening.1 mb_X5_addOpening.2.1 mb_X5_addOpening.2.2.1 mb_X5_addOpening.2.2.2 hd_X5_addOpening rfl (by decide) hP hD hS hA [2, 3, 4, 5, 6, 7, 8] [false, false, true, true, true, true, true, true, true] (by decide) (by decide +kernel) rfl rfl ⟨rfl, rfl, rfl, rfl, rfl, rfl, rfl, rfl, rfl, trivial⟩ rfl rfl rfl rfl hl.1 (Nat.le_of_ble_eq_true rfl) ⟨Nat.zero_le _, Nat.zero_le _⟩ dX3_takesOfOpening_65 (fun H locs hP hD hS => ?_)
      refine lv_iconst (v := 1) hx hb dX3_takesOfOpening_68 (by decide) ?_
      have e9 := Option.some.inj hf
      exact fin H locs 69 ls _ (Prod.mk.inj e9).1 (nar_z (Or.inr (Prod.mk.inj e9).1.symm)) (by rw [← (Prod.mk.inj (Prod.mk.inj e9).2).1, ← (Prod.mk.inj (Prod.mk.inj e9).2).2]; exact hP) hS dX3_takesOfOpening_69
    · rw [if_pos c4] at hf
      refine lv_iconst (v := 0) hx hb dX3_takesOfOpening_52 (by decide) ?_
      have e9 := Option.some.inj hf
      exact fin H locs 53 ls _ (Prod.mk.inj e9).1 (nar_z (Or.inl (Prod.mk.inj e9).1.symm)) (by rw [← (Prod.mk.inj (Prod.mk.inj e9).2).1, ← (Prod.mk.inj (Prod.mk.inj e9).2).2]; exact hP) hS dX3_takesOfOpening_53
  · rw [if_pos c1] at hf
    refine lv_aload_n hx hb dX3_takesOfOpening_18 rfl (lv_at hl 0 rfl) ?_
    refine lv_iload_n hx hb dX3_takesOfOpening_19 rfl (lv_at hl 2 rfl) ?_
    refine va_put (D := G) (ci := 3) (v := .int x2) (ty := .int) (C := RX3) (T := TX3) (N := 6) hx hb hts inlX3 tyX3 tyX3_ok nmX3 hown hE.1 hP hD hS 0 rfl rfl 3 (by decide) (hts _ (bg 7 23 rfl)) (fun _ h9 => h9) rfl (by decide +kernel) rfl rfl (Nat.le_of_ble_eq_true rfl) dX3_takesOfOpening_20 (fun H locs hP hD hS => ?_)
    have hP : va_P G vwCl (wX3 q cI cZ cO (upd (upd I 1 ((I 1) + 1)) 2 x2) A ++ wX5 q1 cI cZ cO I1 A1) H := hP
    have hD : va_D Z (wX3 q cI cZ cO (upd (upd I 1 ((I 1) + 1)) 2 x2) A ++ wX5 q1 cI cZ cO I1 A1) := hD
    refine lv_aload_n hx hb dX3_takesOfOpening_23 rfl (lv_at hl 1 rfl) ?_
    refine lv_iload_n hx hb dX3_takesOfOpening_24 rfl (lv_at hl 2 rfl) ?_
    obtain ⟨z6, hz6, hf⟩ := bnd hf
    refine x_rdV (C := RX5) (n := 1) (ci := 5) hx hb hml hown hts hE (ct_X5_freeTables N l G cI cZ cO q1 I1 A1 x2 z6 hz6) (bg 9 10 rfl) mb_X5_freeTables.1 mb_X5_freeTables.2.1 mb_X5_freeTables.2.2.1 mb_X5_freeTables.2.2.2 hd_X5_freeTables rfl (by decide) (x_cut hP [2, 3, 4, 5, 6, 7, 8] rfl) rfl rfl rfl rfl hl.1 (Nat.le_of_ble_eq_true rfl) ⟨Nat.zero_le _, Nat.zero_le _⟩ dX3_takesOfOpening_25 ?_
    refine lv_if_eq (tgt := 35) hx hb dX3_takesOfOpening_28 (by decide) (fun c7 => ?_) (fun c7 => ?_)
    · rw [if_pos c7] at hf
      refine lv_iconst (v := 0) hx hb dX3_takesOfOpening_35 (by decide) ?_
      exact b_36 (upd (upd I 1 ((I 1) + 1)) 2 x2) A1 0 H locs hP hD hS ls (lv_sub hl [] rfl) hf
    · rw [if_neg c7] at hf
      refine lv_iconst (v := 1) hx hb dX3_takesOfOpening_31 (by decide) ?_
      refine lv_goto (tgt := 36) hx hb dX3_takesOfOpening_32 (by decide) ?_
      exact b_36 (upd (upd I 1 ((I 1) + 1)) 2 x2) A1 1 H locs hP hD hS ls (lv_sub hl [] rfl) hf
