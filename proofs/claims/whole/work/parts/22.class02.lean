def fX3_endsRumour_35 (N : Nat) (I : Nat → Int32) (I1 : Nat → Int32) (A1 : Nat → Nat → Int32) (u2 : Int32) (y1 : Int32) (y2 : Int32) : Option (Int32 × (Nat → Int32) × (Nat → Int32) × (Nat → Nat → Int32)) := (fX5_addRumour N I1 A1 y1 y2 u2).bind fun z1 => some (1, I, z1.1, z1.2)
def fX3_endsRumour (N : Nat) (I : Nat → Int32) (I1 : Nat → Int32) (A1 : Nat → Nat → Int32) (x2 : Int32) : Option (Int32 × (Nat → Int32) × (Nat → Int32) × (Nat → Nat → Int32)) := (fX6_isOutside N x2 0 9).bind fun z1 => if z1 = 0 then if (I 3) = 1 then fX3_endsRumour_35 N (upd I 0 1) I1 A1 x2 (I 2) 1 else fX3_endsRumour_35 N (upd I 0 1) I1 A1 x2 (I 2) 0 else some (0, I, I1, A1)
def rmX3_endsRumour : Room := { frames := 2, cells := 0, slots := 0, locals := 44 }
theorem mb_X3_endsRumour : Cond.instanceMethod yX3_endsRumour ∈ wsL_law ∧ Cond.selects RX3 yX3_endsRumour yX3_endsRumour ∈ wsL_law ∧ Cond.initialized RX3 ∈ wsL_law ∧ Cond.code yX3_endsRumour cX3_endsRumour 3 (some .boolean) ∈ wsL_law := ⟨(bg 8 2 rfl), (bg 8 3 rfl), (bg 0 15 rfl), (bg 8 4 rfl)⟩
theorem hd_X3_endsRumour : yX3_endsRumour.cls = RX3 ∧ yX3_endsRumour.cls ≠ "java/lang/invoke/MethodHandle" ∧ yX3_endsRumour.cls ≠ "java/lang/invoke/VarHandle" ∧ (parseMethodDescriptor yX3_endsRumour.desc).map (fun d => d.parameters.length) = some 2 := by decide +kernel
set_option maxRecDepth 100000 in
set_option maxHeartbeats 4000000 in
theorem ct_X3_endsRumour (N : Nat) (l : Launch) (G : va_G) (cI cZ cO : ClassId) (q : Nat → Nat) (I : Nat → Int32) (A : Nat → Nat → Int32) (q1 : Nat → Nat) (I1 : Nat → Int32) (A1 : Nat → Nat → Int32) (x2 : Int32) (r : Int32) (Iz : Nat → Int32) (I1z : Nat → Int32) (A1z : Nat → Nat → Int32) (hf : fX3_endsRumour N I I1 A1 x2 = some (r, Iz, I1z, A1z)) : CtI l yX3_endsRumour cX3_endsRumour 3 .boolean rmX3_endsRumour G cI cZ cO [.ref (q 0), .ref (q1 0), .int x2] (wX3 q cI cZ cO I A ++ wX5 q1 cI cZ cO I1 A1) (wX3 q cI cZ cO Iz A ++ wX5 q1 cI cZ cO I1z A1z) r := by
  refine mkCI (by decide) (Nat.le_of_ble_eq_true rfl) ?_
  intro p e s m below meth cd Q Z hC hP hE hD hA fin ls hl
  obtain ⟨hx, hb, hml, hown, hts⟩ := hC
  have hown : s.vm.findClass RX3 = some m.cls := hown
  have hl : lv_has ls 3 [(0, .ref (q 0)), (1, .ref (q1 0)), (2, .int x2)] := hl
  have b_35 : ∀ (I : Nat → Int32) (I1 : Nat → Int32) (A1 : Nat → Nat → Int32) (u2 : Int32) (y1 : Int32) (y2 : Int32), ∀ (H : Heap) (locs : List Loc), va_P G vwCl (wX3 q cI cZ cO I A ++ wX5 q1 cI cZ cO I1 A1) H → va_D Z (wX3 q cI cZ cO I A ++ wX5 q1 cI cZ cO I1 A1) → va_S Z s.heap H locs → ∀ ls : Array Slot, lv_has ls 3 [(2, .int u2)] → fX3_endsRumour_35 N I I1 A1 u2 y1 y2 = some (r, Iz, I1z, A1z) → W p l e rmX3_endsRumour s m [.ref (q 0), .ref (q1 0), .int x2].toArray below meth cd H locs 0 0 Q (F0 m 35 ls [.int y2, .int y1, .ref (q1 0)]) := by
    intro I I1 A1 u2 y1 y2 H locs hP hD hS ls hl hf
    unfold fX3_endsRumour_35 at hf
    refine lv_iload_n hx hb dX3_endsRumour_35 rfl (lv_at hl 0 rfl) ?_
    obtain ⟨z1, hz1, hf⟩ := bnd hf
    refine x_wrVv (C := RX5) (n := 3) (ci := 5) (ws1 := (wX3 q cI cZ cO I A ++ wX5 q1 cI cZ cO z1.1 z1.2)) hx hb hml hown hts hE (ct_X5_addRumour N l G cI cZ cO q1 I1 A1 y1 y2 u2 z1.1 z1.2 hz1) (bg 8 5 rfl) mb_X5_addRumour.1 mb_X5_addRumour.2.1 mb_X5_addRumour.2.2.1 mb_X5_addRumour.2.2.2 hd_X5_addRumour rfl (by decide) hP hD hS hA [2, 3, 4, 5, 6, 7, 8] [false, false, true, true, true, true, true, true, true] (by decide) (by decide +kernel) rfl rfl ⟨rfl, rfl, rfl, rfl, rfl, rfl, rfl, rfl, rfl, trivial⟩ rfl rfl rfl rfl hl.1 (Nat.le_of_ble_eq_true rfl) ⟨Nat.zero_le _, Nat.zero_le _⟩ dX3_endsRumour_36 (fun H locs hP hD hS => ?_)
    refine lv_iconst (v := 1) hx hb dX3_endsRumour_39 (by decide) ?_
    have e9 := Option.some.inj hf
    exact fin H locs 40 ls _ (Prod.mk.inj e9).1 (nar_z (Or.inr (Prod.mk.inj e9).1.symm)) (by rw [← (Prod.mk.inj (Prod.mk.inj e9).2).1, ← (Prod.mk.inj (Prod.mk.inj (Prod.mk.inj e9).2).2).1, ← (Prod.mk.inj (Prod.mk.inj (Prod.mk.inj e9).2).2).2]; exact hP) hS dX3_endsRumour_40
  unfold fX3_endsRumour at hf
  have hS : va_S Z s.heap s.heap [] := va_S.rf
  obtain ⟨H, hH⟩ : ∃ H, H = s.heap := ⟨_, rfl⟩
  obtain ⟨locs, hlocs⟩ : ∃ locs : List Loc, locs = [] := ⟨_, rfl⟩
  rw [← hlocs]
  rw [← hlocs] at hS
  suffices hW : ∀ H : Heap, va_P G vwCl (wX3 q cI cZ cO I A ++ wX5 q1 cI cZ cO I1 A1) H → va_S Z s.heap H locs → W p l e rmX3_endsRumour s m [.ref (q 0), .ref (q1 0), .int x2].toArray below meth cd H locs 0 0 Q (F0 m 0 ls []) from hW s.heap hP hS
  clear hP hS hH H
  intro H hP hS
  refine lv_iload_n hx hb dX3_endsRumour_0 rfl (lv_at hl 2 rfl) ?_
  refine lv_iconst (v := 0) hx hb dX3_endsRumour_1 (by decide) ?_
  refine lv_bipush (v := 9) hx hb dX3_endsRumour_2 (by decide) ?_
  obtain ⟨z1, hz1, hf⟩ := bnd hf
  refine x_rdN (n := 3) hx hb hml hown hts hE (ct_X6_isOutside N l G cI cZ cO x2 0 9 z1 hz1) (List.mem_of_getElem? (i := 7) rfl) mb_X6_isOutside.1 mb_X6_isOutside.2.1 mb_X6_isOutside.2.2 hd_X6_isOutside rfl (by decide) va_P_nil rfl hl.1 (Nat.le_of_ble_eq_true rfl) ⟨Nat.zero_le _, Nat.zero_le _⟩ dX3_endsRumour_4 ?_
  refine lv_if_eq (tgt := 12) hx hb dX3_endsRumour_7 (by decide) (fun c2 => ?_) (fun c2 => ?_)
  · rw [if_pos c2] at hf
    refine lv_aload_n hx hb dX3_endsRumour_12 rfl (lv_at hl 0 rfl) ?_
    refine lv_iconst (v := 1) hx hb dX3_endsRumour_13 (by decide) ?_
    refine va_put (D := G) (ci := 3) (v := .int 1) (ty := .int) (C := RX3) (T := TX3) (N := 6) hx hb hts inlX3 tyX3 tyX3_ok nmX3 hown hE.1 hP hD hS 0 rfl rfl 1 (by decide) (hts _ (bg 6 5 rfl)) (fun _ h9 => h9) rfl (by decide +kernel) rfl rfl (Nat.le_of_ble_eq_true rfl) dX3_endsRumour_14 (fun H locs hP hD hS => ?_)
    have hP : va_P G vwCl (wX3 q cI cZ cO (upd I 0 1) A ++ wX5 q1 cI cZ cO I1 A1) H := hP
    have hD : va_D Z (wX3 q cI cZ cO (upd I 0 1) A ++ wX5 q1 cI cZ cO I1 A1) := hD
    refine lv_aload_n hx hb dX3_endsRumour_17 rfl (lv_at hl 1 rfl) ?_
    refine lv_aload_n hx hb dX3_endsRumour_18 rfl (lv_at hl 0 rfl) ?_
    refine va_get (D := G) (ci := 3) (v := .int ((I 2))) (C := RX3) (T := TX3) (N := 6) hx hb hts inlX3 hown hE.1 hP 0 rfl rfl 3 (by decide) (hts _ (bg 7 23 rfl)) (fun _ h9 => h9) rfl dX3_endsRumour_19 ?_
    refine lv_aload_n hx hb dX3_endsRumour_22 rfl (lv_at hl 0 rfl) ?_
    refine va_get (D := G) (ci := 3) (v := .int ((I 3))) (C := RX3) (T := TX3) (N := 6) hx hb hts inlX3 hown hE.1 hP 0 rfl rfl 4 (by decide) (hts _ (bg 8 0 rfl)) (fun _ h9 => h9) rfl dX3_endsRumour_23 ?_
    refine lv_iconst (v := 1) hx hb dX3_endsRumour_26 (by decide) ?_
    refine lv_icmp_ne (tgt := 34) hx hb dX3_endsRumour_27 (by decide) (fun c3 => ?_) (fun c3 => ?_)
    · rw [if_neg c3] at hf
      refine lv_iconst (v := 0) hx hb dX3_endsRumour_34 (by decide) ?_
      exact b_35 (upd I 0 1) I1 A1 x2 (I 2) 0 H locs hP hD hS ls (lv_sub hl [2] rfl) hf
    · rw [if_pos c3] at hf
      refine lv_iconst (v := 1) hx hb dX3_endsRumour_30 (by decide) ?_
      refine lv_goto (tgt := 35) hx hb dX3_endsRumour_31 (by decide) ?_
      exact b_35 (upd I 0 1) I1 A1 x2 (I 2) 1 H locs hP hD hS ls (lv_sub hl [2] rfl) hf
  · rw [if_neg c2] at hf
    refine lv_iconst (v := 0) hx hb dX3_endsRumour_10 (by decide) ?_
    have e9 := Option.some.inj hf
    exact fin H locs 11 ls _ (Prod.mk.inj e9).1 (nar_z (Or.inl (Prod.mk.inj e9).1.symm)) (by rw [← (Prod.mk.inj (Prod.mk.inj e9).2).1, ← (Prod.mk.inj (Prod.mk.inj (Prod.mk.inj e9).2).2).1, ← (Prod.mk.inj (Prod.mk.inj (Prod.mk.inj e9).2).2).2]; exact hP) hS dX3_endsRumour_11
def fX3_takesOfRumour_80 (N : Nat) (I : Nat → Int32) (I1 : Nat → Int32) (A1 : Nat → Nat → Int32) (y0 : Int32) : Option (Int32 × (Nat → Int32) × (Nat → Int32) × (Nat → Nat → Int32)) := (bz y0).bind fun v1 => some (v1, I, I1, A1)
def fX3_takesOfRumour_60 (N : Nat) (I : Nat → Int32) (I1 : Nat → Int32) (A1 : Nat → Nat → Int32) (y0 : Int32) : Option (Int32 × (Nat → Int32) × (Nat → Int32) × (Nat → Nat → Int32)) := (bz y0).bind fun v1 => some (v1, I, I1, A1)
def fX3_takesOfRumour (N : Nat) (I : Nat → Int32) (I1 : Nat → Int32) (A1 : Nat → Nat → Int32) (x2 : Int32) : Option (Int32 × (Nat → Int32) × (Nat → Int32) × (Nat → Nat → Int32)) := if ((I 1) + 1) = 1 then (fX6_isOutside N x2 1 9).bind fun z2 => if z2 = 0 then fX3_takesOfRumour_60 N (upd (upd I 1 ((I 1) + 1)) 2 x2) I1 A1 1 else fX3_takesOfRumour_60 N (upd (upd I 1 ((I 1) + 1)) 2 x2) I1 A1 0 else if ((I 1) + 1) = 2 then (fX6_isOutside N x2 0 1).bind fun z5 => if z5 = 0 then fX3_takesOfRumour_80 N (upd (upd I 1 ((I 1) + 1)) 3 x2) I1 A1 1 else fX3_takesOfRumour_80 N (upd (upd I 1 ((I 1) + 1)) 3 x2) I1 A1 0 else (fX3_endsRumour N (upd I 1 ((I 1) + 1)) I1 A1 x2).bind fun z7 => (bz z7.1).bind fun v8 => some (v8, z7.2.1, z7.2.2.1, z7.2.2.2)
def rmX3_takesOfRumour : Room := { frames := 3, cells := 0, slots := 0, locals := 66 }
theorem mb_X3_takesOfRumour : Cond.instanceMethod yX3_takesOfRumour ∈ wsL_law ∧ Cond.selects RX3 yX3_takesOfRumour yX3_takesOfRumour ∈ wsL_law ∧ Cond.initialized RX3 ∈ wsL_law ∧ Cond.code yX3_takesOfRumour cX3_takesOfRumour 3 (some .boolean) ∈ wsL_law := ⟨(bg 7 20 rfl), (bg 7 21 rfl), (bg 0 15 rfl), (bg 7 22 rfl)⟩
theorem hd_X3_takesOfRumour : yX3_takesOfRumour.cls = RX3 ∧ yX3_takesOfRumour.cls ≠ "java/lang/invoke/MethodHandle" ∧ yX3_takesOfRumour.cls ≠ "java/lang/invoke/VarHandle" ∧ (parseMethodDescriptor yX3_takesOfRumour.desc).map (fun d => d.parameters.length) = some 2 := by decide +kernel
set_option maxRecDepth 100000 in
set_option maxHeartbeats 4000000 in
theorem ct_X3_takesOfRumour (N : Nat) (l : Launch) (G : va_G) (cI cZ cO : ClassId) (q : Nat → Nat) (I : Nat → Int32) (A : Nat → Nat → Int32) (q1 : Nat → Nat) (I1 : Nat → Int32) (A1 : Nat → Nat → Int32) (x2 : Int32) (r : Int32) (Iz : Nat → Int32) (I1z : Nat → Int32) (A1z : Nat → Nat → Int32) (hf : fX3_takesOfRumour N I I1 A1 x2 = some (r, Iz, I1z, A1z)) : CtI l yX3_takesOfRumour cX3_takesOfRumour 3 .boolean rmX3_takesOfRumour G cI cZ cO [.ref (q 0), .ref (q1 0), .int x2] (wX3 q cI cZ cO I A ++ wX5 q1 cI cZ cO I1 A1) (wX3 q cI cZ cO Iz A ++ wX5 q1 cI cZ cO I1z A1z) r := by
  refine mkCI (by decide) (Nat.le_of_ble_eq_true rfl) ?_
  intro p e s m below meth cd Q Z hC hP hE hD hA fin ls hl
  obtain ⟨hx, hb, hml, hown, hts⟩ := hC
  have hown : s.vm.findClass RX3 = some m.cls := hown
  have hl : lv_has ls 3 [(0, .ref (q 0)), (1, .ref (q1 0)), (2, .int x2)] := hl
  have b_80 : ∀ (I : Nat → Int32) (I1 : Nat → Int32) (A1 : Nat → Nat → Int32) (y0 : Int32), ∀ (H : Heap) (locs : List Loc), va_P G vwCl (wX3 q cI cZ cO I A ++ wX5 q1 cI cZ cO I1 A1) H → va_D Z (wX3 q cI cZ cO I A ++ wX5 q1 cI cZ cO I1 A1) → va_S Z s.heap H locs → ∀ ls : Array Slot, lv_has ls 3 [] → fX3_takesOfRumour_80 N I I1 A1 y0 = some (r, Iz, I1z, A1z) → W p l e rmX3_takesOfRumour s m [.ref (q 0), .ref (q1 0), .int x2].toArray below meth cd H locs 0 0 Q (F0 m 80 ls [.int y0]) := by
    intro I I1 A1 y0 H locs hP hD hS ls hl hf
    unfold fX3_takesOfRumour_80 at hf
    obtain ⟨v1, hv1, hf⟩ := bnd hf
    obtain ⟨ev1, hv1⟩ := bz_in hv1
    rw [ev1]
    have e9 := Option.some.inj hf
    exact fin H locs 80 ls _ (Prod.mk.inj e9).1 (nar_z (by rw [← (Prod.mk.inj e9).1]; exact hv1)) (by rw [← (Prod.mk.inj (Prod.mk.inj e9).2).1, ← (Prod.mk.inj (Prod.mk.inj (Prod.mk.inj e9).2).2).1, ← (Prod.mk.inj (Prod.mk.inj (Prod.mk.inj e9).2).2).2]; exact hP) hS dX3_takesOfRumour_80
  have b_60 : ∀ (I : Nat → Int32) (I1 : Nat → Int32) (A1 : Nat → Nat → Int32) (y0 : Int32), ∀ (H : Heap) (locs : List Loc), va_P G vwCl (wX3 q cI cZ cO I A ++ wX5 q1 cI cZ cO I1 A1) H → va_D Z (wX3 q cI cZ cO I A ++ wX5 q1 cI cZ cO I1 A1) → va_S Z s.heap H locs → ∀ ls : Array Slot, lv_has ls 3 [] → fX3_takesOfRumour_60 N I I1 A1 y0 = some (r, Iz, I1z, A1z) → W p l e rmX3_takesOfRumour s m [.ref (q 0), .ref (q1 0), .int x2].toArray below meth cd H locs 0 0 Q (F0 m 60 ls [.int y0]) := by
    intro I I1 A1 y0 H locs hP hD hS ls hl hf
    unfold fX3_takesOfRumour_60 at hf
    obtain ⟨v1, hv1, hf⟩ := bnd hf
    obtain ⟨ev1, hv1⟩ := bz_in hv1
    rw [ev1]
    have e9 := Option.some.inj hf
    exact fin H locs 60 ls _ (Prod.mk.inj e9).1 (nar_z (by rw [← (Prod.mk.inj e9).1]; exact hv1)) (by rw [← (Prod.mk.inj (Prod.mk.inj e9).2).1, ← (Prod.mk.inj (Prod.mk.inj (Prod.mk.inj e9).2).2).1, ← (Prod.mk.inj (Prod.mk.inj (Prod.mk.inj e9).2).2).2]; exact hP) hS dX3_takesOfRumour_60
  unfold fX3_takesOfRumour at hf
  have hS : va_S Z s.heap s.heap [] := va_S.rf
  obtain ⟨H, hH⟩ : ∃ H, H = s.heap := ⟨_, rfl⟩
  obtain ⟨locs, hlocs⟩ : ∃ locs : List Loc, locs = [] := ⟨_, rfl⟩
  rw [← hlocs]
  rw [← hlocs] at hS
  suffices hW : ∀ H : Heap, va_P G vwCl (wX3 q cI cZ cO I A ++ wX5 q1 cI cZ cO I1 A1) H → va_S Z s.heap H locs → W p l e rmX3_takesOfRumour s m [.ref (q 0), .ref (q1 0), .int x2].toArray below meth cd H locs 0 0 Q (F0 m 0 ls []) from hW s.heap hP hS
  clear hP hS hH H
  intro H hP hS
  refine lv_aload_n hx hb dX3_takesOfRumour_0 rfl (lv_at hl 0 rfl) ?_
  refine lv_dup hx hb dX3_takesOfRumour_1 rfl ?_
  refine va_get (D := G) (ci := 3) (v := .int ((I 1))) (C := RX3) (T := TX3) (N := 6) hx hb hts inlX3 hown hE.1 hP 0 rfl rfl 2 (by decide) (hts _ (bg 6 16 rfl)) (fun _ h9 => h9) rfl dX3_takesOfRumour_2 ?_
  refine lv_iconst (v := 1) hx hb dX3_takesOfRumour_5 (by decide) ?_
  refine lv_iadd hx hb dX3_takesOfRumour_6 ?_
  refine va_put (D := G) (ci := 3) (v := .int ((I 1) + 1)) (ty := .int) (C := RX3) (T := TX3) (N := 6) hx hb hts inlX3 tyX3 tyX3_ok nmX3 hown hE.1 hP hD hS 0 rfl rfl 2 (by decide) (hts _ (bg 6 16 rfl)) (fun _ h9 => h9) rfl (by decide +kernel) rfl rfl (Nat.le_of_ble_eq_true rfl) dX3_takesOfRumour_7 (fun H locs hP hD hS => ?_)
  have hP : va_P G vwCl (wX3 q cI cZ cO (upd I 1 ((I 1) + 1)) A ++ wX5 q1 cI cZ cO I1 A1) H := hP
  have hD : va_D Z (wX3 q cI cZ cO (upd I 1 ((I 1) + 1)) A ++ wX5 q1 cI cZ cO I1 A1) := hD
  refine lv_aload_n hx hb dX3_takesOfRumour_10 rfl (lv_at hl 0 rfl) ?_
  refine va_get (D := G) (ci := 3) (v := .int ((I 1) + 1)) (C := RX3) (T := TX3) (N := 6) hx hb hts inlX3 hown hE.1 hP 0 rfl rfl 2 (by decide) (hts _ (bg 6 16 rfl)) (fun _ h9 => h9) rfl dX3_takesOfRumour_11 ?_
  by_cases c1 : ((I 1) + 1) = 1
  · rw [if_pos c1] at hf
    refine x_lsw (tgt := 40) hx hb c1 dX3_takesOfRumour_14 rfl rfl (by decide) ?_
    refine lv_aload_n hx hb dX3_takesOfRumour_40 rfl (lv_at hl 0 rfl) ?_
    refine lv_iload_n hx hb dX3_takesOfRumour_41 rfl (lv_at hl 2 rfl) ?_
    refine va_put (D := G) (ci := 3) (v := .int x2) (ty := .int) (C := RX3) (T := TX3) (N := 6) hx hb hts inlX3 tyX3 tyX3_ok nmX3 hown hE.1 hP hD hS 0 rfl rfl 3 (by decide) (hts _ (bg 7 23 rfl)) (fun _ h9 => h9) rfl (by decide +kernel) rfl rfl (Nat.le_of_ble_eq_true rfl) dX3_takesOfRumour_42 (fun H locs hP hD hS => ?_)
    have hP : va_P G vwCl (wX3 q cI cZ cO (upd (upd I 1 ((I 1) + 1)) 2 x2) A ++ wX5 q1 cI cZ cO I1 A1) H := hP
    have hD : va_D Z (wX3 q cI cZ cO (upd (upd I 1 ((I 1) + 1)) 2 x2) A ++ wX5 q1 cI cZ cO I1 A1) := hD
    refine lv_iload_n hx hb dX3_takesOfRumour_45 rfl (lv_at hl 2 rfl) ?_
    refine lv_iconst (v := 1) hx hb dX3_takesOfRumour_46 (by decide) ?_
    refine lv_bipush (v := 9) hx hb dX3_takesOfRumour_47 (by decide) ?_
    obtain ⟨z2, hz2, hf⟩ := bnd hf
    refine x_rdN (n := 3) hx hb hml hown hts hE (ct_X6_isOutside N l G cI cZ cO x2 1 9 z2 hz2) (List.mem_of_getElem? (i := 7) rfl) mb_X6_isOutside.1 mb_X6_isOutside.2.1 mb_X6_isOutside.2.2 hd_X6_isOutside rfl (by decide) va_P_nil rfl hl.1 (Nat.le_of_ble_eq_true rfl) ⟨Nat.zero_le _, Nat.zero_le _⟩ dX3_takesOfRumour_49 ?_
    refine lv_if_ne (tgt := 59) hx hb dX3_takesOfRumour_52 (by decide) (fun c3 => ?_) (fun c3 => ?_)
    · rw [if_neg c3] at hf
      refine lv_iconst (v := 0) hx hb dX3_takesOfRumour_59 (by decide) ?_
      exact b_60 (upd (upd I 1 ((I 1) + 1)) 2 x2) I1 A1 0 H locs hP hD hS ls (lv_sub hl [] rfl) hf
    · rw [if_pos c3] at hf
      refine lv_iconst (v := 1) hx hb dX3_takesOfRumour_55 (by decide) ?_
      refine lv_goto (tgt := 60) hx hb dX3_takesOfRumour_56 (by decide) ?_
      exact b_60 (upd (upd I 1 ((I 1) + 1)) 2 x2) I1 A1 1 H locs hP hD hS ls (lv_sub hl [] rfl) hf
  · rw [if_neg c1] at hf
    by_cases c4 : ((I 1) + 1) = 2
    · rw [if_pos c4] at hf
      refine x_lsw (tgt := 61) hx hb c4 dX3_takesOfRumour_14 rfl rfl (by decide) ?_
      refine lv_aload_n hx hb dX3_takesOfRumour_61 rfl (lv_at hl 0 rfl) ?_
      refine lv_iload_n hx hb dX3_takesOfRumour_62 rfl (lv_at hl 2 rfl) ?_
      refine va_put (D := G) (ci := 3) (v := .int x2) (ty := .int) (C := RX3) (T := TX3) (N := 6) hx hb hts inlX3 tyX3 tyX3_ok nmX3 hown hE.1 hP hD hS 0 rfl rfl 4 (by decide) (hts _ (bg 8 0 rfl)) (fun _ h9 => h9) rfl (by decide +kernel) rfl rfl (Nat.le_of_ble_eq_true rfl) dX3_takesOfRumour_63 (fun H locs hP hD hS => ?_)
      have hP : va_P G vwCl (wX3 q cI cZ cO (upd (upd I 1 ((I 1) + 1)) 3 x2) A ++ wX5 q1 cI cZ cO I1 A1) H := hP
      have hD : va_D Z (wX3 q cI cZ cO (upd (upd I 1 ((I 1) + 1)) 3 x2) A ++ wX5 q1 cI cZ cO I1 A1) := hD
      refine lv_iload_n hx hb dX3_takesOfRumour_66 rfl (lv_at hl 2 rfl) ?_
      refine lv_iconst (v := 0) hx hb dX3_takesOfRumour_67 (by decide) ?_
      refine lv_iconst (v := 1) hx hb dX3_takesOfRumour_68 (by decide) ?_
      obtain ⟨z5, hz5, hf⟩ := bnd hf
      refine x_rdN (n := 3) hx hb hml hown hts hE (ct_X6_isOutside N l G cI cZ cO x2 0 1 z5 hz5) (List.mem_of_getElem? (i := 7) rfl) mb_X6_isOutside.1 mb_X6_isOutside.2.1 mb_X6_isOutside.2.2 hd_X6_isOutside rfl (by decide) va_P_nil rfl hl.1 (Nat.le_of_ble_eq_true rfl) ⟨Nat.zero_le _, Nat.zero_le _⟩ dX3_takesOfRumour_69 ?_
      refine lv_if_ne (tgt := 79) hx hb dX3_takesOfRumour_72 (by decide) (fun c6 => ?_) (fun c6 => ?_)
      · rw [if_neg c6] at hf
        refine lv_iconst (v := 0) hx hb dX3_takesOfRumour_79 (by decide) ?_
        exact b_80 (upd (upd I 1 ((I 1) + 1)) 3 x2) I1 A1 0 H locs hP hD hS ls (lv_sub hl [] rfl) hf
      · rw [if_pos c6] at hf
        refine lv_iconst (v := 1) hx hb dX3_takesOfRumour_75 (by decide) ?_
        refine lv_goto (tgt := 80) hx hb dX3_takesOfRumour_76 (by decide) ?_
        exact b_80 (upd (upd I 1 ((I 1) + 1)) 3 x2) I1 A1 1 H locs hP hD hS ls (lv_sub hl [] rfl) hf
    · rw [if_neg c4] at hf
      refine lv_lookup (off := 67) (tgt := 81) hx hb dX3_takesOfRumour_14 rfl (by show Op.lookupswitch.offset [(1, 26), (2, 47)] 67 _ = 67; rw [lv_osw c1 (by decide), lv_osw c4 (by decide)]; rfl) (by decide) ?_
      refine lv_aload_n hx hb dX3_takesOfRumour_81 rfl (lv_at hl 0 rfl) ?_
      refine lv_aload_n hx hb dX3_takesOfRumour_82 rfl (lv_at hl 1 rfl) ?_
      refine lv_iload_n hx hb dX3_takesOfRumour_83 rfl (lv_at hl 2 rfl) ?_
      obtain ⟨z7, hz7, hf⟩ := bnd hf
      refine x_wwV (C := RX3) (n := 2) (ci := 3) hx hb hml hown hts hE (ct_X3_endsRumour N l G cI cZ cO q (upd I 1 ((I 1) + 1)) A q1 I1 A1 x2 z7.1 z7.2.1 z7.2.2.1 z7.2.2.2 hz7) (bg 8 1 rfl) mb_X3_endsRumour.1 mb_X3_endsRumour.2.1 mb_X3_endsRumour.2.2.1 mb_X3_endsRumour.2.2.2 hd_X3_endsRumour rfl (by decide) hP hD hS hA rfl rfl rfl rfl rfl hl.1 (Nat.le_of_ble_eq_true rfl) ⟨Nat.zero_le _, Nat.zero_le _⟩ dX3_takesOfRumour_84 (fun H locs hP hD hS => ?_)
      have hP : va_P G vwCl (wX3 q cI cZ cO z7.2.1 A ++ wX5 q1 cI cZ cO z7.2.2.1 z7.2.2.2) H := hP
      have hD : va_D Z (wX3 q cI cZ cO z7.2.1 A ++ wX5 q1 cI cZ cO z7.2.2.1 z7.2.2.2) := hD
      obtain ⟨v8, hv8, hf⟩ := bnd hf
      obtain ⟨ev8, hv8⟩ := bz_in hv8
      rw [ev8]
      have e9 := Option.some.inj hf
      exact fin H locs 87 ls _ (Prod.mk.inj e9).1 (nar_z (by rw [← (Prod.mk.inj e9).1]; exact hv8)) (by rw [← (Prod.mk.inj (Prod.mk.inj e9).2).1, ← (Prod.mk.inj (Prod.mk.inj (Prod.mk.inj e9).2).2).1, ← (Prod.mk.inj (Prod.mk.inj (Prod.mk.inj e9).2).2).2]; exact hP) hS dX3_takesOfRumour_87
def fX6_hasBit_23 (N : Nat) (y0 : Int32) : Option (Int32) := (bz y0).bind fun v1 => some v1
def fX6_hasBit_22 (N : Nat) : Option (Int32) := fX6_hasBit_23 N 0
def fX6_hasBit (N : Nat) (x0 : Int32) (x1 : Int32) : Option (Int32) := if x1 < 0 then fX6_hasBit_22 N else if 30 < x1 then fX6_hasBit_22 N else if ((shr x0 x1) &&& 1) = 0 then fX6_hasBit_22 N else fX6_hasBit_23 N 1
def rmX6_hasBit : Room := { frames := 0, cells := 0, slots := 0, locals := 0 }
theorem mb_X6_hasBit : Cond.static yX6_hasBit ∈ wsL_law ∧ Cond.initialized yX6_hasBit.cls ∈ wsL_law ∧ Cond.code yX6_hasBit cX6_hasBit 2 (some .boolean) ∈ wsL_law := ⟨(bg 8 14 rfl), (bg 0 2 rfl), (bg 8 15 rfl)⟩
theorem hd_X6_hasBit : yX6_hasBit.cls ≠ "java/lang/invoke/MethodHandle" ∧ yX6_hasBit.cls ≠ "java/lang/invoke/VarHandle" ∧ (parseMethodDescriptor yX6_hasBit.desc).map (fun d => d.parameters.length) = some 2 := by decide +kernel
set_option maxRecDepth 100000 in
set_option maxHeartbeats 4000000 in
theorem ct_X6_hasBit (N : Nat) (l : Launch) (G : va_G) (cI cZ cO : ClassId) (x0 : Int32) (x1 : Int32) (r : Int32) (hf : fX6_hasBit N x0 x1 = some r) : RtI l yX6_hasBit cX6_hasBit 2 .boolean rmX6_hasBit G cI cZ cO [.int x0, .int x1] [] r := by
  refine mkRI (by decide) (Nat.le_of_ble_eq_true rfl) ?_
  intro p e s m below meth cd Q hC hP hE fin ls hl
  obtain ⟨hx, hb, hml, hown, hts⟩ := hC
  have hown : s.vm.findClass RX6 = some m.cls := hown
  have hl : lv_has ls 2 [(0, .int x0), (1, .int x1)] := hl
  have b_23 : ∀ (y0 : Int32), ∀ ls : Array Slot, lv_has ls 2 [] → fX6_hasBit_23 N y0 = some r → W p l e rmX6_hasBit s m [.int x0, .int x1].toArray below meth cd s.heap [] 0 0 Q (F0 m 23 ls [.int y0]) := by
    intro y0 ls hl hf
    unfold fX6_hasBit_23 at hf
    obtain ⟨v1, hv1, hf⟩ := bnd hf
    obtain ⟨ev1, hv1⟩ := bz_in hv1
    rw [ev1]
    have e9 := Option.some.inj hf
    exact fin 23 ls _ e9 (nar_z (by rw [← e9]; exact hv1)) dX6_hasBit_23
  have b_22 : ∀ ls : Array Slot, lv_has ls 2 [] → fX6_hasBit_22 N = some r → W p l e rmX6_hasBit s m [.int x0, .int x1].toArray below meth cd s.heap [] 0 0 Q (F0 m 22 ls []) := by
    intro ls hl hf
    unfold fX6_hasBit_22 at hf
    refine lv_iconst (v := 0) hx hb dX6_hasBit_22 (by decide) ?_
    exact b_23 0 ls (lv_sub hl [] rfl) hf
  unfold fX6_hasBit at hf
  refine lv_iload_n hx hb dX6_hasBit_0 rfl (lv_at hl 1 rfl) ?_
  refine lv_if_lt (tgt := 22) hx hb dX6_hasBit_1 (by decide) (fun c1 => ?_) (fun c1 => ?_)
  · rw [if_pos c1] at hf
    exact b_22 ls (lv_sub hl [] rfl) hf
  · rw [if_neg c1] at hf
    refine lv_iload_n hx hb dX6_hasBit_4 rfl (lv_at hl 1 rfl) ?_
    refine lv_bipush (v := 30) hx hb dX6_hasBit_5 (by decide) ?_
    refine lv_icmp_gt (tgt := 22) hx hb dX6_hasBit_7 (by decide) (fun c2 => ?_) (fun c2 => ?_)
    · rw [if_pos c2] at hf
      exact b_22 ls (lv_sub hl [] rfl) hf
    · rw [if_neg c2] at hf
      refine lv_iload_n hx hb dX6_hasBit_10 rfl (lv_at hl 0 rfl) ?_
      refine lv_iload_n hx hb dX6_hasBit_11 rfl (lv_at hl 1 rfl) ?_
      refine x_ishr hx hb dX6_hasBit_12 ?_
      refine lv_iconst (v := 1) hx hb dX6_hasBit_13 (by decide) ?_
      refine lv_iand hx hb dX6_hasBit_14 ?_
      refine lv_if_eq (tgt := 22) hx hb dX6_hasBit_15 (by decide) (fun c3 => ?_) (fun c3 => ?_)
      · rw [if_pos c3] at hf
        exact b_22 ls (lv_sub hl [] rfl) hf
      · rw [if_neg c3] at hf
        refine lv_iconst (v := 1) hx hb dX6_hasBit_18 (by decide) ?_
        refine lv_goto (tgt := 23) hx hb dX6_hasBit_19 (by decide) ?_
        exact b_23 1 ls (lv_sub hl [] rfl) hf
def fX5_addRivals_40 (N : Nat) (I : Nat → Int32) (A : Nat → Nat → Int32) : Option ((Nat → Nat → Int32)) := some A
def fX5_addRivals (N : Nat) (I : Nat → Int32) (A : Nat → Nat → Int32) (x1 : Int32) (x2 : Int32) : Option ((Nat → Nat → Int32)) := (fX5_hasRumour N I x1).bind fun z1 => if z1 = 0 then fX5_addRivals_40 N I A else (fX5_hasRumour N I x2).bind fun z3 => if z3 = 0 then fX5_addRivals_40 N I A else (rd 5 (A 3) x1).bind fun v5 => (wr 5 (A 3) x1 (v5 ||| (shl 1 x2))).bind fun g6 => (rd 5 g6 x2).bind fun v7 => (wr 5 g6 x2 (v7 ||| (shl 1 x1))).bind fun g8 => fX5_addRivals_40 N I (va_up (va_up A 3 g6) 3 g8)
def rmX5_addRivals : Room := { frames := 1, cells := 0, slots := 0, locals := 21 }
theorem mb_X5_addRivals : Cond.instanceMethod yX5_addRivals ∈ wsL_law ∧ Cond.selects RX5 yX5_addRivals yX5_addRivals ∈ wsL_law ∧ Cond.initialized RX5 ∈ wsL_law ∧ Cond.code yX5_addRivals cX5_addRivals 3 none ∈ wsL_law := ⟨(bg 8 17 rfl), (bg 8 18 rfl), (bg 0 19 rfl), (bg 8 19 rfl)⟩
theorem hd_X5_addRivals : yX5_addRivals.cls = RX5 ∧ yX5_addRivals.cls ≠ "java/lang/invoke/MethodHandle" ∧ yX5_addRivals.cls ≠ "java/lang/invoke/VarHandle" ∧ (parseMethodDescriptor yX5_addRivals.desc).map (fun d => d.parameters.length) = some 2 := by decide +kernel
set_option maxRecDepth 100000 in
set_option maxHeartbeats 4000000 in
theorem ct_X5_addRivals (N : Nat) (l : Launch) (G : va_G) (cI cZ cO : ClassId) (q : Nat → Nat) (I : Nat → Int32) (A : Nat → Nat → Int32) (x1 : Int32) (x2 : Int32) (Az : Nat → Nat → Int32) (hf : fX5_addRivals N I A x1 x2 = some Az) : CtV l yX5_addRivals cX5_addRivals 3 rmX5_addRivals G cI cZ cO [.ref (q 0), .int x1, .int x2] (wX5 q cI cZ cO I A) (wX5 q cI cZ cO I Az) := by
  refine mkCV (by decide) (Nat.le_of_ble_eq_true rfl) ?_
  intro p e s m below meth cd Q Z hC hP hE hD hA fin ls hl
  obtain ⟨hx, hb, hml, hown, hts⟩ := hC
  have hown : s.vm.findClass RX5 = some m.cls := hown
  have hl : lv_has ls 3 [(0, .ref (q 0)), (1, .int x1), (2, .int x2)] := hl
  have b_40 : ∀ (A : Nat → Nat → Int32), ∀ (H : Heap) (locs : List Loc), va_P G vwCl (wX5 q cI cZ cO I A) H → va_D Z (wX5 q cI cZ cO I A) → va_S Z s.heap H locs → ∀ ls : Array Slot, lv_has ls 3 [] → fX5_addRivals_40 N I A = some Az → W p l e rmX5_addRivals s m [.ref (q 0), .int x1, .int x2].toArray below meth cd H locs 0 0 Q (F0 m 40 ls []) := by
    intro A H locs hP hD hS ls hl hf
    unfold fX5_addRivals_40 at hf
    have e9 := Option.some.inj hf
    exact fin H locs 40 ls (by rw [← e9]; exact hP) hS dX5_addRivals_40
  unfold fX5_addRivals at hf
  have hS : va_S Z s.heap s.heap [] := va_S.rf
  obtain ⟨H, hH⟩ : ∃ H, H = s.heap := ⟨_, rfl⟩
  obtain ⟨locs, hlocs⟩ : ∃ locs : List Loc, locs = [] := ⟨_, rfl⟩
  rw [← hlocs]
  rw [← hlocs] at hS
  suffices hW : ∀ H : Heap, va_P G vwCl (wX5 q cI cZ cO I A) H → va_S Z s.heap H locs → W p l e rmX5_addRivals s m [.ref (q 0), .int x1, .int x2].toArray below meth cd H locs 0 0 Q (F0 m 0 ls []) from hW s.heap hP hS
  clear hP hS hH H
  intro H hP hS
  refine lv_aload_n hx hb dX5_addRivals_0 rfl (lv_at hl 0 rfl) ?_
  refine lv_iload_n hx hb dX5_addRivals_1 rfl (lv_at hl 1 rfl) ?_
  obtain ⟨z1, hz1, hf⟩ := bnd hf
  refine x_rdV (C := RX5) (n := 1) (ci := 5) hx hb hml hown hts hE (ct_X5_hasRumour N l G cI cZ cO q I A x1 z1 hz1) (bg 7 7 rfl) mb_X5_hasRumour.1 mb_X5_hasRumour.2.1 mb_X5_hasRumour.2.2.1 mb_X5_hasRumour.2.2.2 hd_X5_hasRumour rfl (by decide) hP rfl rfl rfl rfl hl.1 (Nat.le_of_ble_eq_true rfl) ⟨Nat.zero_le _, Nat.zero_le _⟩ dX5_addRivals_2 ?_
  refine lv_if_eq (tgt := 40) hx hb dX5_addRivals_5 (by decide) (fun c2 => ?_) (fun c2 => ?_)
  · rw [if_pos c2] at hf
    exact b_40 A H locs hP hD hS ls (lv_sub hl [] rfl) hf
  · rw [if_neg c2] at hf
    refine lv_aload_n hx hb dX5_addRivals_8 rfl (lv_at hl 0 rfl) ?_
    refine lv_iload_n hx hb dX5_addRivals_9 rfl (lv_at hl 2 rfl) ?_
    obtain ⟨z3, hz3, hf⟩ := bnd hf
    refine x_rdV (C := RX5) (n := 1) (ci := 5) hx hb hml hown hts hE (ct_X5_hasRumour N l G cI cZ cO q I A x2 z3 hz3) (bg 7 7 rfl) mb_X5_hasRumour.1 mb_X5_hasRumour.2.1 mb_X5_hasRumour.2.2.1 mb_X5_hasRumour.2.2.2 hd_X5_hasRumour rfl (by decide) hP rfl rfl rfl rfl hl.1 (Nat.le_of_ble_eq_true rfl) ⟨Nat.zero_le _, Nat.zero_le _⟩ dX5_addRivals_10 ?_
    refine lv_if_eq (tgt := 40) hx hb dX5_addRivals_13 (by decide) (fun c4 => ?_) (fun c4 => ?_)
    · rw [if_pos c4] at hf
      exact b_40 A H locs hP hD hS ls (lv_sub hl [] rfl) hf
    · rw [if_neg c4] at hf
      refine lv_aload_n hx hb dX5_addRivals_16 rfl (lv_at hl 0 rfl) ?_
      refine va_get (D := G) (ci := 5) (v := .ref (q 4)) (C := RX5) (T := TX5) (N := 8) hx hb hts inlX5 hown hE.1 hP 0 rfl rfl 3 (by decide) (hts _ (bg 2 9 rfl)) (fun _ h9 => h9) rfl dX5_addRivals_17 ?_
      refine lv_iload_n hx hb dX5_addRivals_20 rfl (lv_at hl 1 rfl) ?_
      refine lv_dup2_11 hx hb dX5_addRivals_21 rfl rfl ?_
      obtain ⟨v5, hv5, hf⟩ := bnd hf
      refine x_iald hx hb hE.1 hP 4 0 rfl rfl hv5 dX5_addRivals_22 ?_
      refine lv_iconst (v := 1) hx hb dX5_addRivals_23 (by decide) ?_
      refine lv_iload_n hx hb dX5_addRivals_24 rfl (lv_at hl 2 rfl) ?_
      refine x_ishl hx hb dX5_addRivals_25 ?_
      refine lv_ior hx hb dX5_addRivals_26 ?_
      obtain ⟨g6, hg6, hf⟩ := bnd hf
      refine x_iast hx hb hE.1 hP hD hS 4 0 rfl rfl hg6 dX5_addRivals_27 (fun H locs hP hD hS => ?_)
      have hP : va_P G vwCl (wX5 q cI cZ cO I (va_up A 3 g6)) H := hP
      have hD : va_D Z (wX5 q cI cZ cO I (va_up A 3 g6)) := hD
      refine lv_aload_n hx hb dX5_addRivals_28 rfl (lv_at hl 0 rfl) ?_
      refine va_get (D := G) (ci := 5) (v := .ref (q 4)) (C := RX5) (T := TX5) (N := 8) hx hb hts inlX5 hown hE.1 hP 0 rfl rfl 3 (by decide) (hts _ (bg 2 9 rfl)) (fun _ h9 => h9) rfl dX5_addRivals_29 ?_
      refine lv_iload_n hx hb dX5_addRivals_32 rfl (lv_at hl 2 rfl) ?_
      refine lv_dup2_11 hx hb dX5_addRivals_33 rfl rfl ?_
      obtain ⟨v7, hv7, hf⟩ := bnd hf
      refine x_iald hx hb hE.1 hP 4 0 rfl rfl hv7 dX5_addRivals_34 ?_
      refine lv_iconst (v := 1) hx hb dX5_addRivals_35 (by decide) ?_
      refine lv_iload_n hx hb dX5_addRivals_36 rfl (lv_at hl 1 rfl) ?_
      refine x_ishl hx hb dX5_addRivals_37 ?_
      refine lv_ior hx hb dX5_addRivals_38 ?_
      obtain ⟨g8, hg8, hf⟩ := bnd hf
      refine x_iast hx hb hE.1 hP hD hS 4 0 rfl rfl hg8 dX5_addRivals_39 (fun H locs hP hD hS => ?_)
      have hP : va_P G vwCl (wX5 q cI cZ cO I (va_up (va_up A 3 g6) 3 g8)) H := hP
      have hD : va_D Z (wX5 q cI cZ cO I (va_up (va_up A 3 g6) 3 g8)) := hD
      exact b_40 (va_up (va_up A 3 g6) 3 g8) H locs hP hD hS ls (lv_sub hl [] rfl) hf
