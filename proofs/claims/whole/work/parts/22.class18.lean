def fX2_append (N : Nat) (I : Nat → Int32) (A : Nat → Nat → Int32) (x1 : Int32) (x2 : Int32) (x3 : Int32) (x4 : Int32) : Option (Int32 × (Nat → Int32) × (Nat → Nat → Int32)) := (fX6_isIndex N (I 0) 6).bind fun z1 => if z1 = 0 then some ((-4), I, A) else (wr 6 (A 0) (I 0) x1).bind fun g3 => (wr 6 (A 1) (I 0) x2).bind fun g4 => (wr 6 (A 2) (I 0) x3).bind fun g5 => (wrZ 6 (A 3) (I 0) x4).bind fun g6 => some ((I 0) + 1, upd I 0 ((I 0) + 1), va_up (va_up (va_up (va_up A 0 g3) 1 g4) 2 g5) 3 g6)
def rmX2_append : Room := { frames := 1, cells := 0, slots := 0, locals := 21 }
theorem mb_X2_append : Cond.instanceMethod yX2_append ∈ wsL_law ∧ Cond.selects RX2 yX2_append yX2_append ∈ wsL_law ∧ Cond.initialized RX2 ∈ wsL_law ∧ Cond.code yX2_append cX2_append 5 (some .int) ∈ wsL_law := ⟨(bg 29 22 rfl), (bg 29 23 rfl), (bg 1 9 rfl), (bg 30 0 rfl)⟩
theorem hd_X2_append : yX2_append.cls = RX2 ∧ yX2_append.cls ≠ "java/lang/invoke/MethodHandle" ∧ yX2_append.cls ≠ "java/lang/invoke/VarHandle" ∧ (parseMethodDescriptor yX2_append.desc).map (fun d => d.parameters.length) = some 4 := by decide +kernel
set_option maxRecDepth 100000 in
set_option maxHeartbeats 4000000 in
theorem ct_X2_append (N : Nat) (l : Launch) (G : va_G) (cI cZ cO : ClassId) (q : Nat → Nat) (I : Nat → Int32) (A : Nat → Nat → Int32) (x1 : Int32) (x2 : Int32) (x3 : Int32) (x4 : Int32) (r : Int32) (Iz : Nat → Int32) (Az : Nat → Nat → Int32) (hf : fX2_append N I A x1 x2 x3 x4 = some (r, Iz, Az)) : CtI l yX2_append cX2_append 5 .int rmX2_append G cI cZ cO [.ref (q 0), .int x1, .int x2, .int x3, .int x4] (wX2 q cI cZ cO I A) (wX2 q cI cZ cO Iz Az) r := by
  refine mkCI (by decide) (Nat.le_of_ble_eq_true rfl) ?_
  intro p e s m below meth cd Q Z hC hP hE hD hA fin ls hl
  obtain ⟨hx, hb, hml, hown, hts⟩ := hC
  have hown : s.vm.findClass RX2 = some m.cls := hown
  have hl : lv_has ls 5 [(0, .ref (q 0)), (1, .int x1), (2, .int x2), (3, .int x3), (4, .int x4)] := hl
  unfold fX2_append at hf
  have hS : va_S Z s.heap s.heap [] := va_S.rf
  obtain ⟨H, hH⟩ : ∃ H, H = s.heap := ⟨_, rfl⟩
  obtain ⟨locs, hlocs⟩ : ∃ locs : List Loc, locs = [] := ⟨_, rfl⟩
  rw [← hlocs]
  rw [← hlocs] at hS
  suffices hW : ∀ H : Heap, va_P G vwCl (wX2 q cI cZ cO I A) H → va_S Z s.heap H locs → W p l e rmX2_append s m [.ref (q 0), .int x1, .int x2, .int x3, .int x4].toArray below meth cd H locs 0 0 Q (F0 m 0 ls []) from hW s.heap hP hS
  clear hP hS hH H
  intro H hP hS
  refine lv_aload_n hx hb dX2_append_0 rfl (lv_at hl 0 rfl) ?_
  refine va_get (D := G) (ci := 2) (v := .int ((I 0))) (C := RX2) (T := TX2) (N := 5) hx hb hts inlX2 hown hE.1 hP 0 rfl rfl 4 (by decide) (hts _ (bg 30 1 rfl)) (fun _ h9 => h9) rfl dX2_append_1 ?_
  refine lv_bipush (v := 6) hx hb dX2_append_4 (by decide) ?_
  obtain ⟨z1, hz1, hf⟩ := bnd hf
  refine x_rdN (n := 2) hx hb hml hown hts hE (ct_X6_isIndex N l G cI cZ cO (I 0) 6 z1 hz1) (List.mem_of_getElem? (i := 18) rfl) mb_X6_isIndex.1 mb_X6_isIndex.2.1 mb_X6_isIndex.2.2 hd_X6_isIndex rfl (by decide) va_P_nil rfl hl.1 (Nat.le_of_ble_eq_true rfl) ⟨Nat.zero_le _, Nat.zero_le _⟩ dX2_append_6 ?_
  refine lv_if_ne (tgt := 15) hx hb dX2_append_9 (by decide) (fun c2 => ?_) (fun c2 => ?_)
  · rw [if_neg c2] at hf
    refine lv_aload_n hx hb dX2_append_15 rfl (lv_at hl 0 rfl) ?_
    refine va_get (D := G) (ci := 2) (v := .ref (q 1)) (C := RX2) (T := TX2) (N := 5) hx hb hts inlX2 hown hE.1 hP 0 rfl rfl 0 (by decide) (hts _ (bg 3 3 rfl)) (fun _ h9 => h9) rfl dX2_append_16 ?_
    refine lv_aload_n hx hb dX2_append_19 rfl (lv_at hl 0 rfl) ?_
    refine va_get (D := G) (ci := 2) (v := .int ((I 0))) (C := RX2) (T := TX2) (N := 5) hx hb hts inlX2 hown hE.1 hP 0 rfl rfl 4 (by decide) (hts _ (bg 30 1 rfl)) (fun _ h9 => h9) rfl dX2_append_20 ?_
    refine lv_iload_n hx hb dX2_append_23 rfl (lv_at hl 1 rfl) ?_
    obtain ⟨g3, hg3, hf⟩ := bnd hf
    refine x_iast hx hb hE.1 hP hD hS 1 0 rfl rfl hg3 dX2_append_24 (fun H locs hP hD hS => ?_)
    have hP : va_P G vwCl (wX2 q cI cZ cO I (va_up A 0 g3)) H := hP
    have hD : va_D Z (wX2 q cI cZ cO I (va_up A 0 g3)) := hD
    refine lv_aload_n hx hb dX2_append_25 rfl (lv_at hl 0 rfl) ?_
    refine va_get (D := G) (ci := 2) (v := .ref (q 2)) (C := RX2) (T := TX2) (N := 5) hx hb hts inlX2 hown hE.1 hP 0 rfl rfl 1 (by decide) (hts _ (bg 3 4 rfl)) (fun _ h9 => h9) rfl dX2_append_26 ?_
    refine lv_aload_n hx hb dX2_append_29 rfl (lv_at hl 0 rfl) ?_
    refine va_get (D := G) (ci := 2) (v := .int ((I 0))) (C := RX2) (T := TX2) (N := 5) hx hb hts inlX2 hown hE.1 hP 0 rfl rfl 4 (by decide) (hts _ (bg 30 1 rfl)) (fun _ h9 => h9) rfl dX2_append_30 ?_
    refine lv_iload_n hx hb dX2_append_33 rfl (lv_at hl 2 rfl) ?_
    obtain ⟨g4, hg4, hf⟩ := bnd hf
    refine x_iast hx hb hE.1 hP hD hS 2 0 rfl rfl hg4 dX2_append_34 (fun H locs hP hD hS => ?_)
    have hP : va_P G vwCl (wX2 q cI cZ cO I (va_up (va_up A 0 g3) 1 g4)) H := hP
    have hD : va_D Z (wX2 q cI cZ cO I (va_up (va_up A 0 g3) 1 g4)) := hD
    refine lv_aload_n hx hb dX2_append_35 rfl (lv_at hl 0 rfl) ?_
    refine va_get (D := G) (ci := 2) (v := .ref (q 3)) (C := RX2) (T := TX2) (N := 5) hx hb hts inlX2 hown hE.1 hP 0 rfl rfl 2 (by decide) (hts _ (bg 3 5 rfl)) (fun _ h9 => h9) rfl dX2_append_36 ?_
    refine lv_aload_n hx hb dX2_append_39 rfl (lv_at hl 0 rfl) ?_
    refine va_get (D := G) (ci := 2) (v := .int ((I 0))) (C := RX2) (T := TX2) (N := 5) hx hb hts inlX2 hown hE.1 hP 0 rfl rfl 4 (by decide) (hts _ (bg 30 1 rfl)) (fun _ h9 => h9) rfl dX2_append_40 ?_
    refine lv_iload_n hx hb dX2_append_43 rfl (lv_at hl 3 rfl) ?_
    obtain ⟨g5, hg5, hf⟩ := bnd hf
    refine x_iast hx hb hE.1 hP hD hS 3 0 rfl rfl hg5 dX2_append_44 (fun H locs hP hD hS => ?_)
    have hP : va_P G vwCl (wX2 q cI cZ cO I (va_up (va_up (va_up A 0 g3) 1 g4) 2 g5)) H := hP
    have hD : va_D Z (wX2 q cI cZ cO I (va_up (va_up (va_up A 0 g3) 1 g4) 2 g5)) := hD
    refine lv_aload_n hx hb dX2_append_45 rfl (lv_at hl 0 rfl) ?_
    refine va_get (D := G) (ci := 2) (v := .ref (q 4)) (C := RX2) (T := TX2) (N := 5) hx hb hts inlX2 hown hE.1 hP 0 rfl rfl 3 (by decide) (hts _ (bg 3 6 rfl)) (fun _ h9 => h9) rfl dX2_append_46 ?_
    refine lv_aload_n hx hb dX2_append_49 rfl (lv_at hl 0 rfl) ?_
    refine va_get (D := G) (ci := 2) (v := .int ((I 0))) (C := RX2) (T := TX2) (N := 5) hx hb hts inlX2 hown hE.1 hP 0 rfl rfl 4 (by decide) (hts _ (bg 30 1 rfl)) (fun _ h9 => h9) rfl dX2_append_50 ?_
    refine lv_iload hx hb dX2_append_53 (lv_at hl 4 rfl) ?_
    obtain ⟨g6, hg6, hf⟩ := bnd hf
    refine x_zast hx hb hE.1 hP hD hS 4 1 rfl rfl hg6 dX2_append_55 (fun H locs hP hD hS => ?_)
    have hP : va_P G vwCl (wX2 q cI cZ cO I (va_up (va_up (va_up (va_up A 0 g3) 1 g4) 2 g5) 3 g6)) H := hP
    have hD : va_D Z (wX2 q cI cZ cO I (va_up (va_up (va_up (va_up A 0 g3) 1 g4) 2 g5) 3 g6)) := hD
    refine lv_aload_n hx hb dX2_append_56 rfl (lv_at hl 0 rfl) ?_
    refine lv_dup hx hb dX2_append_57 rfl ?_
    refine va_get (D := G) (ci := 2) (v := .int ((I 0))) (C := RX2) (T := TX2) (N := 5) hx hb hts inlX2 hown hE.1 hP 0 rfl rfl 4 (by decide) (hts _ (bg 30 1 rfl)) (fun _ h9 => h9) rfl dX2_append_58 ?_
    refine lv_iconst (v := 1) hx hb dX2_append_61 (by decide) ?_
    refine lv_iadd hx hb dX2_append_62 ?_
    refine va_put (D := G) (ci := 2) (v := .int ((I 0) + 1)) (ty := .int) (C := RX2) (T := TX2) (N := 5) hx hb hts inlX2 tyX2 tyX2_ok nmX2 hown hE.1 hP hD hS 0 rfl rfl 4 (by decide) (hts _ (bg 30 1 rfl)) (fun _ h9 => h9) rfl (by decide +kernel) rfl rfl (Nat.le_of_ble_eq_true rfl) dX2_append_63 (fun H locs hP hD hS => ?_)
    have hP : va_P G vwCl (wX2 q cI cZ cO (upd I 0 ((I 0) + 1)) (va_up (va_up (va_up (va_up A 0 g3) 1 g4) 2 g5) 3 g6)) H := hP
    have hD : va_D Z (wX2 q cI cZ cO (upd I 0 ((I 0) + 1)) (va_up (va_up (va_up (va_up A 0 g3) 1 g4) 2 g5) 3 g6)) := hD
    refine lv_aload_n hx hb dX2_append_66 rfl (lv_at hl 0 rfl) ?_
    refine va_get (D := G) (ci := 2) (v := .int ((I 0) + 1)) (C := RX2) (T := TX2) (N := 5) hx hb hts inlX2 hown hE.1 hP 0 rfl rfl 4 (by decide) (hts _ (bg 30 1 rfl)) (fun _ h9 => h9) rfl dX2_append_67 ?_
    have e9 := Option.some.inj hf
    exact fin H locs 70 ls _ (Prod.mk.inj e9).1 (nar_i _) (by rw [← (Prod.mk.inj (Prod.mk.inj e9).2).1, ← (Prod.mk.inj (Prod.mk.inj e9).2).2]; exact hP) hS dX2_append_70
  · rw [if_pos c2] at hf
    refine lv_bipush (v := (-4)) hx hb dX2_append_12 (by decide) ?_
    have e9 := Option.some.inj hf
    exact fin H locs 14 ls _ (Prod.mk.inj e9).1 (nar_i _) (by rw [← (Prod.mk.inj (Prod.mk.inj e9).2).1, ← (Prod.mk.inj (Prod.mk.inj e9).2).2]; exact hP) hS dX2_append_14
def fX6_hear_30 (N : Nat) (tI : Nat → Int32) (eI : Nat → Int32) (eA : Nat → Nat → Int32) : Option (Int32 × (Nat → Int32) × (Nat → Nat → Int32)) := some ((-2), eI, eA)
def fX6_hear (N : Nat) (tI : Nat → Int32) (eI : Nat → Int32) (eA : Nat → Nat → Int32) (x1 : Int32) (x2 : Int32) (x3 : Int32) (x4 : Int32) : Option (Int32 × (Nat → Int32) × (Nat → Nat → Int32)) := (fX5_hasRumour N tI x1).bind fun z1 => if z1 = 0 then some ((-1), eI, eA) else (fX6_isTable N x2).bind fun z3 => if z3 = 0 then fX6_hear_30 N tI eI eA else (fX6_isOutside N x3 0 8).bind fun z5 => if z5 = 0 then (fX2_append N eI eA x1 x2 x3 x4).bind fun z7 => some (z7.1, z7.2.1, z7.2.2) else fX6_hear_30 N tI eI eA
def rmX6_hear : Room := { frames := 2, cells := 0, slots := 0, locals := 45 }
theorem mb_X6_hear : Cond.instanceMethod yX6_hear ∈ wsL_law ∧ Cond.selects RX6 yX6_hear yX6_hear ∈ wsL_law ∧ Cond.initialized RX6 ∈ wsL_law ∧ Cond.code yX6_hear cX6_hear 5 (some .int) ∈ wsL_law := ⟨(bg 29 18 rfl), (bg 29 19 rfl), (bg 0 2 rfl), (bg 29 20 rfl)⟩
theorem hd_X6_hear : yX6_hear.cls = RX6 ∧ yX6_hear.cls ≠ "java/lang/invoke/MethodHandle" ∧ yX6_hear.cls ≠ "java/lang/invoke/VarHandle" ∧ (parseMethodDescriptor yX6_hear.desc).map (fun d => d.parameters.length) = some 4 := by decide +kernel
set_option maxRecDepth 100000 in
set_option maxHeartbeats 4000000 in
theorem ct_X6_hear (N : Nat) (l : Launch) (G : va_G) (cI cZ cO : ClassId) (q : Nat → Nat) (A : Nat → Nat → Int32) (L : Int64) (rI : Nat → Int32) (rA : Nat → Nat → Int32) (tI : Nat → Int32) (tA : Nat → Nat → Int32) (dI : Nat → Int32) (dA : Nat → Nat → Int32) (wI : Nat → Int32) (wA : Nat → Nat → Int32) (uI : Nat → Int32) (uA : Nat → Nat → Int32) (aI : Nat → Int32) (aS : Nat → Nat → Int32) (aT : Nat → Nat → Nat → Int32) (eI : Nat → Int32) (eA : Nat → Nat → Int32) (sS : Nat → Nat → Int32) (sT : Nat → Nat → Nat → Int32) (bI : Nat → Int32) (x1 : Int32) (x2 : Int32) (x3 : Int32) (x4 : Int32) (r : Int32) (eIz : Nat → Int32) (eAz : Nat → Nat → Int32) (hf : fX6_hear N tI eI eA x1 x2 x3 x4 = some (r, eIz, eAz)) : CtI l yX6_hear cX6_hear 5 .int rmX6_hear G cI cZ cO [.ref (q 0), .int x1, .int x2, .int x3, .int x4] (wX6 q cI cZ cO A L rI rA tI tA dI dA wI wA uI uA aI aS aT eI eA sS sT bI) (wX6 q cI cZ cO A L rI rA tI tA dI dA wI wA uI uA aI aS aT eIz eAz sS sT bI) r := by
  refine mkCI (by decide) (Nat.le_of_ble_eq_true rfl) ?_
  intro p e s m below meth cd Q Z hC hP hE hD hA fin ls hl
  obtain ⟨hx, hb, hml, hown, hts⟩ := hC
  have hown : s.vm.findClass RX6 = some m.cls := hown
  have hl : lv_has ls 5 [(0, .ref (q 0)), (1, .int x1), (2, .int x2), (3, .int x3), (4, .int x4)] := hl
  have b_30 : ∀ (eI : Nat → Int32) (eA : Nat → Nat → Int32), ∀ (H : Heap) (locs : List Loc), va_P G vwCl (wX6 q cI cZ cO A L rI rA tI tA dI dA wI wA uI uA aI aS aT eI eA sS sT bI) H → va_D Z (wX6 q cI cZ cO A L rI rA tI tA dI dA wI wA uI uA aI aS aT eI eA sS sT bI) → va_S Z s.heap H locs → ∀ ls : Array Slot, lv_has ls 5 [] → fX6_hear_30 N tI eI eA = some (r, eIz, eAz) → W p l e rmX6_hear s m [.ref (q 0), .int x1, .int x2, .int x3, .int x4].toArray below meth cd H locs 0 0 Q (F0 m 30 ls []) := by
    intro eI eA H locs hP hD hS ls hl hf
    unfold fX6_hear_30 at hf
    refine lv_bipush (v := (-2)) hx hb dX6_hear_30 (by decide) ?_
    have e9 := Option.some.inj hf
    exact fin H locs 32 ls _ (Prod.mk.inj e9).1 (nar_i _) (by rw [← (Prod.mk.inj (Prod.mk.inj e9).2).1, ← (Prod.mk.inj (Prod.mk.inj e9).2).2]; exact hP) hS dX6_hear_32
  unfold fX6_hear at hf
  have hS : va_S Z s.heap s.heap [] := va_S.rf
  obtain ⟨H, hH⟩ : ∃ H, H = s.heap := ⟨_, rfl⟩
  obtain ⟨locs, hlocs⟩ : ∃ locs : List Loc, locs = [] := ⟨_, rfl⟩
  rw [← hlocs]
  rw [← hlocs] at hS
  suffices hW : ∀ H : Heap, va_P G vwCl (wX6 q cI cZ cO A L rI rA tI tA dI dA wI wA uI uA aI aS aT eI eA sS sT bI) H → va_S Z s.heap H locs → W p l e rmX6_hear s m [.ref (q 0), .int x1, .int x2, .int x3, .int x4].toArray below meth cd H locs 0 0 Q (F0 m 0 ls []) from hW s.heap hP hS
  clear hP hS hH H
  intro H hP hS
  refine lv_aload_n hx hb dX6_hear_0 rfl (lv_at hl 0 rfl) ?_
  refine va_get (D := G) (ci := 6) (v := .ref (q 3)) (C := RX6) (T := TX6) (N := 15) hx hb hts inlX6 hown hE.1 hP 0 rfl rfl 1 (by decide) (hts _ (bg 0 20 rfl)) (fun _ h9 => h9) rfl dX6_hear_1 ?_
  refine lv_iload_n hx hb dX6_hear_4 rfl (lv_at hl 1 rfl) ?_
  obtain ⟨z1, hz1, hf⟩ := bnd hf
  refine x_rdV (C := RX5) (n := 1) (ci := 5) hx hb hml hown hts hE (ct_X5_hasRumour N l G cI cZ cO (sh q 3) tI tA x1 z1 hz1) (bg 12 7 rfl) mb_X5_hasRumour.1 mb_X5_hasRumour.2.1 mb_X5_hasRumour.2.2.1 mb_X5_hasRumour.2.2.2 hd_X5_hasRumour rfl (by decide) (x_cut hP [3, 4, 5, 6, 7, 8, 9] rfl) rfl rfl rfl rfl hl.1 (Nat.le_of_ble_eq_true rfl) ⟨Nat.zero_le _, Nat.zero_le _⟩ dX6_hear_5 ?_
  refine lv_if_ne (tgt := 13) hx hb dX6_hear_8 (by decide) (fun c2 => ?_) (fun c2 => ?_)
  · rw [if_neg c2] at hf
    refine lv_iload_n hx hb dX6_hear_13 rfl (lv_at hl 2 rfl) ?_
    obtain ⟨z3, hz3, hf⟩ := bnd hf
    refine x_rdS (n := 1) hx hb hml hown hts hE (ct_X6_isTable N l G cI cZ cO x2 z3 hz3) (bg 17 15 rfl) mb_X6_isTable.1 mb_X6_isTable.2.1 mb_X6_isTable.2.2 hd_X6_isTable rfl (by decide) va_P_nil rfl hl.1 (Nat.le_of_ble_eq_true rfl) ⟨Nat.zero_le _, Nat.zero_le _⟩ dX6_hear_14 ?_
    refine lv_if_eq (tgt := 30) hx hb dX6_hear_17 (by decide) (fun c4 => ?_) (fun c4 => ?_)
    · rw [if_pos c4] at hf
      exact b_30 eI eA H locs hP hD hS ls (lv_sub hl [] rfl) hf
    · rw [if_neg c4] at hf
      refine lv_iload_n hx hb dX6_hear_20 rfl (lv_at hl 3 rfl) ?_
      refine lv_iconst (v := 0) hx hb dX6_hear_21 (by decide) ?_
      refine lv_bipush (v := 8) hx hb dX6_hear_22 (by decide) ?_
      obtain ⟨z5, hz5, hf⟩ := bnd hf
      refine x_rdS (n := 3) hx hb hml hown hts hE (ct_X6_isOutside N l G cI cZ cO x3 0 8 z5 hz5) (bg 4 17 rfl) mb_X6_isOutside.1 mb_X6_isOutside.2.1 mb_X6_isOutside.2.2 hd_X6_isOutside rfl (by decide) va_P_nil rfl hl.1 (Nat.le_of_ble_eq_true rfl) ⟨Nat.zero_le _, Nat.zero_le _⟩ dX6_hear_24 ?_
      refine lv_if_eq (tgt := 33) hx hb dX6_hear_27 (by decide) (fun c6 => ?_) (fun c6 => ?_)
      · rw [if_pos c6] at hf
        refine lv_aload_n hx hb dX6_hear_33 rfl (lv_at hl 0 rfl) ?_
        refine va_get (D := G) (ci := 6) (v := .ref (q 83)) (C := RX6) (T := TX6) (N := 15) hx hb hts inlX6 hown hE.1 hP 0 rfl rfl 6 (by decide) (hts _ (bg 1 10 rfl)) (fun _ h9 => h9) rfl dX6_hear_34 ?_
        refine lv_iload_n hx hb dX6_hear_37 rfl (lv_at hl 1 rfl) ?_
        refine lv_iload_n hx hb dX6_hear_38 rfl (lv_at hl 2 rfl) ?_
        refine lv_iload_n hx hb dX6_hear_39 rfl (lv_at hl 3 rfl) ?_
        refine lv_iload hx hb dX6_hear_40 (lv_at hl 4 rfl) ?_
        obtain ⟨z7, hz7, hf⟩ := bnd hf
        refine x_wrV (C := RX2) (n := 4) (ci := 2) (ws1 := (wX6 q cI cZ cO A L rI rA tI tA dI dA wI wA uI uA aI aS aT z7.2.1 z7.2.2 sS sT bI)) hx hb hml hown hts hE (ct_X2_append N l G cI cZ cO (sh q 83) eI eA x1 x2 x3 x4 z7.1 z7.2.1 z7.2.2 hz7) (bg 29 21 rfl) mb_X2_append.1 mb_X2_append.2.1 mb_X2_append.2.2.1 mb_X2_append.2.2.2 hd_X2_append rfl (by decide) hP hD hS hA [83, 84, 85, 86, 87] [false, false, false, false, false, false, false, false, false, false, false, false, false, false, false, false, false, false, false, false, false, false, false, false, false, false, false, false, false, false, false, false, false, false, false, false, false, false, false, false, false, false, false, false, false, false, false, false, false, false, false, false, false, false, false, false, false, false, false, false, false, false, false, false, false, false, false, false, false, false, false, false, false, false, false, false, false, false, false, false, false, false, false, true, true, true, true, true, false, false, false, false, false, false, false, false, false, false, false, false, false, false, false] (by decide) (by decide +kernel) rfl rfl ⟨rfl, rfl, rfl, rfl, rfl, rfl, rfl, rfl, rfl, rfl, rfl, rfl, rfl, rfl, rfl, rfl, rfl, rfl, rfl, rfl, rfl, rfl, rfl, rfl, rfl, rfl, rfl, rfl, rfl, rfl, rfl, rfl, rfl, rfl, rfl, rfl, rfl, rfl, rfl, rfl, rfl, rfl, rfl, rfl, rfl, rfl, rfl, rfl, rfl, rfl, rfl, rfl, rfl, rfl, rfl, rfl, rfl, rfl, rfl, rfl, rfl, rfl, rfl, rfl, rfl, rfl, rfl, rfl, rfl, rfl, rfl, rfl, rfl, rfl, rfl, rfl, rfl, rfl, rfl, rfl, rfl, rfl, rfl, rfl, rfl, rfl, rfl, rfl, rfl, rfl, rfl, rfl, rfl, rfl, rfl, rfl, rfl, rfl, rfl, rfl, rfl, rfl, rfl, trivial⟩ rfl rfl rfl rfl hl.1 (Nat.le_of_ble_eq_true rfl) ⟨Nat.zero_le _, Nat.zero_le _⟩ dX6_hear_42 (fun H locs hP hD hS => ?_)
        have e9 := Option.some.inj hf
        exact fin H locs 45 ls _ (Prod.mk.inj e9).1 (nar_i _) (by rw [← (Prod.mk.inj (Prod.mk.inj e9).2).1, ← (Prod.mk.inj (Prod.mk.inj e9).2).2]; exact hP) hS dX6_hear_45
      · rw [if_neg c6] at hf
        exact b_30 eI eA H locs hP hD hS ls (lv_sub hl [] rfl) hf
  · rw [if_pos c2] at hf
    refine lv_iconst (v := (-1)) hx hb dX6_hear_11 (by decide) ?_
    have e9 := Option.some.inj hf
    exact fin H locs 12 ls _ (Prod.mk.inj e9).1 (nar_i _) (by rw [← (Prod.mk.inj (Prod.mk.inj e9).2).1, ← (Prod.mk.inj (Prod.mk.inj e9).2).2]; exact hP) hS dX6_hear_12
def fX6_unhear (N : Nat) (eI : Nat → Int32) : Option (Int32 × (Nat → Int32)) := some ((eI 0), upd eI 0 0)
def rmX6_unhear : Room := { frames := 0, cells := 0, slots := 0, locals := 0 }
theorem mb_X6_unhear : Cond.instanceMethod yX6_unhear ∈ wsL_law ∧ Cond.selects RX6 yX6_unhear yX6_unhear ∈ wsL_law ∧ Cond.initialized RX6 ∈ wsL_law ∧ Cond.code yX6_unhear cX6_unhear 2 (some .int) ∈ wsL_law := ⟨(bg 30 8 rfl), (bg 30 9 rfl), (bg 0 2 rfl), (bg 30 10 rfl)⟩
theorem hd_X6_unhear : yX6_unhear.cls = RX6 ∧ yX6_unhear.cls ≠ "java/lang/invoke/MethodHandle" ∧ yX6_unhear.cls ≠ "java/lang/invoke/VarHandle" ∧ (parseMethodDescriptor yX6_unhear.desc).map (fun d => d.parameters.length) = some 0 := by decide +kernel
set_option maxRecDepth 100000 in
set_option maxHeartbeats 4000000 in
theorem ct_X6_unhear (N : Nat) (l : Launch) (G : va_G) (cI cZ cO : ClassId) (q : Nat → Nat) (A : Nat → Nat → Int32) (L : Int64) (rI : Nat → Int32) (rA : Nat → Nat → Int32) (tI : Nat → Int32) (tA : Nat → Nat → Int32) (dI : Nat → Int32) (dA : Nat → Nat → Int32) (wI : Nat → Int32) (wA : Nat → Nat → Int32) (uI : Nat → Int32) (uA : Nat → Nat → Int32) (aI : Nat → Int32) (aS : Nat → Nat → Int32) (aT : Nat → Nat → Nat → Int32) (eI : Nat → Int32) (eA : Nat → Nat → Int32) (sS : Nat → Nat → Int32) (sT : Nat → Nat → Nat → Int32) (bI : Nat → Int32) (r : Int32) (eIz : Nat → Int32) (hf : fX6_unhear N eI = some (r, eIz)) : CtI l yX6_unhear cX6_unhear 2 .int rmX6_unhear G cI cZ cO [.ref (q 0)] (wX6 q cI cZ cO A L rI rA tI tA dI dA wI wA uI uA aI aS aT eI eA sS sT bI) (wX6 q cI cZ cO A L rI rA tI tA dI dA wI wA uI uA aI aS aT eIz eA sS sT bI) r := by
  refine mkCI (by decide) (Nat.le_of_ble_eq_true rfl) ?_
  intro p e s m below meth cd Q Z hC hP hE hD hA fin ls hl
  obtain ⟨hx, hb, hml, hown, hts⟩ := hC
  have hown : s.vm.findClass RX6 = some m.cls := hown
  have hl : lv_has ls 2 [(0, .ref (q 0))] := hl
  unfold fX6_unhear at hf
  have hS : va_S Z s.heap s.heap [] := va_S.rf
  obtain ⟨H, hH⟩ : ∃ H, H = s.heap := ⟨_, rfl⟩
  obtain ⟨locs, hlocs⟩ : ∃ locs : List Loc, locs = [] := ⟨_, rfl⟩
  rw [← hlocs]
  rw [← hlocs] at hS
  suffices hW : ∀ H : Heap, va_P G vwCl (wX6 q cI cZ cO A L rI rA tI tA dI dA wI wA uI uA aI aS aT eI eA sS sT bI) H → va_S Z s.heap H locs → W p l e rmX6_unhear s m [.ref (q 0)].toArray below meth cd H locs 0 0 Q (F0 m 0 ls []) from hW s.heap hP hS
  clear hP hS hH H
  intro H hP hS
  refine lv_aload_n hx hb dX6_unhear_0 rfl (lv_at hl 0 rfl) ?_
  refine va_get (D := G) (ci := 6) (v := .ref (q 83)) (C := RX6) (T := TX6) (N := 15) hx hb hts inlX6 hown hE.1 hP 0 rfl rfl 6 (by decide) (hts _ (bg 1 10 rfl)) (fun _ h9 => h9) rfl dX6_unhear_1 ?_
  refine va_get (D := G) (ci := 2) (v := .int ((eI 0))) (C := RX2) (T := TX2) (N := 5) hx hb hts inlX2 hown hE.1 hP 83 rfl rfl 4 (by decide) (hts _ (bg 30 11 rfl)) (fun _ h9 => h9) rfl dX6_unhear_4 ?_
  refine lv_istore_n (lv' := [(1, .int ((eI 0))), (0, .ref (q 0))]) hx hb dX6_unhear_7 rfl hl (by decide) rfl (fun ls hl => ?_)
  refine lv_aload_n hx hb dX6_unhear_8 rfl (lv_at hl 1 rfl) ?_
  refine va_get (D := G) (ci := 6) (v := .ref (q 83)) (C := RX6) (T := TX6) (N := 15) hx hb hts inlX6 hown hE.1 hP 0 rfl rfl 6 (by decide) (hts _ (bg 1 10 rfl)) (fun _ h9 => h9) rfl dX6_unhear_9 ?_
  refine lv_iconst (v := 0) hx hb dX6_unhear_12 (by decide) ?_
  refine va_put (D := G) (ci := 2) (v := .int 0) (ty := .int) (C := RX2) (T := TX2) (N := 5) hx hb hts inlX2 tyX2 tyX2_ok nmX2 hown hE.1 hP hD hS 83 rfl rfl 4 (by decide) (hts _ (bg 30 11 rfl)) (fun _ h9 => h9) rfl (by decide +kernel) rfl rfl (Nat.le_of_ble_eq_true rfl) dX6_unhear_13 (fun H locs hP hD hS => ?_)
  have hP : va_P G vwCl (wX6 q cI cZ cO A L rI rA tI tA dI dA wI wA uI uA aI aS aT (upd eI 0 0) eA sS sT bI) H := hP
  have hD : va_D Z (wX6 q cI cZ cO A L rI rA tI tA dI dA wI wA uI uA aI aS aT (upd eI 0 0) eA sS sT bI) := hD
  refine lv_iload_n hx hb dX6_unhear_16 rfl (lv_at hl 0 rfl) ?_
  have e9 := Option.some.inj hf
  exact fin H locs 17 ls _ (Prod.mk.inj e9).1 (nar_i _) (by rw [← (Prod.mk.inj e9).2]; exact hP) hS dX6_unhear_17
def fX6_agreesWithHeard_83 (N : Nat) (tI : Nat → Int32) (tA : Nat → Nat → Int32) (wI : Nat → Int32) (wA : Nat → Nat → Int32) (eI : Nat → Int32) (eA : Nat → Nat → Int32) : Option (Int32) := some 1
def fX6_agreesWithHeard_77 (N : Nat) (k_2 : (Nat → Int32) → (Nat → Nat → Int32) → (Nat → Int32) → (Nat → Nat → Int32) → (Nat → Int32) → (Nat → Nat → Int32) → Int32 → Int32 → Int32 → Option (Int32)) (tI : Nat → Int32) (tA : Nat → Nat → Int32) (wI : Nat → Int32) (wA : Nat → Nat → Int32) (eI : Nat → Int32) (eA : Nat → Nat → Int32) (u1 : Int32) (u2 : Int32) (u3 : Int32) : Option (Int32) := k_2 tI tA wI wA eI eA u1 u2 (u3 + 1)
def fX6_agreesWithHeard_2s (N : Nat) (k_2 : (Nat → Int32) → (Nat → Nat → Int32) → (Nat → Int32) → (Nat → Nat → Int32) → (Nat → Int32) → (Nat → Nat → Int32) → Int32 → Int32 → Int32 → Option (Int32)) (tI : Nat → Int32) (tA : Nat → Nat → Int32) (wI : Nat → Int32) (wA : Nat → Nat → Int32) (eI : Nat → Int32) (eA : Nat → Nat → Int32) (u1 : Int32) (u2 : Int32) (u3 : Int32) : Option (Int32) := if (eI 0) ≤ u3 then fX6_agreesWithHeard_83 N tI tA wI wA eI eA else if 6 ≤ u3 then fX6_agreesWithHeard_83 N tI tA wI wA eI eA else (rd 6 (eA 0) u3).bind fun v3 => if v3 = u1 then (rd 6 (eA 2) u3).bind fun v5 => (fX6_saidIn N tI tA wI wA u1 u2 v5).bind fun z6 => (rd 6 (eA 1) u3).bind fun v7 => (fX6_hasBit N z6 v7).bind fun z8 => (rd 6 (eA 3) u3).bind fun v9 => if z8 = v9 then fX6_agreesWithHeard_77 N k_2 tI tA wI wA eI eA u1 u2 u3 else some 0 else fX6_agreesWithHeard_77 N k_2 tI tA wI wA eI eA u1 u2 u3
def fX6_agreesWithHeard_2 (N : Nat) : Nat → (Nat → Int32) → (Nat → Nat → Int32) → (Nat → Int32) → (Nat → Nat → Int32) → (Nat → Int32) → (Nat → Nat → Int32) → Int32 → Int32 → Int32 → Option (Int32)
  | 0 => fun _ _ _ _ _ _ _ _ _ => none
  | n + 1 => fX6_agreesWithHeard_2s N (fX6_agreesWithHeard_2 N n)
def fX6_agreesWithHeard (N : Nat) (tI : Nat → Int32) (tA : Nat → Nat → Int32) (wI : Nat → Int32) (wA : Nat → Nat → Int32) (eI : Nat → Int32) (eA : Nat → Nat → Int32) (x1 : Int32) (x2 : Int32) : Option (Int32) := fX6_agreesWithHeard_2 N N tI tA wI wA eI eA x1 x2 0
def rmX6_agreesWithHeard : Room := { frames := 4, cells := 0, slots := 0, locals := 93 }
theorem mb_X6_agreesWithHeard : Cond.instanceMethod yX6_agreesWithHeard ∈ wsL_law ∧ Cond.selects RX6 yX6_agreesWithHeard yX6_agreesWithHeard ∈ wsL_law ∧ Cond.initialized RX6 ∈ wsL_law ∧ Cond.code yX6_agreesWithHeard cX6_agreesWithHeard 5 (some .boolean) ∈ wsL_law := ⟨(bg 30 21 rfl), (bg 30 22 rfl), (bg 0 2 rfl), (bg 30 23 rfl)⟩
theorem hd_X6_agreesWithHeard : yX6_agreesWithHeard.cls = RX6 ∧ yX6_agreesWithHeard.cls ≠ "java/lang/invoke/MethodHandle" ∧ yX6_agreesWithHeard.cls ≠ "java/lang/invoke/VarHandle" ∧ (parseMethodDescriptor yX6_agreesWithHeard.desc).map (fun d => d.parameters.length) = some 2 := by decide +kernel
set_option maxRecDepth 100000 in
set_option maxHeartbeats 4000000 in
theorem ct_X6_agreesWithHeard (N : Nat) (l : Launch) (G : va_G) (cI cZ cO : ClassId) (q : Nat → Nat) (A : Nat → Nat → Int32) (L : Int64) (rI : Nat → Int32) (rA : Nat → Nat → Int32) (tI : Nat → Int32) (tA : Nat → Nat → Int32) (dI : Nat → Int32) (dA : Nat → Nat → Int32) (wI : Nat → Int32) (wA : Nat → Nat → Int32) (uI : Nat → Int32) (uA : Nat → Nat → Int32) (aI : Nat → Int32) (aS : Nat → Nat → Int32) (aT : Nat → Nat → Nat → Int32) (eI : Nat → Int32) (eA : Nat → Nat → Int32) (sS : Nat → Nat → Int32) (sT : Nat → Nat → Nat → Int32) (bI : Nat → Int32) (x1 : Int32) (x2 : Int32) (r : Int32) (hf : fX6_agreesWithHeard N tI tA wI wA eI eA x1 x2 = some r) : RtI l yX6_agreesWithHeard cX6_agreesWithHeard 5 .boolean rmX6_agreesWithHeard G cI cZ cO [.ref (q 0), .int x1, .int x2] (wX6 q cI cZ cO A L rI rA tI tA dI dA wI wA uI uA aI aS aT eI eA sS sT bI) r := by
  refine mkRI (by decide) (Nat.le_of_ble_eq_true rfl) ?_
  intro p e s m below meth cd Q hC hP hE fin ls hl
  obtain ⟨hx, hb, hml, hown, hts⟩ := hC
  have hown : s.vm.findClass RX6 = some m.cls := hown
  have hl : lv_has ls 5 [(0, .ref (q 0)), (1, .int x1), (2, .int x2)] := hl
  have b_83 : ∀ ls : Array Slot, lv_has ls 5 [] → fX6_agreesWithHeard_83 N tI tA wI wA eI eA = some r → W p l e rmX6_agreesWithHeard s m [.ref (q 0), .int x1, .int x2].toArray below meth cd s.heap [] 0 0 Q (F0 m 83 ls []) := by
    intro ls hl hf
    unfold fX6_agreesWithHeard_83 at hf
    refine lv_iconst (v := 1) hx hb dX6_agreesWithHeard_83 (by decide) ?_
    have e9 := Option.some.inj hf
    exact fin 84 ls _ e9 (nar_z (Or.inr e9.symm)) dX6_agreesWithHeard_84
  have b_77 : ∀ (k_2 : (Nat → Int32) → (Nat → Nat → Int32) → (Nat → Int32) → (Nat → Nat → Int32) → (Nat → Int32) → (Nat → Nat → Int32) → Int32 → Int32 → Int32 → Option (Int32)) (hk_2 : ∀ (u1 : Int32) (u2 : Int32) (u3 : Int32), ∀ ls : Array Slot, lv_has ls 5 [(0, .ref (q 0)), (1, .int u1), (2, .int u2), (3, .int u3)] → k_2 tI tA wI wA eI eA u1 u2 u3 = some r → W p l e rmX6_agreesWithHeard s m [.ref (q 0), .int x1, .int x2].toArray below meth cd s.heap [] 0 0 Q (F0 m 2 ls [])), ∀ (u1 : Int32) (u2 : Int32) (u3 : Int32), ∀ ls : Array Slot, lv_has ls 5 [(0, .ref (q 0)), (1, .int u1), (2, .int u2), (3, .int u3)] → fX6_agreesWithHeard_77 N k_2 tI tA wI wA eI eA u1 u2 u3 = some r → W p l e rmX6_agreesWithHeard s m [.ref (q 0), .int x1, .int x2].toArray below meth cd s.heap [] 0 0 Q (F0 m 77 ls []) := by
    intro k_2 hk_2 u1 u2 u3 ls hl hf
    unfold fX6_agreesWithHeard_77 at hf
    refine lv_iinc (v := u3 + 1) (lv' := [(3, .int (u3 + 1)), (0, .ref (q 0)), (1, .int u1), (2, .int u2)]) hx hb dX6_agreesWithHeard_77 hl (k := 3) rfl rfl (by decide) rfl (fun ls hl => ?_)
    refine lv_goto (tgt := 2) hx hb dX6_agreesWithHeard_80 (by decide) ?_
    exact hk_2 u1 u2 (u3 + 1) ls (lv_sub hl [1, 2, 3, 0] rfl) hf
  have b_2 : ∀ n : Nat, ∀ (u1 : Int32) (u2 : Int32) (u3 : Int32), ∀ ls : Array Slot, lv_has ls 5 [(0, .ref (q 0)), (1, .int u1), (2, .int u2), (3, .int u3)] → fX6_agreesWithHeard_2 N n tI tA wI wA eI eA u1 u2 u3 = some r → W p l e rmX6_agreesWithHeard s m [.ref (q 0), .int x1, .int x2].toArray below meth cd s.heap [] 0 0 Q (F0 m 2 ls []) := by
    intro n
    induction n with
    | zero =>
      intro u1 u2 u3 ls hl hf
      cases hf
    | succ n hk_2 =>
      intro u1 u2 u3 ls hl hf
      replace hf : fX6_agreesWithHeard_2s N (fX6_agreesWithHeard_2 N n) tI tA wI wA eI eA u1 u2 u3 = some r := hf
      generalize fX6_agreesWithHeard_2 N n = k_2 at hf hk_2
      unfold fX6_agreesWithHeard_2s at hf
      refine lv_iload_n hx hb dX6_agreesWithHeard_2 rfl (lv_at hl 3 rfl) ?_
      refine lv_aload_n hx hb dX6_agreesWithHeard_3 rfl (lv_at hl 0 rfl) ?_
      refine va_get (D := G) (ci := 6) (v := .ref (q 83)) (C := RX6) (T := TX6) (N := 15) hx hb hts inlX6 hown hE.1 hP 0 rfl rfl 6 (by decide) (hts _ (bg 1 10 rfl)) (fun _ h9 => h9) rfl dX6_agreesWithHeard_4 ?_
      refine va_get (D := G) (ci := 2) (v := .int ((eI 0))) (C := RX2) (T := TX2) (N := 5) hx hb hts inlX2 hown hE.1 hP 83 rfl rfl 4 (by decide) (hts _ (bg 30 11 rfl)) (fun _ h9 => h9) rfl dX6_agreesWithHeard_7 ?_
      refine lv_icmp_ge (tgt := 83) hx hb dX6_agreesWithHeard_10 (by decide) (fun c1 => ?_) (fun c1 => ?_)
      · rw [if_pos c1] at hf
        exact b_83 ls (lv_sub hl [] rfl) hf
      · rw [if_neg c1] at hf
        refine lv_iload_n hx hb dX6_agreesWithHeard_13 rfl (lv_at hl 3 rfl) ?_
        refine lv_bipush (v := 6) hx hb dX6_agreesWithHeard_14 (by decide) ?_
        refine lv_icmp_ge (tgt := 83) hx hb dX6_agreesWithHeard_16 (by decide) (fun c2 => ?_) (fun c2 => ?_)
        · rw [if_pos c2] at hf
          exact b_83 ls (lv_sub hl [] rfl) hf
        · rw [if_neg c2] at hf
          refine lv_aload_n hx hb dX6_agreesWithHeard_19 rfl (lv_at hl 0 rfl) ?_
          refine va_get (D := G) (ci := 6) (v := .ref (q 83)) (C := RX6) (T := TX6) (N := 15) hx hb hts inlX6 hown hE.1 hP 0 rfl rfl 6 (by decide) (hts _ (bg 1 10 rfl)) (fun _ h9 => h9) rfl dX6_agreesWithHeard_20 ?_
          refine va_get (D := G) (ci := 2) (v := .ref (q 84)) (C := RX2) (T := TX2) (N := 5) hx hb hts inlX2 hown hE.1 hP 83 rfl rfl 0 (by decide) (hts _ (bg 31 0 rfl)) (fun _ h9 => h9) rfl dX6_agreesWithHeard_23 ?_
          refine lv_iload_n hx hb dX6_agreesWithHeard_26 rfl (lv_at hl 3 rfl) ?_
          obtain ⟨v3, hv3, hf⟩ := bnd hf
          refine x_iald hx hb hE.1 hP 84 0 rfl rfl hv3 dX6_agreesWithHeard_27 ?_
          refine lv_iload_n hx hb dX6_agreesWithHeard_28 rfl (lv_at hl 1 rfl) ?_
          refine lv_icmp_ne (tgt := 77) hx hb dX6_agreesWithHeard_29 (by decide) (fun c4 => ?_) (fun c4 => ?_)
          · rw [if_neg c4] at hf
            exact b_77 k_2 hk_2 u1 u2 u3 ls (lv_sub hl [0, 1, 2, 3] rfl) hf
          · rw [if_pos c4] at hf
            refine lv_aload_n hx hb dX6_agreesWithHeard_32 rfl (lv_at hl 0 rfl) ?_
            refine lv_iload_n hx hb dX6_agreesWithHeard_33 rfl (lv_at hl 1 rfl) ?_
            refine lv_iload_n hx hb dX6_agreesWithHeard_34 rfl (lv_at hl 2 rfl) ?_
            refine lv_aload_n hx hb dX6_agreesWithHeard_35 rfl (lv_at hl 0 rfl) ?_
            refine va_get (D := G) (ci := 6) (v := .ref (q 83)) (C := RX6) (T := TX6) (N := 15) hx hb hts inlX6 hown hE.1 hP 0 rfl rfl 6 (by decide) (hts _ (bg 1 10 rfl)) (fun _ h9 => h9) rfl dX6_agreesWithHeard_36 ?_
            refine va_get (D := G) (ci := 2) (v := .ref (q 86)) (C := RX2) (T := TX2) (N := 5) hx hb hts inlX2 hown hE.1 hP 83 rfl rfl 2 (by decide) (hts _ (bg 31 1 rfl)) (fun _ h9 => h9) rfl dX6_agreesWithHeard_39 ?_
            refine lv_iload_n hx hb dX6_agreesWithHeard_42 rfl (lv_at hl 3 rfl) ?_
            obtain ⟨v5, hv5, hf⟩ := bnd hf
            refine x_iald hx hb hE.1 hP 86 0 rfl rfl hv5 dX6_agreesWithHeard_43 ?_
            obtain ⟨z6, hz6, hf⟩ := bnd hf
            refine x_rdV (C := RX6) (n := 3) (ci := 6) hx hb hml hown hts hE (ct_X6_saidIn N l G cI cZ cO q A L rI rA tI tA dI dA wI wA uI uA aI aS aT eI eA sS sT bI u1 u2 v5 z6 hz6) (bg 22 15 rfl) mb_X6_saidIn.1 mb_X6_saidIn.2.1 mb_X6_saidIn.2.2.1 mb_X6_saidIn.2.2.2 hd_X6_saidIn rfl (by decide) hP rfl rfl rfl rfl hl.1 (Nat.le_of_ble_eq_true rfl) ⟨Nat.zero_le _, Nat.zero_le _⟩ dX6_agreesWithHeard_44 ?_
            refine lv_aload_n hx hb dX6_agreesWithHeard_47 rfl (lv_at hl 0 rfl) ?_
            refine va_get (D := G) (ci := 6) (v := .ref (q 83)) (C := RX6) (T := TX6) (N := 15) hx hb hts inlX6 hown hE.1 hP 0 rfl rfl 6 (by decide) (hts _ (bg 1 10 rfl)) (fun _ h9 => h9) rfl dX6_agreesWithHeard_48 ?_
            refine va_get (D := G) (ci := 2) (v := .ref (q 85)) (C := RX2) (T := TX2) (N := 5) hx hb hts inlX2 hown hE.1 hP 83 rfl rfl 1 (by decide) (hts _ (bg 31 2 rfl)) (fun _ h9 => h9) rfl dX6_agreesWithHeard_51 ?_
            refine lv_iload_n hx hb dX6_agreesWithHeard_54 rfl (lv_at hl 3 rfl) ?_
            obtain ⟨v7, hv7, hf⟩ := bnd hf
            refine x_iald hx hb hE.1 hP 85 0 rfl rfl hv7 dX6_agreesWithHeard_55 ?_
            obtain ⟨z8, hz8, hf⟩ := bnd hf
            refine x_rdS (n := 2) hx hb hml hown hts hE (ct_X6_hasBit N l G cI cZ cO z6 v7 z8 hz8) (bg 23 23 rfl) mb_X6_hasBit.1 mb_X6_hasBit.2.1 mb_X6_hasBit.2.2 hd_X6_hasBit rfl (by decide) va_P_nil rfl hl.1 (Nat.le_of_ble_eq_true rfl) ⟨Nat.zero_le _, Nat.zero_le _⟩ dX6_agreesWithHeard_56 ?_
            refine lv_istore (lv' := [(4, .int z8), (0, .ref (q 0)), (1, .int u1), (2, .int u2), (3, .int u3)]) hx hb dX6_agreesWithHeard_59 hl (by decide) rfl (fun ls hl => ?_)
            refine lv_iload hx hb dX6_agreesWithHeard_61 (lv_at hl 0 rfl) ?_
            refine lv_aload_n hx hb dX6_agreesWithHeard_63 rfl (lv_at hl 1 rfl) ?_
            refine va_get (D := G) (ci := 6) (v := .ref (q 83)) (C := RX6) (T := TX6) (N := 15) hx hb hts inlX6 hown hE.1 hP 0 rfl rfl 6 (by decide) (hts _ (bg 1 10 rfl)) (fun _ h9 => h9) rfl dX6_agreesWithHeard_64 ?_
            refine va_get (D := G) (ci := 2) (v := .ref (q 87)) (C := RX2) (T := TX2) (N := 5) hx hb hts inlX2 hown hE.1 hP 83 rfl rfl 3 (by decide) (hts _ (bg 31 3 rfl)) (fun _ h9 => h9) rfl dX6_agreesWithHeard_67 ?_
            refine lv_iload_n hx hb dX6_agreesWithHeard_70 rfl (lv_at hl 4 rfl) ?_
            obtain ⟨v9, hv9, hf⟩ := bnd hf
            refine x_zald hx hb hE.1 hP 87 1 rfl rfl hv9 dX6_agreesWithHeard_71 ?_
            refine lv_icmp_eq (tgt := 77) hx hb dX6_agreesWithHeard_72 (by decide) (fun c10 => ?_) (fun c10 => ?_)
            · rw [if_pos c10] at hf
              exact b_77 k_2 hk_2 u1 u2 u3 ls (lv_sub hl [1, 2, 3, 4] rfl) hf
            · rw [if_neg c10] at hf
              refine lv_iconst (v := 0) hx hb dX6_agreesWithHeard_75 (by decide) ?_
              have e9 := Option.some.inj hf
              exact fin 76 ls _ e9 (nar_z (Or.inl e9.symm)) dX6_agreesWithHeard_76
  unfold fX6_agreesWithHeard at hf
  refine lv_iconst (v := 0) hx hb dX6_agreesWithHeard_0 (by decide) ?_
  refine lv_istore_n (lv' := [(3, .int 0), (0, .ref (q 0)), (1, .int x1), (2, .int x2)]) hx hb dX6_agreesWithHeard_1 rfl hl (by decide) rfl (fun ls hl => ?_)
  exact b_2 N x1 x2 0 ls (lv_sub hl [1, 2, 3, 0] rfl) hf
