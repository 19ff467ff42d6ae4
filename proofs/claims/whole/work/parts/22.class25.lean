def fX6_keep (N : Nat) (A : Nat → Nat → Int32) (wI : Nat → Int32) (wA : Nat → Nat → Int32) (sS : Nat → Nat → Int32) (sT : Nat → Nat → Nat → Int32) (x1 : Int32) : Option (Int32 × (Nat → Nat → Int32) × (Nat → Nat → Int32) × (Nat → Nat → Nat → Int32)) := (fX6_slotAt N x1).bind fun z1 => if z1 = 1 then (fX4_copyFrom N (sS 0) (sT 0) wI wA).bind fun z3 => (wrZ 2 (A 0) x1 1).bind fun g4 => some ((wI 0), va_up A 0 g4, va_up sS 0 z3.1, va_up sT 0 z3.2) else if z1 = 2 then (fX4_copyFrom N (sS 1) (sT 1) wI wA).bind fun z6 => (wrZ 2 (A 0) x1 1).bind fun g7 => some ((wI 0), va_up A 0 g7, va_up sS 1 z6.1, va_up sT 1 z6.2) else some ((-1), A, sS, sT)
def rmX6_keep : Room := { frames := 2, cells := 0, slots := 0, locals := 81 }
theorem mb_X6_keep : Cond.instanceMethod yX6_keep ∈ wsL_law ∧ Cond.selects RX6 yX6_keep yX6_keep ∈ wsL_law ∧ Cond.initialized RX6 ∈ wsL_law ∧ Cond.code yX6_keep cX6_keep 3 (some .int) ∈ wsL_law := ⟨(bg 36 8 rfl), (bg 36 9 rfl), (bg 0 2 rfl), (bg 36 10 rfl)⟩
theorem hd_X6_keep : yX6_keep.cls = RX6 ∧ yX6_keep.cls ≠ "java/lang/invoke/MethodHandle" ∧ yX6_keep.cls ≠ "java/lang/invoke/VarHandle" ∧ (parseMethodDescriptor yX6_keep.desc).map (fun d => d.parameters.length) = some 1 := by decide +kernel
set_option maxRecDepth 100000 in
set_option maxHeartbeats 4000000 in
theorem ct_X6_keep (N : Nat) (l : Launch) (G : va_G) (cI cZ cO : ClassId) (q : Nat → Nat) (A : Nat → Nat → Int32) (L : Int64) (rI : Nat → Int32) (rA : Nat → Nat → Int32) (tI : Nat → Int32) (tA : Nat → Nat → Int32) (dI : Nat → Int32) (dA : Nat → Nat → Int32) (wI : Nat → Int32) (wA : Nat → Nat → Int32) (uI : Nat → Int32) (uA : Nat → Nat → Int32) (aI : Nat → Int32) (aS : Nat → Nat → Int32) (aT : Nat → Nat → Nat → Int32) (eI : Nat → Int32) (eA : Nat → Nat → Int32) (sS : Nat → Nat → Int32) (sT : Nat → Nat → Nat → Int32) (bI : Nat → Int32) (x1 : Int32) (r : Int32) (Az : Nat → Nat → Int32) (sSz : Nat → Nat → Int32) (sTz : Nat → Nat → Nat → Int32) (hf : fX6_keep N A wI wA sS sT x1 = some (r, Az, sSz, sTz)) : CtI l yX6_keep cX6_keep 3 .int rmX6_keep G cI cZ cO [.ref (q 0), .int x1] (wX6 q cI cZ cO A L rI rA tI tA dI dA wI wA uI uA aI aS aT eI eA sS sT bI) (wX6 q cI cZ cO Az L rI rA tI tA dI dA wI wA uI uA aI aS aT eI eA sSz sTz bI) r := by
  refine mkCI (by decide) (Nat.le_of_ble_eq_true rfl) ?_
  intro p e s m below meth cd Q Z hC hP hE hD hA fin ls hl
  obtain ⟨hx, hb, hml, hown, hts⟩ := hC
  have hown : s.vm.findClass RX6 = some m.cls := hown
  have hl : lv_has ls 3 [(0, .ref (q 0)), (1, .int x1)] := hl
  unfold fX6_keep at hf
  have hS : va_S Z s.heap s.heap [] := va_S.rf
  obtain ⟨H, hH⟩ : ∃ H, H = s.heap := ⟨_, rfl⟩
  obtain ⟨locs, hlocs⟩ : ∃ locs : List Loc, locs = [] := ⟨_, rfl⟩
  rw [← hlocs]
  rw [← hlocs] at hS
  suffices hW : ∀ H : Heap, va_P G vwCl (wX6 q cI cZ cO A L rI rA tI tA dI dA wI wA uI uA aI aS aT eI eA sS sT bI) H → va_S Z s.heap H locs → W p l e rmX6_keep s m [.ref (q 0), .int x1].toArray below meth cd H locs 0 0 Q (F0 m 0 ls []) from hW s.heap hP hS
  clear hP hS hH H
  intro H hP hS
  refine lv_aload_n hx hb dX6_keep_0 rfl (lv_at hl 0 rfl) ?_
  refine lv_iload_n hx hb dX6_keep_1 rfl (lv_at hl 1 rfl) ?_
  obtain ⟨z1, hz1, hf⟩ := bnd hf
  by_cases c2 : z1 = 1
  · rw [if_pos c2] at hf
    refine x_rdVq (v := .ref (q 89)) (C := RX6) (n := 1) (ci := 6) hx hb hml hown hts hE (ct_X6_slotAt N l G cI cZ cO q A L rI rA tI tA dI dA wI wA uI uA aI aS aT eI eA sS sT bI x1 z1 hz1) (bg 36 11 rfl) mb_X6_slotAt.1 mb_X6_slotAt.2.1 mb_X6_slotAt.2.2.1 mb_X6_slotAt.2.2.2 hd_X6_slotAt rfl (by decide) hP rfl rfl rfl rfl hl.1 (Nat.le_of_ble_eq_true rfl) ⟨Nat.zero_le _, Nat.zero_le _⟩ dX6_keep_2 (by rw [c2]; rfl) ?_
    refine lv_astore_n (lv' := [(2, .ref (q 89)), (0, .ref (q 0)), (1, .int x1)]) hx hb dX6_keep_5 rfl hl (by decide) rfl (fun ls hl => ?_)
    refine lv_aload_n hx hb dX6_keep_6 rfl (lv_at hl 0 rfl) ?_
    refine lv_ifnonnull (tgt := 12) hx hb dX6_keep_7 (by decide) ?_
    refine lv_aload_n hx hb dX6_keep_12 rfl (lv_at hl 0 rfl) ?_
    refine lv_aload_n hx hb dX6_keep_13 rfl (lv_at hl 1 rfl) ?_
    refine va_get (D := G) (ci := 6) (v := .ref (q 17)) (C := RX6) (T := TX6) (N := 15) hx hb hts inlX6 hown hE.1 hP 0 rfl rfl 3 (by decide) (hts _ (bg 1 1 rfl)) (fun _ h9 => h9) rfl dX6_keep_14 ?_
    obtain ⟨z3, hz3, hf⟩ := bnd hf
    refine x_wrVv (C := RX4) (n := 1) (ci := 4) (ws1 := (wX6 q cI cZ cO A L rI rA tI tA dI dA wI wA uI uA aI aS aT eI eA (va_up sS 0 z3.1) (va_up sT 0 z3.2) bI)) hx hb hml hown hts hE (ct_X4_copyFrom N l G cI cZ cO (sh q 89) (sS 0) (sT 0) (sh q 17) wI wA z3.1 z3.2 hz3) (bg 28 6 rfl) mb_X4_copyFrom.1 mb_X4_copyFrom.2.1 mb_X4_copyFrom.2.2.1 mb_X4_copyFrom.2.2.2 hd_X4_copyFrom rfl (by decide) hP hD hS hA [89, 90, 91, 92, 17, 18, 19, 20] [false, false, false, false, false, false, false, false, false, false, false, false, false, false, false, false, false, true, true, true, true, false, false, false, false, false, false, false, false, false, false, false, false, false, false, false, false, false, false, false, false, false, false, false, false, false, false, false, false, false, false, false, false, false, false, false, false, false, false, false, false, false, false, false, false, false, false, false, false, false, false, false, false, false, false, false, false, false, false, false, false, false, false, false, false, false, false, false, false, true, true, true, true, false, false, false, false, false, false, false, false, false, false] (by decide) (by decide +kernel) rfl rfl ⟨rfl, rfl, rfl, rfl, rfl, rfl, rfl, rfl, rfl, rfl, rfl, rfl, rfl, rfl, rfl, rfl, rfl, rfl, rfl, rfl, rfl, rfl, rfl, rfl, rfl, rfl, rfl, rfl, rfl, rfl, rfl, rfl, rfl, rfl, rfl, rfl, rfl, rfl, rfl, rfl, rfl, rfl, rfl, rfl, rfl, rfl, rfl, rfl, rfl, rfl, rfl, rfl, rfl, rfl, rfl, rfl, rfl, rfl, rfl, rfl, rfl, rfl, rfl, rfl, rfl, rfl, rfl, rfl, rfl, rfl, rfl, rfl, rfl, rfl, rfl, rfl, rfl, rfl, rfl, rfl, rfl, rfl, rfl, rfl, rfl, rfl, rfl, rfl, rfl, rfl, rfl, rfl, rfl, rfl, rfl, rfl, rfl, rfl, rfl, rfl, rfl, rfl, rfl, trivial⟩ rfl rfl rfl rfl hl.1 (Nat.le_of_ble_eq_true rfl) ⟨Nat.zero_le _, Nat.zero_le _⟩ dX6_keep_17 (fun H locs hP hD hS => ?_)
    refine lv_aload_n hx hb dX6_keep_20 rfl (lv_at hl 1 rfl) ?_
    refine va_get (D := G) (ci := 6) (v := .ref (q 97)) (C := RX6) (T := TX6) (N := 15) hx hb hts inlX6 hown hE.1 hP 0 rfl rfl 8 (by decide) (hts _ (bg 1 13 rfl)) (fun _ h9 => h9) rfl dX6_keep_21 ?_
    refine lv_iload_n hx hb dX6_keep_24 rfl (lv_at hl 2 rfl) ?_
    refine lv_iconst (v := 1) hx hb dX6_keep_25 (by decide) ?_
    obtain ⟨g4, hg4, hf⟩ := bnd hf
    refine x_zast hx hb hE.1 hP hD hS 97 1 rfl rfl hg4 dX6_keep_26 (fun H locs hP hD hS => ?_)
    have hP : va_P G vwCl (wX6 q cI cZ cO (va_up A 0 g4) L rI rA tI tA dI dA wI wA uI uA aI aS aT eI eA (va_up sS 0 z3.1) (va_up sT 0 z3.2) bI) H := hP
    have hD : va_D Z (wX6 q cI cZ cO (va_up A 0 g4) L rI rA tI tA dI dA wI wA uI uA aI aS aT eI eA (va_up sS 0 z3.1) (va_up sT 0 z3.2) bI) := hD
    refine lv_aload_n hx hb dX6_keep_27 rfl (lv_at hl 1 rfl) ?_
    refine va_get (D := G) (ci := 6) (v := .ref (q 17)) (C := RX6) (T := TX6) (N := 15) hx hb hts inlX6 hown hE.1 hP 0 rfl rfl 3 (by decide) (hts _ (bg 1 1 rfl)) (fun _ h9 => h9) rfl dX6_keep_28 ?_
    refine va_get (D := G) (ci := 4) (v := .int ((wI 0))) (C := RX4) (T := TX4) (N := 4) hx hb hts inlX4 hown hE.1 hP 17 rfl rfl 3 (by decide) (hts _ (bg 12 6 rfl)) (fun _ h9 => h9) rfl dX6_keep_31 ?_
    have e9 := Option.some.inj hf
    exact fin H locs 34 ls _ (Prod.mk.inj e9).1 (nar_i _) (by rw [← (Prod.mk.inj (Prod.mk.inj e9).2).1, ← (Prod.mk.inj (Prod.mk.inj (Prod.mk.inj e9).2).2).1, ← (Prod.mk.inj (Prod.mk.inj (Prod.mk.inj e9).2).2).2]; exact hP) hS dX6_keep_34
  · rw [if_neg c2] at hf
    by_cases c5 : z1 = 2
    · rw [if_pos c5] at hf
      refine x_rdVq (v := .ref (q 93)) (C := RX6) (n := 1) (ci := 6) hx hb hml hown hts hE (ct_X6_slotAt N l G cI cZ cO q A L rI rA tI tA dI dA wI wA uI uA aI aS aT eI eA sS sT bI x1 z1 hz1) (bg 36 11 rfl) mb_X6_slotAt.1 mb_X6_slotAt.2.1 mb_X6_slotAt.2.2.1 mb_X6_slotAt.2.2.2 hd_X6_slotAt rfl (by decide) hP rfl rfl rfl rfl hl.1 (Nat.le_of_ble_eq_true rfl) ⟨Nat.zero_le _, Nat.zero_le _⟩ dX6_keep_2 (by rw [c5]; rfl) ?_
      refine lv_astore_n (lv' := [(2, .ref (q 93)), (0, .ref (q 0)), (1, .int x1)]) hx hb dX6_keep_5 rfl hl (by decide) rfl (fun ls hl => ?_)
      refine lv_aload_n hx hb dX6_keep_6 rfl (lv_at hl 0 rfl) ?_
      refine lv_ifnonnull (tgt := 12) hx hb dX6_keep_7 (by decide) ?_
      refine lv_aload_n hx hb dX6_keep_12 rfl (lv_at hl 0 rfl) ?_
      refine lv_aload_n hx hb dX6_keep_13 rfl (lv_at hl 1 rfl) ?_
      refine va_get (D := G) (ci := 6) (v := .ref (q 17)) (C := RX6) (T := TX6) (N := 15) hx hb hts inlX6 hown hE.1 hP 0 rfl rfl 3 (by decide) (hts _ (bg 1 1 rfl)) (fun _ h9 => h9) rfl dX6_keep_14 ?_
      obtain ⟨z6, hz6, hf⟩ := bnd hf
      refine x_wrVv (C := RX4) (n := 1) (ci := 4) (ws1 := (wX6 q cI cZ cO A L rI rA tI tA dI dA wI wA uI uA aI aS aT eI eA (va_up sS 1 z6.1) (va_up sT 1 z6.2) bI)) hx hb hml hown hts hE (ct_X4_copyFrom N l G cI cZ cO (sh q 93) (sS 1) (sT 1) (sh q 17) wI wA z6.1 z6.2 hz6) (bg 28 6 rfl) mb_X4_copyFrom.1 mb_X4_copyFrom.2.1 mb_X4_copyFrom.2.2.1 mb_X4_copyFrom.2.2.2 hd_X4_copyFrom rfl (by decide) hP hD hS hA [93, 94, 95, 96, 17, 18, 19, 20] [false, false, false, false, false, false, false, false, false, false, false, false, false, false, false, false, false, true, true, true, true, false, false, false, false, false, false, false, false, false, false, false, false, false, false, false, false, false, false, false, false, false, false, false, false, false, false, false, false, false, false, false, false, false, false, false, false, false, false, false, false, false, false, false, false, false, false, false, false, false, false, false, false, false, false, false, false, false, false, false, false, false, false, false, false, false, false, false, false, false, false, false, false, true, true, true, true, false, false, false, false, false, false] (by decide) (by decide +kernel) rfl rfl ⟨rfl, rfl, rfl, rfl, rfl, rfl, rfl, rfl, rfl, rfl, rfl, rfl, rfl, rfl, rfl, rfl, rfl, rfl, rfl, rfl, rfl, rfl, rfl, rfl, rfl, rfl, rfl, rfl, rfl, rfl, rfl, rfl, rfl, rfl, rfl, rfl, rfl, rfl, rfl, rfl, rfl, rfl, rfl, rfl, rfl, rfl, rfl, rfl, rfl, rfl, rfl, rfl, rfl, rfl, rfl, rfl, rfl, rfl, rfl, rfl, rfl, rfl, rfl, rfl, rfl, rfl, rfl, rfl, rfl, rfl, rfl, rfl, rfl, rfl, rfl, rfl, rfl, rfl, rfl, rfl, rfl, rfl, rfl, rfl, rfl, rfl, rfl, rfl, rfl, rfl, rfl, rfl, rfl, rfl, rfl, rfl, rfl, rfl, rfl, rfl, rfl, rfl, rfl, trivial⟩ rfl rfl rfl rfl hl.1 (Nat.le_of_ble_eq_true rfl) ⟨Nat.zero_le _, Nat.zero_le _⟩ dX6_keep_17 (fun H locs hP hD hS => ?_)
      refine lv_aload_n hx hb dX6_keep_20 rfl (lv_at hl 1 rfl) ?_
      refine va_get (D := G) (ci := 6) (v := .ref (q 97)) (C := RX6) (T := TX6) (N := 15) hx hb hts inlX6 hown hE.1 hP 0 rfl rfl 8 (by decide) (hts _ (bg 1 13 rfl)) (fun _ h9 => h9) rfl dX6_keep_21 ?_
      refine lv_iload_n hx hb dX6_keep_24 rfl (lv_at hl 2 rfl) ?_
      refine lv_iconst (v := 1) hx hb dX6_keep_25 (by decide) ?_
      obtain ⟨g7, hg7, hf⟩ := bnd hf
      refine x_zast hx hb hE.1 hP hD hS 97 1 rfl rfl hg7 dX6_keep_26 (fun H locs hP hD hS => ?_)
      have hP : va_P G vwCl (wX6 q cI cZ cO (va_up A 0 g7) L rI rA tI tA dI dA wI wA uI uA aI aS aT eI eA (va_up sS 1 z6.1) (va_up sT 1 z6.2) bI) H := hP
      have hD : va_D Z (wX6 q cI cZ cO (va_up A 0 g7) L rI rA tI tA dI dA wI wA uI uA aI aS aT eI eA (va_up sS 1 z6.1) (va_up sT 1 z6.2) bI) := hD
      refine lv_aload_n hx hb dX6_keep_27 rfl (lv_at hl 1 rfl) ?_
      refine va_get (D := G) (ci := 6) (v := .ref (q 17)) (C := RX6) (T := TX6) (N := 15) hx hb hts inlX6 hown hE.1 hP 0 rfl rfl 3 (by decide) (hts _ (bg 1 1 rfl)) (fun _ h9 => h9) rfl dX6_keep_28 ?_
      refine va_get (D := G) (ci := 4) (v := .int ((wI 0))) (C := RX4) (T := TX4) (N := 4) hx hb hts inlX4 hown hE.1 hP 17 rfl rfl 3 (by decide) (hts _ (bg 12 6 rfl)) (fun _ h9 => h9) rfl dX6_keep_31 ?_
      have e9 := Option.some.inj hf
      exact fin H locs 34 ls _ (Prod.mk.inj e9).1 (nar_i _) (by rw [← (Prod.mk.inj (Prod.mk.inj e9).2).1, ← (Prod.mk.inj (Prod.mk.inj (Prod.mk.inj e9).2).2).1, ← (Prod.mk.inj (Prod.mk.inj (Prod.mk.inj e9).2).2).2]; exact hP) hS dX6_keep_34
    · rw [if_neg c5] at hf
      refine x_rdVq (v := .null) (C := RX6) (n := 1) (ci := 6) hx hb hml hown hts hE (ct_X6_slotAt N l G cI cZ cO q A L rI rA tI tA dI dA wI wA uI uA aI aS aT eI eA sS sT bI x1 z1 hz1) (bg 36 11 rfl) mb_X6_slotAt.1 mb_X6_slotAt.2.1 mb_X6_slotAt.2.2.1 mb_X6_slotAt.2.2.2 hd_X6_slotAt rfl (by decide) hP rfl rfl rfl rfl hl.1 (Nat.le_of_ble_eq_true rfl) ⟨Nat.zero_le _, Nat.zero_le _⟩ dX6_keep_2 (by unfold rfX6_slotAt; rw [if_neg c2, if_neg c5]; rfl) ?_
      refine lv_astore_nN (lv' := [(2, .null), (0, .ref (q 0)), (1, .int x1)]) hx hb dX6_keep_5 rfl hl (by decide) rfl (fun ls hl => ?_)
      refine lv_aload_nN hx hb dX6_keep_6 rfl (lv_at hl 0 rfl) ?_
      refine lv_ifnonnullN hx hb dX6_keep_7 ?_
      refine lv_iconst (v := (-1)) hx hb dX6_keep_10 (by decide) ?_
      have e9 := Option.some.inj hf
      exact fin H locs 11 ls _ (Prod.mk.inj e9).1 (nar_i _) (by rw [← (Prod.mk.inj (Prod.mk.inj e9).2).1, ← (Prod.mk.inj (Prod.mk.inj (Prod.mk.inj e9).2).2).1, ← (Prod.mk.inj (Prod.mk.inj (Prod.mk.inj e9).2).2).2]; exact hP) hS dX6_keep_11
def fX6_again (N : Nat) (A : Nat → Nat → Int32) (wI : Nat → Int32) (wA : Nat → Nat → Int32) (aI : Nat → Int32) (sS : Nat → Nat → Int32) (sT : Nat → Nat → Nat → Int32) (x1 : Int32) : Option (Int32 × (Nat → Int32) × (Nat → Nat → Int32) × (Nat → Int32)) := (fX6_slotAt N x1).bind fun z1 => if z1 = 1 then (rd 2 (A 0) x1).bind fun v3 => if v3 = 0 then some ((-3), wI, wA, aI) else (fX4_copyFrom N wI wA (sS 0) (sT 0)).bind fun z5 => some ((z5.1 0), z5.1, z5.2, upd aI 1 0) else if z1 = 2 then (rd 2 (A 0) x1).bind fun v7 => if v7 = 0 then some ((-3), wI, wA, aI) else (fX4_copyFrom N wI wA (sS 1) (sT 1)).bind fun z9 => some ((z9.1 0), z9.1, z9.2, upd aI 1 0) else some ((-1), wI, wA, aI)
def rmX6_again : Room := { frames := 2, cells := 0, slots := 0, locals := 81 }
theorem mb_X6_again : Cond.instanceMethod yX6_again ∈ wsL_law ∧ Cond.selects RX6 yX6_again yX6_again ∈ wsL_law ∧ Cond.initialized RX6 ∈ wsL_law ∧ Cond.code yX6_again cX6_again 3 (some .int) ∈ wsL_law := ⟨(bg 36 21 rfl), (bg 36 22 rfl), (bg 0 2 rfl), (bg 36 23 rfl)⟩
theorem hd_X6_again : yX6_again.cls = RX6 ∧ yX6_again.cls ≠ "java/lang/invoke/MethodHandle" ∧ yX6_again.cls ≠ "java/lang/invoke/VarHandle" ∧ (parseMethodDescriptor yX6_again.desc).map (fun d => d.parameters.length) = some 1 := by decide +kernel
set_option maxRecDepth 100000 in
set_option maxHeartbeats 4000000 in
theorem ct_X6_again (N : Nat) (l : Launch) (G : va_G) (cI cZ cO : ClassId) (q : Nat → Nat) (A : Nat → Nat → Int32) (L : Int64) (rI : Nat → Int32) (rA : Nat → Nat → Int32) (tI : Nat → Int32) (tA : Nat → Nat → Int32) (dI : Nat → Int32) (dA : Nat → Nat → Int32) (wI : Nat → Int32) (wA : Nat → Nat → Int32) (uI : Nat → Int32) (uA : Nat → Nat → Int32) (aI : Nat → Int32) (aS : Nat → Nat → Int32) (aT : Nat → Nat → Nat → Int32) (eI : Nat → Int32) (eA : Nat → Nat → Int32) (sS : Nat → Nat → Int32) (sT : Nat → Nat → Nat → Int32) (bI : Nat → Int32) (x1 : Int32) (r : Int32) (wIz : Nat → Int32) (wAz : Nat → Nat → Int32) (aIz : Nat → Int32) (hf : fX6_again N A wI wA aI sS sT x1 = some (r, wIz, wAz, aIz)) : CtI l yX6_again cX6_again 3 .int rmX6_again G cI cZ cO [.ref (q 0), .int x1] (wX6 q cI cZ cO A L rI rA tI tA dI dA wI wA uI uA aI aS aT eI eA sS sT bI) (wX6 q cI cZ cO A L rI rA tI tA dI dA wIz wAz uI uA aIz aS aT eI eA sS sT bI) r := by
  refine mkCI (by decide) (Nat.le_of_ble_eq_true rfl) ?_
  intro p e s m below meth cd Q Z hC hP hE hD hA fin ls hl
  obtain ⟨hx, hb, hml, hown, hts⟩ := hC
  have hown : s.vm.findClass RX6 = some m.cls := hown
  have hl : lv_has ls 3 [(0, .ref (q 0)), (1, .int x1)] := hl
  unfold fX6_again at hf
  have hS : va_S Z s.heap s.heap [] := va_S.rf
  obtain ⟨H, hH⟩ : ∃ H, H = s.heap := ⟨_, rfl⟩
  obtain ⟨locs, hlocs⟩ : ∃ locs : List Loc, locs = [] := ⟨_, rfl⟩
  rw [← hlocs]
  rw [← hlocs] at hS
  suffices hW : ∀ H : Heap, va_P G vwCl (wX6 q cI cZ cO A L rI rA tI tA dI dA wI wA uI uA aI aS aT eI eA sS sT bI) H → va_S Z s.heap H locs → W p l e rmX6_again s m [.ref (q 0), .int x1].toArray below meth cd H locs 0 0 Q (F0 m 0 ls []) from hW s.heap hP hS
  clear hP hS hH H
  intro H hP hS
  refine lv_aload_n hx hb dX6_again_0 rfl (lv_at hl 0 rfl) ?_
  refine lv_iload_n hx hb dX6_again_1 rfl (lv_at hl 1 rfl) ?_
  obtain ⟨z1, hz1, hf⟩ := bnd hf
  by_cases c2 : z1 = 1
  · rw [if_pos c2] at hf
    refine x_rdVq (v := .ref (q 89)) (C := RX6) (n := 1) (ci := 6) hx hb hml hown hts hE (ct_X6_slotAt N l G cI cZ cO q A L rI rA tI tA dI dA wI wA uI uA aI aS aT eI eA sS sT bI x1 z1 hz1) (bg 36 11 rfl) mb_X6_slotAt.1 mb_X6_slotAt.2.1 mb_X6_slotAt.2.2.1 mb_X6_slotAt.2.2.2 hd_X6_slotAt rfl (by decide) hP rfl rfl rfl rfl hl.1 (Nat.le_of_ble_eq_true rfl) ⟨Nat.zero_le _, Nat.zero_le _⟩ dX6_again_2 (by rw [c2]; rfl) ?_
    refine lv_astore_n (lv' := [(2, .ref (q 89)), (0, .ref (q 0)), (1, .int x1)]) hx hb dX6_again_5 rfl hl (by decide) rfl (fun ls hl => ?_)
    refine lv_aload_n hx hb dX6_again_6 rfl (lv_at hl 0 rfl) ?_
    refine lv_ifnonnull (tgt := 12) hx hb dX6_again_7 (by decide) ?_
    refine lv_aload_n hx hb dX6_again_12 rfl (lv_at hl 1 rfl) ?_
    refine va_get (D := G) (ci := 6) (v := .ref (q 97)) (C := RX6) (T := TX6) (N := 15) hx hb hts inlX6 hown hE.1 hP 0 rfl rfl 8 (by decide) (hts _ (bg 1 13 rfl)) (fun _ h9 => h9) rfl dX6_again_13 ?_
    refine lv_iload_n hx hb dX6_again_16 rfl (lv_at hl 2 rfl) ?_
    obtain ⟨v3, hv3, hf⟩ := bnd hf
    refine x_zald hx hb hE.1 hP 97 1 rfl rfl hv3 dX6_again_17 ?_
    refine lv_if_ne (tgt := 24) hx hb dX6_again_18 (by decide) (fun c4 => ?_) (fun c4 => ?_)
    · rw [if_neg c4] at hf
      refine lv_aload_n hx hb dX6_again_24 rfl (lv_at hl 1 rfl) ?_
      refine va_get (D := G) (ci := 6) (v := .ref (q 17)) (C := RX6) (T := TX6) (N := 15) hx hb hts inlX6 hown hE.1 hP 0 rfl rfl 3 (by decide) (hts _ (bg 1 1 rfl)) (fun _ h9 => h9) rfl dX6_again_25 ?_
      refine lv_aload_n hx hb dX6_again_28 rfl (lv_at hl 0 rfl) ?_
      obtain ⟨z5, hz5, hf⟩ := bnd hf
      refine x_wrVv (C := RX4) (n := 1) (ci := 4) (ws1 := (wX6 q cI cZ cO A L rI rA tI tA dI dA z5.1 z5.2 uI uA aI aS aT eI eA sS sT bI)) hx hb hml hown hts hE (ct_X4_copyFrom N l G cI cZ cO (sh q 17) wI wA (sh q 89) (sS 0) (sT 0) z5.1 z5.2 hz5) (bg 28 6 rfl) mb_X4_copyFrom.1 mb_X4_copyFrom.2.1 mb_X4_copyFrom.2.2.1 mb_X4_copyFrom.2.2.2 hd_X4_copyFrom rfl (by decide) hP hD hS hA [17, 18, 19, 20, 89, 90, 91, 92] [false, false, false, false, false, false, false, false, false, false, false, false, false, false, false, false, false, true, true, true, true, false, false, false, false, false, false, false, false, false, false, false, false, false, false, false, false, false, false, false, false, false, false, false, false, false, false, false, false, false, false, false, false, false, false, false, false, false, false, false, false, false, false, false, false, false, false, false, false, false, false, false, false, false, false, false, false, false, false, false, false, false, false, false, false, false, false, false, false, true, true, true, true, false, false, false, false, false, false, false, false, false, false] (by decide) (by decide +kernel) rfl rfl ⟨rfl, rfl, rfl, rfl, rfl, rfl, rfl, rfl, rfl, rfl, rfl, rfl, rfl, rfl, rfl, rfl, rfl, rfl, rfl, rfl, rfl, rfl, rfl, rfl, rfl, rfl, rfl, rfl, rfl, rfl, rfl, rfl, rfl, rfl, rfl, rfl, rfl, rfl, rfl, rfl, rfl, rfl, rfl, rfl, rfl, rfl, rfl, rfl, rfl, rfl, rfl, rfl, rfl, rfl, rfl, rfl, rfl, rfl, rfl, rfl, rfl, rfl, rfl, rfl, rfl, rfl, rfl, rfl, rfl, rfl, rfl, rfl, rfl, rfl, rfl, rfl, rfl, rfl, rfl, rfl, rfl, rfl, rfl, rfl, rfl, rfl, rfl, rfl, rfl, rfl, rfl, rfl, rfl, rfl, rfl, rfl, rfl, rfl, rfl, rfl, rfl, rfl, rfl, trivial⟩ rfl rfl rfl rfl hl.1 (Nat.le_of_ble_eq_true rfl) ⟨Nat.zero_le _, Nat.zero_le _⟩ dX6_again_29 (fun H locs hP hD hS => ?_)
      refine lv_aload_n hx hb dX6_again_32 rfl (lv_at hl 1 rfl) ?_
      refine va_get (D := G) (ci := 6) (v := .ref (q 25)) (C := RX6) (T := TX6) (N := 15) hx hb hts inlX6 hown hE.1 hP 0 rfl rfl 5 (by decide) (hts _ (bg 1 6 rfl)) (fun _ h9 => h9) rfl dX6_again_33 ?_
      refine lv_iconst (v := 0) hx hb dX6_again_36 (by decide) ?_
      refine va_put (D := G) (ci := 0) (v := .int 0) (ty := .int) (C := RX0) (T := TX0) (N := 3) hx hb hts inlX0 tyX0 tyX0_ok nmX0 hown hE.1 hP hD hS 25 rfl rfl 2 (by decide) (hts _ (bg 11 7 rfl)) (fun _ h9 => h9) rfl (by decide +kernel) rfl rfl (Nat.le_of_ble_eq_true rfl) dX6_again_37 (fun H locs hP hD hS => ?_)
      have hP : va_P G vwCl (wX6 q cI cZ cO A L rI rA tI tA dI dA z5.1 z5.2 uI uA (upd aI 1 0) aS aT eI eA sS sT bI) H := hP
      have hD : va_D Z (wX6 q cI cZ cO A L rI rA tI tA dI dA z5.1 z5.2 uI uA (upd aI 1 0) aS aT eI eA sS sT bI) := hD
      refine lv_aload_n hx hb dX6_again_40 rfl (lv_at hl 1 rfl) ?_
      refine va_get (D := G) (ci := 6) (v := .ref (q 17)) (C := RX6) (T := TX6) (N := 15) hx hb hts inlX6 hown hE.1 hP 0 rfl rfl 3 (by decide) (hts _ (bg 1 1 rfl)) (fun _ h9 => h9) rfl dX6_again_41 ?_
      refine va_get (D := G) (ci := 4) (v := .int ((z5.1 0))) (C := RX4) (T := TX4) (N := 4) hx hb hts inlX4 hown hE.1 hP 17 rfl rfl 3 (by decide) (hts _ (bg 12 6 rfl)) (fun _ h9 => h9) rfl dX6_again_44 ?_
      have e9 := Option.some.inj hf
      exact fin H locs 47 ls _ (Prod.mk.inj e9).1 (nar_i _) (by rw [← (Prod.mk.inj (Prod.mk.inj e9).2).1, ← (Prod.mk.inj (Prod.mk.inj (Prod.mk.inj e9).2).2).1, ← (Prod.mk.inj (Prod.mk.inj (Prod.mk.inj e9).2).2).2]; exact hP) hS dX6_again_47
    · rw [if_pos c4] at hf
      refine lv_bipush (v := (-3)) hx hb dX6_again_21 (by decide) ?_
      have e9 := Option.some.inj hf
      exact fin H locs 23 ls _ (Prod.mk.inj e9).1 (nar_i _) (by rw [← (Prod.mk.inj (Prod.mk.inj e9).2).1, ← (Prod.mk.inj (Prod.mk.inj (Prod.mk.inj e9).2).2).1, ← (Prod.mk.inj (Prod.mk.inj (Prod.mk.inj e9).2).2).2]; exact hP) hS dX6_again_23
  · rw [if_neg c2] at hf
    by_cases c6 : z1 = 2
    · rw [if_pos c6] at hf
      refine x_rdVq (v := .ref (q 93)) (C := RX6) (n := 1) (ci := 6) hx hb hml hown hts hE (ct_X6_slotAt N l G cI cZ cO q A L rI rA tI tA dI dA wI wA uI uA aI aS aT eI eA sS sT bI x1 z1 hz1) (bg 36 11 rfl) mb_X6_slotAt.1 mb_X6_slotAt.2.1 mb_X6_slotAt.2.2.1 mb_X6_slotAt.2.2.2 hd_X6_slotAt rfl (by decide) hP rfl rfl rfl rfl hl.1 (Nat.le_of_ble_eq_true rfl) ⟨Nat.zero_le _, Nat.zero_le _⟩ dX6_again_2 (by rw [c6]; rfl) ?_
      refine lv_astore_n (lv' := [(2, .ref (q 93)), (0, .ref (q 0)), (1, .int x1)]) hx hb dX6_again_5 rfl hl (by decide) rfl (fun ls hl => ?_)
      refine lv_aload_n hx hb dX6_again_6 rfl (lv_at hl 0 rfl) ?_
      refine lv_ifnonnull (tgt := 12) hx hb dX6_again_7 (by decide) ?_
      refine lv_aload_n hx hb dX6_again_12 rfl (lv_at hl 1 rfl) ?_
      refine va_get (D := G) (ci := 6) (v := .ref (q 97)) (C := RX6) (T := TX6) (N := 15) hx hb hts inlX6 hown hE.1 hP 0 rfl rfl 8 (by decide) (hts _ (bg 1 13 rfl)) (fun _ h9 => h9) rfl dX6_again_13 ?_
      refine lv_iload_n hx hb dX6_again_16 rfl (lv_at hl 2 rfl) ?_
      obtain ⟨v7, hv7, hf⟩ := bnd hf
      refine x_zald hx hb hE.1 hP 97 1 rfl rfl hv7 dX6_again_17 ?_
      refine lv_if_ne (tgt := 24) hx hb dX6_again_18 (by decide) (fun c8 => ?_) (fun c8 => ?_)
      · rw [if_neg c8] at hf
        refine lv_aload_n hx hb dX6_again_24 rfl (lv_at hl 1 rfl) ?_
        refine va_get (D := G) (ci := 6) (v := .ref (q 17)) (C := RX6) (T := TX6) (N := 15) hx hb hts inlX6 hown hE.1 hP 0 rfl rfl 3 (by decide) (hts _ (bg 1 1 rfl)) (fun _ h9 => h9) rfl dX6_again_25 ?_
        refine lv_aload_n hx hb dX6_again_28 rfl (lv_at hl 0 rfl) ?_
        obtain ⟨z9, hz9, hf⟩ := bnd hf
        refine x_wrVv (C := RX4) (n := 1) (ci := 4) (ws1 := (wX6 q cI cZ cO A L rI rA tI tA dI dA z9.1 z9.2 uI uA aI aS aT eI eA sS sT bI)) hx hb hml hown hts hE (ct_X4_copyFrom N l G cI cZ cO (sh q 17) wI wA (sh q 93) (sS 1) (sT 1) z9.1 z9.2 hz9) (bg 28 6 rfl) mb_X4_copyFrom.1 mb_X4_copyFrom.2.1 mb_X4_copyFrom.2.2.1 mb_X4_copyFrom.2.2.2 hd_X4_copyFrom rfl (by decide) hP hD hS hA [17, 18, 19, 20, 93, 94, 95, 96] [false, false, false, false, false, false, false, false, false, false, false, false, false, false, false, false, false, true, true, true, true, false, false, false, false, false, false, false, false, false, false, false, false, false, false, false, false, false, false, false, false, false, false, false, false, false, false, false, false, false, false, false, false, false, false, false, false, false, false, false, false, false, false, false, false, false, false, false, false, false, false, false, false, false, false, false, false, false, false, false, false, false, false, false, false, false, false, false, false, false, false, false, false, true, true, true, true, false, false, false, false, false, false] (by decide) (by decide +kernel) rfl rfl ⟨rfl, rfl, rfl, rfl, rfl, rfl, rfl, rfl, rfl, rfl, rfl, rfl, rfl, rfl, rfl, rfl, rfl, rfl, rfl, rfl, rfl, rfl, rfl, rfl, rfl, rfl, rfl, rfl, rfl, rfl, rfl, rfl, rfl, rfl, rfl, rfl, rfl, rfl, rfl, rfl, rfl, rfl, rfl, rfl, rfl, rfl, rfl, rfl, rfl, rfl, rfl, rfl, rfl, rfl, rfl, rfl, rfl, rfl, rfl, rfl, rfl, rfl, rfl, rfl, rfl, rfl, rfl, rfl, rfl, rfl, rfl, rfl, rfl, rfl, rfl, rfl, rfl, rfl, rfl, rfl, rfl, rfl, rfl, rfl, rfl, rfl, rfl, rfl, rfl, rfl, rfl, rfl, rfl, rfl, rfl, rfl, rfl, rfl, rfl, rfl, rfl, rfl, rfl, trivial⟩ rfl rfl rfl rfl hl.1 (Nat.le_of_ble_eq_true rfl) ⟨Nat.zero_le _, Nat.zero_le _⟩ dX6_again_29 (fun H locs hP hD hS => ?_)
        refine lv_aload_n hx hb dX6_again_32 rfl (lv_at hl 1 rfl) ?_
        refine va_get (D := G) (ci := 6) (v := .ref (q 25)) (C := RX6) (T := TX6) (N := 15) hx hb hts inlX6 hown hE.1 hP 0 rfl rfl 5 (by decide) (hts _ (bg 1 6 rfl)) (fun _ h9 => h9) rfl dX6_again_33 ?_
        refine lv_iconst (v := 0) hx hb dX6_again_36 (by decide) ?_
        refine va_put (D := G) (ci := 0) (v := .int 0) (ty := .int) (C := RX0) (T := TX0) (N := 3) hx hb hts inlX0 tyX0 tyX0_ok nmX0 hown hE.1 hP hD hS 25 rfl rfl 2 (by decide) (hts _ (bg 11 7 rfl)) (fun _ h9 => h9) rfl (by decide +kernel) rfl rfl (Nat.le_of_ble_eq_true rfl) dX6_again_37 (fun H locs hP hD hS => ?_)
        have hP : va_P G vwCl (wX6 q cI cZ cO A L rI rA tI tA dI dA z9.1 z9.2 uI uA (upd aI 1 0) aS aT eI eA sS sT bI) H := hP
        have hD : va_D Z (wX6 q cI cZ cO A L rI rA tI tA dI dA z9.1 z9.2 uI uA (upd aI 1 0) aS aT eI eA sS sT bI) := hD
        refine lv_aload_n hx hb dX6_again_40 rfl (lv_at hl 1 rfl) ?_
        refine va_get (D := G) (ci := 6) (v := .ref (q 17)) (C := RX6) (T := TX6) (N := 15) hx hb hts inlX6 hown hE.1 hP 0 rfl rfl 3 (by decide) (hts _ (bg 1 1 rfl)) (fun _ h9 => h9) rfl dX6_again_41 ?_
        refine va_get (D := G) (ci := 4) (v := .int ((z9.1 0))) (C := RX4) (T := TX4) (N := 4) hx hb hts inlX4 hown hE.1 hP 17 rfl rfl 3 (by decide) (hts _ (bg 12 6 rfl)) (fun _ h9 => h9) rfl dX6_again_44 ?_
        have e9 := Option.some.inj hf
        exact fin H locs 47 ls _ (Prod.mk.inj e9).1 (nar_i _) (by rw [← (Prod.mk.inj (Prod.mk.inj e9).2).1, ← (Prod.mk.inj (Prod.mk.inj (Prod.mk.inj e9).2).2).1, ← (Prod.mk.inj (Prod.mk.inj (Prod.mk.inj e9).2).2).2]; exact hP) hS dX6_again_47
      · rw [if_pos c8] at hf
        refine lv_bipush (v := (-3)) hx hb dX6_again_21 (by decide) ?_
        have e9 := Option.some.inj hf
        exact fin H locs 23 ls _ (Prod.mk.inj e9).1 (nar_i _) (by rw [← (Prod.mk.inj (Prod.mk.inj e9).2).1, ← (Prod.mk.inj (Prod.mk.inj (Prod.mk.inj e9).2).2).1, ← (Prod.mk.inj (Prod.mk.inj (Prod.mk.inj e9).2).2).2]; exact hP) hS dX6_again_23
    · rw [if_neg c6] at hf
      refine x_rdVq (v := .null) (C := RX6) (n := 1) (ci := 6) hx hb hml hown hts hE (ct_X6_slotAt N l G cI cZ cO q A L rI rA tI tA dI dA wI wA uI uA aI aS aT eI eA sS sT bI x1 z1 hz1) (bg 36 11 rfl) mb_X6_slotAt.1 mb_X6_slotAt.2.1 mb_X6_slotAt.2.2.1 mb_X6_slotAt.2.2.2 hd_X6_slotAt rfl (by decide) hP rfl rfl rfl rfl hl.1 (Nat.le_of_ble_eq_true rfl) ⟨Nat.zero_le _, Nat.zero_le _⟩ dX6_again_2 (by unfold rfX6_slotAt; rw [if_neg c2, if_neg c6]; rfl) ?_
      refine lv_astore_nN (lv' := [(2, .null), (0, .ref (q 0)), (1, .int x1)]) hx hb dX6_again_5 rfl hl (by decide) rfl (fun ls hl => ?_)
      refine lv_aload_nN hx hb dX6_again_6 rfl (lv_at hl 0 rfl) ?_
      refine lv_ifnonnullN hx hb dX6_again_7 ?_
      refine lv_iconst (v := (-1)) hx hb dX6_again_10 (by decide) ?_
      have e9 := Option.some.inj hf
      exact fin H locs 11 ls _ (Prod.mk.inj e9).1 (nar_i _) (by rw [← (Prod.mk.inj (Prod.mk.inj e9).2).1, ← (Prod.mk.inj (Prod.mk.inj (Prod.mk.inj e9).2).2).1, ← (Prod.mk.inj (Prod.mk.inj (Prod.mk.inj e9).2).2).2]; exact hP) hS dX6_again_11
def fX4_allCoins_4s (N : Nat) (k_4 : (Nat → Nat → Int32) → Int32 → Int32 → Option (Int32)) (A : Nat → Nat → Int32) (u1 : Int32) (u2 : Int32) : Option (Int32) := if 20 ≤ u2 then some u1 else (rd 20 (A 2) u2).bind fun v2 => k_4 A (u1 + v2) (u2 + 1)
def fX4_allCoins_4 (N : Nat) : Nat → (Nat → Nat → Int32) → Int32 → Int32 → Option (Int32)
  | 0 => fun _ _ _ => none
  | n + 1 => fX4_allCoins_4s N (fX4_allCoins_4 N n)
def fX4_allCoins (N : Nat) (A : Nat → Nat → Int32) : Option (Int32) := fX4_allCoins_4 N N A 0 0
def rmX4_allCoins : Room := { frames := 0, cells := 0, slots := 0, locals := 0 }
theorem mb_X4_allCoins : Cond.instanceMethod yX4_allCoins ∈ wsL_law ∧ Cond.selects RX4 yX4_allCoins yX4_allCoins ∈ wsL_law ∧ Cond.initialized RX4 ∈ wsL_law ∧ Cond.code yX4_allCoins cX4_allCoins 3 (some .int) ∈ wsL_law := ⟨(bg 37 9 rfl), (bg 37 10 rfl), (bg 1 0 rfl), (bg 37 11 rfl)⟩
theorem hd_X4_allCoins : yX4_allCoins.cls = RX4 ∧ yX4_allCoins.cls ≠ "java/lang/invoke/MethodHandle" ∧ yX4_allCoins.cls ≠ "java/lang/invoke/VarHandle" ∧ (parseMethodDescriptor yX4_allCoins.desc).map (fun d => d.parameters.length) = some 0 := by decide +kernel
set_option maxRecDepth 100000 in
set_option maxHeartbeats 4000000 in
theorem ct_X4_allCoins (N : Nat) (l : Launch) (G : va_G) (cI cZ cO : ClassId) (q : Nat → Nat) (I : Nat → Int32) (A : Nat → Nat → Int32) (r : Int32) (hf : fX4_allCoins N A = some r) : RtI l yX4_allCoins cX4_allCoins 3 .int rmX4_allCoins G cI cZ cO [.ref (q 0)] (wX4 q cI cZ cO I A) r := by
  refine mkRI (by decide) (Nat.le_of_ble_eq_true rfl) ?_
  intro p e s m below meth cd Q hC hP hE fin ls hl
  obtain ⟨hx, hb, hml, hown, hts⟩ := hC
  have hown : s.vm.findClass RX4 = some m.cls := hown
  have hl : lv_has ls 3 [(0, .ref (q 0))] := hl
  have b_4 : ∀ n : Nat, ∀ (u1 : Int32) (u2 : Int32), ∀ ls : Array Slot, lv_has ls 3 [(0, .ref (q 0)), (1, .int u1), (2, .int u2)] → fX4_allCoins_4 N n A u1 u2 = some r → W p l e rmX4_allCoins s m [.ref (q 0)].toArray below meth cd s.heap [] 0 0 Q (F0 m 4 ls []) := by
    intro n
    induction n with
    | zero =>
      intro u1 u2 ls hl hf
      cases hf
    | succ n hk_4 =>
      intro u1 u2 ls hl hf
      replace hf : fX4_allCoins_4s N (fX4_allCoins_4 N n) A u1 u2 = some r := hf
      generalize fX4_allCoins_4 N n = k_4 at hf hk_4
      unfold fX4_allCoins_4s at hf
      refine lv_iload_n hx hb dX4_allCoins_4 rfl (lv_at hl 2 rfl) ?_
      refine lv_aload_n hx hb dX4_allCoins_5 rfl (lv_at hl 0 rfl) ?_
      refine va_get (D := G) (ci := 4) (v := .ref (q 3)) (C := RX4) (T := TX4) (N := 4) hx hb hts inlX4 hown hE.1 hP 0 rfl rfl 2 (by decide) (hts _ (bg 2 17 rfl)) (fun _ h9 => h9) rfl dX4_allCoins_6 ?_
      refine va_alen (v := 20) hx hb hE.1 hP 3 0 rfl rfl rfl dX4_allCoins_9 ?_
      refine lv_icmp_ge (tgt := 28) hx hb dX4_allCoins_10 (by decide) (fun c1 => ?_) (fun c1 => ?_)
      · rw [if_pos c1] at hf
        refine lv_iload_n hx hb dX4_allCoins_28 rfl (lv_at hl 1 rfl) ?_
        have e9 := Option.some.inj hf
        exact fin 29 ls _ e9 (nar_i _) dX4_allCoins_29
      · rw [if_neg c1] at hf
        refine lv_iload_n hx hb dX4_allCoins_13 rfl (lv_at hl 1 rfl) ?_
        refine lv_aload_n hx hb dX4_allCoins_14 rfl (lv_at hl 0 rfl) ?_
        refine va_get (D := G) (ci := 4) (v := .ref (q 3)) (C := RX4) (T := TX4) (N := 4) hx hb hts inlX4 hown hE.1 hP 0 rfl rfl 2 (by decide) (hts _ (bg 2 17 rfl)) (fun _ h9 => h9) rfl dX4_allCoins_15 ?_
        refine lv_iload_n hx hb dX4_allCoins_18 rfl (lv_at hl 2 rfl) ?_
        obtain ⟨v2, hv2, hf⟩ := bnd hf
        refine x_iald hx hb hE.1 hP 3 0 rfl rfl hv2 dX4_allCoins_19 ?_
        refine lv_iadd hx hb dX4_allCoins_20 ?_
        refine lv_istore_n (lv' := [(1, .int (u1 + v2)), (0, .ref (q 0)), (2, .int u2)]) hx hb dX4_allCoins_21 rfl hl (by decide) rfl (fun ls hl => ?_)
        refine lv_iinc (v := u2 + 1) (lv' := [(2, .int (u2 + 1)), (1, .int (u1 + v2)), (0, .ref (q 0))]) hx hb dX4_allCoins_22 hl (k := 2) rfl rfl (by decide) rfl (fun ls hl => ?_)
        refine lv_goto (tgt := 4) hx hb dX4_allCoins_25 (by decide) ?_
        exact hk_4 (u1 + v2) (u2 + 1) ls (lv_sub hl [2, 1, 0] rfl) hf
  unfold fX4_allCoins at hf
  refine lv_iconst (v := 0) hx hb dX4_allCoins_0 (by decide) ?_
  refine lv_istore_n (lv' := [(1, .int 0), (0, .ref (q 0))]) hx hb dX4_allCoins_1 rfl hl (by decide) rfl (fun ls hl => ?_)
  refine lv_iconst (v := 0) hx hb dX4_allCoins_2 (by decide) ?_
  refine lv_istore_n (lv' := [(2, .int 0), (1, .int 0), (0, .ref (q 0))]) hx hb dX4_allCoins_3 rfl hl (by decide) rfl (fun ls hl => ?_)
  exact b_4 N 0 0 ls (lv_sub hl [2, 1, 0] rfl) hf
def fX4_rumoursSaid_26 (N : Nat) (k_4 : (Nat → Nat → Int32) → Int32 → Int32 → Option (Int32)) (A : Nat → Nat → Int32) (u2 : Int32) (y0 : Int32) (y1 : Int32) : Option (Int32) := k_4 A (y0 ||| y1) (u2 + 1)
def fX4_rumoursSaid_4s (N : Nat) (k_4 : (Nat → Nat → Int32) → Int32 → Int32 → Option (Int32)) (A : Nat → Nat → Int32) (u1 : Int32) (u2 : Int32) : Option (Int32) := if 5 ≤ u2 then some u1 else (rd 5 (A 0) u2).bind fun v2 => if v2 = 0 then fX4_rumoursSaid_26 N k_4 A u2 u1 0 else fX4_rumoursSaid_26 N k_4 A u2 u1 (shl 1 u2)
def fX4_rumoursSaid_4 (N : Nat) : Nat → (Nat → Nat → Int32) → Int32 → Int32 → Option (Int32)
  | 0 => fun _ _ _ => none
  | n + 1 => fX4_rumoursSaid_4s N (fX4_rumoursSaid_4 N n)
def fX4_rumoursSaid (N : Nat) (A : Nat → Nat → Int32) : Option (Int32) := fX4_rumoursSaid_4 N N A 0 0
def rmX4_rumoursSaid : Room := { frames := 0, cells := 0, slots := 0, locals := 0 }
theorem mb_X4_rumoursSaid : Cond.instanceMethod yX4_rumoursSaid ∈ wsL_law ∧ Cond.selects RX4 yX4_rumoursSaid yX4_rumoursSaid ∈ wsL_law ∧ Cond.initialized RX4 ∈ wsL_law ∧ Cond.code yX4_rumoursSaid cX4_rumoursSaid 3 (some .int) ∈ wsL_law := ⟨(bg 37 13 rfl), (bg 37 14 rfl), (bg 1 0 rfl), (bg 37 15 rfl)⟩
theorem hd_X4_rumoursSaid : yX4_rumoursSaid.cls = RX4 ∧ yX4_rumoursSaid.cls ≠ "java/lang/invoke/MethodHandle" ∧ yX4_rumoursSaid.cls ≠ "java/lang/invoke/VarHandle" ∧ (parseMethodDescriptor yX4_rumoursSaid.desc).map (fun d => d.parameters.length) = some 0 := by decide +kernel
set_option maxRecDepth 100000 in
set_option maxHeartbeats 4000000 in
theorem ct_X4_rumoursSaid (N : Nat) (l : Launch) (G : va_G) (cI cZ cO : ClassId) (q : Nat → Nat) (I : Nat → Int32) (A : Nat → Nat → Int32) (r : Int32) (hf : fX4_rumoursSaid N A = some r) : RtI l yX4_rumoursSaid cX4_rumoursSaid 3 .int rmX4_rumoursSaid G cI cZ cO [.ref (q 0)] (wX4 q cI cZ cO I A) r := by
  refine mkRI (by decide) (Nat.le_of_ble_eq_true rfl) ?_
  intro p e s m below meth cd Q hC hP hE fin ls hl
  obtain ⟨hx, hb, hml, hown, hts⟩ := hC
  have hown : s.vm.findClass RX4 = some m.cls := hown
  have hl : lv_has ls 3 [(0, .ref (q 0))] := hl
  have b_26 : ∀ (k_4 : (Nat → Nat → Int32) → Int32 → Int32 → Option (Int32)) (hk_4 : ∀ (u1 : Int32) (u2 : Int32), ∀ ls : Array Slot, lv_has ls 3 [(0, .ref (q 0)), (1, .int u1), (2, .int u2)] → k_4 A u1 u2 = some r → W p l e rmX4_rumoursSaid s m [.ref (q 0)].toArray below meth cd s.heap [] 0 0 Q (F0 m 4 ls [])), ∀ (u2 : Int32) (y0 : Int32) (y1 : Int32), ∀ ls : Array Slot, lv_has ls 3 [(0, .ref (q 0)), (2, .int u2)] → fX4_rumoursSaid_26 N k_4 A u2 y0 y1 = some r → W p l e rmX4_rumoursSaid s m [.ref (q 0)].toArray below meth cd s.heap [] 0 0 Q (F0 m 26 ls [.int y1, .int y0]) := by
    intro k_4 hk_4 u2 y0 y1 ls hl hf
    unfold fX4_rumoursSaid_26 at hf
    refine lv_ior hx hb dX4_rumoursSaid_26 ?_
    refine lv_istore_n (lv' := [(1, .int (y0 ||| y1)), (0, .ref (q 0)), (2, .int u2)]) hx hb dX4_rumoursSaid_27 rfl hl (by decide) rfl (fun ls hl => ?_)
    refine lv_iinc (v := u2 + 1) (lv' := [(2, .int (u2 + 1)), (1, .int (y0 ||| y1)), (0, .ref (q 0))]) hx hb dX4_rumoursSaid_28 hl (k := 2) rfl rfl (by decide) rfl (fun ls hl => ?_)
    refine lv_goto (tgt := 4) hx hb dX4_rumoursSaid_31 (by decide) ?_
    exact hk_4 (y0 ||| y1) (u2 + 1) ls (lv_sub hl [2, 1, 0] rfl) hf
  have b_4 : ∀ n : Nat, ∀ (u1 : Int32) (u2 : Int32), ∀ ls : Array Slot, lv_has ls 3 [(0, .ref (q 0)), (1, .int u1), (2, .int u2)] → fX4_rumoursSaid_4 N n A u1 u2 = some r → W p l e rmX4_rumoursSaid s m [.ref (q 0)].toArray below meth cd s.heap [] 0 0 Q (F0 m 4 ls []) := by
    intro n
    induction n with
    | zero =>
      intro u1 u2 ls hl hf
      cases hf
    | succ n hk_4 =>
      intro u1 u2 ls hl hf
      replace hf : fX4_rumoursSaid_4s N (fX4_rumoursSaid_4 N n) A u1 u2 = some r := hf
      generalize fX4_rumoursSaid_4 N n = k_4 at hf hk_4
      unfold fX4_rumoursSaid_4s at hf
      refine lv_iload_n hx hb dX4_rumoursSaid_4 rfl (lv_at hl 2 rfl) ?_
      refine lv_iconst (v := 5) hx hb dX4_rumoursSaid_5 (by decide) ?_
      refine lv_icmp_ge (tgt := 34) hx hb dX4_rumoursSaid_6 (by decide) (fun c1 => ?_) (fun c1 => ?_)
      · rw [if_pos c1] at hf
        refine lv_iload_n hx hb dX4_rumoursSaid_34 rfl (lv_at hl 1 rfl) ?_
        have e9 := Option.some.inj hf
        exact fin 35 ls _ e9 (nar_i _) dX4_rumoursSaid_35
      · rw [if_neg c1] at hf
        refine lv_iload_n hx hb dX4_rumoursSaid_9 rfl (lv_at hl 1 rfl) ?_
        refine lv_aload_n hx hb dX4_rumoursSaid_10 rfl (lv_at hl 0 rfl) ?_
        refine va_get (D := G) (ci := 4) (v := .ref (q 1)) (C := RX4) (T := TX4) (N := 4) hx hb hts inlX4 hown hE.1 hP 0 rfl rfl 0 (by decide) (hts _ (bg 2 15 rfl)) (fun _ h9 => h9) rfl dX4_rumoursSaid_11 ?_
        refine lv_iload_n hx hb dX4_rumoursSaid_14 rfl (lv_at hl 2 rfl) ?_
        obtain ⟨v2, hv2, hf⟩ := bnd hf
        refine x_iald hx hb hE.1 hP 1 0 rfl rfl hv2 dX4_rumoursSaid_15 ?_
        refine lv_if_eq (tgt := 25) hx hb dX4_rumoursSaid_16 (by decide) (fun c3 => ?_) (fun c3 => ?_)
        · rw [if_pos c3] at hf
          refine lv_iconst (v := 0) hx hb dX4_rumoursSaid_25 (by decide) ?_
          exact b_26 k_4 hk_4 u2 u1 0 ls (lv_sub hl [0, 2] rfl) hf
        · rw [if_neg c3] at hf
          refine lv_iconst (v := 1) hx hb dX4_rumoursSaid_19 (by decide) ?_
          refine lv_iload_n hx hb dX4_rumoursSaid_20 rfl (lv_at hl 2 rfl) ?_
          refine x_ishl hx hb dX4_rumoursSaid_21 ?_
          refine lv_goto (tgt := 26) hx hb dX4_rumoursSaid_22 (by decide) ?_
          exact b_26 k_4 hk_4 u2 u1 (shl 1 u2) ls (lv_sub hl [0, 2] rfl) hf
  unfold fX4_rumoursSaid at hf
  refine lv_iconst (v := 0) hx hb dX4_rumoursSaid_0 (by decide) ?_
  refine lv_istore_n (lv' := [(1, .int 0), (0, .ref (q 0))]) hx hb dX4_rumoursSaid_1 rfl hl (by decide) rfl (fun ls hl => ?_)
  refine lv_iconst (v := 0) hx hb dX4_rumoursSaid_2 (by decide) ?_
  refine lv_istore_n (lv' := [(2, .int 0), (1, .int 0), (0, .ref (q 0))]) hx hb dX4_rumoursSaid_3 rfl hl (by decide) rfl (fun ls hl => ?_)
  exact b_4 N 0 0 ls (lv_sub hl [2, 1, 0] rfl) hf
def fX6_count (N : Nat) (rI : Nat → Int32) (tI : Nat → Int32) (tA : Nat → Nat → Int32) (wI : Nat → Int32) (wA : Nat → Nat → Int32) (aI : Nat → Int32) (eI : Nat → Int32) (x1 : Int32) : Option (Int32) := if x1 = 0 then some (rI 4) else if x1 = 1 then some (tI 0) else if x1 = 2 then some (tI 1) else if x1 = 3 then some (wI 0) else if x1 = 4 then (fX4_allCoins N wA).bind fun z6 => some z6 else if x1 = 5 then (fX4_valueOfPurses N wI wA tI tA).bind fun z8 => some z8 else if x1 = 6 then (fX4_rumoursSaid N wA).bind fun z10 => some z10 else if x1 = 7 then some (aI 1) else if x1 = 8 then some (eI 0) else some (-2)
def rmX6_count : Room := { frames := 6, cells := 0, slots := 0, locals := 155 }
theorem mb_X6_count : Cond.instanceMethod yX6_count ∈ wsL_law ∧ Cond.selects RX6 yX6_count yX6_count ∈ wsL_law ∧ Cond.initialized RX6 ∈ wsL_law ∧ Cond.code yX6_count cX6_count 2 (some .int) ∈ wsL_law := ⟨(bg 37 5 rfl), (bg 37 6 rfl), (bg 0 2 rfl), (bg 37 7 rfl)⟩
theorem hd_X6_count : yX6_count.cls = RX6 ∧ yX6_count.cls ≠ "java/lang/invoke/MethodHandle" ∧ yX6_count.cls ≠ "java/lang/invoke/VarHandle" ∧ (parseMethodDescriptor yX6_count.desc).map (fun d => d.parameters.length) = some 1 := by decide +kernel
set_option maxRecDepth 100000 in
set_option maxHeartbeats 4000000 in
theorem ct_X6_count (N : Nat) (l : Launch) (G : va_G) (cI cZ cO : ClassId) (q : Nat → Nat) (A : Nat → Nat → Int32) (L : Int64) (rI : Nat → Int32) (rA : Nat → Nat → Int32) (tI : Nat → Int32) (tA : Nat → Nat → Int32) (dI : Nat → Int32) (dA : Nat → Nat → Int32) (wI : Nat → Int32) (wA : Nat → Nat → Int32) (uI : Nat → Int32) (uA : Nat → Nat → Int32) (aI : Nat → Int32) (aS : Nat → Nat → Int32) (aT : Nat → Nat → Nat → Int32) (eI : Nat → Int32) (eA : Nat → Nat → Int32) (sS : Nat → Nat → Int32) (sT : Nat → Nat → Nat → Int32) (bI : Nat → Int32) (x1 : Int32) (r : Int32) (hf : fX6_count N rI tI tA wI wA aI eI x1 = some r) : RtI l yX6_count cX6_count 2 .int rmX6_count G cI cZ cO [.ref (q 0), .int x1] (wX6 q cI cZ cO A L rI rA tI tA dI dA wI wA uI uA aI aS aT eI eA sS sT bI) r := by
  refine mkRI (by decide) (Nat.le_of_ble_eq_true rfl) ?_
  intro p e s m below meth cd Q hC hP hE fin ls hl
  obtain ⟨hx, hb, hml, hown, hts⟩ := hC
  have hown : s.vm.findClass RX6 = some m.cls := hown
  have hl : lv_has ls 2 [(0, .ref (q 0)), (1, .int x1)] := hl
  unfold fX6_count at hf
  refine lv_iload_n hx hb dX6_count_0 rfl (lv_at hl 1 rfl) ?_
  by_cases c1 : x1 = 0
  · rw [if_pos c1] at hf
    refine x_tsw (tgt := 52) hx hb c1 dX6_count_1 (by decide) (by decide) rfl (by decide) ?_
    refine lv_aload_n hx hb dX6_count_52 rfl (lv_at hl 0 rfl) ?_
    refine va_get (D := G) (ci := 6) (v := .ref (q 1)) (C := RX6) (T := TX6) (N := 15) hx hb hts inlX6 hown hE.1 hP 0 rfl rfl 0 (by decide) (hts _ (bg 0 16 rfl)) (fun _ h9 => h9) rfl dX6_count_53 ?_
    refine va_get (D := G) (ci := 3) (v := .int ((rI 4))) (C := RX3) (T := TX3) (N := 6) hx hb hts inlX3 hown hE.1 hP 1 rfl rfl 5 (by decide) (hts _ (bg 5 16 rfl)) (fun _ h9 => h9) rfl dX6_count_56 ?_
    have e9 := Option.some.inj hf
    exact fin 59 ls _ e9 (nar_i _) dX6_count_59
  · rw [if_neg c1] at hf
    by_cases c2 : x1 = 1
    · rw [if_pos c2] at hf
      refine x_tsw (tgt := 60) hx hb c2 dX6_count_1 (by decide) (by decide) rfl (by decide) ?_
      refine lv_aload_n hx hb dX6_count_60 rfl (lv_at hl 0 rfl) ?_
      refine va_get (D := G) (ci := 6) (v := .ref (q 3)) (C := RX6) (T := TX6) (N := 15) hx hb hts inlX6 hown hE.1 hP 0 rfl rfl 1 (by decide) (hts _ (bg 0 20 rfl)) (fun _ h9 => h9) rfl dX6_count_61 ?_
      refine va_get (D := G) (ci := 5) (v := .int ((tI 0))) (C := RX5) (T := TX5) (N := 8) hx hb hts inlX5 hown hE.1 hP 3 rfl rfl 6 (by decide) (hts _ (bg 11 8 rfl)) (fun _ h9 => h9) rfl dX6_count_64 ?_
      have e9 := Option.some.inj hf
      exact fin 67 ls _ e9 (nar_i _) dX6_count_67
    · rw [if_neg c2] at hf
      by_cases c3 : x1 = 2
      · rw [if_pos c3] at hf
        refine x_tsw (tgt := 68) hx hb c3 dX6_count_1 (by decide) (by decide) rfl (by decide) ?_
        refine lv_aload_n hx hb dX6_count_68 rfl (lv_at hl 0 rfl) ?_
        refine va_get (D := G) (ci := 6) (v := .ref (q 3)) (C := RX6) (T := TX6) (N := 15) hx hb hts inlX6 hown hE.1 hP 0 rfl rfl 1 (by decide) (hts _ (bg 0 20 rfl)) (fun _ h9 => h9) rfl dX6_count_69 ?_
        refine va_get (D := G) (ci := 5) (v := .int ((tI 1))) (C := RX5) (T := TX5) (N := 8) hx hb hts inlX5 hown hE.1 hP 3 rfl rfl 7 (by decide) (hts _ (bg 11 9 rfl)) (fun _ h9 => h9) rfl dX6_count_72 ?_
        have e9 := Option.some.inj hf
        exact fin 75 ls _ e9 (nar_i _) dX6_count_75
      · rw [if_neg c3] at hf
        by_cases c4 : x1 = 3
        · rw [if_pos c4] at hf
          refine x_tsw (tgt := 76) hx hb c4 dX6_count_1 (by decide) (by decide) rfl (by decide) ?_
          refine lv_aload_n hx hb dX6_count_76 rfl (lv_at hl 0 rfl) ?_
          refine va_get (D := G) (ci := 6) (v := .ref (q 17)) (C := RX6) (T := TX6) (N := 15) hx hb hts inlX6 hown hE.1 hP 0 rfl rfl 3 (by decide) (hts _ (bg 1 1 rfl)) (fun _ h9 => h9) rfl dX6_count_77 ?_
          refine va_get (D := G) (ci := 4) (v := .int ((wI 0))) (C := RX4) (T := TX4) (N := 4) hx hb hts inlX4 hown hE.1 hP 17 rfl rfl 3 (by decide) (hts _ (bg 12 6 rfl)) (fun _ h9 => h9) rfl dX6_count_80 ?_
          have e9 := Option.some.inj hf
          exact fin 83 ls _ e9 (nar_i _) dX6_count_83
        · rw [if_neg c4] at hf
          by_cases c5 : x1 = 4
          · rw [if_pos c5] at hf
            refine x_tsw (tgt := 84) hx hb c5 dX6_count_1 (by decide) (by decide) rfl (by decide) ?_
            refine lv_aload_n hx hb dX6_count_84 rfl (lv_at hl 0 rfl) ?_
            refine va_get (D := G) (ci := 6) (v := .ref (q 17)) (C := RX6) (T := TX6) (N := 15) hx hb hts inlX6 hown hE.1 hP 0 rfl rfl 3 (by decide) (hts _ (bg 1 1 rfl)) (fun _ h9 => h9) rfl dX6_count_85 ?_
            obtain ⟨z6, hz6, hf⟩ := bnd hf
            refine x_rdV (C := RX4) (n := 0) (ci := 4) hx hb hml hown hts hE (ct_X4_allCoins N l G cI cZ cO (sh q 17) wI wA z6 hz6) (bg 37 8 rfl) mb_X4_allCoins.1 mb_X4_allCoins.2.1 mb_X4_allCoins.2.2.1 mb_X4_allCoins.2.2.2 hd_X4_allCoins rfl (by decide) (x_cut hP [17, 18, 19, 20] rfl) rfl rfl rfl rfl hl.1 (Nat.le_of_ble_eq_true rfl) ⟨Nat.zero_le _, Nat.zero_le _⟩ dX6_count_88 ?_
            have e9 := Option.some.inj hf
            exact fin 91 ls _ e9 (nar_i _) dX6_count_91
          · rw [if_neg c5] at hf
            by_cases c7 : x1 = 5
            · rw [if_pos c7] at hf
              refine x_tsw (tgt := 92) hx hb c7 dX6_count_1 (by decide) (by decide) rfl (by decide) ?_
              refine lv_aload_n hx hb dX6_count_92 rfl (lv_at hl 0 rfl) ?_
              refine va_get (D := G) (ci := 6) (v := .ref (q 17)) (C := RX6) (T := TX6) (N := 15) hx hb hts inlX6 hown hE.1 hP 0 rfl rfl 3 (by decide) (hts _ (bg 1 1 rfl)) (fun _ h9 => h9) rfl dX6_count_93 ?_
              refine lv_aload_n hx hb dX6_count_96 rfl (lv_at hl 0 rfl) ?_
              refine va_get (D := G) (ci := 6) (v := .ref (q 3)) (C := RX6) (T := TX6) (N := 15) hx hb hts inlX6 hown hE.1 hP 0 rfl rfl 1 (by decide) (hts _ (bg 0 20 rfl)) (fun _ h9 => h9) rfl dX6_count_97 ?_
              obtain ⟨z8, hz8, hf⟩ := bnd hf
              refine x_rdV (C := RX4) (n := 1) (ci := 4) hx hb hml hown hts hE (ct_X4_valueOfPurses N l G cI cZ cO (sh q 17) wI wA (sh q 3) tI tA z8 hz8) (bg 35 15 rfl) mb_X4_valueOfPurses.1 mb_X4_valueOfPurses.2.1 mb_X4_valueOfPurses.2.2.1 mb_X4_valueOfPurses.2.2.2 hd_X4_valueOfPurses rfl (by decide) (x_cut hP [17, 18, 19, 20, 3, 4, 5, 6, 7, 8, 9] rfl) rfl rfl rfl rfl hl.1 (Nat.le_of_ble_eq_true rfl) ⟨Nat.zero_le _, Nat.zero_le _⟩ dX6_count_100 ?_
              have e9 := Option.some.inj hf
              exact fin 103 ls _ e9 (nar_i _) dX6_count_103
            · rw [if_neg c7] at hf
              by_cases c9 : x1 = 6
              · rw [if_pos c9] at hf
                refine x_tsw (tgt := 104) hx hb c9 dX6_count_1 (by decide) (by decide) rfl (by decide) ?_
                refine lv_aload_n hx hb dX6_count_104 rfl (lv_at hl 0 rfl) ?_
                refine va_get (D := G) (ci := 6) (v := .ref (q 17)) (C := RX6) (T := TX6) (N := 15) hx hb hts inlX6 hown hE.1 hP 0 rfl rfl 3 (by decide) (hts _ (bg 1 1 rfl)) (fun _ h9 => h9) rfl dX6_count_105 ?_
                obtain ⟨z10, hz10, hf⟩ := bnd hf
                refine x_rdV (C := RX4) (n := 0) (ci := 4) hx hb hml hown hts hE (ct_X4_rumoursSaid N l G cI cZ cO (sh q 17) wI wA z10 hz10) (bg 37 12 rfl) mb_X4_rumoursSaid.1 mb_X4_rumoursSaid.2.1 mb_X4_rumoursSaid.2.2.1 mb_X4_rumoursSaid.2.2.2 hd_X4_rumoursSaid rfl (by decide) (x_cut hP [17, 18, 19, 20] rfl) rfl rfl rfl rfl hl.1 (Nat.le_of_ble_eq_true rfl) ⟨Nat.zero_le _, Nat.zero_le _⟩ dX6_count_108 ?_
                have e9 := Option.some.inj hf
                exact fin 111 ls _ e9 (nar_i _) dX6_count_111
              · rw [if_neg c9] at hf
                by_cases c11 : x1 = 7
                · rw [if_pos c11] at hf
                  refine x_tsw (tgt := 112) hx hb c11 dX6_count_1 (by decide) (by decide) rfl (by decide) ?_
                  refine lv_aload_n hx hb dX6_count_112 rfl (lv_at hl 0 rfl) ?_
                  refine va_get (D := G) (ci := 6) (v := .ref (q 25)) (C := RX6) (T := TX6) (N := 15) hx hb hts inlX6 hown hE.1 hP 0 rfl rfl 5 (by decide) (hts _ (bg 1 6 rfl)) (fun _ h9 => h9) rfl dX6_count_113 ?_
                  refine va_get (D := G) (ci := 0) (v := .int ((aI 1))) (C := RX0) (T := TX0) (N := 3) hx hb hts inlX0 hown hE.1 hP 25 rfl rfl 2 (by decide) (hts _ (bg 11 7 rfl)) (fun _ h9 => h9) rfl dX6_count_116 ?_
                  have e9 := Option.some.inj hf
                  exact fin 119 ls _ e9 (nar_i _) dX6_count_119
                · rw [if_neg c11] at hf
                  by_cases c12 : x1 = 8
                  · rw [if_pos c12] at hf
                    refine x_tsw (tgt := 120) hx hb c12 dX6_count_1 (by decide) (by decide) rfl (by decide) ?_
                    refine lv_aload_n hx hb dX6_count_120 rfl (lv_at hl 0 rfl) ?_
                    refine va_get (D := G) (ci := 6) (v := .ref (q 83)) (C := RX6) (T := TX6) (N := 15) hx hb hts inlX6 hown hE.1 hP 0 rfl rfl 6 (by decide) (hts _ (bg 1 10 rfl)) (fun _ h9 => h9) rfl dX6_count_121 ?_
                    refine va_get (D := G) (ci := 2) (v := .int ((eI 0))) (C := RX2) (T := TX2) (N := 5) hx hb hts inlX2 hown hE.1 hP 83 rfl rfl 4 (by decide) (hts _ (bg 30 11 rfl)) (fun _ h9 => h9) rfl dX6_count_124 ?_
                    have e9 := Option.some.inj hf
                    exact fin 127 ls _ e9 (nar_i _) dX6_count_127
                  · rw [if_neg c12] at hf
                    refine lv_tableOut (tgt := 128) hx hb dX6_count_1 (by have tc1 := lv_neT (a := 0) c1 (by decide); have tc2 := lv_neT (a := 1) c2 (by decide); have tc3 := lv_neT (a := 2) c3 (by decide); have tc4 := lv_neT (a := 3) c4 (by decide); have tc5 := lv_neT (a := 4) c5 (by decide); have tc7 := lv_neT (a := 5) c7 (by decide); have tc9 := lv_neT (a := 6) c9 (by decide); have tc11 := lv_neT (a := 7) c11 (by decide); have tc12 := lv_neT (a := 8) c12 (by decide); omega) (by decide) ?_
                    refine lv_bipush (v := (-2)) hx hb dX6_count_128 (by decide) ?_
                    have e9 := Option.some.inj hf
                    exact fin 130 ls _ e9 (nar_i _) dX6_count_130
