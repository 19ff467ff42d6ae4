def fX6_dawn (N : Nat) (tI : Nat → Int32) (tA : Nat → Nat → Int32) (wI : Nat → Int32) (wA : Nat → Nat → Int32) (aI : Nat → Int32) (aS : Nat → Nat → Int32) (aT : Nat → Nat → Nat → Int32) : Option (Int32 × (Nat → Int32) × (Nat → Nat → Int32) × (Nat → Int32) × (Nat → Nat → Int32) × (Nat → Nat → Nat → Int32)) := (fX0_remember N aI aS aT wI wA).bind fun z1 => (fX4_passDawn N wI wA tI tA).bind fun z2 => some (z2.1, z2.2.1, z2.2.2, z1.1, z1.2.1, z1.2.2)
def rmX6_dawn : Room := { frames := 4, cells := 0, slots := 0, locals := 103 }
theorem mb_X6_dawn : Cond.instanceMethod yX6_dawn ∈ wsL_law ∧ Cond.selects RX6 yX6_dawn yX6_dawn ∈ wsL_law ∧ Cond.initialized RX6 ∈ wsL_law ∧ Cond.code yX6_dawn cX6_dawn 1 (some .int) ∈ wsL_law := ⟨(bg 15 0 rfl), (bg 15 1 rfl), (bg 0 2 rfl), (bg 15 2 rfl)⟩
theorem hd_X6_dawn : yX6_dawn.cls = RX6 ∧ yX6_dawn.cls ≠ "java/lang/invoke/MethodHandle" ∧ yX6_dawn.cls ≠ "java/lang/invoke/VarHandle" ∧ (parseMethodDescriptor yX6_dawn.desc).map (fun d => d.parameters.length) = some 0 := by decide +kernel
set_option maxRecDepth 100000 in
set_option maxHeartbeats 4000000 in
theorem ct_X6_dawn (N : Nat) (l : Launch) (G : va_G) (cI cZ cO : ClassId) (q : Nat → Nat) (A : Nat → Nat → Int32) (L : Int64) (rI : Nat → Int32) (rA : Nat → Nat → Int32) (tI : Nat → Int32) (tA : Nat → Nat → Int32) (dI : Nat → Int32) (dA : Nat → Nat → Int32) (wI : Nat → Int32) (wA : Nat → Nat → Int32) (uI : Nat → Int32) (uA : Nat → Nat → Int32) (aI : Nat → Int32) (aS : Nat → Nat → Int32) (aT : Nat → Nat → Nat → Int32) (eI : Nat → Int32) (eA : Nat → Nat → Int32) (sS : Nat → Nat → Int32) (sT : Nat → Nat → Nat → Int32) (bI : Nat → Int32) (r : Int32) (wIz : Nat → Int32) (wAz : Nat → Nat → Int32) (aIz : Nat → Int32) (aSz : Nat → Nat → Int32) (aTz : Nat → Nat → Nat → Int32) (hf : fX6_dawn N tI tA wI wA aI aS aT = some (r, wIz, wAz, aIz, aSz, aTz)) : CtI l yX6_dawn cX6_dawn 1 .int rmX6_dawn G cI cZ cO [.ref (q 0)] (wX6 q cI cZ cO A L rI rA tI tA dI dA wI wA uI uA aI aS aT eI eA sS sT bI) (wX6 q cI cZ cO A L rI rA tI tA dI dA wIz wAz uI uA aIz aSz aTz eI eA sS sT bI) r := by
  refine mkCI (by decide) (Nat.le_of_ble_eq_true rfl) ?_
  intro p e s m below meth cd Q Z hC hP hE hD hA fin ls hl
  obtain ⟨hx, hb, hml, hown, hts⟩ := hC
  have hown : s.vm.findClass RX6 = some m.cls := hown
  have hl : lv_has ls 1 [(0, .ref (q 0))] := hl
  unfold fX6_dawn at hf
  have hS : va_S Z s.heap s.heap [] := va_S.rf
  obtain ⟨H, hH⟩ : ∃ H, H = s.heap := ⟨_, rfl⟩
  obtain ⟨locs, hlocs⟩ : ∃ locs : List Loc, locs = [] := ⟨_, rfl⟩
  rw [← hlocs]
  rw [← hlocs] at hS
  suffices hW : ∀ H : Heap, va_P G vwCl (wX6 q cI cZ cO A L rI rA tI tA dI dA wI wA uI uA aI aS aT eI eA sS sT bI) H → va_S Z s.heap H locs → W p l e rmX6_dawn s m [.ref (q 0)].toArray below meth cd H locs 0 0 Q (F0 m 0 ls []) from hW s.heap hP hS
  clear hP hS hH H
  intro H hP hS
  refine lv_aload_n hx hb dX6_dawn_0 rfl (lv_at hl 0 rfl) ?_
  refine va_get (D := G) (ci := 6) (v := .ref (q 25)) (C := RX6) (T := TX6) (N := 15) hx hb hts inlX6 hown hE.1 hP 0 rfl rfl 5 (by decide) (hts _ (bg 1 6 rfl)) (fun _ h9 => h9) rfl dX6_dawn_1 ?_
  refine lv_aload_n hx hb dX6_dawn_4 rfl (lv_at hl 0 rfl) ?_
  refine va_get (D := G) (ci := 6) (v := .ref (q 17)) (C := RX6) (T := TX6) (N := 15) hx hb hts inlX6 hown hE.1 hP 0 rfl rfl 3 (by decide) (hts _ (bg 1 1 rfl)) (fun _ h9 => h9) rfl dX6_dawn_5 ?_
  obtain ⟨z1, hz1, hf⟩ := bnd hf
  refine x_wrVv (C := RX0) (n := 1) (ci := 0) (ws1 := (wX6 q cI cZ cO A L rI rA tI tA dI dA wI wA uI uA z1.1 z1.2.1 z1.2.2 eI eA sS sT bI)) hx hb hml hown hts hE (ct_X0_remember N l G cI cZ cO (sh q 25) aI aS aT (sh q 17) wI wA z1.1 z1.2.1 z1.2.2 hz1) (bg 15 3 rfl) mb_X0_remember.1 mb_X0_remember.2.1 mb_X0_remember.2.2.1 mb_X0_remember.2.2.2 hd_X0_remember rfl (by decide) hP hD hS hA [25, 26, 27, 28, 29, 30, 31, 32, 33, 34, 35, 36, 37, 38, 39, 40, 41, 42, 43, 44, 45, 46, 47, 48, 49, 50, 51, 52, 53, 54, 55, 56, 57, 58, 59, 60, 61, 62, 63, 64, 65, 66, 67, 68, 69, 70, 71, 72, 73, 74, 75, 76, 77, 78, 79, 80, 81, 82, 17, 18, 19, 20] [false, false, false, false, false, false, false, false, false, false, false, false, false, false, false, false, false, true, true, true, true, false, false, false, false, true, true, true, true, true, true, true, true, true, true, true, true, true, true, true, true, true, true, true, true, true, true, true, true, true, true, true, true, true, true, true, true, true, true, true, true, true, true, true, true, true, true, true, true, true, true, true, true, true, true, true, true, true, true, true, true, true, true, false, false, false, false, false, false, false, false, false, false, false, false, false, false, false, false, false, false, false, false] (by decide) (by decide +kernel) rfl rfl ⟨rfl, rfl, rfl, rfl, rfl, rfl, rfl, rfl, rfl, rfl, rfl, rfl, rfl, rfl, rfl, rfl, rfl, rfl, rfl, rfl, rfl, rfl, rfl, rfl, rfl, rfl, rfl, rfl, rfl, rfl, rfl, rfl, rfl, rfl, rfl, rfl, rfl, rfl, rfl, rfl, rfl, rfl, rfl, rfl, rfl, rfl, rfl, rfl, rfl, rfl, rfl, rfl, rfl, rfl, rfl, rfl, rfl, rfl, rfl, rfl, rfl, rfl, rfl, rfl, rfl, rfl, rfl, rfl, rfl, rfl, rfl, rfl, rfl, rfl, rfl, rfl, rfl, rfl, rfl, rfl, rfl, rfl, rfl, rfl, rfl, rfl, rfl, rfl, rfl, rfl, rfl, rfl, rfl, rfl, rfl, rfl, rfl, rfl, rfl, rfl, rfl, rfl, rfl, trivial⟩ rfl rfl rfl rfl hl.1 (Nat.le_of_ble_eq_true rfl) ⟨Nat.zero_le _, Nat.zero_le _⟩ dX6_dawn_8 (fun H locs hP hD hS => ?_)
  refine lv_aload_n hx hb dX6_dawn_11 rfl (lv_at hl 0 rfl) ?_
  refine va_get (D := G) (ci := 6) (v := .ref (q 17)) (C := RX6) (T := TX6) (N := 15) hx hb hts inlX6 hown hE.1 hP 0 rfl rfl 3 (by decide) (hts _ (bg 1 1 rfl)) (fun _ h9 => h9) rfl dX6_dawn_12 ?_
  refine lv_aload_n hx hb dX6_dawn_15 rfl (lv_at hl 0 rfl) ?_
  refine va_get (D := G) (ci := 6) (v := .ref (q 3)) (C := RX6) (T := TX6) (N := 15) hx hb hts inlX6 hown hE.1 hP 0 rfl rfl 1 (by decide) (hts _ (bg 0 20 rfl)) (fun _ h9 => h9) rfl dX6_dawn_16 ?_
  obtain ⟨z2, hz2, hf⟩ := bnd hf
  refine x_wrV (C := RX4) (n := 1) (ci := 4) (ws1 := (wX6 q cI cZ cO A L rI rA tI tA dI dA z2.2.1 z2.2.2 uI uA z1.1 z1.2.1 z1.2.2 eI eA sS sT bI)) hx hb hml hown hts hE (ct_X4_passDawn N l G cI cZ cO (sh q 17) wI wA (sh q 3) tI tA z2.1 z2.2.1 z2.2.2 hz2) (bg 15 21 rfl) mb_X4_passDawn.1 mb_X4_passDawn.2.1 mb_X4_passDawn.2.2.1 mb_X4_passDawn.2.2.2 hd_X4_passDawn rfl (by decide) hP hD hS hA [17, 18, 19, 20, 3, 4, 5, 6, 7, 8, 9] [false, false, false, true, true, true, true, true, true, true, false, false, false, false, false, false, false, true, true, true, true, false, false, false, false, false, false, false, false, false, false, false, false, false, false, false, false, false, false, false, false, false, false, false, false, false, false, false, false, false, false, false, false, false, false, false, false, false, false, false, false, false, false, false, false, false, false, false, false, false, false, false, false, false, false, false, false, false, false, false, false, false, false, false, false, false, false, false, false, false, false, false, false, false, false, false, false, false, false, false, false, false, false] (by decide) (by decide +kernel) rfl rfl ⟨rfl, rfl, rfl, rfl, rfl, rfl, rfl, rfl, rfl, rfl, rfl, rfl, rfl, rfl, rfl, rfl, rfl, rfl, rfl, rfl, rfl, rfl, rfl, rfl, rfl, rfl, rfl, rfl, rfl, rfl, rfl, rfl, rfl, rfl, rfl, rfl, rfl, rfl, rfl, rfl, rfl, rfl, rfl, rfl, rfl, rfl, rfl, rfl, rfl, rfl, rfl, rfl, rfl, rfl, rfl, rfl, rfl, rfl, rfl, rfl, rfl, rfl, rfl, rfl, rfl, rfl, rfl, rfl, rfl, rfl, rfl, rfl, rfl, rfl, rfl, rfl, rfl, rfl, rfl, rfl, rfl, rfl, rfl, rfl, rfl, rfl, rfl, rfl, rfl, rfl, rfl, rfl, rfl, rfl, rfl, rfl, rfl, rfl, rfl, rfl, rfl, rfl, rfl, trivial⟩ rfl rfl rfl rfl hl.1 (Nat.le_of_ble_eq_true rfl) ⟨Nat.zero_le _, Nat.zero_le _⟩ dX6_dawn_19 (fun H locs hP hD hS => ?_)
  have e9 := Option.some.inj hf
  exact fin H locs 22 ls _ (Prod.mk.inj e9).1 (nar_i _) (by rw [← (Prod.mk.inj (Prod.mk.inj e9).2).1, ← (Prod.mk.inj (Prod.mk.inj (Prod.mk.inj e9).2).2).1, ← (Prod.mk.inj (Prod.mk.inj (Prod.mk.inj (Prod.mk.inj e9).2).2).2).1, ← (Prod.mk.inj (Prod.mk.inj (Prod.mk.inj (Prod.mk.inj (Prod.mk.inj e9).2).2).2).2).1, ← (Prod.mk.inj (Prod.mk.inj (Prod.mk.inj (Prod.mk.inj (Prod.mk.inj e9).2).2).2).2).2]; exact hP) hS dX6_dawn_22
def fX4_canBeSaid_50 (N : Nat) (I : Nat → Int32) (A : Nat → Nat → Int32) (I1 : Nat → Int32) (A1 : Nat → Nat → Int32) (y0 : Int32) : Option (Int32) := (bz y0).bind fun v1 => some v1
def fX4_canBeSaid_49 (N : Nat) (I : Nat → Int32) (A : Nat → Nat → Int32) (I1 : Nat → Int32) (A1 : Nat → Nat → Int32) : Option (Int32) := fX4_canBeSaid_50 N I A I1 A1 0
def fX4_canBeSaid (N : Nat) (I : Nat → Int32) (A : Nat → Nat → Int32) (I1 : Nat → Int32) (A1 : Nat → Nat → Int32) (x2 : Int32) (x3 : Int32) : Option (Int32) := (fX5_hasRumour N I1 x2).bind fun z1 => if z1 = 0 then fX4_canBeSaid_49 N I A I1 A1 else (fX6_isTable N x3).bind fun z3 => if z3 = 0 then fX4_canBeSaid_49 N I A I1 A1 else (fX5_isProved N A1 x2 (I 0)).bind fun z5 => if z5 = 0 then (fX4_saidOf N A x2).bind fun z7 => (fX4_deniedOf N A x2).bind fun z8 => (fX6_hasBit N (z7 ||| z8) x3).bind fun z9 => if z9 = 0 then fX4_canBeSaid_50 N I A I1 A1 1 else fX4_canBeSaid_49 N I A I1 A1 else fX4_canBeSaid_49 N I A I1 A1
def rmX4_canBeSaid : Room := { frames := 2, cells := 0, slots := 0, locals := 44 }
theorem mb_X4_canBeSaid : Cond.instanceMethod yX4_canBeSaid ∈ wsL_law ∧ Cond.selects RX4 yX4_canBeSaid yX4_canBeSaid ∈ wsL_law ∧ Cond.initialized RX4 ∈ wsL_law ∧ Cond.code yX4_canBeSaid cX4_canBeSaid 4 (some .boolean) ∈ wsL_law := ⟨(bg 17 17 rfl), (bg 17 18 rfl), (bg 1 0 rfl), (bg 17 19 rfl)⟩
theorem hd_X4_canBeSaid : yX4_canBeSaid.cls = RX4 ∧ yX4_canBeSaid.cls ≠ "java/lang/invoke/MethodHandle" ∧ yX4_canBeSaid.cls ≠ "java/lang/invoke/VarHandle" ∧ (parseMethodDescriptor yX4_canBeSaid.desc).map (fun d => d.parameters.length) = some 3 := by decide +kernel
set_option maxRecDepth 100000 in
set_option maxHeartbeats 4000000 in
theorem ct_X4_canBeSaid (N : Nat) (l : Launch) (G : va_G) (cI cZ cO : ClassId) (q : Nat → Nat) (I : Nat → Int32) (A : Nat → Nat → Int32) (q1 : Nat → Nat) (I1 : Nat → Int32) (A1 : Nat → Nat → Int32) (x2 : Int32) (x3 : Int32) (r : Int32) (hf : fX4_canBeSaid N I A I1 A1 x2 x3 = some r) : RtI l yX4_canBeSaid cX4_canBeSaid 4 .boolean rmX4_canBeSaid G cI cZ cO [.ref (q 0), .ref (q1 0), .int x2, .int x3] (wX4 q cI cZ cO I A ++ wX5 q1 cI cZ cO I1 A1) r := by
  refine mkRI (by decide) (Nat.le_of_ble_eq_true rfl) ?_
  intro p e s m below meth cd Q hC hP hE fin ls hl
  obtain ⟨hx, hb, hml, hown, hts⟩ := hC
  have hown : s.vm.findClass RX4 = some m.cls := hown
  have hl : lv_has ls 4 [(0, .ref (q 0)), (1, .ref (q1 0)), (2, .int x2), (3, .int x3)] := hl
  have b_50 : ∀ (y0 : Int32), ∀ ls : Array Slot, lv_has ls 4 [] → fX4_canBeSaid_50 N I A I1 A1 y0 = some r → W p l e rmX4_canBeSaid s m [.ref (q 0), .ref (q1 0), .int x2, .int x3].toArray below meth cd s.heap [] 0 0 Q (F0 m 50 ls [.int y0]) := by
    intro y0 ls hl hf
    unfold fX4_canBeSaid_50 at hf
    obtain ⟨v1, hv1, hf⟩ := bnd hf
    obtain ⟨ev1, hv1⟩ := bz_in hv1
    rw [ev1]
    have e9 := Option.some.inj hf
    exact fin 50 ls _ e9 (nar_z (by rw [← e9]; exact hv1)) dX4_canBeSaid_50
  have b_49 : ∀ ls : Array Slot, lv_has ls 4 [] → fX4_canBeSaid_49 N I A I1 A1 = some r → W p l e rmX4_canBeSaid s m [.ref (q 0), .ref (q1 0), .int x2, .int x3].toArray below meth cd s.heap [] 0 0 Q (F0 m 49 ls []) := by
    intro ls hl hf
    unfold fX4_canBeSaid_49 at hf
    refine lv_iconst (v := 0) hx hb dX4_canBeSaid_49 (by decide) ?_
    exact b_50 0 ls (lv_sub hl [] rfl) hf
  unfold fX4_canBeSaid at hf
  refine lv_aload_n hx hb dX4_canBeSaid_0 rfl (lv_at hl 1 rfl) ?_
  refine lv_iload_n hx hb dX4_canBeSaid_1 rfl (lv_at hl 2 rfl) ?_
  obtain ⟨z1, hz1, hf⟩ := bnd hf
  refine x_rdV (C := RX5) (n := 1) (ci := 5) hx hb hml hown hts hE (ct_X5_hasRumour N l G cI cZ cO q1 I1 A1 x2 z1 hz1) (bg 11 16 rfl) mb_X5_hasRumour.1 mb_X5_hasRumour.2.1 mb_X5_hasRumour.2.2.1 mb_X5_hasRumour.2.2.2 hd_X5_hasRumour rfl (by decide) (x_cut hP [4, 5, 6, 7, 8, 9, 10] rfl) rfl rfl rfl rfl hl.1 (Nat.le_of_ble_eq_true rfl) ⟨Nat.zero_le _, Nat.zero_le _⟩ dX4_canBeSaid_2 ?_
  refine lv_if_eq (tgt := 49) hx hb dX4_canBeSaid_5 (by decide) (fun c2 => ?_) (fun c2 => ?_)
  · rw [if_pos c2] at hf
    exact b_49 ls (lv_sub hl [] rfl) hf
  · rw [if_neg c2] at hf
    refine lv_iload_n hx hb dX4_canBeSaid_8 rfl (lv_at hl 3 rfl) ?_
    obtain ⟨z3, hz3, hf⟩ := bnd hf
    refine x_rdN (n := 1) hx hb hml hown hts hE (ct_X6_isTable N l G cI cZ cO x3 z3 hz3) (List.mem_of_getElem? (i := 16) rfl) mb_X6_isTable.1 mb_X6_isTable.2.1 mb_X6_isTable.2.2 hd_X6_isTable rfl (by decide) va_P_nil rfl hl.1 (Nat.le_of_ble_eq_true rfl) ⟨Nat.zero_le _, Nat.zero_le _⟩ dX4_canBeSaid_9 ?_
    refine lv_if_eq (tgt := 49) hx hb dX4_canBeSaid_12 (by decide) (fun c4 => ?_) (fun c4 => ?_)
    · rw [if_pos c4] at hf
      exact b_49 ls (lv_sub hl [] rfl) hf
    · rw [if_neg c4] at hf
      refine lv_aload_n hx hb dX4_canBeSaid_15 rfl (lv_at hl 1 rfl) ?_
      refine lv_iload_n hx hb dX4_canBeSaid_16 rfl (lv_at hl 2 rfl) ?_
      refine lv_aload_n hx hb dX4_canBeSaid_17 rfl (lv_at hl 0 rfl) ?_
      refine va_get (D := G) (ci := 4) (v := .int ((I 0))) (C := RX4) (T := TX4) (N := 4) hx hb hts inlX4 hown hE.1 hP 0 rfl rfl 3 (by decide) (hts _ (bg 11 14 rfl)) (fun _ h9 => h9) rfl dX4_canBeSaid_18 ?_
      obtain ⟨z5, hz5, hf⟩ := bnd hf
      refine x_rdV (C := RX5) (n := 2) (ci := 5) hx hb hml hown hts hE (ct_X5_isProved N l G cI cZ cO q1 I1 A1 x2 (I 0) z5 hz5) (bg 17 20 rfl) mb_X5_isProved.1 mb_X5_isProved.2.1 mb_X5_isProved.2.2.1 mb_X5_isProved.2.2.2 hd_X5_isProved rfl (by decide) (x_cut hP [4, 5, 6, 7, 8, 9, 10] rfl) rfl rfl rfl rfl hl.1 (Nat.le_of_ble_eq_true rfl) ⟨Nat.zero_le _, Nat.zero_le _⟩ dX4_canBeSaid_21 ?_
      refine lv_if_ne (tgt := 49) hx hb dX4_canBeSaid_24 (by decide) (fun c6 => ?_) (fun c6 => ?_)
      · rw [if_neg c6] at hf
        exact b_49 ls (lv_sub hl [] rfl) hf
      · rw [if_pos c6] at hf
        refine lv_aload_n hx hb dX4_canBeSaid_27 rfl (lv_at hl 0 rfl) ?_
        refine lv_iload_n hx hb dX4_canBeSaid_28 rfl (lv_at hl 2 rfl) ?_
        obtain ⟨z7, hz7, hf⟩ := bnd hf
        refine x_rdV (C := RX4) (n := 1) (ci := 4) hx hb hml hown hts hE (ct_X4_saidOf N l G cI cZ cO q I A x2 z7 hz7) (bg 16 6 rfl) mb_X4_saidOf.1 mb_X4_saidOf.2.1 mb_X4_saidOf.2.2.1 mb_X4_saidOf.2.2.2 hd_X4_saidOf rfl (by decide) (x_cut hP [0, 1, 2, 3] rfl) rfl rfl rfl rfl hl.1 (Nat.le_of_ble_eq_true rfl) ⟨Nat.zero_le _, Nat.zero_le _⟩ dX4_canBeSaid_29 ?_
        refine lv_aload_n hx hb dX4_canBeSaid_32 rfl (lv_at hl 0 rfl) ?_
        refine lv_iload_n hx hb dX4_canBeSaid_33 rfl (lv_at hl 2 rfl) ?_
        obtain ⟨z8, hz8, hf⟩ := bnd hf
        refine x_rdV (C := RX4) (n := 1) (ci := 4) hx hb hml hown hts hE (ct_X4_deniedOf N l G cI cZ cO q I A x2 z8 hz8) (bg 17 21 rfl) mb_X4_deniedOf.1 mb_X4_deniedOf.2.1 mb_X4_deniedOf.2.2.1 mb_X4_deniedOf.2.2.2 hd_X4_deniedOf rfl (by decide) (x_cut hP [0, 1, 2, 3] rfl) rfl rfl rfl rfl hl.1 (Nat.le_of_ble_eq_true rfl) ⟨Nat.zero_le _, Nat.zero_le _⟩ dX4_canBeSaid_34 ?_
        refine lv_ior hx hb dX4_canBeSaid_37 ?_
        refine lv_iload_n hx hb dX4_canBeSaid_38 rfl (lv_at hl 3 rfl) ?_
        obtain ⟨z9, hz9, hf⟩ := bnd hf
        refine x_rdN (n := 2) hx hb hml hown hts hE (ct_X6_hasBit N l G cI cZ cO (z7 ||| z8) x3 z9 hz9) (List.mem_of_getElem? (i := 14) rfl) mb_X6_hasBit.1 mb_X6_hasBit.2.1 mb_X6_hasBit.2.2 hd_X6_hasBit rfl (by decide) va_P_nil rfl hl.1 (Nat.le_of_ble_eq_true rfl) ⟨Nat.zero_le _, Nat.zero_le _⟩ dX4_canBeSaid_39 ?_
        refine lv_if_ne (tgt := 49) hx hb dX4_canBeSaid_42 (by decide) (fun c10 => ?_) (fun c10 => ?_)
        · rw [if_neg c10] at hf
          exact b_49 ls (lv_sub hl [] rfl) hf
        · rw [if_pos c10] at hf
          refine lv_iconst (v := 1) hx hb dX4_canBeSaid_45 (by decide) ?_
          refine lv_goto (tgt := 50) hx hb dX4_canBeSaid_46 (by decide) ?_
          exact b_50 1 ls (lv_sub hl [] rfl) hf
def fX4_putSaid_27 (N : Nat) (A : Nat → Nat → Int32) : Option ((Nat → Nat → Int32)) := some A
def fX4_putSaid (N : Nat) (A : Nat → Nat → Int32) (x1 : Int32) (x2 : Int32) : Option ((Nat → Nat → Int32)) := (fX6_isIndex N x1 5).bind fun z1 => if z1 = 0 then fX4_putSaid_27 N A else (fX6_isTable N x2).bind fun z3 => if z3 = 0 then fX4_putSaid_27 N A else (rd 5 (A 0) x1).bind fun v5 => (wr 5 (A 0) x1 (v5 ||| (shl 1 x2))).bind fun g6 => fX4_putSaid_27 N (va_up A 0 g6)
def rmX4_putSaid : Room := { frames := 1, cells := 0, slots := 0, locals := 21 }
theorem mb_X4_putSaid : Cond.instanceMethod yX4_putSaid ∈ wsL_law ∧ Cond.selects RX4 yX4_putSaid yX4_putSaid ∈ wsL_law ∧ Cond.initialized RX4 ∈ wsL_law ∧ Cond.code yX4_putSaid cX4_putSaid 3 none ∈ wsL_law := ⟨(bg 17 23 rfl), (bg 18 0 rfl), (bg 1 0 rfl), (bg 18 1 rfl)⟩
theorem hd_X4_putSaid : yX4_putSaid.cls = RX4 ∧ yX4_putSaid.cls ≠ "java/lang/invoke/MethodHandle" ∧ yX4_putSaid.cls ≠ "java/lang/invoke/VarHandle" ∧ (parseMethodDescriptor yX4_putSaid.desc).map (fun d => d.parameters.length) = some 2 := by decide +kernel
set_option maxRecDepth 100000 in
set_option maxHeartbeats 4000000 in
theorem ct_X4_putSaid (N : Nat) (l : Launch) (G : va_G) (cI cZ cO : ClassId) (q : Nat → Nat) (I : Nat → Int32) (A : Nat → Nat → Int32) (x1 : Int32) (x2 : Int32) (Az : Nat → Nat → Int32) (hf : fX4_putSaid N A x1 x2 = some Az) : CtV l yX4_putSaid cX4_putSaid 3 rmX4_putSaid G cI cZ cO [.ref (q 0), .int x1, .int x2] (wX4 q cI cZ cO I A) (wX4 q cI cZ cO I Az) := by
  refine mkCV (by decide) (Nat.le_of_ble_eq_true rfl) ?_
  intro p e s m below meth cd Q Z hC hP hE hD hA fin ls hl
  obtain ⟨hx, hb, hml, hown, hts⟩ := hC
  have hown : s.vm.findClass RX4 = some m.cls := hown
  have hl : lv_has ls 3 [(0, .ref (q 0)), (1, .int x1), (2, .int x2)] := hl
  have b_27 : ∀ (A : Nat → Nat → Int32), ∀ (H : Heap) (locs : List Loc), va_P G vwCl (wX4 q cI cZ cO I A) H → va_D Z (wX4 q cI cZ cO I A) → va_S Z s.heap H locs → ∀ ls : Array Slot, lv_has ls 3 [] → fX4_putSaid_27 N A = some Az → W p l e rmX4_putSaid s m [.ref (q 0), .int x1, .int x2].toArray below meth cd H locs 0 0 Q (F0 m 27 ls []) := by
    intro A H locs hP hD hS ls hl hf
    unfold fX4_putSaid_27 at hf
    have e9 := Option.some.inj hf
    exact fin H locs 27 ls (by rw [← e9]; exact hP) hS dX4_putSaid_27
  unfold fX4_putSaid at hf
  have hS : va_S Z s.heap s.heap [] := va_S.rf
  obtain ⟨H, hH⟩ : ∃ H, H = s.heap := ⟨_, rfl⟩
  obtain ⟨locs, hlocs⟩ : ∃ locs : List Loc, locs = [] := ⟨_, rfl⟩
  rw [← hlocs]
  rw [← hlocs] at hS
  suffices hW : ∀ H : Heap, va_P G vwCl (wX4 q cI cZ cO I A) H → va_S Z s.heap H locs → W p l e rmX4_putSaid s m [.ref (q 0), .int x1, .int x2].toArray below meth cd H locs 0 0 Q (F0 m 0 ls []) from hW s.heap hP hS
  clear hP hS hH H
  intro H hP hS
  refine lv_iload_n hx hb dX4_putSaid_0 rfl (lv_at hl 1 rfl) ?_
  refine lv_iconst (v := 5) hx hb dX4_putSaid_1 (by decide) ?_
  obtain ⟨z1, hz1, hf⟩ := bnd hf
  refine x_rdN (n := 2) hx hb hml hown hts hE (ct_X6_isIndex N l G cI cZ cO x1 5 z1 hz1) (List.mem_of_getElem? (i := 15) rfl) mb_X6_isIndex.1 mb_X6_isIndex.2.1 mb_X6_isIndex.2.2 hd_X6_isIndex rfl (by decide) va_P_nil rfl hl.1 (Nat.le_of_ble_eq_true rfl) ⟨Nat.zero_le _, Nat.zero_le _⟩ dX4_putSaid_2 ?_
  refine lv_if_eq (tgt := 27) hx hb dX4_putSaid_5 (by decide) (fun c2 => ?_) (fun c2 => ?_)
  · rw [if_pos c2] at hf
    exact b_27 A H locs hP hD hS ls (lv_sub hl [] rfl) hf
  · rw [if_neg c2] at hf
    refine lv_iload_n hx hb dX4_putSaid_8 rfl (lv_at hl 2 rfl) ?_
    obtain ⟨z3, hz3, hf⟩ := bnd hf
    refine x_rdN (n := 1) hx hb hml hown hts hE (ct_X6_isTable N l G cI cZ cO x2 z3 hz3) (List.mem_of_getElem? (i := 16) rfl) mb_X6_isTable.1 mb_X6_isTable.2.1 mb_X6_isTable.2.2 hd_X6_isTable rfl (by decide) va_P_nil rfl hl.1 (Nat.le_of_ble_eq_true rfl) ⟨Nat.zero_le _, Nat.zero_le _⟩ dX4_putSaid_9 ?_
    refine lv_if_eq (tgt := 27) hx hb dX4_putSaid_12 (by decide) (fun c4 => ?_) (fun c4 => ?_)
    · rw [if_pos c4] at hf
      exact b_27 A H locs hP hD hS ls (lv_sub hl [] rfl) hf
    · rw [if_neg c4] at hf
      refine lv_aload_n hx hb dX4_putSaid_15 rfl (lv_at hl 0 rfl) ?_
      refine va_get (D := G) (ci := 4) (v := .ref (q 1)) (C := RX4) (T := TX4) (N := 4) hx hb hts inlX4 hown hE.1 hP 0 rfl rfl 0 (by decide) (hts _ (bg 2 15 rfl)) (fun _ h9 => h9) rfl dX4_putSaid_16 ?_
      refine lv_iload_n hx hb dX4_putSaid_19 rfl (lv_at hl 1 rfl) ?_
      refine lv_dup2_11 hx hb dX4_putSaid_20 rfl rfl ?_
      obtain ⟨v5, hv5, hf⟩ := bnd hf
      refine x_iald hx hb hE.1 hP 1 0 rfl rfl hv5 dX4_putSaid_21 ?_
      refine lv_iconst (v := 1) hx hb dX4_putSaid_22 (by decide) ?_
      refine lv_iload_n hx hb dX4_putSaid_23 rfl (lv_at hl 2 rfl) ?_
      refine x_ishl hx hb dX4_putSaid_24 ?_
      refine lv_ior hx hb dX4_putSaid_25 ?_
      obtain ⟨g6, hg6, hf⟩ := bnd hf
      refine x_iast hx hb hE.1 hP hD hS 1 0 rfl rfl hg6 dX4_putSaid_26 (fun H locs hP hD hS => ?_)
      have hP : va_P G vwCl (wX4 q cI cZ cO I (va_up A 0 g6)) H := hP
      have hD : va_D Z (wX4 q cI cZ cO I (va_up A 0 g6)) := hD
      exact b_27 (va_up A 0 g6) H locs hP hD hS ls (lv_sub hl [] rfl) hf
def fX6_say (N : Nat) (tI : Nat → Int32) (tA : Nat → Nat → Int32) (wI : Nat → Int32) (wA : Nat → Nat → Int32) (aI : Nat → Int32) (aS : Nat → Nat → Int32) (aT : Nat → Nat → Nat → Int32) (x1 : Int32) (x2 : Int32) : Option (Int32 × (Nat → Nat → Int32) × (Nat → Int32) × (Nat → Nat → Int32) × (Nat → Nat → Nat → Int32)) := (fX5_hasRumour N tI x1).bind fun z1 => if z1 = 0 then some ((-1), wA, aI, aS, aT) else (fX6_isTable N x2).bind fun z3 => if z3 = 0 then some ((-2), wA, aI, aS, aT) else (fX4_canBeSaid N wI wA tI tA x1 x2).bind fun z5 => if z5 = 0 then some ((-3), wA, aI, aS, aT) else (fX0_remember N aI aS aT wI wA).bind fun z7 => (fX4_putSaid N wA x1 x2).bind fun z8 => (fX4_saidOf N z8 x1).bind fun z9 => (fJ6_bitCount_0f7a4 N z9).bind fun z10 => some (z10, z8, z7.1, z7.2.1, z7.2.2)
def rmX6_say : Room := { frames := 3, cells := 0, slots := 0, locals := 103 }
theorem mb_X6_say : Cond.instanceMethod yX6_say ∈ wsL_law ∧ Cond.selects RX6 yX6_say yX6_say ∈ wsL_law ∧ Cond.initialized RX6 ∈ wsL_law ∧ Cond.code yX6_say cX6_say 3 (some .int) ∈ wsL_law := ⟨(bg 17 12 rfl), (bg 17 13 rfl), (bg 0 2 rfl), (bg 17 14 rfl)⟩
theorem hd_X6_say : yX6_say.cls = RX6 ∧ yX6_say.cls ≠ "java/lang/invoke/MethodHandle" ∧ yX6_say.cls ≠ "java/lang/invoke/VarHandle" ∧ (parseMethodDescriptor yX6_say.desc).map (fun d => d.parameters.length) = some 2 := by decide +kernel
set_option maxRecDepth 100000 in
set_option maxHeartbeats 4000000 in
theorem ct_X6_say (N : Nat) (l : Launch) (G : va_G) (cI cZ cO : ClassId) (q : Nat → Nat) (A : Nat → Nat → Int32) (L : Int64) (rI : Nat → Int32) (rA : Nat → Nat → Int32) (tI : Nat → Int32) (tA : Nat → Nat → Int32) (dI : Nat → Int32) (dA : Nat → Nat → Int32) (wI : Nat → Int32) (wA : Nat → Nat → Int32) (uI : Nat → Int32) (uA : Nat → Nat → Int32) (aI : Nat → Int32) (aS : Nat → Nat → Int32) (aT : Nat → Nat → Nat → Int32) (eI : Nat → Int32) (eA : Nat → Nat → Int32) (sS : Nat → Nat → Int32) (sT : Nat → Nat → Nat → Int32) (bI : Nat → Int32) (x1 : Int32) (x2 : Int32) (r : Int32) (wAz : Nat → Nat → Int32) (aIz : Nat → Int32) (aSz : Nat → Nat → Int32) (aTz : Nat → Nat → Nat → Int32) (hf : fX6_say N tI tA wI wA aI aS aT x1 x2 = some (r, wAz, aIz, aSz, aTz)) : CtI l yX6_say cX6_say 3 .int rmX6_say G cI cZ cO [.ref (q 0), .int x1, .int x2] (wX6 q cI cZ cO A L rI rA tI tA dI dA wI wA uI uA aI aS aT eI eA sS sT bI) (wX6 q cI cZ cO A L rI rA tI tA dI dA wI wAz uI uA aIz aSz aTz eI eA sS sT bI) r := by
  refine mkCI (by decide) (Nat.le_of_ble_eq_true rfl) ?_
  intro p e s m below meth cd Q Z hC hP hE hD hA fin ls hl
  obtain ⟨hx, hb, hml, hown, hts⟩ := hC
  have hown : s.vm.findClass RX6 = some m.cls := hown
  have hl : lv_has ls 3 [(0, .ref (q 0)), (1, .int x1), (2, .int x2)] := hl
  unfold fX6_say at hf
  have hS : va_S Z s.heap s.heap [] := va_S.rf
  obtain ⟨H, hH⟩ : ∃ H, H = s.heap := ⟨_, rfl⟩
  obtain ⟨locs, hlocs⟩ : ∃ locs : List Loc, locs = [] := ⟨_, rfl⟩
  rw [← hlocs]
  rw [← hlocs] at hS
  suffices hW : ∀ H : Heap, va_P G vwCl (wX6 q cI cZ cO A L rI rA tI tA dI dA wI wA uI uA aI aS aT eI eA sS sT bI) H → va_S Z s.heap H locs → W p l e rmX6_say s m [.ref (q 0), .int x1, .int x2].toArray below meth cd H locs 0 0 Q (F0 m 0 ls []) from hW s.heap hP hS
  clear hP hS hH H
  intro H hP hS
  refine lv_aload_n hx hb dX6_say_0 rfl (lv_at hl 0 rfl) ?_
  refine va_get (D := G) (ci := 6) (v := .ref (q 3)) (C := RX6) (T := TX6) (N := 15) hx hb hts inlX6 hown hE.1 hP 0 rfl rfl 1 (by decide) (hts _ (bg 0 20 rfl)) (fun _ h9 => h9) rfl dX6_say_1 ?_
  refine lv_iload_n hx hb dX6_say_4 rfl (lv_at hl 1 rfl) ?_
  obtain ⟨z1, hz1, hf⟩ := bnd hf
  refine x_rdV (C := RX5) (n := 1) (ci := 5) hx hb hml hown hts hE (ct_X5_hasRumour N l G cI cZ cO (sh q 3) tI tA x1 z1 hz1) (bg 12 7 rfl) mb_X5_hasRumour.1 mb_X5_hasRumour.2.1 mb_X5_hasRumour.2.2.1 mb_X5_hasRumour.2.2.2 hd_X5_hasRumour rfl (by decide) (x_cut hP [3, 4, 5, 6, 7, 8, 9] rfl) rfl rfl rfl rfl hl.1 (Nat.le_of_ble_eq_true rfl) ⟨Nat.zero_le _, Nat.zero_le _⟩ dX6_say_5 ?_
  refine lv_if_ne (tgt := 13) hx hb dX6_say_8 (by decide) (fun c2 => ?_) (fun c2 => ?_)
  · rw [if_neg c2] at hf
    refine lv_iload_n hx hb dX6_say_13 rfl (lv_at hl 2 rfl) ?_
    obtain ⟨z3, hz3, hf⟩ := bnd hf
    refine x_rdS (n := 1) hx hb hml hown hts hE (ct_X6_isTable N l G cI cZ cO x2 z3 hz3) (bg 17 15 rfl) mb_X6_isTable.1 mb_X6_isTable.2.1 mb_X6_isTable.2.2 hd_X6_isTable rfl (by decide) va_P_nil rfl hl.1 (Nat.le_of_ble_eq_true rfl) ⟨Nat.zero_le _, Nat.zero_le _⟩ dX6_say_14 ?_
    refine lv_if_ne (tgt := 23) hx hb dX6_say_17 (by decide) (fun c4 => ?_) (fun c4 => ?_)
    · rw [if_neg c4] at hf
      refine lv_aload_n hx hb dX6_say_23 rfl (lv_at hl 0 rfl) ?_
      refine va_get (D := G) (ci := 6) (v := .ref (q 17)) (C := RX6) (T := TX6) (N := 15) hx hb hts inlX6 hown hE.1 hP 0 rfl rfl 3 (by decide) (hts _ (bg 1 1 rfl)) (fun _ h9 => h9) rfl dX6_say_24 ?_
      refine lv_aload_n hx hb dX6_say_27 rfl (lv_at hl 0 rfl) ?_
      refine va_get (D := G) (ci := 6) (v := .ref (q 3)) (C := RX6) (T := TX6) (N := 15) hx hb hts inlX6 hown hE.1 hP 0 rfl rfl 1 (by decide) (hts _ (bg 0 20 rfl)) (fun _ h9 => h9) rfl dX6_say_28 ?_
      refine lv_iload_n hx hb dX6_say_31 rfl (lv_at hl 1 rfl) ?_
      refine lv_iload_n hx hb dX6_say_32 rfl (lv_at hl 2 rfl) ?_
      obtain ⟨z5, hz5, hf⟩ := bnd hf
      refine x_rdV (C := RX4) (n := 3) (ci := 4) hx hb hml hown hts hE (ct_X4_canBeSaid N l G cI cZ cO (sh q 17) wI wA (sh q 3) tI tA x1 x2 z5 hz5) (bg 17 16 rfl) mb_X4_canBeSaid.1 mb_X4_canBeSaid.2.1 mb_X4_canBeSaid.2.2.1 mb_X4_canBeSaid.2.2.2 hd_X4_canBeSaid rfl (by decide) (x_cut hP [17, 18, 19, 20, 3, 4, 5, 6, 7, 8, 9] rfl) rfl rfl rfl rfl hl.1 (Nat.le_of_ble_eq_true rfl) ⟨Nat.zero_le _, Nat.zero_le _⟩ dX6_say_33 ?_
      refine lv_if_ne (tgt := 42) hx hb dX6_say_36 (by decide) (fun c6 => ?_) (fun c6 => ?_)
      · rw [if_neg c6] at hf
        refine lv_aload_n hx hb dX6_say_42 rfl (lv_at hl 0 rfl) ?_
        refine va_get (D := G) (ci := 6) (v := .ref (q 25)) (C := RX6) (T := TX6) (N := 15) hx hb hts inlX6 hown hE.1 hP 0 rfl rfl 5 (by decide) (hts _ (bg 1 6 rfl)) (fun _ h9 => h9) rfl dX6_say_43 ?_
        refine lv_aload_n hx hb dX6_say_46 rfl (lv_at hl 0 rfl) ?_
        refine va_get (D := G) (ci := 6) (v := .ref (q 17)) (C := RX6) (T := TX6) (N := 15) hx hb hts inlX6 hown hE.1 hP 0 rfl rfl 3 (by decide) (hts _ (bg 1 1 rfl)) (fun _ h9 => h9) rfl dX6_say_47 ?_
        obtain ⟨z7, hz7, hf⟩ := bnd hf
        refine x_wrVv (C := RX0) (n := 1) (ci := 0) (ws1 := (wX6 q cI cZ cO A L rI rA tI tA dI dA wI wA uI uA z7.1 z7.2.1 z7.2.2 eI eA sS sT bI)) hx hb hml hown hts hE (ct_X0_remember N l G cI cZ cO (sh q 25) aI aS aT (sh q 17) wI wA z7.1 z7.2.1 z7.2.2 hz7) (bg 15 3 rfl) mb_X0_remember.1 mb_X0_remember.2.1 mb_X0_remember.2.2.1 mb_X0_remember.2.2.2 hd_X0_remember rfl (by decide) hP hD hS hA [25, 26, 27, 28, 29, 30, 31, 32, 33, 34, 35, 36, 37, 38, 39, 40, 41, 42, 43, 44, 45, 46, 47, 48, 49, 50, 51, 52, 53, 54, 55, 56, 57, 58, 59, 60, 61, 62, 63, 64, 65, 66, 67, 68, 69, 70, 71, 72, 73, 74, 75, 76, 77, 78, 79, 80, 81, 82, 17, 18, 19, 20] [false, false, false, false, false, false, false, false, false, false, false, false, false, false, false, false, false, true, true, true, true, false, false, false, false, true, true, true, true, true, true, true, true, true, true, true, true, true, true, true, true, true, true, true, true, true, true, true, true, true, true, true, true, true, true, true, true, true, true, true, true, true, true, true, true, true, true, true, true, true, true, true, true, true, true, true, true, true, true, true, true, true, true, false, false, false, false, false, false, false, false, false, false, false, false, false, false, false, false, false, false, false, false] (by decide) (by decide +kernel) rfl rfl ⟨rfl, rfl, rfl, rfl, rfl, rfl, rfl, rfl, rfl, rfl, rfl, rfl, rfl, rfl, rfl, rfl, rfl, rfl, rfl, rfl, rfl, rfl, rfl, rfl, rfl, rfl, rfl, rfl, rfl, rfl, rfl, rfl, rfl, rfl, rfl, rfl, rfl, rfl, rfl, rfl, rfl, rfl, rfl, rfl, rfl, rfl, rfl, rfl, rfl, rfl, rfl, rfl, rfl, rfl, rfl, rfl, rfl, rfl, rfl, rfl, rfl, rfl, rfl, rfl, rfl, rfl, rfl, rfl, rfl, rfl, rfl, rfl, rfl, rfl, rfl, rfl, rfl, rfl, rfl, rfl, rfl, rfl, rfl, rfl, rfl, rfl, rfl, rfl, rfl, rfl, rfl, rfl, rfl, rfl, rfl, rfl, rfl, rfl, rfl, rfl, rfl, rfl, rfl, trivial⟩ rfl rfl rfl rfl hl.1 (Nat.le_of_ble_eq_true rfl) ⟨Nat.zero_le _, Nat.zero_le _⟩ dX6_say_50 (fun H locs hP hD hS => ?_)
        refine lv_aload_n hx hb dX6_say_53 rfl (lv_at hl 0 rfl) ?_
        refine va_get (D := G) (ci := 6) (v := .ref (q 17)) (C := RX6) (T := TX6) (N := 15) hx hb hts inlX6 hown hE.1 hP 0 rfl rfl 3 (by decide) (hts _ (bg 1 1 rfl)) (fun _ h9 => h9) rfl dX6_say_54 ?_
        refine lv_iload_n hx hb dX6_say_57 rfl (lv_at hl 1 rfl) ?_
        refine lv_iload_n hx hb dX6_say_58 rfl (lv_at hl 2 rfl) ?_
        obtain ⟨z8, hz8, hf⟩ := bnd hf
        refine x_wrVv (C := RX4) (n := 2) (ci := 4) (ws1 := (wX6 q cI cZ cO A L rI rA tI tA dI dA wI z8 uI uA z7.1 z7.2.1 z7.2.2 eI eA sS sT bI)) hx hb hml hown hts hE (ct_X4_putSaid N l G cI cZ cO (sh q 17) wI wA x1 x2 z8 hz8) (bg 17 22 rfl) mb_X4_putSaid.1 mb_X4_putSaid.2.1 mb_X4_putSaid.2.2.1 mb_X4_putSaid.2.2.2 hd_X4_putSaid rfl (by decide) hP hD hS hA [17, 18, 19, 20] [false, false, false, false, false, false, false, false, false, false, false, false, false, false, false, false, false, true, true, true, true, false, false, false, false, false, false, false, false, false, false, false, false, false, false, false, false, false, false, false, false, false, false, false, false, false, false, false, false, false, false, false, false, false, false, false, false, false, false, false, false, false, false, false, false, false, false, false, false, false, false, false, false, false, false, false, false, false, false, false, false, false, false, false, false, false, false, false, false, false, false, false, false, false, false, false, false, false, false, false, false, false, false] (by decide) (by decide +kernel) rfl rfl ⟨rfl, rfl, rfl, rfl, rfl, rfl, rfl, rfl, rfl, rfl, rfl, rfl, rfl, rfl, rfl, rfl, rfl, rfl, rfl, rfl, rfl, rfl, rfl, rfl, rfl, rfl, rfl, rfl, rfl, rfl, rfl, rfl, rfl, rfl, rfl, rfl, rfl, rfl, rfl, rfl, rfl, rfl, rfl, rfl, rfl, rfl, rfl, rfl, rfl, rfl, rfl, rfl, rfl, rfl, rfl, rfl, rfl, rfl, rfl, rfl, rfl, rfl, rfl, rfl, rfl, rfl, rfl, rfl, rfl, rfl, rfl, rfl, rfl, rfl, rfl, rfl, rfl, rfl, rfl, rfl, rfl, rfl, rfl, rfl, rfl, rfl, rfl, rfl, rfl, rfl, rfl, rfl, rfl, rfl, rfl, rfl, rfl, rfl, rfl, rfl, rfl, rfl, rfl, trivial⟩ rfl rfl rfl rfl hl.1 (Nat.le_of_ble_eq_true rfl) ⟨Nat.zero_le _, Nat.zero_le _⟩ dX6_say_59 (fun H locs hP hD hS => ?_)
        refine lv_aload_n hx hb dX6_say_62 rfl (lv_at hl 0 rfl) ?_
        refine va_get (D := G) (ci := 6) (v := .ref (q 17)) (C := RX6) (T := TX6) (N := 15) hx hb hts inlX6 hown hE.1 hP 0 rfl rfl 3 (by decide) (hts _ (bg 1 1 rfl)) (fun _ h9 => h9) rfl dX6_say_63 ?_
        refine lv_iload_n hx hb dX6_say_66 rfl (lv_at hl 1 rfl) ?_
        obtain ⟨z9, hz9, hf⟩ := bnd hf
        refine x_rdV (C := RX4) (n := 1) (ci := 4) hx hb hml hown hts hE (ct_X4_saidOf N l G cI cZ cO (sh q 17) wI z8 x1 z9 hz9) (bg 12 12 rfl) mb_X4_saidOf.1 mb_X4_saidOf.2.1 mb_X4_saidOf.2.2.1 mb_X4_saidOf.2.2.2 hd_X4_saidOf rfl (by decide) (x_cut hP [17, 18, 19, 20] rfl) rfl rfl rfl rfl hl.1 (Nat.le_of_ble_eq_true rfl) ⟨Nat.zero_le _, Nat.zero_le _⟩ dX6_say_67 ?_
        obtain ⟨z10, hz10, hf⟩ := bnd hf
        refine x_rdS (n := 1) hx hb hml hown hts hE (ct_J6_bitCount_0f7a4 N l G cI cZ cO z9 z10 hz10) (bg 18 2 rfl) mb_J6_bitCount_0f7a4.1 mb_J6_bitCount_0f7a4.2.1 mb_J6_bitCount_0f7a4.2.2 hd_J6_bitCount_0f7a4 rfl (by decide) va_P_nil rfl hl.1 (Nat.le_of_ble_eq_true rfl) ⟨Nat.zero_le _, Nat.zero_le _⟩ dX6_say_70 ?_
        have e9 := Option.some.inj hf
        exact fin H locs 73 ls _ (Prod.mk.inj e9).1 (nar_i _) (by rw [← (Prod.mk.inj (Prod.mk.inj e9).2).1, ← (Prod.mk.inj (Prod.mk.inj (Prod.mk.inj e9).2).2).1, ← (Prod.mk.inj (Prod.mk.inj (Prod.mk.inj (Prod.mk.inj e9).2).2).2).1, ← (Prod.mk.inj (Prod.mk.inj (Prod.mk.inj (Prod.mk.inj e9).2).2).2).2]; exact hP) hS dX6_say_73
      · rw [if_pos c6] at hf
        refine lv_bipush (v := (-3)) hx hb dX6_say_39 (by decide) ?_
        have e9 := Option.some.inj hf
        exact fin H locs 41 ls _ (Prod.mk.inj e9).1 (nar_i _) (by rw [← (Prod.mk.inj (Prod.mk.inj e9).2).1, ← (Prod.mk.inj (Prod.mk.inj (Prod.mk.inj e9).2).2).1, ← (Prod.mk.inj (Prod.mk.inj (Prod.mk.inj (Prod.mk.inj e9).2).2).2).1, ← (Prod.mk.inj (Prod.mk.inj (Prod.mk.inj (Prod.mk.inj e9).2).2).2).2]; exact hP) hS dX6_say_41
    · rw [if_pos c4] at hf
      refine lv_bipush (v := (-2)) hx hb dX6_say_20 (by decide) ?_
      have e9 := Option.some.inj hf
      exact fin H locs 22 ls _ (Prod.mk.inj e9).1 (nar_i _) (by rw [← (Prod.mk.inj (Prod.mk.inj e9).2).1, ← (Prod.mk.inj (Prod.mk.inj (Prod.mk.inj e9).2).2).1, ← (Prod.mk.inj (Prod.mk.inj (Prod.mk.inj (Prod.mk.inj e9).2).2).2).1, ← (Prod.mk.inj (Prod.mk.inj (Prod.mk.inj (Prod.mk.inj e9).2).2).2).2]; exact hP) hS dX6_say_22
  · rw [if_pos c2] at hf
    refine lv_iconst (v := (-1)) hx hb dX6_say_11 (by decide) ?_
    have e9 := Option.some.inj hf
    exact fin H locs 12 ls _ (Prod.mk.inj e9).1 (nar_i _) (by rw [← (Prod.mk.inj (Prod.mk.inj e9).2).1, ← (Prod.mk.inj (Prod.mk.inj (Prod.mk.inj e9).2).2).1, ← (Prod.mk.inj (Prod.mk.inj (Prod.mk.inj (Prod.mk.inj e9).2).2).2).1, ← (Prod.mk.inj (Prod.mk.inj (Prod.mk.inj (Prod.mk.inj e9).2).2).2).2]; exact hP) hS dX6_say_12
def fX5_isProvedTrue_22 (N : Nat) (I : Nat → Int32) (A : Nat → Nat → Int32) (y0 : Int32) : Option (Int32) := (bz y0).bind fun v1 => some v1
def fX5_isProvedTrue_21 (N : Nat) (I : Nat → Int32) (A : Nat → Nat → Int32) : Option (Int32) := fX5_isProvedTrue_22 N I A 0
def fX5_isProvedTrue (N : Nat) (I : Nat → Int32) (A : Nat → Nat → Int32) (x1 : Int32) (x2 : Int32) : Option (Int32) := (fX5_isProved N A x1 x2).bind fun z1 => if z1 = 0 then fX5_isProvedTrue_21 N I A else (fX5_isLie N I A x1).bind fun z3 => if z3 = 0 then fX5_isProvedTrue_22 N I A 1 else fX5_isProvedTrue_21 N I A
def rmX5_isProvedTrue : Room := { frames := 2, cells := 0, slots := 0, locals := 44 }
theorem mb_X5_isProvedTrue : Cond.instanceMethod yX5_isProvedTrue ∈ wsL_law ∧ Cond.selects RX5 yX5_isProvedTrue yX5_isProvedTrue ∈ wsL_law ∧ Cond.initialized RX5 ∈ wsL_law ∧ Cond.code yX5_isProvedTrue cX5_isProvedTrue 3 (some .boolean) ∈ wsL_law := ⟨(bg 19 9 rfl), (bg 19 10 rfl), (bg 0 19 rfl), (bg 19 11 rfl)⟩
theorem hd_X5_isProvedTrue : yX5_isProvedTrue.cls = RX5 ∧ yX5_isProvedTrue.cls ≠ "java/lang/invoke/MethodHandle" ∧ yX5_isProvedTrue.cls ≠ "java/lang/invoke/VarHandle" ∧ (parseMethodDescriptor yX5_isProvedTrue.desc).map (fun d => d.parameters.length) = some 2 := by decide +kernel
set_option maxRecDepth 100000 in
set_option maxHeartbeats 4000000 in
theorem ct_X5_isProvedTrue (N : Nat) (l : Launch) (G : va_G) (cI cZ cO : ClassId) (q : Nat → Nat) (I : Nat → Int32) (A : Nat → Nat → Int32) (x1 : Int32) (x2 : Int32) (r : Int32) (hf : fX5_isProvedTrue N I A x1 x2 = some r) : RtI l yX5_isProvedTrue cX5_isProvedTrue 3 .boolean rmX5_isProvedTrue G cI cZ cO [.ref (q 0), .int x1, .int x2] (wX5 q cI cZ cO I A) r := by
  refine mkRI (by decide) (Nat.le_of_ble_eq_true rfl) ?_
  intro p e s m below meth cd Q hC hP hE fin ls hl
  obtain ⟨hx, hb, hml, hown, hts⟩ := hC
  have hown : s.vm.findClass RX5 = some m.cls := hown
  have hl : lv_has ls 3 [(0, .ref (q 0)), (1, .int x1), (2, .int x2)] := hl
  have b_22 : ∀ (y0 : Int32), ∀ ls : Array Slot, lv_has ls 3 [] → fX5_isProvedTrue_22 N I A y0 = some r → W p l e rmX5_isProvedTrue s m [.ref (q 0), .int x1, .int x2].toArray below meth cd s.heap [] 0 0 Q (F0 m 22 ls [.int y0]) := by
    intro y0 ls hl hf
    unfold fX5_isProvedTrue_22 at hf
    obtain ⟨v1, hv1, hf⟩ := bnd hf
    obtain ⟨ev1, hv1⟩ := bz_in hv1
    rw [ev1]
    have e9 := Option.some.inj hf
    exact fin 22 ls _ e9 (nar_z (by rw [← e9]; exact hv1)) dX5_isProvedTrue_22
  have b_21 : ∀ ls : Array Slot, lv_has ls 3 [] → fX5_isProvedTrue_21 N I A = some r → W p l e rmX5_isProvedTrue s m [.ref (q 0), .int x1, .int x2].toArray below meth cd s.heap [] 0 0 Q (F0 m 21 ls []) := by
    intro ls hl hf
    unfold fX5_isProvedTrue_21 at hf
    refine lv_iconst (v := 0) hx hb dX5_isProvedTrue_21 (by decide) ?_
    exact b_22 0 ls (lv_sub hl [] rfl) hf
  unfold fX5_isProvedTrue at hf
  refine lv_aload_n hx hb dX5_isProvedTrue_0 rfl (lv_at hl 0 rfl) ?_
  refine lv_iload_n hx hb dX5_isProvedTrue_1 rfl (lv_at hl 1 rfl) ?_
  refine lv_iload_n hx hb dX5_isProvedTrue_2 rfl (lv_at hl 2 rfl) ?_
  obtain ⟨z1, hz1, hf⟩ := bnd hf
  refine x_rdV (C := RX5) (n := 2) (ci := 5) hx hb hml hown hts hE (ct_X5_isProved N l G cI cZ cO q I A x1 x2 z1 hz1) (bg 16 20 rfl) mb_X5_isProved.1 mb_X5_isProved.2.1 mb_X5_isProved.2.2.1 mb_X5_isProved.2.2.2 hd_X5_isProved rfl (by decide) hP rfl rfl rfl rfl hl.1 (Nat.le_of_ble_eq_true rfl) ⟨Nat.zero_le _, Nat.zero_le _⟩ dX5_isProvedTrue_3 ?_
  refine lv_if_eq (tgt := 21) hx hb dX5_isProvedTrue_6 (by decide) (fun c2 => ?_) (fun c2 => ?_)
  · rw [if_pos c2] at hf
    exact b_21 ls (lv_sub hl [] rfl) hf
  · rw [if_neg c2] at hf
    refine lv_aload_n hx hb dX5_isProvedTrue_9 rfl (lv_at hl 0 rfl) ?_
    refine lv_iload_n hx hb dX5_isProvedTrue_10 rfl (lv_at hl 1 rfl) ?_
    obtain ⟨z3, hz3, hf⟩ := bnd hf
    refine x_rdV (C := RX5) (n := 1) (ci := 5) hx hb hml hown hts hE (ct_X5_isLie N l G cI cZ cO q I A x1 z3 hz3) (bg 16 21 rfl) mb_X5_isLie.1 mb_X5_isLie.2.1 mb_X5_isLie.2.2.1 mb_X5_isLie.2.2.2 hd_X5_isLie rfl (by decide) hP rfl rfl rfl rfl hl.1 (Nat.le_of_ble_eq_true rfl) ⟨Nat.zero_le _, Nat.zero_le _⟩ dX5_isProvedTrue_11 ?_
    refine lv_if_ne (tgt := 21) hx hb dX5_isProvedTrue_14 (by decide) (fun c4 => ?_) (fun c4 => ?_)
    · rw [if_neg c4] at hf
      exact b_21 ls (lv_sub hl [] rfl) hf
    · rw [if_pos c4] at hf
      refine lv_iconst (v := 1) hx hb dX5_isProvedTrue_17 (by decide) ?_
      refine lv_goto (tgt := 22) hx hb dX5_isProvedTrue_18 (by decide) ?_
      exact b_22 1 ls (lv_sub hl [] rfl) hf
