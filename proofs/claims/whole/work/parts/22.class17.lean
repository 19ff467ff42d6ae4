def fX6_tryDenying (N : Nat) (tI : Nat → Int32) (tA : Nat → Nat → Int32) (uI : Nat → Int32) (uA : Nat → Nat → Int32) (x1 : Int32) (x2 : Int32) : Option (Int32 × (Nat → Nat → Int32)) := (fX4_canBeDenied N uI uA tI tA x1 x2).bind fun z1 => if z1 = 0 then some (0, uA) else (fX4_putDenied N uA x1 x2).bind fun z3 => some (1, z3)
def rmX6_tryDenying : Room := { frames := 4, cells := 0, slots := 0, locals := 89 }
theorem mb_X6_tryDenying : Cond.instanceMethod yX6_tryDenying ∈ wsL_law ∧ Cond.selects RX6 yX6_tryDenying yX6_tryDenying ∈ wsL_law ∧ Cond.initialized RX6 ∈ wsL_law ∧ Cond.code yX6_tryDenying cX6_tryDenying 3 (some .boolean) ∈ wsL_law := ⟨(bg 28 20 rfl), (bg 28 21 rfl), (bg 0 2 rfl), (bg 28 22 rfl)⟩
theorem hd_X6_tryDenying : yX6_tryDenying.cls = RX6 ∧ yX6_tryDenying.cls ≠ "java/lang/invoke/MethodHandle" ∧ yX6_tryDenying.cls ≠ "java/lang/invoke/VarHandle" ∧ (parseMethodDescriptor yX6_tryDenying.desc).map (fun d => d.parameters.length) = some 2 := by decide +kernel
set_option maxRecDepth 100000 in
set_option maxHeartbeats 4000000 in
theorem ct_X6_tryDenying (N : Nat) (l : Launch) (G : va_G) (cI cZ cO : ClassId) (q : Nat → Nat) (A : Nat → Nat → Int32) (L : Int64) (rI : Nat → Int32) (rA : Nat → Nat → Int32) (tI : Nat → Int32) (tA : Nat → Nat → Int32) (dI : Nat → Int32) (dA : Nat → Nat → Int32) (wI : Nat → Int32) (wA : Nat → Nat → Int32) (uI : Nat → Int32) (uA : Nat → Nat → Int32) (aI : Nat → Int32) (aS : Nat → Nat → Int32) (aT : Nat → Nat → Nat → Int32) (eI : Nat → Int32) (eA : Nat → Nat → Int32) (sS : Nat → Nat → Int32) (sT : Nat → Nat → Nat → Int32) (bI : Nat → Int32) (x1 : Int32) (x2 : Int32) (r : Int32) (uAz : Nat → Nat → Int32) (hf : fX6_tryDenying N tI tA uI uA x1 x2 = some (r, uAz)) : CtI l yX6_tryDenying cX6_tryDenying 3 .boolean rmX6_tryDenying G cI cZ cO [.ref (q 0), .int x1, .int x2] (wX6 q cI cZ cO A L rI rA tI tA dI dA wI wA uI uA aI aS aT eI eA sS sT bI) (wX6 q cI cZ cO A L rI rA tI tA dI dA wI wA uI uAz aI aS aT eI eA sS sT bI) r := by
  refine mkCI (by decide) (Nat.le_of_ble_eq_true rfl) ?_
  intro p e s m below meth cd Q Z hC hP hE hD hA fin ls hl
  obtain ⟨hx, hb, hml, hown, hts⟩ := hC
  have hown : s.vm.findClass RX6 = some m.cls := hown
  have hl : lv_has ls 3 [(0, .ref (q 0)), (1, .int x1), (2, .int x2)] := hl
  unfold fX6_tryDenying at hf
  have hS : va_S Z s.heap s.heap [] := va_S.rf
  obtain ⟨H, hH⟩ : ∃ H, H = s.heap := ⟨_, rfl⟩
  obtain ⟨locs, hlocs⟩ : ∃ locs : List Loc, locs = [] := ⟨_, rfl⟩
  rw [← hlocs]
  rw [← hlocs] at hS
  suffices hW : ∀ H : Heap, va_P G vwCl (wX6 q cI cZ cO A L rI rA tI tA dI dA wI wA uI uA aI aS aT eI eA sS sT bI) H → va_S Z s.heap H locs → W p l e rmX6_tryDenying s m [.ref (q 0), .int x1, .int x2].toArray below meth cd H locs 0 0 Q (F0 m 0 ls []) from hW s.heap hP hS
  clear hP hS hH H
  intro H hP hS
  refine lv_aload_n hx hb dX6_tryDenying_0 rfl (lv_at hl 0 rfl) ?_
  refine va_get (D := G) (ci := 6) (v := .ref (q 21)) (C := RX6) (T := TX6) (N := 15) hx hb hts inlX6 hown hE.1 hP 0 rfl rfl 4 (by decide) (hts _ (bg 1 2 rfl)) (fun _ h9 => h9) rfl dX6_tryDenying_1 ?_
  refine lv_aload_n hx hb dX6_tryDenying_4 rfl (lv_at hl 0 rfl) ?_
  refine va_get (D := G) (ci := 6) (v := .ref (q 3)) (C := RX6) (T := TX6) (N := 15) hx hb hts inlX6 hown hE.1 hP 0 rfl rfl 1 (by decide) (hts _ (bg 0 20 rfl)) (fun _ h9 => h9) rfl dX6_tryDenying_5 ?_
  refine lv_iload_n hx hb dX6_tryDenying_8 rfl (lv_at hl 1 rfl) ?_
  refine lv_iload_n hx hb dX6_tryDenying_9 rfl (lv_at hl 2 rfl) ?_
  obtain ⟨z1, hz1, hf⟩ := bnd hf
  refine x_rdV (C := RX4) (n := 3) (ci := 4) hx hb hml hown hts hE (ct_X4_canBeDenied N l G cI cZ cO (sh q 21) uI uA (sh q 3) tI tA x1 x2 z1 hz1) (bg 19 4 rfl) mb_X4_canBeDenied.1 mb_X4_canBeDenied.2.1 mb_X4_canBeDenied.2.2.1 mb_X4_canBeDenied.2.2.2 hd_X4_canBeDenied rfl (by decide) (x_cut hP [21, 22, 23, 24, 3, 4, 5, 6, 7, 8, 9] rfl) rfl rfl rfl rfl hl.1 (Nat.le_of_ble_eq_true rfl) ⟨Nat.zero_le _, Nat.zero_le _⟩ dX6_tryDenying_10 ?_
  refine lv_if_ne (tgt := 18) hx hb dX6_tryDenying_13 (by decide) (fun c2 => ?_) (fun c2 => ?_)
  · rw [if_neg c2] at hf
    refine lv_aload_n hx hb dX6_tryDenying_18 rfl (lv_at hl 0 rfl) ?_
    refine va_get (D := G) (ci := 6) (v := .ref (q 21)) (C := RX6) (T := TX6) (N := 15) hx hb hts inlX6 hown hE.1 hP 0 rfl rfl 4 (by decide) (hts _ (bg 1 2 rfl)) (fun _ h9 => h9) rfl dX6_tryDenying_19 ?_
    refine lv_iload_n hx hb dX6_tryDenying_22 rfl (lv_at hl 1 rfl) ?_
    refine lv_iload_n hx hb dX6_tryDenying_23 rfl (lv_at hl 2 rfl) ?_
    obtain ⟨z3, hz3, hf⟩ := bnd hf
    refine x_wrVv (C := RX4) (n := 2) (ci := 4) (ws1 := (wX6 q cI cZ cO A L rI rA tI tA dI dA wI wA uI z3 aI aS aT eI eA sS sT bI)) hx hb hml hown hts hE (ct_X4_putDenied N l G cI cZ cO (sh q 21) uI uA x1 x2 z3 hz3) (bg 19 12 rfl) mb_X4_putDenied.1 mb_X4_putDenied.2.1 mb_X4_putDenied.2.2.1 mb_X4_putDenied.2.2.2 hd_X4_putDenied rfl (by decide) hP hD hS hA [21, 22, 23, 24] [false, false, false, false, false, false, false, false, false, false, false, false, false, false, false, false, false, false, false, false, false, true, true, true, true, false, false, false, false, false, false, false, false, false, false, false, false, false, false, false, false, false, false, false, false, false, false, false, false, false, false, false, false, false, false, false, false, false, false, false, false, false, false, false, false, false, false, false, false, false, false, false, false, false, false, false, false, false, false, false, false, false, false, false, false, false, false, false, false, false, false, false, false, false, false, false, false, false, false, false, false, false, false] (by decide) (by decide +kernel) rfl rfl ⟨rfl, rfl, rfl, rfl, rfl, rfl, rfl, rfl, rfl, rfl, rfl, rfl, rfl, rfl, rfl, rfl, rfl, rfl, rfl, rfl, rfl, rfl, rfl, rfl, rfl, rfl, rfl, rfl, rfl, rfl, rfl, rfl, rfl, rfl, rfl, rfl, rfl, rfl, rfl, rfl, rfl, rfl, rfl, rfl, rfl, rfl, rfl, rfl, rfl, rfl, rfl, rfl, rfl, rfl, rfl, rfl, rfl, rfl, rfl, rfl, rfl, rfl, rfl, rfl, rfl, rfl, rfl, rfl, rfl, rfl, rfl, rfl, rfl, rfl, rfl, rfl, rfl, rfl, rfl, rfl, rfl, rfl, rfl, rfl, rfl, rfl, rfl, rfl, rfl, rfl, rfl, rfl, rfl, rfl, rfl, rfl, rfl, rfl, rfl, rfl, rfl, rfl, rfl, trivial⟩ rfl rfl rfl rfl hl.1 (Nat.le_of_ble_eq_true rfl) ⟨Nat.zero_le _, Nat.zero_le _⟩ dX6_tryDenying_24 (fun H locs hP hD hS => ?_)
    refine lv_iconst (v := 1) hx hb dX6_tryDenying_27 (by decide) ?_
    have e9 := Option.some.inj hf
    exact fin H locs 28 ls _ (Prod.mk.inj e9).1 (nar_z (Or.inr (Prod.mk.inj e9).1.symm)) (by rw [← (Prod.mk.inj e9).2]; exact hP) hS dX6_tryDenying_28
  · rw [if_pos c2] at hf
    refine lv_iconst (v := 0) hx hb dX6_tryDenying_16 (by decide) ?_
    have e9 := Option.some.inj hf
    exact fin H locs 17 ls _ (Prod.mk.inj e9).1 (nar_z (Or.inl (Prod.mk.inj e9).1.symm)) (by rw [← (Prod.mk.inj e9).2]; exact hP) hS dX6_tryDenying_17
def fX6_tryThing (N : Nat) (tI : Nat → Int32) (tA : Nat → Nat → Int32) (uI : Nat → Int32) (uA : Nat → Nat → Int32) (x1 : Int32) : Option (Int32 × (Nat → Int32) × (Nat → Nat → Int32)) := if (x1 / 100) = 0 then (fX6_trySaying N tI tA uI uA (rem (x1 / 10) 10) (rem x1 10)).bind fun z2 => (bz z2.1).bind fun v3 => some (v3, uI, z2.2) else if (x1 / 100) = 1 then (fX6_tryDenying N tI tA uI uA (rem (x1 / 10) 10) (rem x1 10)).bind fun z5 => (bz z5.1).bind fun v6 => some (v6, uI, z5.2) else if (x1 / 100) = 2 then (fX4_passDawn N uI uA tI tA).bind fun z8 => some (1, z8.2.1, z8.2.2) else some (0, uI, uA)
def rmX6_tryThing : Room := { frames := 5, cells := 0, slots := 0, locals := 111 }
theorem mb_X6_tryThing : Cond.instanceMethod yX6_tryThing ∈ wsL_law ∧ Cond.selects RX6 yX6_tryThing yX6_tryThing ∈ wsL_law ∧ Cond.initialized RX6 ∈ wsL_law ∧ Cond.code yX6_tryThing cX6_tryThing 4 (some .boolean) ∈ wsL_law := ⟨(bg 28 12 rfl), (bg 28 13 rfl), (bg 0 2 rfl), (bg 28 14 rfl)⟩
theorem hd_X6_tryThing : yX6_tryThing.cls = RX6 ∧ yX6_tryThing.cls ≠ "java/lang/invoke/MethodHandle" ∧ yX6_tryThing.cls ≠ "java/lang/invoke/VarHandle" ∧ (parseMethodDescriptor yX6_tryThing.desc).map (fun d => d.parameters.length) = some 1 := by decide +kernel
set_option maxRecDepth 100000 in
set_option maxHeartbeats 4000000 in
theorem ct_X6_tryThing (N : Nat) (l : Launch) (G : va_G) (cI cZ cO : ClassId) (q : Nat → Nat) (A : Nat → Nat → Int32) (L : Int64) (rI : Nat → Int32) (rA : Nat → Nat → Int32) (tI : Nat → Int32) (tA : Nat → Nat → Int32) (dI : Nat → Int32) (dA : Nat → Nat → Int32) (wI : Nat → Int32) (wA : Nat → Nat → Int32) (uI : Nat → Int32) (uA : Nat → Nat → Int32) (aI : Nat → Int32) (aS : Nat → Nat → Int32) (aT : Nat → Nat → Nat → Int32) (eI : Nat → Int32) (eA : Nat → Nat → Int32) (sS : Nat → Nat → Int32) (sT : Nat → Nat → Nat → Int32) (bI : Nat → Int32) (x1 : Int32) (r : Int32) (uIz : Nat → Int32) (uAz : Nat → Nat → Int32) (hf : fX6_tryThing N tI tA uI uA x1 = some (r, uIz, uAz)) : CtI l yX6_tryThing cX6_tryThing 4 .boolean rmX6_tryThing G cI cZ cO [.ref (q 0), .int x1] (wX6 q cI cZ cO A L rI rA tI tA dI dA wI wA uI uA aI aS aT eI eA sS sT bI) (wX6 q cI cZ cO A L rI rA tI tA dI dA wI wA uIz uAz aI aS aT eI eA sS sT bI) r := by
  refine mkCI (by decide) (Nat.le_of_ble_eq_true rfl) ?_
  intro p e s m below meth cd Q Z hC hP hE hD hA fin ls hl
  obtain ⟨hx, hb, hml, hown, hts⟩ := hC
  have hown : s.vm.findClass RX6 = some m.cls := hown
  have hl : lv_has ls 4 [(0, .ref (q 0)), (1, .int x1)] := hl
  unfold fX6_tryThing at hf
  have hS : va_S Z s.heap s.heap [] := va_S.rf
  obtain ⟨H, hH⟩ : ∃ H, H = s.heap := ⟨_, rfl⟩
  obtain ⟨locs, hlocs⟩ : ∃ locs : List Loc, locs = [] := ⟨_, rfl⟩
  rw [← hlocs]
  rw [← hlocs] at hS
  suffices hW : ∀ H : Heap, va_P G vwCl (wX6 q cI cZ cO A L rI rA tI tA dI dA wI wA uI uA aI aS aT eI eA sS sT bI) H → va_S Z s.heap H locs → W p l e rmX6_tryThing s m [.ref (q 0), .int x1].toArray below meth cd H locs 0 0 Q (F0 m 0 ls []) from hW s.heap hP hS
  clear hP hS hH H
  intro H hP hS
  refine lv_iload_n hx hb dX6_tryThing_0 rfl (lv_at hl 1 rfl) ?_
  refine lv_bipush (v := 10) hx hb dX6_tryThing_1 (by decide) ?_
  refine lv_idiv hx hb dX6_tryThing_3 (by decide) ?_
  refine lv_bipush (v := 10) hx hb dX6_tryThing_4 (by decide) ?_
  refine x_irem hx hb dX6_tryThing_6 (by decide) ?_
  refine lv_istore_n (lv' := [(2, .int (rem (x1 / 10) 10)), (0, .ref (q 0)), (1, .int x1)]) hx hb dX6_tryThing_7 rfl hl (by decide) rfl (fun ls hl => ?_)
  refine lv_iload_n hx hb dX6_tryThing_8 rfl (lv_at hl 2 rfl) ?_
  refine lv_bipush (v := 10) hx hb dX6_tryThing_9 (by decide) ?_
  refine x_irem hx hb dX6_tryThing_11 (by decide) ?_
  refine lv_istore_n (lv' := [(3, .int (rem x1 10)), (2, .int (rem (x1 / 10) 10)), (0, .ref (q 0)), (1, .int x1)]) hx hb dX6_tryThing_12 rfl hl (by decide) rfl (fun ls hl => ?_)
  refine lv_iload_n hx hb dX6_tryThing_13 rfl (lv_at hl 3 rfl) ?_
  refine lv_bipush (v := 100) hx hb dX6_tryThing_14 (by decide) ?_
  refine lv_idiv hx hb dX6_tryThing_16 (by decide) ?_
  by_cases c1 : (x1 / 100) = 0
  · rw [if_pos c1] at hf
    refine x_tsw (tgt := 44) hx hb c1 dX6_tryThing_17 (by decide) (by decide) rfl (by decide) ?_
    refine lv_aload_n hx hb dX6_tryThing_44 rfl (lv_at hl 2 rfl) ?_
    refine lv_iload_n hx hb dX6_tryThing_45 rfl (lv_at hl 1 rfl) ?_
    refine lv_iload_n hx hb dX6_tryThing_46 rfl (lv_at hl 0 rfl) ?_
    obtain ⟨z2, hz2, hf⟩ := bnd hf
    refine x_wwV (C := RX6) (n := 2) (ci := 6) hx hb hml hown hts hE (ct_X6_trySaying N l G cI cZ cO q A L rI rA tI tA dI dA wI wA uI uA aI aS aT eI eA sS sT bI (rem (x1 / 10) 10) (rem x1 10) z2.1 z2.2 hz2) (bg 28 15 rfl) mb_X6_trySaying.1 mb_X6_trySaying.2.1 mb_X6_trySaying.2.2.1 mb_X6_trySaying.2.2.2 hd_X6_trySaying rfl (by decide) hP hD hS hA rfl rfl rfl rfl rfl hl.1 (Nat.le_of_ble_eq_true rfl) ⟨Nat.zero_le _, Nat.zero_le _⟩ dX6_tryThing_47 (fun H locs hP hD hS => ?_)
    have hP : va_P G vwCl (wX6 q cI cZ cO A L rI rA tI tA dI dA wI wA uI z2.2 aI aS aT eI eA sS sT bI) H := hP
    have hD : va_D Z (wX6 q cI cZ cO A L rI rA tI tA dI dA wI wA uI z2.2 aI aS aT eI eA sS sT bI) := hD
    obtain ⟨v3, hv3, hf⟩ := bnd hf
    obtain ⟨ev3, hv3⟩ := bz_in hv3
    rw [ev3]
    have e9 := Option.some.inj hf
    exact fin H locs 50 ls _ (Prod.mk.inj e9).1 (nar_z (by rw [← (Prod.mk.inj e9).1]; exact hv3)) (by rw [← (Prod.mk.inj (Prod.mk.inj e9).2).1, ← (Prod.mk.inj (Prod.mk.inj e9).2).2]; exact hP) hS dX6_tryThing_50
  · rw [if_neg c1] at hf
    by_cases c4 : (x1 / 100) = 1
    · rw [if_pos c4] at hf
      refine x_tsw (tgt := 51) hx hb c4 dX6_tryThing_17 (by decide) (by decide) rfl (by decide) ?_
      refine lv_aload_n hx hb dX6_tryThing_51 rfl (lv_at hl 2 rfl) ?_
      refine lv_iload_n hx hb dX6_tryThing_52 rfl (lv_at hl 1 rfl) ?_
      refine lv_iload_n hx hb dX6_tryThing_53 rfl (lv_at hl 0 rfl) ?_
      obtain ⟨z5, hz5, hf⟩ := bnd hf
      refine x_wwV (C := RX6) (n := 2) (ci := 6) hx hb hml hown hts hE (ct_X6_tryDenying N l G cI cZ cO q A L rI rA tI tA dI dA wI wA uI uA aI aS aT eI eA sS sT bI (rem (x1 / 10) 10) (rem x1 10) z5.1 z5.2 hz5) (bg 28 19 rfl) mb_X6_tryDenying.1 mb_X6_tryDenying.2.1 mb_X6_tryDenying.2.2.1 mb_X6_tryDenying.2.2.2 hd_X6_tryDenying rfl (by decide) hP hD hS hA rfl rfl rfl rfl rfl hl.1 (Nat.le_of_ble_eq_true rfl) ⟨Nat.zero_le _, Nat.zero_le _⟩ dX6_tryThing_54 (fun H locs hP hD hS => ?_)
      have hP : va_P G vwCl (wX6 q cI cZ cO A L rI rA tI tA dI dA wI wA uI z5.2 aI aS aT eI eA sS sT bI) H := hP
      have hD : va_D Z (wX6 q cI cZ cO A L rI rA tI tA dI dA wI wA uI z5.2 aI aS aT eI eA sS sT bI) := hD
      obtain ⟨v6, hv6, hf⟩ := bnd hf
      obtain ⟨ev6, hv6⟩ := bz_in hv6
      rw [ev6]
      have e9 := Option.some.inj hf
      exact fin H locs 57 ls _ (Prod.mk.inj e9).1 (nar_z (by rw [← (Prod.mk.inj e9).1]; exact hv6)) (by rw [← (Prod.mk.inj (Prod.mk.inj e9).2).1, ← (Prod.mk.inj (Prod.mk.inj e9).2).2]; exact hP) hS dX6_tryThing_57
    · rw [if_neg c4] at hf
      by_cases c7 : (x1 / 100) = 2
      · rw [if_pos c7] at hf
        refine x_tsw (tgt := 58) hx hb c7 dX6_tryThing_17 (by decide) (by decide) rfl (by decide) ?_
        refine lv_aload_n hx hb dX6_tryThing_58 rfl (lv_at hl 2 rfl) ?_
        refine va_get (D := G) (ci := 6) (v := .ref (q 21)) (C := RX6) (T := TX6) (N := 15) hx hb hts inlX6 hown hE.1 hP 0 rfl rfl 4 (by decide) (hts _ (bg 1 2 rfl)) (fun _ h9 => h9) rfl dX6_tryThing_59 ?_
        refine lv_aload_n hx hb dX6_tryThing_62 rfl (lv_at hl 2 rfl) ?_
        refine va_get (D := G) (ci := 6) (v := .ref (q 3)) (C := RX6) (T := TX6) (N := 15) hx hb hts inlX6 hown hE.1 hP 0 rfl rfl 1 (by decide) (hts _ (bg 0 20 rfl)) (fun _ h9 => h9) rfl dX6_tryThing_63 ?_
        obtain ⟨z8, hz8, hf⟩ := bnd hf
        refine x_wrV (C := RX4) (n := 1) (ci := 4) (ws1 := (wX6 q cI cZ cO A L rI rA tI tA dI dA wI wA z8.2.1 z8.2.2 aI aS aT eI eA sS sT bI)) hx hb hml hown hts hE (ct_X4_passDawn N l G cI cZ cO (sh q 21) uI uA (sh q 3) tI tA z8.1 z8.2.1 z8.2.2 hz8) (bg 15 21 rfl) mb_X4_passDawn.1 mb_X4_passDawn.2.1 mb_X4_passDawn.2.2.1 mb_X4_passDawn.2.2.2 hd_X4_passDawn rfl (by decide) hP hD hS hA [21, 22, 23, 24, 3, 4, 5, 6, 7, 8, 9] [false, false, false, true, true, true, true, true, true, true, false, false, false, false, false, false, false, false, false, false, false, true, true, true, true, false, false, false, false, false, false, false, false, false, false, false, false, false, false, false, false, false, false, false, false, false, false, false, false, false, false, false, false, false, false, false, false, false, false, false, false, false, false, false, false, false, false, false, false, false, false, false, false, false, false, false, false, false, false, false, false, false, false, false, false, false, false, false, false, false, false, false, false, false, false, false, false, false, false, false, false, false, false] (by decide) (by decide +kernel) rfl rfl ⟨rfl, rfl, rfl, rfl, rfl, rfl, rfl, rfl, rfl, rfl, rfl, rfl, rfl, rfl, rfl, rfl, rfl, rfl, rfl, rfl, rfl, rfl, rfl, rfl, rfl, rfl, rfl, rfl, rfl, rfl, rfl, rfl, rfl, rfl, rfl, rfl, rfl, rfl, rfl, rfl, rfl, rfl, rfl, rfl, rfl, rfl, rfl, rfl, rfl, rfl, rfl, rfl, rfl, rfl, rfl, rfl, rfl, rfl, rfl, rfl, rfl, rfl, rfl, rfl, rfl, rfl, rfl, rfl, rfl, rfl, rfl, rfl, rfl, rfl, rfl, rfl, rfl, rfl, rfl, rfl, rfl, rfl, rfl, rfl, rfl, rfl, rfl, rfl, rfl, rfl, rfl, rfl, rfl, rfl, rfl, rfl, rfl, rfl, rfl, rfl, rfl, rfl, rfl, trivial⟩ rfl rfl rfl rfl hl.1 (Nat.le_of_ble_eq_true rfl) ⟨Nat.zero_le _, Nat.zero_le _⟩ dX6_tryThing_66 (fun H locs hP hD hS => ?_)
        refine lv_pop hx hb dX6_tryThing_69 rfl ?_
        refine lv_iconst (v := 1) hx hb dX6_tryThing_70 (by decide) ?_
        have e9 := Option.some.inj hf
        exact fin H locs 71 ls _ (Prod.mk.inj e9).1 (nar_z (Or.inr (Prod.mk.inj e9).1.symm)) (by rw [← (Prod.mk.inj (Prod.mk.inj e9).2).1, ← (Prod.mk.inj (Prod.mk.inj e9).2).2]; exact hP) hS dX6_tryThing_71
      · rw [if_neg c7] at hf
        refine lv_tableOut (tgt := 72) hx hb dX6_tryThing_17 (by have tc1 := lv_neT (a := 0) c1 (by decide); have tc4 := lv_neT (a := 1) c4 (by decide); have tc7 := lv_neT (a := 2) c7 (by decide); omega) (by decide) ?_
        refine lv_iconst (v := 0) hx hb dX6_tryThing_72 (by decide) ?_
        have e9 := Option.some.inj hf
        exact fin H locs 73 ls _ (Prod.mk.inj e9).1 (nar_z (Or.inl (Prod.mk.inj e9).1.symm)) (by rw [← (Prod.mk.inj (Prod.mk.inj e9).2).1, ← (Prod.mk.inj (Prod.mk.inj e9).2).2]; exact hP) hS dX6_tryThing_73
def fX6_judge_161 (N : Nat) (A : Nat → Nat → Int32) (tI : Nat → Int32) (tA : Nat → Nat → Int32) (wI : Nat → Int32) (wA : Nat → Nat → Int32) (uI : Nat → Int32) (uA : Nat → Nat → Int32) : Option (Int32 × (Nat → Nat → Int32) × (Nat → Int32) × (Nat → Nat → Int32)) := some ((-9), A, uI, uA)
def fX6_judge_152 (N : Nat) (A : Nat → Nat → Int32) (tI : Nat → Int32) (tA : Nat → Nat → Int32) (wI : Nat → Int32) (wA : Nat → Nat → Int32) (uI : Nat → Int32) (uA : Nat → Nat → Int32) (u6 : Int32) : Option (Int32 × (Nat → Nat → Int32) × (Nat → Int32) × (Nat → Nat → Int32)) := some (u6, A, uI, uA)
def fX6_judge_93s (N : Nat) (k_93 : (Nat → Nat → Int32) → (Nat → Int32) → (Nat → Nat → Int32) → (Nat → Int32) → (Nat → Nat → Int32) → (Nat → Int32) → (Nat → Nat → Int32) → Int32 → Int32 → Option (Int32 × (Nat → Nat → Int32) × (Nat → Int32) × (Nat → Nat → Int32))) (A : Nat → Nat → Int32) (tI : Nat → Int32) (tA : Nat → Nat → Int32) (wI : Nat → Int32) (wA : Nat → Nat → Int32) (uI : Nat → Int32) (uA : Nat → Nat → Int32) (u1 : Int32) (u6 : Int32) : Option (Int32 × (Nat → Nat → Int32) × (Nat → Int32) × (Nat → Nat → Int32)) := if u1 ≤ u6 then fX6_judge_161 N A tI tA wI wA uI uA else if 4 ≤ u6 then fX6_judge_161 N A tI tA wI wA uI uA else (fX4_valueOfAll N uI uA tI tA).bind fun z3 => (rd 4 (A 2) u6).bind fun v4 => (fX6_tryThing N tI tA uI uA v4).bind fun z5 => if z5.1 = 0 then fX6_judge_152 N A tI tA wI wA z5.2.1 z5.2.2 u6 else (fX4_valueOfAll N z5.2.1 z5.2.2 tI tA).bind fun z7 => if z3 ≤ z7 then k_93 A tI tA wI wA z5.2.1 z5.2.2 u1 (u6 + 1) else fX6_judge_152 N A tI tA wI wA z5.2.1 z5.2.2 u6
def fX6_judge_93 (N : Nat) : Nat → (Nat → Nat → Int32) → (Nat → Int32) → (Nat → Nat → Int32) → (Nat → Int32) → (Nat → Nat → Int32) → (Nat → Int32) → (Nat → Nat → Int32) → Int32 → Int32 → Option (Int32 × (Nat → Nat → Int32) × (Nat → Int32) × (Nat → Nat → Int32))
  | 0 => fun _ _ _ _ _ _ _ _ _ => none
  | n + 1 => fX6_judge_93s N (fX6_judge_93 N n)
def fX6_judge_69 (N : Nat) (A : Nat → Nat → Int32) (tI : Nat → Int32) (tA : Nat → Nat → Int32) (wI : Nat → Int32) (wA : Nat → Nat → Int32) (uI : Nat → Int32) (uA : Nat → Nat → Int32) (u1 : Int32) (u4 : Int64) : Option (Int32 × (Nat → Nat → Int32) × (Nat → Int32) × (Nat → Nat → Int32)) := if (lg_cmp u4 0) = 0 then (fX4_copyFrom N uI uA wI wA).bind fun z2 => fX6_judge_93 N N A tI tA wI wA z2.1 z2.2 u1 0 else some ((-2), A, uI, uA)
def fX6_judge_26s (N : Nat) (k_26 : (Nat → Nat → Int32) → (Nat → Int32) → (Nat → Nat → Int32) → (Nat → Int32) → (Nat → Nat → Int32) → (Nat → Int32) → (Nat → Nat → Int32) → Int32 → Int64 → Int32 → Option (Int32 × (Nat → Nat → Int32) × (Nat → Int32) × (Nat → Nat → Int32))) (A : Nat → Nat → Int32) (tI : Nat → Int32) (tA : Nat → Nat → Int32) (wI : Nat → Int32) (wA : Nat → Nat → Int32) (uI : Nat → Int32) (uA : Nat → Nat → Int32) (u1 : Int32) (u4 : Int64) (u6 : Int32) : Option (Int32 × (Nat → Nat → Int32) × (Nat → Int32) × (Nat → Nat → Int32)) := if u6 < 0 then fX6_judge_69 N A tI tA wI wA uI uA u1 u4 else if 4 ≤ u6 then fX6_judge_69 N A tI tA wI wA uI uA u1 u4 else (wr 4 (A 2) u6 (Int64.toInt32 (remL u4 1000))).bind fun g3 => k_26 (va_up A 2 g3) tI tA wI wA uI uA u1 (u4 / 1000) (u6 + (-1))
def fX6_judge_26 (N : Nat) : Nat → (Nat → Nat → Int32) → (Nat → Int32) → (Nat → Nat → Int32) → (Nat → Int32) → (Nat → Nat → Int32) → (Nat → Int32) → (Nat → Nat → Int32) → Int32 → Int64 → Int32 → Option (Int32 × (Nat → Nat → Int32) × (Nat → Int32) × (Nat → Nat → Int32))
  | 0 => fun _ _ _ _ _ _ _ _ _ _ => none
  | n + 1 => fX6_judge_26s N (fX6_judge_26 N n)
def fX6_judge_15 (N : Nat) (A : Nat → Nat → Int32) (tI : Nat → Int32) (tA : Nat → Nat → Int32) (wI : Nat → Int32) (wA : Nat → Nat → Int32) (uI : Nat → Int32) (uA : Nat → Nat → Int32) : Option (Int32 × (Nat → Nat → Int32) × (Nat → Int32) × (Nat → Nat → Int32)) := some ((-2), A, uI, uA)
def fX6_judge (N : Nat) (A : Nat → Nat → Int32) (tI : Nat → Int32) (tA : Nat → Nat → Int32) (wI : Nat → Int32) (wA : Nat → Nat → Int32) (uI : Nat → Int32) (uA : Nat → Nat → Int32) (x1 : Int32) (x2 : Int64) : Option (Int32 × (Nat → Nat → Int32) × (Nat → Int32) × (Nat → Nat → Int32)) := (fX6_isOutside N x1 1 4).bind fun z1 => if z1 = 0 then if 0 ≤ (lg_cmp x2 0) then fX6_judge_26 N N A tI tA wI wA uI uA x1 x2 (x1 - 1) else fX6_judge_15 N A tI tA wI wA uI uA else fX6_judge_15 N A tI tA wI wA uI uA
def rmX6_judge : Room := { frames := 6, cells := 0, slots := 0, locals := 134 }
theorem mb_X6_judge : Cond.instanceMethod yX6_judge ∈ wsL_law ∧ Cond.selects RX6 yX6_judge yX6_judge ∈ wsL_law ∧ Cond.initialized RX6 ∈ wsL_law ∧ Cond.code yX6_judge cX6_judge 8 (some .int) ∈ wsL_law := ⟨(bg 28 2 rfl), (bg 28 3 rfl), (bg 0 2 rfl), (bg 28 4 rfl)⟩
theorem hd_X6_judge : yX6_judge.cls = RX6 ∧ yX6_judge.cls ≠ "java/lang/invoke/MethodHandle" ∧ yX6_judge.cls ≠ "java/lang/invoke/VarHandle" ∧ (parseMethodDescriptor yX6_judge.desc).map (fun d => d.parameters.length) = some 2 := by decide +kernel
set_option maxRecDepth 100000 in
set_option maxHeartbeats 4000000 in
theorem ct_X6_judge (N : Nat) (l : Launch) (G : va_G) (cI cZ cO : ClassId) (q : Nat → Nat) (A : Nat → Nat → Int32) (L : Int64) (rI : Nat → Int32) (rA : Nat → Nat → Int32) (tI : Nat → Int32) (tA : Nat → Nat → Int32) (dI : Nat → Int32) (dA : Nat → Nat → Int32) (wI : Nat → Int32) (wA : Nat → Nat → Int32) (uI : Nat → Int32) (uA : Nat → Nat → Int32) (aI : Nat → Int32) (aS : Nat → Nat → Int32) (aT : Nat → Nat → Nat → Int32) (eI : Nat → Int32) (eA : Nat → Nat → Int32) (sS : Nat → Nat → Int32) (sT : Nat → Nat → Nat → Int32) (bI : Nat → Int32) (x1 : Int32) (x2 : Int64) (r : Int32) (Az : Nat → Nat → Int32) (uIz : Nat → Int32) (uAz : Nat → Nat → Int32) (hf : fX6_judge N A tI tA wI wA uI uA x1 x2 = some (r, Az, uIz, uAz)) : CtI l yX6_judge cX6_judge 8 .int rmX6_judge G cI cZ cO [.ref (q 0), .int x1, .long x2] (wX6 q cI cZ cO A L rI rA tI tA dI dA wI wA uI uA aI aS aT eI eA sS sT bI) (wX6 q cI cZ cO Az L rI rA tI tA dI dA wI wA uIz uAz aI aS aT eI eA sS sT bI) r := by
  refine mkCI (by decide) (Nat.le_of_ble_eq_true rfl) ?_
  intro p e s m below meth cd Q Z hC hP hE hD hA fin ls hl
  obtain ⟨hx, hb, hml, hown, hts⟩ := hC
  have hown : s.vm.findClass RX6 = some m.cls := hown
  have hl : lv_has ls 8 [(0, .ref (q 0)), (1, .int x1), (2, .long x2)] := hl
  have b_161 : ∀ (A : Nat → Nat → Int32) (uI : Nat → Int32) (uA : Nat → Nat → Int32), ∀ (H : Heap) (locs : List Loc), va_P G vwCl (wX6 q cI cZ cO A L rI rA tI tA dI dA wI wA uI uA aI aS aT eI eA sS sT bI) H → va_D Z (wX6 q cI cZ cO A L rI rA tI tA dI dA wI wA uI uA aI aS aT eI eA sS sT bI) → va_S Z s.heap H locs → ∀ ls : Array Slot, lv_has ls 8 [] → fX6_judge_161 N A tI tA wI wA uI uA = some (r, Az, uIz, uAz) → W p l e rmX6_judge s m [.ref (q 0), .int x1, .long x2].toArray below meth cd H locs 0 0 Q (F0 m 161 ls []) := by
    intro A uI uA H locs hP hD hS ls hl hf
    unfold fX6_judge_161 at hf
    refine lv_bipush (v := (-9)) hx hb dX6_judge_161 (by decide) ?_
    have e9 := Option.some.inj hf
    exact fin H locs 163 ls _ (Prod.mk.inj e9).1 (nar_i _) (by rw [← (Prod.mk.inj (Prod.mk.inj e9).2).1, ← (Prod.mk.inj (Prod.mk.inj (Prod.mk.inj e9).2).2).1, ← (Prod.mk.inj (Prod.mk.inj (Prod.mk.inj e9).2).2).2]; exact hP) hS dX6_judge_163
  have b_152 : ∀ (A : Nat → Nat → Int32) (uI : Nat → Int32) (uA : Nat → Nat → Int32) (u6 : Int32), ∀ (H : Heap) (locs : List Loc), va_P G vwCl (wX6 q cI cZ cO A L rI rA tI tA dI dA wI wA uI uA aI aS aT eI eA sS sT bI) H → va_D Z (wX6 q cI cZ cO A L rI rA tI tA dI dA wI wA uI uA aI aS aT eI eA sS sT bI) → va_S Z s.heap H locs → ∀ ls : Array Slot, lv_has ls 8 [(6, .int u6)] → fX6_judge_152 N A tI tA wI wA uI uA u6 = some (r, Az, uIz, uAz) → W p l e rmX6_judge s m [.ref (q 0), .int x1, .long x2].toArray below meth cd H locs 0 0 Q (F0 m 152 ls []) := by
    intro A uI uA u6 H locs hP hD hS ls hl hf
    unfold fX6_judge_152 at hf
    refine lv_iload hx hb dX6_judge_152 (lv_at hl 0 rfl) ?_
    have e9 := Option.some.inj hf
    exact fin H locs 154 ls _ (Prod.mk.inj e9).1 (nar_i _) (by rw [← (Prod.mk.inj (Prod.mk.inj e9).2).1, ← (Prod.mk.inj (Prod.mk.inj (Prod.mk.inj e9).2).2).1, ← (Prod.mk.inj (Prod.mk.inj (Prod.mk.inj e9).2).2).2]; exact hP) hS dX6_judge_154
  have b_93 : ∀ n : Nat, ∀ (A : Nat → Nat → Int32) (uI : Nat → Int32) (uA : Nat → Nat → Int32) (u1 : Int32) (u6 : Int32), ∀ (H : Heap) (locs : List Loc), va_P G vwCl (wX6 q cI cZ cO A L rI rA tI tA dI dA wI wA uI uA aI aS aT eI eA sS sT bI) H → va_D Z (wX6 q cI cZ cO A L rI rA tI tA dI dA wI wA uI uA aI aS aT eI eA sS sT bI) → va_S Z s.heap H locs → ∀ ls : Array Slot, lv_has ls 8 [(0, .ref (q 0)), (1, .int u1), (6, .int u6)] → fX6_judge_93 N n A tI tA wI wA uI uA u1 u6 = some (r, Az, uIz, uAz) → W p l e rmX6_judge s m [.ref (q 0), .int x1, .long x2].toArray below meth cd H locs 0 0 Q (F0 m 93 ls []) := by
    intro n
    induction n with
    | zero =>
      intro A uI uA u1 u6 H locs hP hD hS ls hl hf
      cases hf
    | succ n hk_93 =>
      intro A uI uA u1 u6 H locs hP hD hS ls hl hf
      replace hf : fX6_judge_93s N (fX6_judge_93 N n) A tI tA wI wA uI uA u1 u6 = some (r, Az, uIz, uAz) := hf
      generalize fX6_judge_93 N n = k_93 at hf hk_93
      unfold fX6_judge_93s at hf
      refine lv_iload hx hb dX6_judge_93 (lv_at hl 2 rfl) ?_
      refine lv_iload_n hx hb dX6_judge_95 rfl (lv_at hl 1 rfl) ?_
      refine lv_icmp_ge (tgt := 161) hx hb dX6_judge_96 (by decide) (fun c1 => ?_) (fun c1 => ?_)
      · rw [if_pos c1] at hf
        exact b_161 A uI uA H locs hP hD hS ls (lv_sub hl [] rfl) hf
      · rw [if_neg c1] at hf
        refine lv_iload hx hb dX6_judge_99 (lv_at hl 2 rfl) ?_
        refine lv_aload_n hx hb dX6_judge_101 rfl (lv_at hl 0 rfl) ?_
        refine va_get (D := G) (ci := 6) (v := .ref (q 100)) (C := RX6) (T := TX6) (N := 15) hx hb hts inlX6 hown hE.1 hP 0 rfl rfl 11 (by decide) (hts _ (bg 1 20 rfl)) (fun _ h9 => h9) rfl dX6_judge_102 ?_
        refine va_alen (v := 4) hx hb hE.1 hP 100 0 rfl rfl rfl dX6_judge_105 ?_
        refine lv_icmp_ge (tgt := 161) hx hb dX6_judge_106 (by decide) (fun c2 => ?_) (fun c2 => ?_)
        · rw [if_pos c2] at hf
          exact b_161 A uI uA H locs hP hD hS ls (lv_sub hl [] rfl) hf
        · rw [if_neg c2] at hf
          refine lv_aload_n hx hb dX6_judge_109 rfl (lv_at hl 0 rfl) ?_
          refine va_get (D := G) (ci := 6) (v := .ref (q 21)) (C := RX6) (T := TX6) (N := 15) hx hb hts inlX6 hown hE.1 hP 0 rfl rfl 4 (by decide) (hts _ (bg 1 2 rfl)) (fun _ h9 => h9) rfl dX6_judge_110 ?_
          refine lv_aload_n hx hb dX6_judge_113 rfl (lv_at hl 0 rfl) ?_
          refine va_get (D := G) (ci := 6) (v := .ref (q 3)) (C := RX6) (T := TX6) (N := 15) hx hb hts inlX6 hown hE.1 hP 0 rfl rfl 1 (by decide) (hts _ (bg 0 20 rfl)) (fun _ h9 => h9) rfl dX6_judge_114 ?_
          obtain ⟨z3, hz3, hf⟩ := bnd hf
          refine x_rdV (C := RX4) (n := 1) (ci := 4) hx hb hml hown hts hE (ct_X4_valueOfAll N l G cI cZ cO (sh q 21) uI uA (sh q 3) tI tA z3 hz3) (bg 28 7 rfl) mb_X4_valueOfAll.1 mb_X4_valueOfAll.2.1 mb_X4_valueOfAll.2.2.1 mb_X4_valueOfAll.2.2.2 hd_X4_valueOfAll rfl (by decide) (x_cut hP [21, 22, 23, 24, 3, 4, 5, 6, 7, 8, 9] rfl) rfl rfl rfl rfl hl.1 (Nat.le_of_ble_eq_true rfl) ⟨Nat.zero_le _, Nat.zero_le _⟩ dX6_judge_117 ?_
          refine lv_istore (lv' := [(7, .int z3), (0, .ref (q 0)), (1, .int u1), (6, .int u6)]) hx hb dX6_judge_120 hl (by decide) rfl (fun ls hl => ?_)
          refine lv_aload_n hx hb dX6_judge_122 rfl (lv_at hl 1 rfl) ?_
          refine lv_aload_n hx hb dX6_judge_123 rfl (lv_at hl 1 rfl) ?_
          refine va_get (D := G) (ci := 6) (v := .ref (q 100)) (C := RX6) (T := TX6) (N := 15) hx hb hts inlX6 hown hE.1 hP 0 rfl rfl 11 (by decide) (hts _ (bg 1 20 rfl)) (fun _ h9 => h9) rfl dX6_judge_124 ?_
          refine lv_iload hx hb dX6_judge_127 (lv_at hl 3 rfl) ?_
          obtain ⟨v4, hv4, hf⟩ := bnd hf
          refine x_iald hx hb hE.1 hP 100 0 rfl rfl hv4 dX6_judge_129 ?_
          obtain ⟨z5, hz5, hf⟩ := bnd hf
          refine x_wwV (C := RX6) (n := 1) (ci := 6) hx hb hml hown hts hE (ct_X6_tryThing N l G cI cZ cO q A L rI rA tI tA dI dA wI wA uI uA aI aS aT eI eA sS sT bI v4 z5.1 z5.2.1 z5.2.2 hz5) (bg 28 11 rfl) mb_X6_tryThing.1 mb_X6_tryThing.2.1 mb_X6_tryThing.2.2.1 mb_X6_tryThing.2.2.2 hd_X6_tryThing rfl (by decide) hP hD hS hA rfl rfl rfl rfl rfl hl.1 (Nat.le_of_ble_eq_true rfl) ⟨Nat.zero_le _, Nat.zero_le _⟩ dX6_judge_130 (fun H locs hP hD hS => ?_)
          have hP : va_P G vwCl (wX6 q cI cZ cO A L rI rA tI tA dI dA wI wA z5.2.1 z5.2.2 aI aS aT eI eA sS sT bI) H := hP
          have hD : va_D Z (wX6 q cI cZ cO A L rI rA tI tA dI dA wI wA z5.2.1 z5.2.2 aI aS aT eI eA sS sT bI) := hD
          refine lv_if_eq (tgt := 152) hx hb dX6_judge_133 (by decide) (fun c6 => ?_) (fun c6 => ?_)
          · rw [if_pos c6] at hf
            exact b_152 A z5.2.1 z5.2.2 u6 H locs hP hD hS ls (lv_sub hl [3] rfl) hf
          · rw [if_neg c6] at hf
            refine lv_aload_n hx hb dX6_judge_136 rfl (lv_at hl 1 rfl) ?_
            refine va_get (D := G) (ci := 6) (v := .ref (q 21)) (C := RX6) (T := TX6) (N := 15) hx hb hts inlX6 hown hE.1 hP 0 rfl rfl 4 (by decide) (hts _ (bg 1 2 rfl)) (fun _ h9 => h9) rfl dX6_judge_137 ?_
            refine lv_aload_n hx hb dX6_judge_140 rfl (lv_at hl 1 rfl) ?_
            refine va_get (D := G) (ci := 6) (v := .ref (q 3)) (C := RX6) (T := TX6) (N := 15) hx hb hts inlX6 hown hE.1 hP 0 rfl rfl 1 (by decide) (hts _ (bg 0 20 rfl)) (fun _ h9 => h9) rfl dX6_judge_141 ?_
            obtain ⟨z7, hz7, hf⟩ := bnd hf
            refine x_rdV (C := RX4) (n := 1) (ci := 4) hx hb hml hown hts hE (ct_X4_valueOfAll N l G cI cZ cO (sh q 21) z5.2.1 z5.2.2 (sh q 3) tI tA z7 hz7) (bg 28 7 rfl) mb_X4_valueOfAll.1 mb_X4_valueOfAll.2.1 mb_X4_valueOfAll.2.2.1 mb_X4_valueOfAll.2.2.2 hd_X4_valueOfAll rfl (by decide) (x_cut hP [21, 22, 23, 24, 3, 4, 5, 6, 7, 8, 9] rfl) rfl rfl rfl rfl hl.1 (Nat.le_of_ble_eq_true rfl) ⟨Nat.zero_le _, Nat.zero_le _⟩ dX6_judge_144 ?_
            refine lv_iload hx hb dX6_judge_147 (lv_at hl 0 rfl) ?_
            refine lv_icmp_ge (tgt := 155) hx hb dX6_judge_149 (by decide) (fun c8 => ?_) (fun c8 => ?_)
            · rw [if_pos c8] at hf
              refine lv_iinc (v := u6 + 1) (lv' := [(6, .int (u6 + 1)), (7, .int z3), (0, .ref (q 0)), (1, .int u1)]) hx hb dX6_judge_155 hl (k := 3) rfl rfl (by decide) rfl (fun ls hl => ?_)
              refine lv_goto (tgt := 93) hx hb dX6_judge_158 (by decide) ?_
              exact hk_93 A z5.2.1 z5.2.2 u1 (u6 + 1) H locs hP hD hS ls (lv_sub hl [2, 3, 0] rfl) hf
            · rw [if_neg c8] at hf
              exact b_152 A z5.2.1 z5.2.2 u6 H locs hP hD hS ls (lv_sub hl [3] rfl) hf
  have b_69 : ∀ (A : Nat → Nat → Int32) (uI : Nat → Int32) (uA : Nat → Nat → Int32) (u1 : Int32) (u4 : Int64), ∀ (H : Heap) (locs : List Loc), va_P G vwCl (wX6 q cI cZ cO A L rI rA tI tA dI dA wI wA uI uA aI aS aT eI eA sS sT bI) H → va_D Z (wX6 q cI cZ cO A L rI rA tI tA dI dA wI wA uI uA aI aS aT eI eA sS sT bI) → va_S Z s.heap H locs → ∀ ls : Array Slot, lv_has ls 8 [(0, .ref (q 0)), (1, .int u1), (4, .long u4)] → fX6_judge_69 N A tI tA wI wA uI uA u1 u4 = some (r, Az, uIz, uAz) → W p l e rmX6_judge s m [.ref (q 0), .int x1, .long x2].toArray below meth cd H locs 0 0 Q (F0 m 69 ls []) := by
    intro A uI uA u1 u4 H locs hP hD hS ls hl hf
    unfold fX6_judge_69 at hf
    refine lv_lload hx hb dX6_judge_69 (lv_at hl 2 rfl) ?_
    refine lv_lconst (v := 0) hx hb dX6_judge_71 (by decide) ?_
    refine W.lcmp hx hb dX6_judge_72 ?_
    refine lv_if_eq (tgt := 79) hx hb dX6_judge_73 (by decide) (fun c1 => ?_) (fun c1 => ?_)
    · rw [if_pos c1] at hf
      refine lv_aload_n hx hb dX6_judge_79 rfl (lv_at hl 0 rfl) ?_
      refine va_get (D := G) (ci := 6) (v := .ref (q 21)) (C := RX6) (T := TX6) (N := 15) hx hb hts inlX6 hown hE.1 hP 0 rfl rfl 4 (by decide) (hts _ (bg 1 2 rfl)) (fun _ h9 => h9) rfl dX6_judge_80 ?_
      refine lv_aload_n hx hb dX6_judge_83 rfl (lv_at hl 0 rfl) ?_
      refine va_get (D := G) (ci := 6) (v := .ref (q 17)) (C := RX6) (T := TX6) (N := 15) hx hb hts inlX6 hown hE.1 hP 0 rfl rfl 3 (by decide) (hts _ (bg 1 1 rfl)) (fun _ h9 => h9) rfl dX6_judge_84 ?_
      obtain ⟨z2, hz2, hf⟩ := bnd hf
      refine x_wrVv (C := RX4) (n := 1) (ci := 4) (ws1 := (wX6 q cI cZ cO A L rI rA tI tA dI dA wI wA z2.1 z2.2 aI aS aT eI eA sS sT bI)) hx hb hml hown hts hE (ct_X4_copyFrom N l G cI cZ cO (sh q 21) uI uA (sh q 17) wI wA z2.1 z2.2 hz2) (bg 28 6 rfl) mb_X4_copyFrom.1 mb_X4_copyFrom.2.1 mb_X4_copyFrom.2.2.1 mb_X4_copyFrom.2.2.2 hd_X4_copyFrom rfl (by decide) hP hD hS hA [21, 22, 23, 24, 17, 18, 19, 20] [false, false, false, false, false, false, false, false, false, false, false, false, false, false, false, false, false, true, true, true, true, true, true, true, true, false, false, false, false, false, false, false, false, false, false, false, false, false, false, false, false, false, false, false, false, false, false, false, false, false, false, false, false, false, false, false, false, false, false, false, false, false, false, false, false, false, false, false, false, false, false, false, false, false, false, false, false, false, false, false, false, false, false, false, false, false, false, false, false, false, false, false, false, false, false, false, false, false, false, false, false, false, false] (by decide) (by decide +kernel) rfl rfl ⟨rfl, rfl, rfl, rfl, rfl, rfl, rfl, rfl, rfl, rfl, rfl, rfl, rfl, rfl, rfl, rfl, rfl, rfl, rfl, rfl, rfl, rfl, rfl, rfl, rfl, rfl, rfl, rfl, rfl, rfl, rfl, rfl, rfl, rfl, rfl, rfl, rfl, rfl, rfl, rfl, rfl, rfl, rfl, rfl, rfl, rfl, rfl, rfl, rfl, rfl, rfl, rfl, rfl, rfl, rfl, rfl, rfl, rfl, rfl, rfl, rfl, rfl, rfl, rfl, rfl, rfl, rfl, rfl, rfl, rfl, rfl, rfl, rfl, rfl, rfl, rfl, rfl, rfl, rfl, rfl, rfl, rfl, rfl, rfl, rfl, rfl, rfl, rfl, rfl, rfl, rfl, rfl, rfl, rfl, rfl, rfl, rfl, rfl, rfl, rfl, rfl, rfl, rfl, trivial⟩ rfl rfl rfl rfl hl.1 (Nat.le_of_ble_eq_true rfl) ⟨Nat.zero_le _, Nat.zero_le _⟩ dX6_judge_87 (fun H locs hP hD hS => ?_)
      refine lv_iconst (v := 0) hx hb dX6_judge_90 (by decide) ?_
      refine lv_istore (lv' := [(6, .int 0), (0, .ref (q 0)), (1, .int u1), (4, .long u4)]) hx hb dX6_judge_91 hl (by decide) rfl (fun ls hl => ?_)
      exact b_93 N A z2.1 z2.2 u1 0 H locs hP hD hS ls (lv_sub hl [1, 2, 0] rfl) hf
    · rw [if_neg c1] at hf
      refine lv_bipush (v := (-2)) hx hb dX6_judge_76 (by decide) ?_
      have e9 := Option.some.inj hf
      exact fin H locs 78 ls _ (Prod.mk.inj e9).1 (nar_i _) (by rw [← (Prod.mk.inj (Prod.mk.inj e9).2).1, ← (Prod.mk.inj (Prod.mk.inj (Prod.mk.inj e9).2).2).1, ← (Prod.mk.inj (Prod.mk.inj (Prod.mk.inj e9).2).2).2]; exact hP) hS dX6_judge_78
  have b_26 : ∀ n : Nat, ∀ (A : Nat → Nat → Int32) (uI : Nat → Int32) (uA : Nat → Nat → Int32) (u1 : Int32) (u4 : Int64) (u6 : Int32), ∀ (H : Heap) (locs : List Loc), va_P G vwCl (wX6 q cI cZ cO A L rI rA tI tA dI dA wI wA uI uA aI aS aT eI eA sS sT bI) H → va_D Z (wX6 q cI cZ cO A L rI rA tI tA dI dA wI wA uI uA aI aS aT eI eA sS sT bI) → va_S Z s.heap H locs → ∀ ls : Array Slot, lv_has ls 8 [(0, .ref (q 0)), (1, .int u1), (4, .long u4), (6, .int u6)] → fX6_judge_26 N n A tI tA wI wA uI uA u1 u4 u6 = some (r, Az, uIz, uAz) → W p l e rmX6_judge s m [.ref (q 0), .int x1, .long x2].toArray below meth cd H locs 0 0 Q (F0 m 26 ls []) := by
    intro n
    induction n with
    | zero =>
      intro A uI uA u1 u4 u6 H locs hP hD hS ls hl hf
      cases hf
    | succ n hk_26 =>
      intro A uI uA u1 u4 u6 H locs hP hD hS ls hl hf
      replace hf : fX6_judge_26s N (fX6_judge_26 N n) A tI tA wI wA uI uA u1 u4 u6 = some (r, Az, uIz, uAz) := hf
      generalize fX6_judge_26 N n = k_26 at hf hk_26
      unfold fX6_judge_26s at hf
      refine lv_iload hx hb dX6_judge_26 (lv_at hl 3 rfl) ?_
      refine lv_if_lt (tgt := 69) hx hb dX6_judge_28 (by decide) (fun c1 => ?_) (fun c1 => ?_)
      · rw [if_pos c1] at hf
        exact b_69 A uI uA u1 u4 H locs hP hD hS ls (lv_sub hl [0, 1, 2] rfl) hf
      · rw [if_neg c1] at hf
        refine lv_iload hx hb dX6_judge_31 (lv_at hl 3 rfl) ?_
        refine lv_aload_n hx hb dX6_judge_33 rfl (lv_at hl 0 rfl) ?_
        refine va_get (D := G) (ci := 6) (v := .ref (q 100)) (C := RX6) (T := TX6) (N := 15) hx hb hts inlX6 hown hE.1 hP 0 rfl rfl 11 (by decide) (hts _ (bg 1 20 rfl)) (fun _ h9 => h9) rfl dX6_judge_34 ?_
        refine va_alen (v := 4) hx hb hE.1 hP 100 0 rfl rfl rfl dX6_judge_37 ?_
        refine lv_icmp_ge (tgt := 69) hx hb dX6_judge_38 (by decide) (fun c2 => ?_) (fun c2 => ?_)
        · rw [if_pos c2] at hf
          exact b_69 A uI uA u1 u4 H locs hP hD hS ls (lv_sub hl [0, 1, 2] rfl) hf
        · rw [if_neg c2] at hf
          refine lv_aload_n hx hb dX6_judge_41 rfl (lv_at hl 0 rfl) ?_
          refine va_get (D := G) (ci := 6) (v := .ref (q 100)) (C := RX6) (T := TX6) (N := 15) hx hb hts inlX6 hown hE.1 hP 0 rfl rfl 11 (by decide) (hts _ (bg 1 20 rfl)) (fun _ h9 => h9) rfl dX6_judge_42 ?_
          refine lv_iload hx hb dX6_judge_45 (lv_at hl 3 rfl) ?_
          refine lv_lload hx hb dX6_judge_47 (lv_at hl 2 rfl) ?_
          refine lv_ldc2 hx hb hown (hts _ (bg 28 5 rfl)) dX6_judge_49 ?_
          refine x_lrem hx hb dX6_judge_52 (by decide) ?_
          refine lv_l2i (v := Int64.toInt32 (remL u4 1000)) hx hb dX6_judge_53 rfl ?_
          obtain ⟨g3, hg3, hf⟩ := bnd hf
          refine x_iast hx hb hE.1 hP hD hS 100 0 rfl rfl hg3 dX6_judge_54 (fun H locs hP hD hS => ?_)
          have hP : va_P G vwCl (wX6 q cI cZ cO (va_up A 2 g3) L rI rA tI tA dI dA wI wA uI uA aI aS aT eI eA sS sT bI) H := hP
          have hD : va_D Z (wX6 q cI cZ cO (va_up A 2 g3) L rI rA tI tA dI dA wI wA uI uA aI aS aT eI eA sS sT bI) := hD
          refine lv_lload hx hb dX6_judge_55 (lv_at hl 2 rfl) ?_
          refine lv_ldc2 hx hb hown (hts _ (bg 28 5 rfl)) dX6_judge_57 ?_
          refine lv_ldiv hx hb dX6_judge_60 (by decide) ?_
          refine lv_lstore (lv' := [(4, .long (u4 / 1000)), (0, .ref (q 0)), (1, .int u1), (6, .int u6)]) hx hb dX6_judge_61 hl (by decide) rfl (fun ls hl => ?_)
          refine lv_iinc (v := u6 + (-1)) (lv' := [(6, .int (u6 + (-1))), (4, .long (u4 / 1000)), (0, .ref (q 0)), (1, .int u1)]) hx hb dX6_judge_63 hl (k := 3) rfl rfl (by decide) rfl (fun ls hl => ?_)
          refine lv_goto (tgt := 26) hx hb dX6_judge_66 (by decide) ?_
          exact hk_26 (va_up A 2 g3) uI uA u1 (u4 / 1000) (u6 + (-1)) H locs hP hD hS ls (lv_sub hl [2, 3, 1, 0] rfl) hf
  have b_15 : ∀ (A : Nat → Nat → Int32) (uI : Nat → Int32) (uA : Nat → Nat → Int32), ∀ (H : Heap) (locs : List Loc), va_P G vwCl (wX6 q cI cZ cO A L rI rA tI tA dI dA wI wA uI uA aI aS aT eI eA sS sT bI) H → va_D Z (wX6 q cI cZ cO A L rI rA tI tA dI dA wI wA uI uA aI aS aT eI eA sS sT bI) → va_S Z s.heap H locs → ∀ ls : Array Slot, lv_has ls 8 [] → fX6_judge_15 N A tI tA wI wA uI uA = some (r, Az, uIz, uAz) → W p l e rmX6_judge s m [.ref (q 0), .int x1, .long x2].toArray below meth cd H locs 0 0 Q (F0 m 15 ls []) := by
    intro A uI uA H locs hP hD hS ls hl hf
    unfold fX6_judge_15 at hf
    refine lv_bipush (v := (-2)) hx hb dX6_judge_15 (by decide) ?_
    have e9 := Option.some.inj hf
    exact fin H locs 17 ls _ (Prod.mk.inj e9).1 (nar_i _) (by rw [← (Prod.mk.inj (Prod.mk.inj e9).2).1, ← (Prod.mk.inj (Prod.mk.inj (Prod.mk.inj e9).2).2).1, ← (Prod.mk.inj (Prod.mk.inj (Prod.mk.inj e9).2).2).2]; exact hP) hS dX6_judge_17
  unfold fX6_judge at hf
  have hS : va_S Z s.heap s.heap [] := va_S.rf
  obtain ⟨H, hH⟩ : ∃ H, H = s.heap := ⟨_, rfl⟩
  obtain ⟨locs, hlocs⟩ : ∃ locs : List Loc, locs = [] := ⟨_, rfl⟩
  rw [← hlocs]
  rw [← hlocs] at hS
  suffices hW : ∀ H : Heap, va_P G vwCl (wX6 q cI cZ cO A L rI rA tI tA dI dA wI wA uI uA aI aS aT eI eA sS sT bI) H → va_S Z s.heap H locs → W p l e rmX6_judge s m [.ref (q 0), .int x1, .long x2].toArray below meth cd H locs 0 0 Q (F0 m 0 ls []) from hW s.heap hP hS
  clear hP hS hH H
  intro H hP hS
  refine lv_iload_n hx hb dX6_judge_0 rfl (lv_at hl 1 rfl) ?_
  refine lv_iconst (v := 1) hx hb dX6_judge_1 (by decide) ?_
  refine lv_iconst (v := 4) hx hb dX6_judge_2 (by decide) ?_
  obtain ⟨z1, hz1, hf⟩ := bnd hf
  refine x_rdS (n := 3) hx hb hml hown hts hE (ct_X6_isOutside N l G cI cZ cO x1 1 4 z1 hz1) (bg 4 17 rfl) mb_X6_isOutside.1 mb_X6_isOutside.2.1 mb_X6_isOutside.2.2 hd_X6_isOutside rfl (by decide) va_P_nil rfl hl.1 (Nat.le_of_ble_eq_true rfl) ⟨Nat.zero_le _, Nat.zero_le _⟩ dX6_judge_3 ?_
  refine lv_if_ne (tgt := 15) hx hb dX6_judge_6 (by decide) (fun c2 => ?_) (fun c2 => ?_)
  · rw [if_neg c2] at hf
    exact b_15 A uI uA H locs hP hD hS ls (lv_sub hl [] rfl) hf
  · rw [if_pos c2] at hf
    refine lv_lload_n hx hb dX6_judge_9 rfl (lv_at hl 2 rfl) ?_
    refine lv_lconst (v := 0) hx hb dX6_judge_10 (by decide) ?_
    refine W.lcmp hx hb dX6_judge_11 ?_
    refine lv_if_ge (tgt := 18) hx hb dX6_judge_12 (by decide) (fun c3 => ?_) (fun c3 => ?_)
    · rw [if_pos c3] at hf
      refine lv_lload_n hx hb dX6_judge_18 rfl (lv_at hl 2 rfl) ?_
      refine lv_lstore (lv' := [(4, .long x2), (0, .ref (q 0)), (1, .int x1), (2, .long x2)]) hx hb dX6_judge_19 hl (by decide) rfl (fun ls hl => ?_)
      refine lv_iload_n hx hb dX6_judge_21 rfl (lv_at hl 2 rfl) ?_
      refine lv_iconst (v := 1) hx hb dX6_judge_22 (by decide) ?_
      refine lv_isub hx hb dX6_judge_23 ?_
      refine lv_istore (lv' := [(6, .int (x1 - 1)), (4, .long x2), (0, .ref (q 0)), (1, .int x1), (2, .long x2)]) hx hb dX6_judge_24 hl (by decide) rfl (fun ls hl => ?_)
      exact b_26 N A uI uA x1 x2 (x1 - 1) H locs hP hD hS ls (lv_sub hl [2, 3, 1, 0] rfl) hf
    · rw [if_neg c3] at hf
      exact b_15 A uI uA H locs hP hD hS ls (lv_sub hl [] rfl) hf
