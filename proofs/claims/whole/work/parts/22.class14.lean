def fX6_canSayThing (N : Nat) (tI : Nat → Int32) (tA : Nat → Nat → Int32) (wI : Nat → Int32) (wA : Nat → Nat → Int32) (x1 : Int32) : Option (Int32) := (fX4_canBeSaid N wI wA tI tA (x1 / 6) (rem x1 6)).bind fun z1 => (bz z1).bind fun v2 => some v2
def rmX6_canSayThing : Room := { frames := 3, cells := 0, slots := 0, locals := 67 }
theorem mb_X6_canSayThing : Cond.instanceMethod yX6_canSayThing ∈ wsL_law ∧ Cond.selects RX6 yX6_canSayThing yX6_canSayThing ∈ wsL_law ∧ Cond.initialized RX6 ∈ wsL_law ∧ Cond.code yX6_canSayThing cX6_canSayThing 2 (some .boolean) ∈ wsL_law := ⟨(bg 25 18 rfl), (bg 25 19 rfl), (bg 0 2 rfl), (bg 25 20 rfl)⟩
theorem hd_X6_canSayThing : yX6_canSayThing.cls = RX6 ∧ yX6_canSayThing.cls ≠ "java/lang/invoke/MethodHandle" ∧ yX6_canSayThing.cls ≠ "java/lang/invoke/VarHandle" ∧ (parseMethodDescriptor yX6_canSayThing.desc).map (fun d => d.parameters.length) = some 1 := by decide +kernel
set_option maxRecDepth 100000 in
set_option maxHeartbeats 4000000 in
theorem ct_X6_canSayThing (N : Nat) (l : Launch) (G : va_G) (cI cZ cO : ClassId) (q : Nat → Nat) (A : Nat → Nat → Int32) (L : Int64) (rI : Nat → Int32) (rA : Nat → Nat → Int32) (tI : Nat → Int32) (tA : Nat → Nat → Int32) (dI : Nat → Int32) (dA : Nat → Nat → Int32) (wI : Nat → Int32) (wA : Nat → Nat → Int32) (uI : Nat → Int32) (uA : Nat → Nat → Int32) (aI : Nat → Int32) (aS : Nat → Nat → Int32) (aT : Nat → Nat → Nat → Int32) (eI : Nat → Int32) (eA : Nat → Nat → Int32) (sS : Nat → Nat → Int32) (sT : Nat → Nat → Nat → Int32) (bI : Nat → Int32) (x1 : Int32) (r : Int32) (hf : fX6_canSayThing N tI tA wI wA x1 = some r) : RtI l yX6_canSayThing cX6_canSayThing 2 .boolean rmX6_canSayThing G cI cZ cO [.ref (q 0), .int x1] (wX6 q cI cZ cO A L rI rA tI tA dI dA wI wA uI uA aI aS aT eI eA sS sT bI) r := by
  refine mkRI (by decide) (Nat.le_of_ble_eq_true rfl) ?_
  intro p e s m below meth cd Q hC hP hE fin ls hl
  obtain ⟨hx, hb, hml, hown, hts⟩ := hC
  have hown : s.vm.findClass RX6 = some m.cls := hown
  have hl : lv_has ls 2 [(0, .ref (q 0)), (1, .int x1)] := hl
  unfold fX6_canSayThing at hf
  refine lv_aload_n hx hb dX6_canSayThing_0 rfl (lv_at hl 0 rfl) ?_
  refine va_get (D := G) (ci := 6) (v := .ref (q 17)) (C := RX6) (T := TX6) (N := 15) hx hb hts inlX6 hown hE.1 hP 0 rfl rfl 3 (by decide) (hts _ (bg 1 1 rfl)) (fun _ h9 => h9) rfl dX6_canSayThing_1 ?_
  refine lv_aload_n hx hb dX6_canSayThing_4 rfl (lv_at hl 0 rfl) ?_
  refine va_get (D := G) (ci := 6) (v := .ref (q 3)) (C := RX6) (T := TX6) (N := 15) hx hb hts inlX6 hown hE.1 hP 0 rfl rfl 1 (by decide) (hts _ (bg 0 20 rfl)) (fun _ h9 => h9) rfl dX6_canSayThing_5 ?_
  refine lv_iload_n hx hb dX6_canSayThing_8 rfl (lv_at hl 1 rfl) ?_
  refine lv_bipush (v := 6) hx hb dX6_canSayThing_9 (by decide) ?_
  refine lv_idiv hx hb dX6_canSayThing_11 (by decide) ?_
  refine lv_iload_n hx hb dX6_canSayThing_12 rfl (lv_at hl 1 rfl) ?_
  refine lv_bipush (v := 6) hx hb dX6_canSayThing_13 (by decide) ?_
  refine x_irem hx hb dX6_canSayThing_15 (by decide) ?_
  obtain ⟨z1, hz1, hf⟩ := bnd hf
  refine x_rdV (C := RX4) (n := 3) (ci := 4) hx hb hml hown hts hE (ct_X4_canBeSaid N l G cI cZ cO (sh q 17) wI wA (sh q 3) tI tA (x1 / 6) (rem x1 6) z1 hz1) (bg 17 16 rfl) mb_X4_canBeSaid.1 mb_X4_canBeSaid.2.1 mb_X4_canBeSaid.2.2.1 mb_X4_canBeSaid.2.2.2 hd_X4_canBeSaid rfl (by decide) (x_cut hP [17, 18, 19, 20, 3, 4, 5, 6, 7, 8, 9] rfl) rfl rfl rfl rfl hl.1 (Nat.le_of_ble_eq_true rfl) ⟨Nat.zero_le _, Nat.zero_le _⟩ dX6_canSayThing_16 ?_
  obtain ⟨v2, hv2, hf⟩ := bnd hf
  obtain ⟨ev2, hv2⟩ := bz_in hv2
  rw [ev2]
  have e9 := Option.some.inj hf
  exact fin 19 ls _ e9 (nar_z (by rw [← e9]; exact hv2)) dX6_canSayThing_19
def fX6_thingBit (N : Nat) (x0 : Int32) : Option (Int32) := some (shl 1 (rem x0 6))
def rmX6_thingBit : Room := { frames := 0, cells := 0, slots := 0, locals := 0 }
theorem mb_X6_thingBit : Cond.static yX6_thingBit ∈ wsL_law ∧ Cond.initialized yX6_thingBit.cls ∈ wsL_law ∧ Cond.code yX6_thingBit cX6_thingBit 1 (some .int) ∈ wsL_law := ⟨(bg 25 22 rfl), (bg 0 2 rfl), (bg 25 23 rfl)⟩
theorem hd_X6_thingBit : yX6_thingBit.cls ≠ "java/lang/invoke/MethodHandle" ∧ yX6_thingBit.cls ≠ "java/lang/invoke/VarHandle" ∧ (parseMethodDescriptor yX6_thingBit.desc).map (fun d => d.parameters.length) = some 1 := by decide +kernel
set_option maxRecDepth 100000 in
set_option maxHeartbeats 4000000 in
theorem ct_X6_thingBit (N : Nat) (l : Launch) (G : va_G) (cI cZ cO : ClassId) (x0 : Int32) (r : Int32) (hf : fX6_thingBit N x0 = some r) : RtI l yX6_thingBit cX6_thingBit 1 .int rmX6_thingBit G cI cZ cO [.int x0] [] r := by
  refine mkRI (by decide) (Nat.le_of_ble_eq_true rfl) ?_
  intro p e s m below meth cd Q hC hP hE fin ls hl
  obtain ⟨hx, hb, hml, hown, hts⟩ := hC
  have hown : s.vm.findClass RX6 = some m.cls := hown
  have hl : lv_has ls 1 [(0, .int x0)] := hl
  unfold fX6_thingBit at hf
  refine lv_iconst (v := 1) hx hb dX6_thingBit_0 (by decide) ?_
  refine lv_iload_n hx hb dX6_thingBit_1 rfl (lv_at hl 0 rfl) ?_
  refine lv_bipush (v := 6) hx hb dX6_thingBit_2 (by decide) ?_
  refine x_irem hx hb dX6_thingBit_4 (by decide) ?_
  refine x_ishl hx hb dX6_thingBit_5 ?_
  have e9 := Option.some.inj hf
  exact fin 6 ls _ e9 (nar_i _) dX6_thingBit_6
def fX6_gainOf (N : Nat) (tI : Nat → Int32) (tA : Nat → Nat → Int32) (wI : Nat → Int32) (wA : Nat → Nat → Int32) (x1 : Int32) (x2 : Int32) (x3 : Int32) (x4 : Int32) : Option (Int32) := (fX4_saidOf N wA x2).bind fun z1 => (fX6_coinValueIn N tI tA wI wA x1 x2 (z1 ||| x3) x4).bind fun z2 => (fX6_coinValueIn N tI tA wI wA x1 x2 z1 x4).bind fun z3 => some (z2 - z3)
def rmX6_gainOf : Room := { frames := 4, cells := 0, slots := 0, locals := 114 }
theorem mb_X6_gainOf : Cond.instanceMethod yX6_gainOf ∈ wsL_law ∧ Cond.selects RX6 yX6_gainOf yX6_gainOf ∈ wsL_law ∧ Cond.initialized RX6 ∈ wsL_law ∧ Cond.code yX6_gainOf cX6_gainOf 6 (some .int) ∈ wsL_law := ⟨(bg 26 1 rfl), (bg 26 2 rfl), (bg 0 2 rfl), (bg 26 3 rfl)⟩
theorem hd_X6_gainOf : yX6_gainOf.cls = RX6 ∧ yX6_gainOf.cls ≠ "java/lang/invoke/MethodHandle" ∧ yX6_gainOf.cls ≠ "java/lang/invoke/VarHandle" ∧ (parseMethodDescriptor yX6_gainOf.desc).map (fun d => d.parameters.length) = some 4 := by decide +kernel
set_option maxRecDepth 100000 in
set_option maxHeartbeats 4000000 in
theorem ct_X6_gainOf (N : Nat) (l : Launch) (G : va_G) (cI cZ cO : ClassId) (q : Nat → Nat) (A : Nat → Nat → Int32) (L : Int64) (rI : Nat → Int32) (rA : Nat → Nat → Int32) (tI : Nat → Int32) (tA : Nat → Nat → Int32) (dI : Nat → Int32) (dA : Nat → Nat → Int32) (wI : Nat → Int32) (wA : Nat → Nat → Int32) (uI : Nat → Int32) (uA : Nat → Nat → Int32) (aI : Nat → Int32) (aS : Nat → Nat → Int32) (aT : Nat → Nat → Nat → Int32) (eI : Nat → Int32) (eA : Nat → Nat → Int32) (sS : Nat → Nat → Int32) (sT : Nat → Nat → Nat → Int32) (bI : Nat → Int32) (x1 : Int32) (x2 : Int32) (x3 : Int32) (x4 : Int32) (r : Int32) (hf : fX6_gainOf N tI tA wI wA x1 x2 x3 x4 = some r) : RtI l yX6_gainOf cX6_gainOf 6 .int rmX6_gainOf G cI cZ cO [.ref (q 0), .int x1, .int x2, .int x3, .int x4] (wX6 q cI cZ cO A L rI rA tI tA dI dA wI wA uI uA aI aS aT eI eA sS sT bI) r := by
  refine mkRI (by decide) (Nat.le_of_ble_eq_true rfl) ?_
  intro p e s m below meth cd Q hC hP hE fin ls hl
  obtain ⟨hx, hb, hml, hown, hts⟩ := hC
  have hown : s.vm.findClass RX6 = some m.cls := hown
  have hl : lv_has ls 6 [(0, .ref (q 0)), (1, .int x1), (2, .int x2), (3, .int x3), (4, .int x4)] := hl
  unfold fX6_gainOf at hf
  refine lv_aload_n hx hb dX6_gainOf_0 rfl (lv_at hl 0 rfl) ?_
  refine va_get (D := G) (ci := 6) (v := .ref (q 17)) (C := RX6) (T := TX6) (N := 15) hx hb hts inlX6 hown hE.1 hP 0 rfl rfl 3 (by decide) (hts _ (bg 1 1 rfl)) (fun _ h9 => h9) rfl dX6_gainOf_1 ?_
  refine lv_iload_n hx hb dX6_gainOf_4 rfl (lv_at hl 2 rfl) ?_
  obtain ⟨z1, hz1, hf⟩ := bnd hf
  refine x_rdV (C := RX4) (n := 1) (ci := 4) hx hb hml hown hts hE (ct_X4_saidOf N l G cI cZ cO (sh q 17) wI wA x2 z1 hz1) (bg 12 12 rfl) mb_X4_saidOf.1 mb_X4_saidOf.2.1 mb_X4_saidOf.2.2.1 mb_X4_saidOf.2.2.2 hd_X4_saidOf rfl (by decide) (x_cut hP [17, 18, 19, 20] rfl) rfl rfl rfl rfl hl.1 (Nat.le_of_ble_eq_true rfl) ⟨Nat.zero_le _, Nat.zero_le _⟩ dX6_gainOf_5 ?_
  refine lv_istore (lv' := [(5, .int z1), (0, .ref (q 0)), (1, .int x1), (2, .int x2), (3, .int x3), (4, .int x4)]) hx hb dX6_gainOf_8 hl (by decide) rfl (fun ls hl => ?_)
  refine lv_aload_n hx hb dX6_gainOf_10 rfl (lv_at hl 1 rfl) ?_
  refine lv_iload_n hx hb dX6_gainOf_11 rfl (lv_at hl 2 rfl) ?_
  refine lv_iload_n hx hb dX6_gainOf_12 rfl (lv_at hl 3 rfl) ?_
  refine lv_iload hx hb dX6_gainOf_13 (lv_at hl 0 rfl) ?_
  refine lv_iload_n hx hb dX6_gainOf_15 rfl (lv_at hl 4 rfl) ?_
  refine lv_ior hx hb dX6_gainOf_16 ?_
  refine lv_iload hx hb dX6_gainOf_17 (lv_at hl 5 rfl) ?_
  obtain ⟨z2, hz2, hf⟩ := bnd hf
  refine x_rdV (C := RX6) (n := 4) (ci := 6) hx hb hml hown hts hE (ct_X6_coinValueIn N l G cI cZ cO q A L rI rA tI tA dI dA wI wA uI uA aI aS aT eI eA sS sT bI x1 x2 (z1 ||| x3) x4 z2 hz2) (bg 23 18 rfl) mb_X6_coinValueIn.1 mb_X6_coinValueIn.2.1 mb_X6_coinValueIn.2.2.1 mb_X6_coinValueIn.2.2.2 hd_X6_coinValueIn rfl (by decide) hP rfl rfl rfl rfl hl.1 (Nat.le_of_ble_eq_true rfl) ⟨Nat.zero_le _, Nat.zero_le _⟩ dX6_gainOf_19 ?_
  refine lv_aload_n hx hb dX6_gainOf_22 rfl (lv_at hl 1 rfl) ?_
  refine lv_iload_n hx hb dX6_gainOf_23 rfl (lv_at hl 2 rfl) ?_
  refine lv_iload_n hx hb dX6_gainOf_24 rfl (lv_at hl 3 rfl) ?_
  refine lv_iload hx hb dX6_gainOf_25 (lv_at hl 0 rfl) ?_
  refine lv_iload hx hb dX6_gainOf_27 (lv_at hl 5 rfl) ?_
  obtain ⟨z3, hz3, hf⟩ := bnd hf
  refine x_rdV (C := RX6) (n := 4) (ci := 6) hx hb hml hown hts hE (ct_X6_coinValueIn N l G cI cZ cO q A L rI rA tI tA dI dA wI wA uI uA aI aS aT eI eA sS sT bI x1 x2 z1 x4 z3 hz3) (bg 23 18 rfl) mb_X6_coinValueIn.1 mb_X6_coinValueIn.2.1 mb_X6_coinValueIn.2.2.1 mb_X6_coinValueIn.2.2.2 hd_X6_coinValueIn rfl (by decide) hP rfl rfl rfl rfl hl.1 (Nat.le_of_ble_eq_true rfl) ⟨Nat.zero_le _, Nat.zero_le _⟩ dX6_gainOf_29 ?_
  refine lv_isub hx hb dX6_gainOf_32 ?_
  have e9 := Option.some.inj hf
  exact fin 33 ls _ e9 (nar_i _) dX6_gainOf_33
def fX6_thingFigures (N : Nat) (x0 : Int32) : Option (Int32) := some ((10 * (x0 / 6)) + (rem x0 6))
def rmX6_thingFigures : Room := { frames := 0, cells := 0, slots := 0, locals := 0 }
theorem mb_X6_thingFigures : Cond.static yX6_thingFigures ∈ wsL_law ∧ Cond.initialized yX6_thingFigures.cls ∈ wsL_law ∧ Cond.code yX6_thingFigures cX6_thingFigures 1 (some .int) ∈ wsL_law := ⟨(bg 26 10 rfl), (bg 0 2 rfl), (bg 26 11 rfl)⟩
theorem hd_X6_thingFigures : yX6_thingFigures.cls ≠ "java/lang/invoke/MethodHandle" ∧ yX6_thingFigures.cls ≠ "java/lang/invoke/VarHandle" ∧ (parseMethodDescriptor yX6_thingFigures.desc).map (fun d => d.parameters.length) = some 1 := by decide +kernel
set_option maxRecDepth 100000 in
set_option maxHeartbeats 4000000 in
theorem ct_X6_thingFigures (N : Nat) (l : Launch) (G : va_G) (cI cZ cO : ClassId) (x0 : Int32) (r : Int32) (hf : fX6_thingFigures N x0 = some r) : RtI l yX6_thingFigures cX6_thingFigures 1 .int rmX6_thingFigures G cI cZ cO [.int x0] [] r := by
  refine mkRI (by decide) (Nat.le_of_ble_eq_true rfl) ?_
  intro p e s m below meth cd Q hC hP hE fin ls hl
  obtain ⟨hx, hb, hml, hown, hts⟩ := hC
  have hown : s.vm.findClass RX6 = some m.cls := hown
  have hl : lv_has ls 1 [(0, .int x0)] := hl
  unfold fX6_thingFigures at hf
  refine lv_bipush (v := 10) hx hb dX6_thingFigures_0 (by decide) ?_
  refine lv_iload_n hx hb dX6_thingFigures_2 rfl (lv_at hl 0 rfl) ?_
  refine lv_bipush (v := 6) hx hb dX6_thingFigures_3 (by decide) ?_
  refine lv_idiv hx hb dX6_thingFigures_5 (by decide) ?_
  refine lv_imul hx hb dX6_thingFigures_6 ?_
  refine lv_iload_n hx hb dX6_thingFigures_7 rfl (lv_at hl 0 rfl) ?_
  refine lv_bipush (v := 6) hx hb dX6_thingFigures_8 (by decide) ?_
  refine x_irem hx hb dX6_thingFigures_10 (by decide) ?_
  refine lv_iadd hx hb dX6_thingFigures_11 ?_
  have e9 := Option.some.inj hf
  exact fin 12 ls _ e9 (nar_i _) dX6_thingFigures_12
def fX6_offerOneThing_38 (N : Nat) (k_2 : (Nat → Nat → Int32) → (Nat → Int32) → (Nat → Nat → Int32) → (Nat → Int32) → (Nat → Nat → Int32) → (Nat → Int32) → Int32 → Option ((Nat → Int32))) (A : Nat → Nat → Int32) (tI : Nat → Int32) (tA : Nat → Nat → Int32) (wI : Nat → Int32) (wA : Nat → Nat → Int32) (bI : Nat → Int32) (u1 : Int32) : Option ((Nat → Int32)) := k_2 A tI tA wI wA bI (u1 + 1)
def fX6_offerOneThing_2s (N : Nat) (k_2 : (Nat → Nat → Int32) → (Nat → Int32) → (Nat → Nat → Int32) → (Nat → Int32) → (Nat → Nat → Int32) → (Nat → Int32) → Int32 → Option ((Nat → Int32))) (A : Nat → Nat → Int32) (tI : Nat → Int32) (tA : Nat → Nat → Int32) (wI : Nat → Int32) (wA : Nat → Nat → Int32) (bI : Nat → Int32) (u1 : Int32) : Option ((Nat → Int32)) := if 30 ≤ u1 then some bI else (fX6_canSayThing N tI tA wI wA u1).bind fun z2 => if z2 = 0 then fX6_offerOneThing_38 N k_2 A tI tA wI wA bI u1 else (fX6_at N 30 (A 1) u1).bind fun z4 => (fX6_thingFigures N u1).bind fun z5 => (fX1_offer N bI z4 (100 + z5)).bind fun z6 => fX6_offerOneThing_38 N k_2 A tI tA wI wA z6 u1
def fX6_offerOneThing_2 (N : Nat) : Nat → (Nat → Nat → Int32) → (Nat → Int32) → (Nat → Nat → Int32) → (Nat → Int32) → (Nat → Nat → Int32) → (Nat → Int32) → Int32 → Option ((Nat → Int32))
  | 0 => fun _ _ _ _ _ _ _ => none
  | n + 1 => fX6_offerOneThing_2s N (fX6_offerOneThing_2 N n)
def fX6_offerOneThing (N : Nat) (A : Nat → Nat → Int32) (tI : Nat → Int32) (tA : Nat → Nat → Int32) (wI : Nat → Int32) (wA : Nat → Nat → Int32) (bI : Nat → Int32) : Option ((Nat → Int32)) := fX6_offerOneThing_2 N N A tI tA wI wA bI 0
def rmX6_offerOneThing : Room := { frames := 4, cells := 0, slots := 0, locals := 88 }
theorem mb_X6_offerOneThing : Cond.instanceMethod yX6_offerOneThing ∈ wsL_law ∧ Cond.selects RX6 yX6_offerOneThing yX6_offerOneThing ∈ wsL_law ∧ Cond.initialized RX6 ∈ wsL_law ∧ Cond.code yX6_offerOneThing cX6_offerOneThing 2 none ∈ wsL_law := ⟨(bg 26 5 rfl), (bg 26 6 rfl), (bg 0 2 rfl), (bg 26 7 rfl)⟩
theorem hd_X6_offerOneThing : yX6_offerOneThing.cls = RX6 ∧ yX6_offerOneThing.cls ≠ "java/lang/invoke/MethodHandle" ∧ yX6_offerOneThing.cls ≠ "java/lang/invoke/VarHandle" ∧ (parseMethodDescriptor yX6_offerOneThing.desc).map (fun d => d.parameters.length) = some 0 := by decide +kernel
set_option maxRecDepth 100000 in
set_option maxHeartbeats 4000000 in
theorem ct_X6_offerOneThing (N : Nat) (l : Launch) (G : va_G) (cI cZ cO : ClassId) (q : Nat → Nat) (A : Nat → Nat → Int32) (L : Int64) (rI : Nat → Int32) (rA : Nat → Nat → Int32) (tI : Nat → Int32) (tA : Nat → Nat → Int32) (dI : Nat → Int32) (dA : Nat → Nat → Int32) (wI : Nat → Int32) (wA : Nat → Nat → Int32) (uI : Nat → Int32) (uA : Nat → Nat → Int32) (aI : Nat → Int32) (aS : Nat → Nat → Int32) (aT : Nat → Nat → Nat → Int32) (eI : Nat → Int32) (eA : Nat → Nat → Int32) (sS : Nat → Nat → Int32) (sT : Nat → Nat → Nat → Int32) (bI : Nat → Int32) (bIz : Nat → Int32) (hf : fX6_offerOneThing N A tI tA wI wA bI = some bIz) : CtV l yX6_offerOneThing cX6_offerOneThing 2 rmX6_offerOneThing G cI cZ cO [.ref (q 0)] (wX6 q cI cZ cO A L rI rA tI tA dI dA wI wA uI uA aI aS aT eI eA sS sT bI) (wX6 q cI cZ cO A L rI rA tI tA dI dA wI wA uI uA aI aS aT eI eA sS sT bIz) := by
  refine mkCV (by decide) (Nat.le_of_ble_eq_true rfl) ?_
  intro p e s m below meth cd Q Z hC hP hE hD hA fin ls hl
  obtain ⟨hx, hb, hml, hown, hts⟩ := hC
  have hown : s.vm.findClass RX6 = some m.cls := hown
  have hl : lv_has ls 2 [(0, .ref (q 0))] := hl
  have b_38 : ∀ (k_2 : (Nat → Nat → Int32) → (Nat → Int32) → (Nat → Nat → Int32) → (Nat → Int32) → (Nat → Nat → Int32) → (Nat → Int32) → Int32 → Option ((Nat → Int32))) (hk_2 : ∀ (bI : Nat → Int32) (u1 : Int32), ∀ (H : Heap) (locs : List Loc), va_P G vwCl (wX6 q cI cZ cO A L rI rA tI tA dI dA wI wA uI uA aI aS aT eI eA sS sT bI) H → va_D Z (wX6 q cI cZ cO A L rI rA tI tA dI dA wI wA uI uA aI aS aT eI eA sS sT bI) → va_S Z s.heap H locs → ∀ ls : Array Slot, lv_has ls 2 [(0, .ref (q 0)), (1, .int u1)] → k_2 A tI tA wI wA bI u1 = some bIz → W p l e rmX6_offerOneThing s m [.ref (q 0)].toArray below meth cd H locs 0 0 Q (F0 m 2 ls [])), ∀ (bI : Nat → Int32) (u1 : Int32), ∀ (H : Heap) (locs : List Loc), va_P G vwCl (wX6 q cI cZ cO A L rI rA tI tA dI dA wI wA uI uA aI aS aT eI eA sS sT bI) H → va_D Z (wX6 q cI cZ cO A L rI rA tI tA dI dA wI wA uI uA aI aS aT eI eA sS sT bI) → va_S Z s.heap H locs → ∀ ls : Array Slot, lv_has ls 2 [(0, .ref (q 0)), (1, .int u1)] → fX6_offerOneThing_38 N k_2 A tI tA wI wA bI u1 = some bIz → W p l e rmX6_offerOneThing s m [.ref (q 0)].toArray below meth cd H locs 0 0 Q (F0 m 38 ls []) := by
    intro k_2 hk_2 bI u1 H locs hP hD hS ls hl hf
    unfold fX6_offerOneThing_38 at hf
    refine lv_iinc (v := u1 + 1) (lv' := [(1, .int (u1 + 1)), (0, .ref (q 0))]) hx hb dX6_offerOneThing_38 hl (k := 1) rfl rfl (by decide) rfl (fun ls hl => ?_)
    refine lv_goto (tgt := 2) hx hb dX6_offerOneThing_41 (by decide) ?_
    exact hk_2 bI (u1 + 1) H locs hP hD hS ls (lv_sub hl [1, 0] rfl) hf
  have b_2 : ∀ n : Nat, ∀ (bI : Nat → Int32) (u1 : Int32), ∀ (H : Heap) (locs : List Loc), va_P G vwCl (wX6 q cI cZ cO A L rI rA tI tA dI dA wI wA uI uA aI aS aT eI eA sS sT bI) H → va_D Z (wX6 q cI cZ cO A L rI rA tI tA dI dA wI wA uI uA aI aS aT eI eA sS sT bI) → va_S Z s.heap H locs → ∀ ls : Array Slot, lv_has ls 2 [(0, .ref (q 0)), (1, .int u1)] → fX6_offerOneThing_2 N n A tI tA wI wA bI u1 = some bIz → W p l e rmX6_offerOneThing s m [.ref (q 0)].toArray below meth cd H locs 0 0 Q (F0 m 2 ls []) := by
    intro n
    induction n with
    | zero =>
      intro bI u1 H locs hP hD hS ls hl hf
      cases hf
    | succ n hk_2 =>
      intro bI u1 H locs hP hD hS ls hl hf
      replace hf : fX6_offerOneThing_2s N (fX6_offerOneThing_2 N n) A tI tA wI wA bI u1 = some bIz := hf
      generalize fX6_offerOneThing_2 N n = k_2 at hf hk_2
      unfold fX6_offerOneThing_2s at hf
      refine lv_iload_n hx hb dX6_offerOneThing_2 rfl (lv_at hl 1 rfl) ?_
      refine lv_bipush (v := 30) hx hb dX6_offerOneThing_3 (by decide) ?_
      refine lv_icmp_ge (tgt := 44) hx hb dX6_offerOneThing_5 (by decide) (fun c1 => ?_) (fun c1 => ?_)
      · rw [if_pos c1] at hf
        have e9 := Option.some.inj hf
        exact fin H locs 44 ls (by rw [← e9]; exact hP) hS dX6_offerOneThing_44
      · rw [if_neg c1] at hf
        refine lv_aload_n hx hb dX6_offerOneThing_8 rfl (lv_at hl 0 rfl) ?_
        refine lv_iload_n hx hb dX6_offerOneThing_9 rfl (lv_at hl 1 rfl) ?_
        obtain ⟨z2, hz2, hf⟩ := bnd hf
        refine x_rdV (C := RX6) (n := 1) (ci := 6) hx hb hml hown hts hE (ct_X6_canSayThing N l G cI cZ cO q A L rI rA tI tA dI dA wI wA uI uA aI aS aT eI eA sS sT bI u1 z2 hz2) (bg 25 17 rfl) mb_X6_canSayThing.1 mb_X6_canSayThing.2.1 mb_X6_canSayThing.2.2.1 mb_X6_canSayThing.2.2.2 hd_X6_canSayThing rfl (by decide) hP rfl rfl rfl rfl hl.1 (Nat.le_of_ble_eq_true rfl) ⟨Nat.zero_le _, Nat.zero_le _⟩ dX6_offerOneThing_10 ?_
        refine lv_if_eq (tgt := 38) hx hb dX6_offerOneThing_13 (by decide) (fun c3 => ?_) (fun c3 => ?_)
        · rw [if_pos c3] at hf
          exact b_38 k_2 hk_2 bI u1 H locs hP hD hS ls (lv_sub hl [0, 1] rfl) hf
        · rw [if_neg c3] at hf
          refine lv_aload_n hx hb dX6_offerOneThing_16 rfl (lv_at hl 0 rfl) ?_
          refine va_get (D := G) (ci := 6) (v := .ref (q 98)) (C := RX6) (T := TX6) (N := 15) hx hb hts inlX6 hown hE.1 hP 0 rfl rfl 9 (by decide) (hts _ (bg 1 17 rfl)) (fun _ h9 => h9) rfl dX6_offerOneThing_17 ?_
          refine lv_aload_n hx hb dX6_offerOneThing_20 rfl (lv_at hl 0 rfl) ?_
          refine va_get (D := G) (ci := 6) (v := .ref (q 99)) (C := RX6) (T := TX6) (N := 15) hx hb hts inlX6 hown hE.1 hP 0 rfl rfl 10 (by decide) (hts _ (bg 1 19 rfl)) (fun _ h9 => h9) rfl dX6_offerOneThing_21 ?_
          refine lv_iload_n hx hb dX6_offerOneThing_24 rfl (lv_at hl 1 rfl) ?_
          obtain ⟨z4, hz4, hf⟩ := bnd hf
          refine x_rdS (n := 2) hx hb hml hown hts hE (ct_X6_at N l G cI cZ cO (q 99) 30 (A 1) u1 z4 hz4) (bg 26 8 rfl) mb_X6_at.1 mb_X6_at.2.1 mb_X6_at.2.2 hd_X6_at rfl (by decide) (x_cut hP [99] rfl) rfl hl.1 (Nat.le_of_ble_eq_true rfl) ⟨Nat.zero_le _, Nat.zero_le _⟩ dX6_offerOneThing_25 ?_
          refine lv_bipush (v := 100) hx hb dX6_offerOneThing_28 (by decide) ?_
          refine lv_iload_n hx hb dX6_offerOneThing_30 rfl (lv_at hl 1 rfl) ?_
          obtain ⟨z5, hz5, hf⟩ := bnd hf
          refine x_rdS (n := 1) hx hb hml hown hts hE (ct_X6_thingFigures N l G cI cZ cO u1 z5 hz5) (bg 26 9 rfl) mb_X6_thingFigures.1 mb_X6_thingFigures.2.1 mb_X6_thingFigures.2.2 hd_X6_thingFigures rfl (by decide) va_P_nil rfl hl.1 (Nat.le_of_ble_eq_true rfl) ⟨Nat.zero_le _, Nat.zero_le _⟩ dX6_offerOneThing_31 ?_
          refine lv_iadd hx hb dX6_offerOneThing_34 ?_
          obtain ⟨z6, hz6, hf⟩ := bnd hf
          refine x_wrVv (C := RX1) (n := 2) (ci := 1) (ws1 := (wX6 q cI cZ cO A L rI rA tI tA dI dA wI wA uI uA aI aS aT eI eA sS sT z6)) hx hb hml hown hts hE (ct_X1_offer N l G cI cZ cO (sh q 98) bI z4 (100 + z5) z6 hz6) (bg 24 19 rfl) mb_X1_offer.1 mb_X1_offer.2.1 mb_X1_offer.2.2.1 mb_X1_offer.2.2.2 hd_X1_offer rfl (by decide) hP hD hS hA [98] [false, false, false, false, false, false, false, false, false, false, false, false, false, false, false, false, false, false, false, false, false, false, false, false, false, false, false, false, false, false, false, false, false, false, false, false, false, false, false, false, false, false, false, false, false, false, false, false, false, false, false, false, false, false, false, false, false, false, false, false, false, false, false, false, false, false, false, false, false, false, false, false, false, false, false, false, false, false, false, false, false, false, false, false, false, false, false, false, false, false, false, false, false, false, false, false, false, false, true, false, false, false, false] (by decide) (by decide +kernel) rfl rfl ⟨rfl, rfl, rfl, rfl, rfl, rfl, rfl, rfl, rfl, rfl, rfl, rfl, rfl, rfl, rfl, rfl, rfl, rfl, rfl, rfl, rfl, rfl, rfl, rfl, rfl, rfl, rfl, rfl, rfl, rfl, rfl, rfl, rfl, rfl, rfl, rfl, rfl, rfl, rfl, rfl, rfl, rfl, rfl, rfl, rfl, rfl, rfl, rfl, rfl, rfl, rfl, rfl, rfl, rfl, rfl, rfl, rfl, rfl, rfl, rfl, rfl, rfl, rfl, rfl, rfl, rfl, rfl, rfl, rfl, rfl, rfl, rfl, rfl, rfl, rfl, rfl, rfl, rfl, rfl, rfl, rfl, rfl, rfl, rfl, rfl, rfl, rfl, rfl, rfl, rfl, rfl, rfl, rfl, rfl, rfl, rfl, rfl, rfl, rfl, rfl, rfl, rfl, rfl, trivial⟩ rfl rfl rfl rfl hl.1 (Nat.le_of_ble_eq_true rfl) ⟨Nat.zero_le _, Nat.zero_le _⟩ dX6_offerOneThing_35 (fun H locs hP hD hS => ?_)
          exact b_38 k_2 hk_2 z6 u1 H locs hP hD hS ls (lv_sub hl [0, 1] rfl) hf
  unfold fX6_offerOneThing at hf
  have hS : va_S Z s.heap s.heap [] := va_S.rf
  obtain ⟨H, hH⟩ : ∃ H, H = s.heap := ⟨_, rfl⟩
  obtain ⟨locs, hlocs⟩ : ∃ locs : List Loc, locs = [] := ⟨_, rfl⟩
  rw [← hlocs]
  rw [← hlocs] at hS
  suffices hW : ∀ H : Heap, va_P G vwCl (wX6 q cI cZ cO A L rI rA tI tA dI dA wI wA uI uA aI aS aT eI eA sS sT bI) H → va_S Z s.heap H locs → W p l e rmX6_offerOneThing s m [.ref (q 0)].toArray below meth cd H locs 0 0 Q (F0 m 0 ls []) from hW s.heap hP hS
  clear hP hS hH H
  intro H hP hS
  refine lv_iconst (v := 0) hx hb dX6_offerOneThing_0 (by decide) ?_
  refine lv_istore_n (lv' := [(1, .int 0), (0, .ref (q 0))]) hx hb dX6_offerOneThing_1 rfl hl (by decide) rfl (fun ls hl => ?_)
  exact b_2 N bI 0 H locs hP hD hS ls (lv_sub hl [1, 0] rfl) hf
def fX6_offerTwoThings_124 (N : Nat) (k_2 : (Nat → Nat → Int32) → (Nat → Int32) → (Nat → Nat → Int32) → (Nat → Int32) → (Nat → Nat → Int32) → (Nat → Int32) → Int32 → Int32 → Int32 → Option ((Nat → Int32))) (A : Nat → Nat → Int32) (tI : Nat → Int32) (tA : Nat → Nat → Int32) (wI : Nat → Int32) (wA : Nat → Nat → Int32) (bI : Nat → Int32) (u1 : Int32) (u2 : Int32) (u3 : Int32) : Option ((Nat → Int32)) := k_2 A tI tA wI wA bI u1 u2 (u3 + 1)
def fX6_offerTwoThings_118 (N : Nat) (k_2 : (Nat → Nat → Int32) → (Nat → Int32) → (Nat → Nat → Int32) → (Nat → Int32) → (Nat → Nat → Int32) → (Nat → Int32) → Int32 → Int32 → Int32 → Option ((Nat → Int32))) (k_13 : (Nat → Nat → Int32) → (Nat → Int32) → (Nat → Nat → Int32) → (Nat → Int32) → (Nat → Nat → Int32) → (Nat → Int32) → Int32 → Int32 → Int32 → Int32 → Option ((Nat → Int32))) (A : Nat → Nat → Int32) (tI : Nat → Int32) (tA : Nat → Nat → Int32) (wI : Nat → Int32) (wA : Nat → Nat → Int32) (bI : Nat → Int32) (u1 : Int32) (u2 : Int32) (u3 : Int32) (u4 : Int32) : Option ((Nat → Int32)) := k_13 A tI tA wI wA bI u1 u2 u3 (u4 + 1)
def fX6_offerTwoThings_90 (N : Nat) (k_2 : (Nat → Nat → Int32) → (Nat → Int32) → (Nat → Nat → Int32) → (Nat → Int32) → (Nat → Nat → Int32) → (Nat → Int32) → Int32 → Int32 → Int32 → Option ((Nat → Int32))) (k_13 : (Nat → Nat → Int32) → (Nat → Int32) → (Nat → Nat → Int32) → (Nat → Int32) → (Nat → Nat → Int32) → (Nat → Int32) → Int32 → Int32 → Int32 → Int32 → Option ((Nat → Int32))) (A : Nat → Nat → Int32) (tI : Nat → Int32) (tA : Nat → Nat → Int32) (wI : Nat → Int32) (wA : Nat → Nat → Int32) (bI : Nat → Int32) (u1 : Int32) (u2 : Int32) (u3 : Int32) (u4 : Int32) (y0 : Int32) : Option ((Nat → Int32)) := (fX6_thingFigures N u3).bind fun z1 => (fX6_thingFigures N u4).bind fun z2 => (fX1_offer N bI y0 ((10000 + (100 * z1)) + z2)).bind fun z3 => fX6_offerTwoThings_118 N k_2 k_13 A tI tA wI wA z3 u1 u2 u3 u4
def fX6_offerTwoThings_13s (N : Nat) (k_2 : (Nat → Nat → Int32) → (Nat → Int32) → (Nat → Nat → Int32) → (Nat → Int32) → (Nat → Nat → Int32) → (Nat → Int32) → Int32 → Int32 → Int32 → Option ((Nat → Int32))) (k_13 : (Nat → Nat → Int32) → (Nat → Int32) → (Nat → Nat → Int32) → (Nat → Int32) → (Nat → Nat → Int32) → (Nat → Int32) → Int32 → Int32 → Int32 → Int32 → Option ((Nat → Int32))) (A : Nat → Nat → Int32) (tI : Nat → Int32) (tA : Nat → Nat → Int32) (wI : Nat → Int32) (wA : Nat → Nat → Int32) (bI : Nat → Int32) (u1 : Int32) (u2 : Int32) (u3 : Int32) (u4 : Int32) : Option ((Nat → Int32)) := if 30 ≤ u4 then fX6_offerTwoThings_124 N k_2 A tI tA wI wA bI u1 u2 u3 else (fX6_canSayThing N tI tA wI wA u3).bind fun z2 => if z2 = 0 then fX6_offerTwoThings_124 N k_2 A tI tA wI wA bI u1 u2 u3 else (fX6_canSayThing N tI tA wI wA u4).bind fun z4 => if z4 = 0 then fX6_offerTwoThings_118 N k_2 k_13 A tI tA wI wA bI u1 u2 u3 u4 else if (u3 / 6) = (u4 / 6) then (fX6_thingBit N u3).bind fun z9 => (fX6_thingBit N u4).bind fun z10 => (fX6_gainOf N tI tA wI wA u1 (u3 / 6) (z9 ||| z10) u2).bind fun z11 => fX6_offerTwoThings_90 N k_2 k_13 A tI tA wI wA bI u1 u2 u3 u4 z11 else (fX6_at N 30 (A 1) u3).bind fun z7 => (fX6_at N 30 (A 1) u4).bind fun z8 => fX6_offerTwoThings_90 N k_2 k_13 A tI tA wI wA bI u1 u2 u3 u4 (z7 + z8)
def fX6_offerTwoThings_13 (N : Nat) (k_2 : (Nat → Nat → Int32) → (Nat → Int32) → (Nat → Nat → Int32) → (Nat → Int32) → (Nat → Nat → Int32) → (Nat → Int32) → Int32 → Int32 → Int32 → Option ((Nat → Int32))) : Nat → (Nat → Nat → Int32) → (Nat → Int32) → (Nat → Nat → Int32) → (Nat → Int32) → (Nat → Nat → Int32) → (Nat → Int32) → Int32 → Int32 → Int32 → Int32 → Option ((Nat → Int32))
  | 0 => fun _ _ _ _ _ _ _ _ _ _ => none
  | n + 1 => fX6_offerTwoThings_13s N k_2 (fX6_offerTwoThings_13 N k_2 n)
def fX6_offerTwoThings_2s (N : Nat) (k_2 : (Nat → Nat → Int32) → (Nat → Int32) → (Nat → Nat → Int32) → (Nat → Int32) → (Nat → Nat → Int32) → (Nat → Int32) → Int32 → Int32 → Int32 → Option ((Nat → Int32))) (A : Nat → Nat → Int32) (tI : Nat → Int32) (tA : Nat → Nat → Int32) (wI : Nat → Int32) (wA : Nat → Nat → Int32) (bI : Nat → Int32) (u1 : Int32) (u2 : Int32) (u3 : Int32) : Option ((Nat → Int32)) := if 30 ≤ u3 then some bI else fX6_offerTwoThings_13 N k_2 N A tI tA wI wA bI u1 u2 u3 (u3 + 1)
def fX6_offerTwoThings_2 (N : Nat) : Nat → (Nat → Nat → Int32) → (Nat → Int32) → (Nat → Nat → Int32) → (Nat → Int32) → (Nat → Nat → Int32) → (Nat → Int32) → Int32 → Int32 → Int32 → Option ((Nat → Int32))
  | 0 => fun _ _ _ _ _ _ _ _ _ => none
  | n + 1 => fX6_offerTwoThings_2s N (fX6_offerTwoThings_2 N n)
def fX6_offerTwoThings (N : Nat) (A : Nat → Nat → Int32) (tI : Nat → Int32) (tA : Nat → Nat → Int32) (wI : Nat → Int32) (wA : Nat → Nat → Int32) (bI : Nat → Int32) (x1 : Int32) (x2 : Int32) : Option ((Nat → Int32)) := fX6_offerTwoThings_2 N N A tI tA wI wA bI x1 x2 0
def rmX6_offerTwoThings : Room := { frames := 5, cells := 0, slots := 0, locals := 139 }
theorem mb_X6_offerTwoThings : Cond.instanceMethod yX6_offerTwoThings ∈ wsL_law ∧ Cond.selects RX6 yX6_offerTwoThings yX6_offerTwoThings ∈ wsL_law ∧ Cond.initialized RX6 ∈ wsL_law ∧ Cond.code yX6_offerTwoThings cX6_offerTwoThings 6 none ∈ wsL_law := ⟨(bg 26 13 rfl), (bg 26 14 rfl), (bg 0 2 rfl), (bg 26 15 rfl)⟩
theorem hd_X6_offerTwoThings : yX6_offerTwoThings.cls = RX6 ∧ yX6_offerTwoThings.cls ≠ "java/lang/invoke/MethodHandle" ∧ yX6_offerTwoThings.cls ≠ "java/lang/invoke/VarHandle" ∧ (parseMethodDescriptor yX6_offerTwoThings.desc).map (fun d => d.parameters.length) = some 2 := by decide +kernel
set_option maxRecDepth 100000 in
set_option maxHeartbeats 4000000 in
theorem ct_X6_offerTwoThings (N : Nat) (l : Launch) (G : va_G) (cI cZ cO : ClassId) (q : Nat → Nat) (A : Nat → Nat → Int32) (L : Int64) (rI : Nat → Int32) (rA : Nat → Nat → Int32) (tI : Nat → Int32) (tA : Nat → Nat → Int32) (dI : Nat → Int32) (dA : Nat → Nat → Int32) (wI : Nat → Int32) (wA : Nat → Nat → Int32) (uI : Nat → Int32) (uA : Nat → Nat → Int32) (aI : Nat → Int32) (aS : Nat → Nat → Int32) (aT : Nat → Nat → Nat → Int32) (eI : Nat → Int32) (eA : Nat → Nat → Int32) (sS : Nat → Nat → Int32) (sT : Nat → Nat → Nat → Int32) (bI : Nat → Int32) (x1 : Int32) (x2 : Int32) (bIz : Nat → Int32) (hf : fX6_offerTwoThings N A tI tA wI wA bI x1 x2 = some bIz) : CtV l yX6_offerTwoThings cX6_offerTwoThings 6 rmX6_offerTwoThings G cI cZ cO [.ref (q 0), .int x1, .int x2] (wX6 q cI cZ cO A L rI rA tI tA dI dA wI wA uI uA aI aS aT eI eA sS sT bI) (wX6 q cI cZ cO A L rI rA tI tA dI dA wI wA uI uA aI aS aT eI eA sS sT bIz) := by
  refine mkCV (by decide) (Nat.le_of_ble_eq_true rfl) ?_
  intro p e s m below meth cd Q Z hC hP hE hD hA fin ls hl
  obtain ⟨hx, hb, hml, hown, hts⟩ := hC
  have hown : s.vm.findClass RX6 = some m.cls := hown
  have hl : lv_has ls 6 [(0, .ref (q 0)), (1, .int x1), (2, .int x2)] := hl
  have b_124 : ∀ (k_2 : (Nat → Nat → Int32) → (Nat → Int32) → (Nat → Nat → Int32) → (Nat → Int32) → (Nat → Nat → Int32) → (Nat → Int32) → Int32 → Int32 → Int32 → Option ((Nat → Int32))) (hk_2 : ∀ (bI : Nat → Int32) (u1 : Int32) (u2 : Int32) (u3 : Int32), ∀ (H : Heap) (locs : List Loc), va_P G vwCl (wX6 q cI cZ cO A L rI rA tI tA dI dA wI wA uI uA aI aS aT eI eA sS sT bI) H → va_D Z (wX6 q cI cZ cO A L rI rA tI tA dI dA wI wA uI uA aI aS aT eI eA sS sT bI) → va_S Z s.heap H locs → ∀ ls : Array Slot, lv_has ls 6 [(0, .ref (q 0)), (1, .int u1), (2, .int u2), (3, .int u3)] → k_2 A tI tA wI wA bI u1 u2 u3 = some bIz → W p l e rmX6_offerTwoThings s m [.ref (q 0), .int x1, .int x2].toArray below meth cd H locs 0 0 Q (F0 m 2 ls [])), ∀ (bI : Nat → Int32) (u1 : Int32) (u2 : Int32) (u3 : Int32), ∀ (H : Heap) (locs : List Loc), va_P G vwCl (wX6 q cI cZ cO A L rI rA tI tA dI dA wI wA uI uA aI aS aT eI eA sS sT bI) H → va_D Z (wX6 q cI cZ cO A L rI rA tI tA dI dA wI wA uI uA aI aS aT eI eA sS sT bI) → va_S Z s.heap H locs → ∀ ls : Array Slot, lv_has ls 6 [(0, .ref (q 0)), (1, .int u1), (2, .int u2), (3, .int u3)] → fX6_offerTwoThings_124 N k_2 A tI tA wI wA bI u1 u2 u3 = some bIz → W p l e rmX6_offerTwoThings s m [.ref (q 0), .int x1, .int x2].toArray below meth cd H locs 0 0 Q (F0 m 124 ls []) := by
    intro k_2 hk_2 bI u1 u2 u3 H locs hP hD hS ls hl hf
    unfold fX6_offerTwoThings_124 at hf
    refine lv_iinc (v := u3 + 1) (lv' := [(3, .int (u3 + 1)), (0, .ref (q 0)), (1, .int u1), (2, .int u2)]) hx hb dX6_offerTwoThings_124 hl (k := 3) rfl rfl (by decide) rfl (fun ls hl => ?_)
    refine lv_goto (tgt := 2) hx hb dX6_offerTwoThings_127 (by decide) ?_
    exact hk_2 bI u1 u2 (u3 + 1) H locs hP hD hS ls (lv_sub hl [1, 2, 3, 0] rfl) hf
  have b_118 : ∀ (k_2 : (Nat → Nat → Int32) → (Nat → Int32) → (Nat → Nat → Int32) → (Nat → Int32) → (Nat → Nat → Int32) → (Nat → Int32) → Int32 → Int32 → Int32 → Option ((Nat → Int32))) (hk_2 : ∀ (bI : Nat → Int32) (u1 : Int32) (u2 : Int32) (u3 : Int32), ∀ (H : Heap) (locs : List Loc), va_P G vwCl (wX6 q cI cZ cO A L rI rA tI tA dI dA wI wA uI uA aI aS aT eI eA sS sT bI) H → va_D Z (wX6 q cI cZ cO A L rI rA tI tA dI dA wI wA uI uA aI aS aT eI eA sS sT bI) → va_S Z s.heap H locs → ∀ ls : Array Slot, lv_has ls 6 [(0, .ref (q 0)), (1, .int u1), (2, .int u2), (3, .int u3)] → k_2 A tI tA wI wA bI u1 u2 u3 = some bIz → W p l e rmX6_offerTwoThings s m [.ref (q 0), .int x1, .int x2].toArray below meth cd H locs 0 0 Q (F0 m 2 ls [])), ∀ (k_13 : (Nat → Nat → Int32) → (Nat → Int32) → (Nat → Nat → Int32) → (Nat → Int32) → (Nat → Nat → Int32) → (Nat → Int32) → Int32 → Int32 → Int32 → Int32 → Option ((Nat → Int32))) (hk_13 : ∀ (bI : Nat → Int32) (u1 : Int32) (u2 : Int32) (u3 : Int32) (u4 : Int32), ∀ (H : Heap) (locs : List Loc), va_P G vwCl (wX6 q cI cZ cO A L rI rA tI tA dI dA wI wA uI uA aI aS aT eI eA sS sT bI) H → va_D Z (wX6 q cI cZ cO A L rI rA tI tA dI dA wI wA uI uA aI aS aT eI eA sS sT bI) → va_S Z s.heap H locs → ∀ ls : Array Slot, lv_has ls 6 [(0, .ref (q 0)), (1, .int u1), (2, .int u2), (3, .int u3), (4, .int u4)] → k_13 A tI tA wI wA bI u1 u2 u3 u4 = some bIz → W p l e rmX6_offerTwoThings s m [.ref (q 0), .int x1, .int x2].toArray below meth cd H locs 0 0 Q (F0 m 13 ls [])), ∀ (bI : Nat → Int32) (u1 : Int32) (u2 : Int32) (u3 : Int32) (u4 : Int32), ∀ (H : Heap) (locs : List Loc), va_P G vwCl (wX6 q cI cZ cO A L rI rA tI tA dI dA wI wA uI uA aI aS aT eI eA sS sT bI) H → va_D Z (wX6 q cI cZ cO A L rI rA tI tA dI dA wI wA uI uA aI aS aT eI eA sS sT bI) → va_S Z s.heap H locs → ∀ ls : Array Slot, lv_has ls 6 [(0, .ref (q 0)), (1, .int u1), (2, .int u2), (3, .int u3), (4, .int u4)] → fX6_offerTwoThings_118 N k_2 k_13 A tI tA wI wA bI u1 u2 u3 u4 = some bIz → W p l e rmX6_offerTwoThings s m [.ref (q 0), .int x1, .int x2].toArray below meth cd H locs 0 0 Q (F0 m 118 ls []) := by
    intro k_2 hk_2 k_13 hk_13 bI u1 u2 u3 u4 H locs hP hD hS ls hl hf
    unfold fX6_offerTwoThings_118 at hf
    refine lv_iinc (v := u4 + 1) (lv' := [(4, .int (u4 + 1)), (0, .ref (q 0)), (1, .int u1), (2, .int u2), (3, .int u3)]) hx hb dX6_offerTwoThings_118 hl (k := 4) rfl rfl (by decide) rfl (fun ls hl => ?_)
    refine lv_goto (tgt := 13) hx hb dX6_offerTwoThings_121 (by decide) ?_
    exact hk_13 bI u1 u2 u3 (u4 + 1) H locs hP hD hS ls (lv_sub hl [1, 2, 3, 4, 0] rfl) hf
  have b_90 : ∀ (k_2 : (Nat → Nat → Int32) → (Nat → Int32) → (Nat → Nat → Int32) → (Nat → Int32) → (Nat → Nat → Int32) → (Nat → Int32) → Int32 → Int32 → Int32 → Option ((Nat → Int32))) (hk_2 : ∀ (bI : Nat → Int32) (u1 : Int32) (u2 : Int32) (u3 : Int32), ∀ (H : Heap) (locs : List Loc), va_P G vwCl (wX6 q cI cZ cO A L rI rA tI tA dI dA wI wA uI uA aI aS aT eI eA sS sT bI) H → va_D Z (wX6 q cI cZ cO A L rI rA tI tA dI dA wI wA uI uA aI aS aT eI eA sS sT bI) → va_S Z s.heap H locs → ∀ ls : Array Slot, lv_has ls 6 [(0, .ref (q 0)), (1, .int u1), (2, .int u2), (3, .int u3)] → k_2 A tI tA wI wA bI u1 u2 u3 = some bIz → W p l e rmX6_offerTwoThings s m [.ref (q 0), .int x1, .int x2].toArray below meth cd H locs 0 0 Q (F0 m 2 ls [])), ∀ (k_13 : (Nat → Nat → Int32) → (Nat → Int32) → (Nat → Nat → Int32) → (Nat → Int32) → (Nat → Nat → Int32) → (Nat → Int32) → Int32 → Int32 → Int32 → Int32 → Option ((Nat → Int32))) (hk_13 : ∀ (bI : Nat → Int32) (u1 : Int32) (u2 : Int32) (u3 : Int32) (u4 : Int32), ∀ (H : Heap) (locs : List Loc), va_P G vwCl (wX6 q cI cZ cO A L rI rA tI tA dI dA wI wA uI uA aI aS aT eI eA sS sT bI) H → va_D Z (wX6 q cI cZ cO A L rI rA tI tA dI dA wI wA uI uA aI aS aT eI eA sS sT bI) → va_S Z s.heap H locs → ∀ ls : Array Slot, lv_has ls 6 [(0, .ref (q 0)), (1, .int u1), (2, .int u2), (3, .int u3), (4, .int u4)] → k_13 A tI tA wI wA bI u1 u2 u3 u4 = some bIz → W p l e rmX6_offerTwoThings s m [.ref (q 0), .int x1, .int x2].toArray below meth cd H locs 0 0 Q (F0 m 13 ls [])), ∀ (bI : Nat → Int32) (u1 : Int32) (u2 : Int32) (u3 : Int32) (u4 : Int32) (y0 : Int32), ∀ (H : Heap) (locs : List Loc), va_P G vwCl (wX6 q cI cZ cO A L rI rA tI tA dI dA wI wA uI uA aI aS aT eI eA sS sT bI) H → va_D Z (wX6 q cI cZ cO A L rI rA tI tA dI dA wI wA uI uA aI aS aT eI eA sS sT bI) → va_S Z s.heap H locs → ∀ ls : Array Slot, lv_has ls 6 [(0, .ref (q 0)), (1, .int u1), (2, .int u2), (3, .int u3), (4, .int u4)] → fX6_offerTwoThings_90 N k_2 k_13 A tI tA wI wA bI u1 u2 u3 u4 y0 = some bIz → W p l e rmX6_offerTwoThings s m [.ref (q 0), .int x1, .int x2].toArray below meth cd H locs 0 0 Q (F0 m 90 ls [.int y0]) := by
    intro k_2 hk_2 k_13 hk_13 bI u1 u2 u3 u4 y0 H locs hP hD hS ls hl hf
    unfold fX6_offerTwoThings_90 at hf
    refine lv_istore (lv' := [(5, .int y0), (0, .ref (q 0)), (1, .int u1), (2, .int u2), (3, .int u3), (4, .int u4)]) hx hb dX6_offerTwoThings_90 hl (by decide) rfl (fun ls hl => ?_)
    refine lv_aload_n hx hb dX6_offerTwoThings_92 rfl (lv_at hl 1 rfl) ?_
    refine va_get (D := G) (ci := 6) (v := .ref (q 98)) (C := RX6) (T := TX6) (N := 15) hx hb hts inlX6 hown hE.1 hP 0 rfl rfl 9 (by decide) (hts _ (bg 1 17 rfl)) (fun _ h9 => h9) rfl dX6_offerTwoThings_93 ?_
    refine lv_iload hx hb dX6_offerTwoThings_96 (lv_at hl 0 rfl) ?_
    refine lv_sipush (v := 10000) hx hb dX6_offerTwoThings_98 (by decide) ?_
    refine lv_bipush (v := 100) hx hb dX6_offerTwoThings_101 (by decide) ?_
    refine lv_iload_n hx hb dX6_offerTwoThings_103 rfl (lv_at hl 4 rfl) ?_
    obtain ⟨z1, hz1, hf⟩ := bnd hf
    refine x_rdS (n := 1) hx hb hml hown hts hE (ct_X6_thingFigures N l G cI cZ cO u3 z1 hz1) (bg 26 9 rfl) mb_X6_thingFigures.1 mb_X6_thingFigures.2.1 mb_X6_thingFigures.2.2 hd_X6_thingFigures rfl (by decide) va_P_nil rfl hl.1 (Nat.le_of_ble_eq_true rfl) ⟨Nat.zero_le _, Nat.zero_le _⟩ dX6_offerTwoThings_104 ?_
    refine lv_imul hx hb dX6_offerTwoThings_107 ?_
    refine lv_iadd hx hb dX6_offerTwoThings_108 ?_
    refine lv_iload hx hb dX6_offerTwoThings_109 (lv_at hl 5 rfl) ?_
    obtain ⟨z2, hz2, hf⟩ := bnd hf
    refine x_rdS (n := 1) hx hb hml hown hts hE (ct_X6_thingFigures N l G cI cZ cO u4 z2 hz2) (bg 26 9 rfl) mb_X6_thingFigures.1 mb_X6_thingFigures.2.1 mb_X6_thingFigures.2.2 hd_X6_thingFigures rfl (by decide) va_P_nil rfl hl.1 (Nat.le_of_ble_eq_true rfl) ⟨Nat.zero_le _, Nat.zero_le _⟩ dX6_offerTwoThings_111 ?_
    refine lv_iadd hx hb dX6_offerTwoThings_114 ?_
    obtain ⟨z3, hz3, hf⟩ := bnd hf
    refine x_wrVv (C := RX1) (n := 2) (ci := 1) (ws1 := (wX6 q cI cZ cO A L rI rA tI tA dI dA wI wA uI uA aI aS aT eI eA sS sT z3)) hx hb hml hown hts hE (ct_X1_offer N l G cI cZ cO (sh q 98) bI y0 ((10000 + (100 * z1)) + z2) z3 hz3) (bg 24 19 rfl) mb_X1_offer.1 mb_X1_offer.2.1 mb_X1_offer.2.2.1 mb_X1_offer.2.2.2 hd_X1_offer rfl (by decide) hP hD hS hA [98] [false, false, false, false, false, false, false, false, false, false, false, false, false, false, false, false, false, false, false, false, false, false, false, false, false, false, false, false, false, false, false, false, false, false, false, false, false, false, false, false, false, false, false, false, false, false, false, false, false, false, false, false, false, false, false, false, false, false, false, false, false, false, false, false, false, false, false, false, false, false, false, false, false, false, false, false, false, false, false, false, false, false, false, false, false, false, false, false, false, false, false, false, false, false, false, false, false, false, true, false, false, false, false] (by decide) (by decide +kernel) rfl rfl ⟨rfl, rfl, rfl, rfl, rfl, rfl, rfl, rfl, rfl, rfl, rfl, rfl, rfl, rfl, rfl, rfl, rfl, rfl, rfl, rfl, rfl, rfl, rfl, rfl, rfl, rfl, rfl, rfl, rfl, rfl, rfl, rfl, rfl, rfl, rfl, rfl, rfl, rfl, rfl, rfl, rfl, rfl, rfl, rfl, rfl, rfl, rfl, rfl, rfl, rfl, rfl, rfl, rfl, rfl, rfl, rfl, rfl, rfl, rfl, rfl, rfl, rfl, rfl, rfl, rfl, rfl, rfl, rfl, rfl, rfl, rfl, rfl, rfl, rfl, rfl, rfl, rfl, rfl, rfl, rfl, rfl, rfl, rfl, rfl, rfl, rfl, rfl, rfl, rfl, rfl, rfl, rfl, rfl, rfl, rfl, rfl, rfl, rfl, rfl, rfl, rfl, rfl, rfl, trivial⟩ rfl rfl rfl rfl hl.1 (Nat.le_of_ble_eq_true rfl) ⟨Nat.zero_le _, Nat.zero_le _⟩ dX6_offerTwoThings_115 (fun H locs hP hD hS => ?_)
    exact b_118 k_2 hk_2 k_13 hk_13 z3 u1 u2 u3 u4 H locs hP hD hS ls (lv_sub hl [1, 2, 3, 4, 5] rfl) hf
  have b_13 : ∀ (k_2 : (Nat → Nat → Int32) → (Nat → Int32) → (Nat → Nat → Int32) → (Nat → Int32) → (Nat → Nat → Int32) → (Nat → Int32) → Int32 → Int32 → Int32 → Option ((Nat → Int32))) (hk_2 : ∀ (bI : Nat → Int32) (u1 : Int32) (u2 : Int32) (u3 : Int32), ∀ (H : Heap) (locs : List Loc), va_P G vwCl (wX6 q cI cZ cO A L rI rA tI tA dI dA wI wA uI uA aI aS aT eI eA sS sT bI) H → va_D Z (wX6 q cI cZ cO A L rI rA tI tA dI dA wI wA uI uA aI aS aT eI eA sS sT bI) → va_S Z s.heap H locs → ∀ ls : Array Slot, lv_has ls 6 [(0, .ref (q 0)), (1, .int u1), (2, .int u2), (3, .int u3)] → k_2 A tI tA wI wA bI u1 u2 u3 = some bIz → W p l e rmX6_offerTwoThings s m [.ref (q 0), .int x1, .int x2].toArray below meth cd H locs 0 0 Q (F0 m 2 ls [])), ∀ n : Nat, ∀ (bI : Nat → Int32) (u1 : Int32) (u2 : Int32) (u3 : Int32) (u4 : Int32), ∀ (H : Heap) (locs : List Loc), va_P G vwCl (wX6 q cI cZ cO A L rI rA tI tA dI dA wI wA uI uA aI aS aT eI eA sS sT bI) H → va_D Z (wX6 q cI cZ cO A L rI rA tI tA dI dA wI wA uI uA aI aS aT eI eA sS sT bI) → va_S Z s.heap H locs → ∀ ls : Array Slot, lv_has ls 6 [(0, .ref (q 0)), (1, .int u1), (2, .int u2), (3, .int u3), (4, .int u4)] → fX6_offerTwoThings_13 N k_2 n A tI tA wI wA bI u1 u2 u3 u4 = some bIz → W p l e rmX6_offerTwoThings s m [.ref (q 0), .int x1, .int x2].toArray below meth cd H locs 0 0 Q (F0 m 13 ls []) := by
    intro k_2 hk_2
    intro n
    induction n with
    | zero =>
      intro bI u1 u2 u3 u4 H locs hP hD hS ls hl hf
      cases hf
    | succ n hk_13 =>
      intro bI u1 u2 u3 u4 H locs hP hD hS ls hl hf
      replace hf : fX6_offerTwoThings_13s N k_2 (fX6_offerTwoThings_13 N k_2 n) A tI tA wI wA bI u1 u2 u3 u4 = some bIz := hf
      generalize fX6_offerTwoThings_13 N k_2 n = k_13 at hf hk_13
      unfold fX6_offerTwoThings_13s at hf
      refine lv_iload hx hb dX6_offerTwoThings_13 (lv_at hl 4 rfl) ?_
      refine lv_bipush (v := 30) hx hb dX6_offerTwoThings_15 (by decide) ?_
      refine lv_icmp_ge (tgt := 124) hx hb dX6_offerTwoThings_17 (by decide) (fun c1 => ?_) (fun c1 => ?_)
      · rw [if_pos c1] at hf
        exact b_124 k_2 hk_2 bI u1 u2 u3 H locs hP hD hS ls (lv_sub hl [0, 1, 2, 3] rfl) hf
      · rw [if_neg c1] at hf
        refine lv_aload_n hx hb dX6_offerTwoThings_20 rfl (lv_at hl 0 rfl) ?_
        refine lv_iload_n hx hb dX6_offerTwoThings_21 rfl (lv_at hl 3 rfl) ?_
        obtain ⟨z2, hz2, hf⟩ := bnd hf
        refine x_rdV (C := RX6) (n := 1) (ci := 6) hx hb hml hown hts hE (ct_X6_canSayThing N l G cI cZ cO q A L rI rA tI tA dI dA wI wA uI uA aI aS aT eI eA sS sT bI u3 z2 hz2) (bg 25 17 rfl) mb_X6_canSayThing.1 mb_X6_canSayThing.2.1 mb_X6_canSayThing.2.2.1 mb_X6_canSayThing.2.2.2 hd_X6_canSayThing rfl (by decide) hP rfl rfl rfl rfl hl.1 (Nat.le_of_ble_eq_true rfl) ⟨Nat.zero_le _, Nat.zero_le _⟩ dX6_offerTwoThings_22 ?_
        refine lv_if_eq (tgt := 124) hx hb dX6_offerTwoThings_25 (by decide) (fun c3 => ?_) (fun c3 => ?_)
        · rw [if_pos c3] at hf
          exact b_124 k_2 hk_2 bI u1 u2 u3 H locs hP hD hS ls (lv_sub hl [0, 1, 2, 3] rfl) hf
        · rw [if_neg c3] at hf
          refine lv_aload_n hx hb dX6_offerTwoThings_28 rfl (lv_at hl 0 rfl) ?_
          refine lv_iload hx hb dX6_offerTwoThings_29 (lv_at hl 4 rfl) ?_
          obtain ⟨z4, hz4, hf⟩ := bnd hf
          refine x_rdV (C := RX6) (n := 1) (ci := 6) hx hb hml hown hts hE (ct_X6_canSayThing N l G cI cZ cO q A L rI rA tI tA dI dA wI wA uI uA aI aS aT eI eA sS sT bI u4 z4 hz4) (bg 25 17 rfl) mb_X6_canSayThing.1 mb_X6_canSayThing.2.1 mb_X6_canSayThing.2.2.1 mb_X6_canSayThing.2.2.2 hd_X6_canSayThing rfl (by decide) hP rfl rfl rfl rfl hl.1 (Nat.le_of_ble_eq_true rfl) ⟨Nat.zero_le _, Nat.zero_le _⟩ dX6_offerTwoThings_31 ?_
          refine lv_if_eq (tgt := 118) hx hb dX6_offerTwoThings_34 (by decide) (fun c5 => ?_) (fun c5 => ?_)
          · rw [if_pos c5] at hf
            exact b_118 k_2 hk_2 k_13 hk_13 bI u1 u2 u3 u4 H locs hP hD hS ls (lv_sub hl [0, 1, 2, 3, 4] rfl) hf
          · rw [if_neg c5] at hf
            refine lv_iload_n hx hb dX6_offerTwoThings_37 rfl (lv_at hl 3 rfl) ?_
            refine lv_bipush (v := 6) hx hb dX6_offerTwoThings_38 (by decide) ?_
            refine lv_idiv hx hb dX6_offerTwoThings_40 (by decide) ?_
            refine lv_iload hx hb dX6_offerTwoThings_41 (lv_at hl 4 rfl) ?_
            refine lv_bipush (v := 6) hx hb dX6_offerTwoThings_43 (by decide) ?_
            refine lv_idiv hx hb dX6_offerTwoThings_45 (by decide) ?_
            refine lv_icmp_ne (tgt := 72) hx hb dX6_offerTwoThings_46 (by decide) (fun c6 => ?_) (fun c6 => ?_)
            · rw [if_neg c6] at hf
              refine lv_aload_n hx hb dX6_offerTwoThings_72 rfl (lv_at hl 0 rfl) ?_
              refine va_get (D := G) (ci := 6) (v := .ref (q 99)) (C := RX6) (T := TX6) (N := 15) hx hb hts inlX6 hown hE.1 hP 0 rfl rfl 10 (by decide) (hts _ (bg 1 19 rfl)) (fun _ h9 => h9) rfl dX6_offerTwoThings_73 ?_
              refine lv_iload_n hx hb dX6_offerTwoThings_76 rfl (lv_at hl 3 rfl) ?_
              obtain ⟨z7, hz7, hf⟩ := bnd hf
              refine x_rdS (n := 2) hx hb hml hown hts hE (ct_X6_at N l G cI cZ cO (q 99) 30 (A 1) u3 z7 hz7) (bg 26 8 rfl) mb_X6_at.1 mb_X6_at.2.1 mb_X6_at.2.2 hd_X6_at rfl (by decide) (x_cut hP [99] rfl) rfl hl.1 (Nat.le_of_ble_eq_true rfl) ⟨Nat.zero_le _, Nat.zero_le _⟩ dX6_offerTwoThings_77 ?_
              refine lv_aload_n hx hb dX6_offerTwoThings_80 rfl (lv_at hl 0 rfl) ?_
              refine va_get (D := G) (ci := 6) (v := .ref (q 99)) (C := RX6) (T := TX6) (N := 15) hx hb hts inlX6 hown hE.1 hP 0 rfl rfl 10 (by decide) (hts _ (bg 1 19 rfl)) (fun _ h9 => h9) rfl dX6_offerTwoThings_81 ?_
              refine lv_iload hx hb dX6_offerTwoThings_84 (lv_at hl 4 rfl) ?_
              obtain ⟨z8, hz8, hf⟩ := bnd hf
              refine x_rdS (n := 2) hx hb hml hown hts hE (ct_X6_at N l G cI cZ cO (q 99) 30 (A 1) u4 z8 hz8) (bg 26 8 rfl) mb_X6_at.1 mb_X6_at.2.1 mb_X6_at.2.2 hd_X6_at rfl (by decide) (x_cut hP [99] rfl) rfl hl.1 (Nat.le_of_ble_eq_true rfl) ⟨Nat.zero_le _, Nat.zero_le _⟩ dX6_offerTwoThings_86 ?_
              refine lv_iadd hx hb dX6_offerTwoThings_89 ?_
              exact b_90 k_2 hk_2 k_13 hk_13 bI u1 u2 u3 u4 (z7 + z8) H locs hP hD hS ls (lv_sub hl [0, 1, 2, 3, 4] rfl) hf
            · rw [if_pos c6] at hf
              refine lv_aload_n hx hb dX6_offerTwoThings_49 rfl (lv_at hl 0 rfl) ?_
              refine lv_iload_n hx hb dX6_offerTwoThings_50 rfl (lv_at hl 1 rfl) ?_
              refine lv_iload_n hx hb dX6_offerTwoThings_51 rfl (lv_at hl 3 rfl) ?_
              refine lv_bipush (v := 6) hx hb dX6_offerTwoThings_52 (by decide) ?_
              refine lv_idiv hx hb dX6_offerTwoThings_54 (by decide) ?_
              refine lv_iload_n hx hb dX6_offerTwoThings_55 rfl (lv_at hl 3 rfl) ?_
              obtain ⟨z9, hz9, hf⟩ := bnd hf
              refine x_rdS (n := 1) hx hb hml hown hts hE (ct_X6_thingBit N l G cI cZ cO u3 z9 hz9) (bg 25 21 rfl) mb_X6_thingBit.1 mb_X6_thingBit.2.1 mb_X6_thingBit.2.2 hd_X6_thingBit rfl (by decide) va_P_nil rfl hl.1 (Nat.le_of_ble_eq_true rfl) ⟨Nat.zero_le _, Nat.zero_le _⟩ dX6_offerTwoThings_56 ?_
              refine lv_iload hx hb dX6_offerTwoThings_59 (lv_at hl 4 rfl) ?_
              obtain ⟨z10, hz10, hf⟩ := bnd hf
              refine x_rdS (n := 1) hx hb hml hown hts hE (ct_X6_thingBit N l G cI cZ cO u4 z10 hz10) (bg 25 21 rfl) mb_X6_thingBit.1 mb_X6_thingBit.2.1 mb_X6_thingBit.2.2 hd_X6_thingBit rfl (by decide) va_P_nil rfl hl.1 (Nat.le_of_ble_eq_true rfl) ⟨Nat.zero_le _, Nat.zero_le _⟩ dX6_offerTwoThings_61 ?_
              refine lv_ior hx hb dX6_offerTwoThings_64 ?_
              refine lv_iload_n hx hb dX6_offerTwoThings_65 rfl (lv_at hl 2 rfl) ?_
              obtain ⟨z11, hz11, hf⟩ := bnd hf
              refine x_rdV (C := RX6) (n := 4) (ci := 6) hx hb hml hown hts hE (ct_X6_gainOf N l G cI cZ cO q A L rI rA tI tA dI dA wI wA uI uA aI aS aT eI eA sS sT bI u1 (u3 / 6) (z9 ||| z10) u2 z11 hz11) (bg 26 0 rfl) mb_X6_gainOf.1 mb_X6_gainOf.2.1 mb_X6_gainOf.2.2.1 mb_X6_gainOf.2.2.2 hd_X6_gainOf rfl (by decide) hP rfl rfl rfl rfl hl.1 (Nat.le_of_ble_eq_true rfl) ⟨Nat.zero_le _, Nat.zero_le _⟩ dX6_offerTwoThings_66 ?_
              refine lv_goto (tgt := 90) hx hb dX6_offerTwoThings_69 (by decide) ?_
              exact b_90 k_2 hk_2 k_13 hk_13 bI u1 u2 u3 u4 z11 H locs hP hD hS ls (lv_sub hl [0, 1, 2, 3, 4] rfl) hf
  have b_2 : ∀ n : Nat, ∀ (bI : Nat → Int32) (u1 : Int32) (u2 : Int32) (u3 : Int32), ∀ (H : Heap) (locs : List Loc), va_P G vwCl (wX6 q cI cZ cO A L rI rA tI tA dI dA wI wA uI uA aI aS aT eI eA sS sT bI) H → va_D Z (wX6 q cI cZ cO A L rI rA tI tA dI dA wI wA uI uA aI aS aT eI eA sS sT bI) → va_S Z s.heap H locs → ∀ ls : Array Slot, lv_has ls 6 [(0, .ref (q 0)), (1, .int u1), (2, .int u2), (3, .int u3)] → fX6_offerTwoThings_2 N n A tI tA wI wA bI u1 u2 u3 = some bIz → W p l e rmX6_offerTwoThings s m [.ref (q 0), .int x1, .int x2].toArray below meth cd H locs 0 0 Q (F0 m 2 ls []) := by
    intro n
    induction n with
    | zero =>
      intro bI u1 u2 u3 H locs hP hD hS ls hl hf
      cases hf
    | succ n hk_2 =>
      intro bI u1 u2 u3 H locs hP hD hS ls hl hf
      replace hf : fX6_offerTwoThings_2s N (fX6_offerTwoThings_2 N n) A tI tA wI wA bI u1 u2 u3 = some bIz := hf
      generalize fX6_offerTwoThings_2 N n = k_2 at hf hk_2
      unfold fX6_offerTwoThings_2s at hf
      refine lv_iload_n hx hb dX6_offerTwoThings_2 rfl (lv_at hl 3 rfl) ?_
      refine lv_bipush (v := 30) hx hb dX6_offerTwoThings_3 (by decide) ?_
      refine lv_icmp_ge (tgt := 130) hx hb dX6_offerTwoThings_5 (by decide) (fun c1 => ?_) (fun c1 => ?_)
      · rw [if_pos c1] at hf
        have e9 := Option.some.inj hf
        exact fin H locs 130 ls (by rw [← e9]; exact hP) hS dX6_offerTwoThings_130
      · rw [if_neg c1] at hf
        refine lv_iload_n hx hb dX6_offerTwoThings_8 rfl (lv_at hl 3 rfl) ?_
        refine lv_iconst (v := 1) hx hb dX6_offerTwoThings_9 (by decide) ?_
        refine lv_iadd hx hb dX6_offerTwoThings_10 ?_
        refine lv_istore (lv' := [(4, .int (u3 + 1)), (0, .ref (q 0)), (1, .int u1), (2, .int u2), (3, .int u3)]) hx hb dX6_offerTwoThings_11 hl (by decide) rfl (fun ls hl => ?_)
        exact b_13 k_2 hk_2 N bI u1 u2 u3 (u3 + 1) H locs hP hD hS ls (lv_sub hl [1, 2, 3, 4, 0] rfl) hf
  unfold fX6_offerTwoThings at hf
  have hS : va_S Z s.heap s.heap [] := va_S.rf
  obtain ⟨H, hH⟩ : ∃ H, H = s.heap := ⟨_, rfl⟩
  obtain ⟨locs, hlocs⟩ : ∃ locs : List Loc, locs = [] := ⟨_, rfl⟩
  rw [← hlocs]
  rw [← hlocs] at hS
  suffices hW : ∀ H : Heap, va_P G vwCl (wX6 q cI cZ cO A L rI rA tI tA dI dA wI wA uI uA aI aS aT eI eA sS sT bI) H → va_S Z s.heap H locs → W p l e rmX6_offerTwoThings s m [.ref (q 0), .int x1, .int x2].toArray below meth cd H locs 0 0 Q (F0 m 0 ls []) from hW s.heap hP hS
  clear hP hS hH H
  intro H hP hS
  refine lv_iconst (v := 0) hx hb dX6_offerTwoThings_0 (by decide) ?_
  refine lv_istore_n (lv' := [(3, .int 0), (0, .ref (q 0)), (1, .int x1), (2, .int x2)]) hx hb dX6_offerTwoThings_1 rfl hl (by decide) rfl (fun ls hl => ?_)
  exact b_2 N bI x1 x2 0 H locs hP hD hS ls (lv_sub hl [1, 2, 3, 0] rfl) hf
