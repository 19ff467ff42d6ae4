def fX6_worth (N : Nat) (tI : Nat → Int32) (tA : Nat → Nat → Int32) (wI : Nat → Int32) (wA : Nat → Nat → Int32) (x1 : Int32) (x2 : Int32) : Option (Int32) := (fX5_hasRumour N tI x1).bind fun z1 => if z1 = 0 then some (-1) else (fX6_isOutside N x2 0 8).bind fun z3 => if z3 = 0 then (fX4_saidOf N wA x1).bind fun z5 => (fX6_valueIn N tI tA wI wA x1 z5 x2).bind fun z6 => some z6 else some (-2)
def rmX6_worth : Room := { frames := 5, cells := 0, slots := 0, locals := 116 }
theorem mb_X6_worth : Cond.instanceMethod yX6_worth ∈ wsL_law ∧ Cond.selects RX6 yX6_worth yX6_worth ∈ wsL_law ∧ Cond.initialized RX6 ∈ wsL_law ∧ Cond.code yX6_worth cX6_worth 3 (some .int) ∈ wsL_law := ⟨(bg 22 8 rfl), (bg 22 9 rfl), (bg 0 2 rfl), (bg 22 10 rfl)⟩
theorem hd_X6_worth : yX6_worth.cls = RX6 ∧ yX6_worth.cls ≠ "java/lang/invoke/MethodHandle" ∧ yX6_worth.cls ≠ "java/lang/invoke/VarHandle" ∧ (parseMethodDescriptor yX6_worth.desc).map (fun d => d.parameters.length) = some 2 := by decide +kernel
set_option maxRecDepth 100000 in
set_option maxHeartbeats 4000000 in
theorem ct_X6_worth (N : Nat) (l : Launch) (G : va_G) (cI cZ cO : ClassId) (q : Nat → Nat) (A : Nat → Nat → Int32) (L : Int64) (rI : Nat → Int32) (rA : Nat → Nat → Int32) (tI : Nat → Int32) (tA : Nat → Nat → Int32) (dI : Nat → Int32) (dA : Nat → Nat → Int32) (wI : Nat → Int32) (wA : Nat → Nat → Int32) (uI : Nat → Int32) (uA : Nat → Nat → Int32) (aI : Nat → Int32) (aS : Nat → Nat → Int32) (aT : Nat → Nat → Nat → Int32) (eI : Nat → Int32) (eA : Nat → Nat → Int32) (sS : Nat → Nat → Int32) (sT : Nat → Nat → Nat → Int32) (bI : Nat → Int32) (x1 : Int32) (x2 : Int32) (r : Int32) (hf : fX6_worth N tI tA wI wA x1 x2 = some r) : RtI l yX6_worth cX6_worth 3 .int rmX6_worth G cI cZ cO [.ref (q 0), .int x1, .int x2] (wX6 q cI cZ cO A L rI rA tI tA dI dA wI wA uI uA aI aS aT eI eA sS sT bI) r := by
  refine mkRI (by decide) (Nat.le_of_ble_eq_true rfl) ?_
  intro p e s m below meth cd Q hC hP hE fin ls hl
  obtain ⟨hx, hb, hml, hown, hts⟩ := hC
  have hown : s.vm.findClass RX6 = some m.cls := hown
  have hl : lv_has ls 3 [(0, .ref (q 0)), (1, .int x1), (2, .int x2)] := hl
  unfold fX6_worth at hf
  refine lv_aload_n hx hb dX6_worth_0 rfl (lv_at hl 0 rfl) ?_
  refine va_get (D := G) (ci := 6) (v := .ref (q 3)) (C := RX6) (T := TX6) (N := 15) hx hb hts inlX6 hown hE.1 hP 0 rfl rfl 1 (by decide) (hts _ (bg 0 20 rfl)) (fun _ h9 => h9) rfl dX6_worth_1 ?_
  refine lv_iload_n hx hb dX6_worth_4 rfl (lv_at hl 1 rfl) ?_
  obtain ⟨z1, hz1, hf⟩ := bnd hf
  refine x_rdV (C := RX5) (n := 1) (ci := 5) hx hb hml hown hts hE (ct_X5_hasRumour N l G cI cZ cO (sh q 3) tI tA x1 z1 hz1) (bg 12 7 rfl) mb_X5_hasRumour.1 mb_X5_hasRumour.2.1 mb_X5_hasRumour.2.2.1 mb_X5_hasRumour.2.2.2 hd_X5_hasRumour rfl (by decide) (x_cut hP [3, 4, 5, 6, 7, 8, 9] rfl) rfl rfl rfl rfl hl.1 (Nat.le_of_ble_eq_true rfl) ⟨Nat.zero_le _, Nat.zero_le _⟩ dX6_worth_5 ?_
  refine lv_if_ne (tgt := 13) hx hb dX6_worth_8 (by decide) (fun c2 => ?_) (fun c2 => ?_)
  · rw [if_neg c2] at hf
    refine lv_iload_n hx hb dX6_worth_13 rfl (lv_at hl 2 rfl) ?_
    refine lv_iconst (v := 0) hx hb dX6_worth_14 (by decide) ?_
    refine lv_bipush (v := 8) hx hb dX6_worth_15 (by decide) ?_
    obtain ⟨z3, hz3, hf⟩ := bnd hf
    refine x_rdS (n := 3) hx hb hml hown hts hE (ct_X6_isOutside N l G cI cZ cO x2 0 8 z3 hz3) (bg 4 17 rfl) mb_X6_isOutside.1 mb_X6_isOutside.2.1 mb_X6_isOutside.2.2 hd_X6_isOutside rfl (by decide) va_P_nil rfl hl.1 (Nat.le_of_ble_eq_true rfl) ⟨Nat.zero_le _, Nat.zero_le _⟩ dX6_worth_17 ?_
    refine lv_if_eq (tgt := 26) hx hb dX6_worth_20 (by decide) (fun c4 => ?_) (fun c4 => ?_)
    · rw [if_pos c4] at hf
      refine lv_aload_n hx hb dX6_worth_26 rfl (lv_at hl 0 rfl) ?_
      refine lv_iload_n hx hb dX6_worth_27 rfl (lv_at hl 1 rfl) ?_
      refine lv_aload_n hx hb dX6_worth_28 rfl (lv_at hl 0 rfl) ?_
      refine va_get (D := G) (ci := 6) (v := .ref (q 17)) (C := RX6) (T := TX6) (N := 15) hx hb hts inlX6 hown hE.1 hP 0 rfl rfl 3 (by decide) (hts _ (bg 1 1 rfl)) (fun _ h9 => h9) rfl dX6_worth_29 ?_
      refine lv_iload_n hx hb dX6_worth_32 rfl (lv_at hl 1 rfl) ?_
      obtain ⟨z5, hz5, hf⟩ := bnd hf
      refine x_rdV (C := RX4) (n := 1) (ci := 4) hx hb hml hown hts hE (ct_X4_saidOf N l G cI cZ cO (sh q 17) wI wA x1 z5 hz5) (bg 12 12 rfl) mb_X4_saidOf.1 mb_X4_saidOf.2.1 mb_X4_saidOf.2.2.1 mb_X4_saidOf.2.2.2 hd_X4_saidOf rfl (by decide) (x_cut hP [17, 18, 19, 20] rfl) rfl rfl rfl rfl hl.1 (Nat.le_of_ble_eq_true rfl) ⟨Nat.zero_le _, Nat.zero_le _⟩ dX6_worth_33 ?_
      refine lv_iload_n hx hb dX6_worth_36 rfl (lv_at hl 2 rfl) ?_
      obtain ⟨z6, hz6, hf⟩ := bnd hf
      refine x_rdV (C := RX6) (n := 3) (ci := 6) hx hb hml hown hts hE (ct_X6_valueIn N l G cI cZ cO q A L rI rA tI tA dI dA wI wA uI uA aI aS aT eI eA sS sT bI x1 z5 x2 z6 hz6) (bg 22 11 rfl) mb_X6_valueIn.1 mb_X6_valueIn.2.1 mb_X6_valueIn.2.2.1 mb_X6_valueIn.2.2.2 hd_X6_valueIn rfl (by decide) hP rfl rfl rfl rfl hl.1 (Nat.le_of_ble_eq_true rfl) ⟨Nat.zero_le _, Nat.zero_le _⟩ dX6_worth_37 ?_
      have e9 := Option.some.inj hf
      exact fin 40 ls _ e9 (nar_i _) dX6_worth_40
    · rw [if_neg c4] at hf
      refine lv_bipush (v := (-2)) hx hb dX6_worth_23 (by decide) ?_
      have e9 := Option.some.inj hf
      exact fin 25 ls _ e9 (nar_i _) dX6_worth_25
  · rw [if_pos c2] at hf
    refine lv_iconst (v := (-1)) hx hb dX6_worth_11 (by decide) ?_
    have e9 := Option.some.inj hf
    exact fin 12 ls _ e9 (nar_i _) dX6_worth_12
def fX6_coinValueIn_101 (N : Nat) (tI : Nat → Int32) (tA : Nat → Nat → Int32) (wI : Nat → Int32) (wA : Nat → Nat → Int32) (u2 : Int32) (u4 : Int32) (u5 : Int32) (u7 : Int32) (u8 : Int32) : Option (Int32) := (fX5_valueOn N tI tA ((wI 0) + u4) u2 u8 u5).bind fun z1 => some (u7 * z1)
def fX6_coinValueIn_71 (N : Nat) (k_37 : (Nat → Int32) → (Nat → Nat → Int32) → (Nat → Int32) → (Nat → Nat → Int32) → Int32 → Int32 → Int32 → Int32 → Int32 → Int32 → Int32 → Option (Int32)) (tI : Nat → Int32) (tA : Nat → Nat → Int32) (wI : Nat → Int32) (wA : Nat → Nat → Int32) (u2 : Int32) (u4 : Int32) (u5 : Int32) (u6 : Int32) (u7 : Int32) (u8 : Int32) (u9 : Int32) : Option (Int32) := (fX5_saidAfterDawn N tI tA u2 u8 u5 ((wI 0) + u9)).bind fun z1 => k_37 tI tA wI wA u2 u4 u5 u6 u7 z1 (u9 + 1)
def fX6_coinValueIn_37s (N : Nat) (k_37 : (Nat → Int32) → (Nat → Nat → Int32) → (Nat → Int32) → (Nat → Nat → Int32) → Int32 → Int32 → Int32 → Int32 → Int32 → Int32 → Int32 → Option (Int32)) (tI : Nat → Int32) (tA : Nat → Nat → Int32) (wI : Nat → Int32) (wA : Nat → Nat → Int32) (u2 : Int32) (u4 : Int32) (u5 : Int32) (u6 : Int32) (u7 : Int32) (u8 : Int32) (u9 : Int32) : Option (Int32) := if u4 ≤ u9 then fX6_coinValueIn_101 N tI tA wI wA u2 u4 u5 u7 u8 else if 8 ≤ u9 then fX6_coinValueIn_101 N tI tA wI wA u2 u4 u5 u7 u8 else (fX6_hasBit N u8 u6).bind fun z3 => if z3 = 0 then fX6_coinValueIn_71 N k_37 tI tA wI wA u2 u4 u5 u6 u7 u8 u9 else if 99 ≤ u7 then fX6_coinValueIn_71 N k_37 tI tA wI wA u2 u4 u5 u6 u7 u8 u9 else fX6_coinValueIn_71 N k_37 tI tA wI wA u2 u4 u5 u6 (u7 + 1) u8 u9
def fX6_coinValueIn_37 (N : Nat) : Nat → (Nat → Int32) → (Nat → Nat → Int32) → (Nat → Int32) → (Nat → Nat → Int32) → Int32 → Int32 → Int32 → Int32 → Int32 → Int32 → Int32 → Option (Int32)
  | 0 => fun _ _ _ _ _ _ _ _ _ _ _ => none
  | n + 1 => fX6_coinValueIn_37s N (fX6_coinValueIn_37 N n)
def fX6_coinValueIn (N : Nat) (tI : Nat → Int32) (tA : Nat → Nat → Int32) (wI : Nat → Int32) (wA : Nat → Nat → Int32) (x1 : Int32) (x2 : Int32) (x3 : Int32) (x4 : Int32) : Option (Int32) := (fX4_deniedOf N wA x2).bind fun z1 => (fX5_seatOf N tA x1).bind fun z2 => (fX4_coinsOf N wA x1 x2).bind fun z3 => fX6_coinValueIn_37 N N tI tA wI wA x2 x4 z1 z2 z3 x3 0
def rmX6_coinValueIn : Room := { frames := 3, cells := 0, slots := 0, locals := 85 }
theorem mb_X6_coinValueIn : Cond.instanceMethod yX6_coinValueIn ∈ wsL_law ∧ Cond.selects RX6 yX6_coinValueIn yX6_coinValueIn ∈ wsL_law ∧ Cond.initialized RX6 ∈ wsL_law ∧ Cond.code yX6_coinValueIn cX6_coinValueIn 10 (some .int) ∈ wsL_law := ⟨(bg 23 19 rfl), (bg 23 20 rfl), (bg 0 2 rfl), (bg 23 21 rfl)⟩
theorem hd_X6_coinValueIn : yX6_coinValueIn.cls = RX6 ∧ yX6_coinValueIn.cls ≠ "java/lang/invoke/MethodHandle" ∧ yX6_coinValueIn.cls ≠ "java/lang/invoke/VarHandle" ∧ (parseMethodDescriptor yX6_coinValueIn.desc).map (fun d => d.parameters.length) = some 4 := by decide +kernel
set_option maxRecDepth 100000 in
set_option maxHeartbeats 4000000 in
theorem ct_X6_coinValueIn (N : Nat) (l : Launch) (G : va_G) (cI cZ cO : ClassId) (q : Nat → Nat) (A : Nat → Nat → Int32) (L : Int64) (rI : Nat → Int32) (rA : Nat → Nat → Int32) (tI : Nat → Int32) (tA : Nat → Nat → Int32) (dI : Nat → Int32) (dA : Nat → Nat → Int32) (wI : Nat → Int32) (wA : Nat → Nat → Int32) (uI : Nat → Int32) (uA : Nat → Nat → Int32) (aI : Nat → Int32) (aS : Nat → Nat → Int32) (aT : Nat → Nat → Nat → Int32) (eI : Nat → Int32) (eA : Nat → Nat → Int32) (sS : Nat → Nat → Int32) (sT : Nat → Nat → Nat → Int32) (bI : Nat → Int32) (x1 : Int32) (x2 : Int32) (x3 : Int32) (x4 : Int32) (r : Int32) (hf : fX6_coinValueIn N tI tA wI wA x1 x2 x3 x4 = some r) : RtI l yX6_coinValueIn cX6_coinValueIn 10 .int rmX6_coinValueIn G cI cZ cO [.ref (q 0), .int x1, .int x2, .int x3, .int x4] (wX6 q cI cZ cO A L rI rA tI tA dI dA wI wA uI uA aI aS aT eI eA sS sT bI) r := by
  refine mkRI (by decide) (Nat.le_of_ble_eq_true rfl) ?_
  intro p e s m below meth cd Q hC hP hE fin ls hl
  obtain ⟨hx, hb, hml, hown, hts⟩ := hC
  have hown : s.vm.findClass RX6 = some m.cls := hown
  have hl : lv_has ls 10 [(0, .ref (q 0)), (1, .int x1), (2, .int x2), (3, .int x3), (4, .int x4)] := hl
  have b_101 : ∀ (u2 : Int32) (u4 : Int32) (u5 : Int32) (u7 : Int32) (u8 : Int32), ∀ ls : Array Slot, lv_has ls 10 [(0, .ref (q 0)), (2, .int u2), (4, .int u4), (5, .int u5), (7, .int u7), (8, .int u8)] → fX6_coinValueIn_101 N tI tA wI wA u2 u4 u5 u7 u8 = some r → W p l e rmX6_coinValueIn s m [.ref (q 0), .int x1, .int x2, .int x3, .int x4].toArray below meth cd s.heap [] 0 0 Q (F0 m 101 ls []) := by
    intro u2 u4 u5 u7 u8 ls hl hf
    unfold fX6_coinValueIn_101 at hf
    refine lv_iload hx hb dX6_coinValueIn_101 (lv_at hl 4 rfl) ?_
    refine lv_aload_n hx hb dX6_coinValueIn_103 rfl (lv_at hl 0 rfl) ?_
    refine va_get (D := G) (ci := 6) (v := .ref (q 3)) (C := RX6) (T := TX6) (N := 15) hx hb hts inlX6 hown hE.1 hP 0 rfl rfl 1 (by decide) (hts _ (bg 0 20 rfl)) (fun _ h9 => h9) rfl dX6_coinValueIn_104 ?_
    refine lv_aload_n hx hb dX6_coinValueIn_107 rfl (lv_at hl 0 rfl) ?_
    refine va_get (D := G) (ci := 6) (v := .ref (q 17)) (C := RX6) (T := TX6) (N := 15) hx hb hts inlX6 hown hE.1 hP 0 rfl rfl 3 (by decide) (hts _ (bg 1 1 rfl)) (fun _ h9 => h9) rfl dX6_coinValueIn_108 ?_
    refine va_get (D := G) (ci := 4) (v := .int ((wI 0))) (C := RX4) (T := TX4) (N := 4) hx hb hts inlX4 hown hE.1 hP 17 rfl rfl 3 (by decide) (hts _ (bg 12 6 rfl)) (fun _ h9 => h9) rfl dX6_coinValueIn_111 ?_
    refine lv_iload hx hb dX6_coinValueIn_114 (lv_at hl 2 rfl) ?_
    refine lv_iadd hx hb dX6_coinValueIn_116 ?_
    refine lv_iload_n hx hb dX6_coinValueIn_117 rfl (lv_at hl 1 rfl) ?_
    refine lv_iload hx hb dX6_coinValueIn_118 (lv_at hl 5 rfl) ?_
    refine lv_iload hx hb dX6_coinValueIn_120 (lv_at hl 3 rfl) ?_
    obtain ⟨z1, hz1, hf⟩ := bnd hf
    refine x_rdV (C := RX5) (n := 4) (ci := 5) hx hb hml hown hts hE (ct_X5_valueOn N l G cI cZ cO (sh q 3) tI tA ((wI 0) + u4) u2 u8 u5 z1 hz1) (bg 22 20 rfl) mb_X5_valueOn.1 mb_X5_valueOn.2.1 mb_X5_valueOn.2.2.1 mb_X5_valueOn.2.2.2 hd_X5_valueOn rfl (by decide) (x_cut hP [3, 4, 5, 6, 7, 8, 9] rfl) rfl rfl rfl rfl hl.1 (Nat.le_of_ble_eq_true rfl) ⟨Nat.zero_le _, Nat.zero_le _⟩ dX6_coinValueIn_122 ?_
    refine lv_imul hx hb dX6_coinValueIn_125 ?_
    have e9 := Option.some.inj hf
    exact fin 126 ls _ e9 (nar_i _) dX6_coinValueIn_126
  have b_71 : ∀ (k_37 : (Nat → Int32) → (Nat → Nat → Int32) → (Nat → Int32) → (Nat → Nat → Int32) → Int32 → Int32 → Int32 → Int32 → Int32 → Int32 → Int32 → Option (Int32)) (hk_37 : ∀ (u2 : Int32) (u4 : Int32) (u5 : Int32) (u6 : Int32) (u7 : Int32) (u8 : Int32) (u9 : Int32), ∀ ls : Array Slot, lv_has ls 10 [(0, .ref (q 0)), (2, .int u2), (4, .int u4), (5, .int u5), (6, .int u6), (7, .int u7), (8, .int u8), (9, .int u9)] → k_37 tI tA wI wA u2 u4 u5 u6 u7 u8 u9 = some r → W p l e rmX6_coinValueIn s m [.ref (q 0), .int x1, .int x2, .int x3, .int x4].toArray below meth cd s.heap [] 0 0 Q (F0 m 37 ls [])), ∀ (u2 : Int32) (u4 : Int32) (u5 : Int32) (u6 : Int32) (u7 : Int32) (u8 : Int32) (u9 : Int32), ∀ ls : Array Slot, lv_has ls 10 [(0, .ref (q 0)), (2, .int u2), (4, .int u4), (5, .int u5), (6, .int u6), (7, .int u7), (8, .int u8), (9, .int u9)] → fX6_coinValueIn_71 N k_37 tI tA wI wA u2 u4 u5 u6 u7 u8 u9 = some r → W p l e rmX6_coinValueIn s m [.ref (q 0), .int x1, .int x2, .int x3, .int x4].toArray below meth cd s.heap [] 0 0 Q (F0 m 71 ls []) := by
    intro k_37 hk_37 u2 u4 u5 u6 u7 u8 u9 ls hl hf
    unfold fX6_coinValueIn_71 at hf
    refine lv_aload_n hx hb dX6_coinValueIn_71 rfl (lv_at hl 0 rfl) ?_
    refine va_get (D := G) (ci := 6) (v := .ref (q 3)) (C := RX6) (T := TX6) (N := 15) hx hb hts inlX6 hown hE.1 hP 0 rfl rfl 1 (by decide) (hts _ (bg 0 20 rfl)) (fun _ h9 => h9) rfl dX6_coinValueIn_72 ?_
    refine lv_iload_n hx hb dX6_coinValueIn_75 rfl (lv_at hl 1 rfl) ?_
    refine lv_iload hx hb dX6_coinValueIn_76 (lv_at hl 6 rfl) ?_
    refine lv_iload hx hb dX6_coinValueIn_78 (lv_at hl 3 rfl) ?_
    refine lv_aload_n hx hb dX6_coinValueIn_80 rfl (lv_at hl 0 rfl) ?_
    refine va_get (D := G) (ci := 6) (v := .ref (q 17)) (C := RX6) (T := TX6) (N := 15) hx hb hts inlX6 hown hE.1 hP 0 rfl rfl 3 (by decide) (hts _ (bg 1 1 rfl)) (fun _ h9 => h9) rfl dX6_coinValueIn_81 ?_
    refine va_get (D := G) (ci := 4) (v := .int ((wI 0))) (C := RX4) (T := TX4) (N := 4) hx hb hts inlX4 hown hE.1 hP 17 rfl rfl 3 (by decide) (hts _ (bg 12 6 rfl)) (fun _ h9 => h9) rfl dX6_coinValueIn_84 ?_
    refine lv_iload hx hb dX6_coinValueIn_87 (lv_at hl 7 rfl) ?_
    refine lv_iadd hx hb dX6_coinValueIn_89 ?_
    obtain ⟨z1, hz1, hf⟩ := bnd hf
    refine x_rdV (C := RX5) (n := 4) (ci := 5) hx hb hml hown hts hE (ct_X5_saidAfterDawn N l G cI cZ cO (sh q 3) tI tA u2 u8 u5 ((wI 0) + u9) z1 hz1) (bg 22 19 rfl) mb_X5_saidAfterDawn.1 mb_X5_saidAfterDawn.2.1 mb_X5_saidAfterDawn.2.2.1 mb_X5_saidAfterDawn.2.2.2 hd_X5_saidAfterDawn rfl (by decide) (x_cut hP [3, 4, 5, 6, 7, 8, 9] rfl) rfl rfl rfl rfl hl.1 (Nat.le_of_ble_eq_true rfl) ⟨Nat.zero_le _, Nat.zero_le _⟩ dX6_coinValueIn_90 ?_
    refine lv_istore (lv' := [(8, .int z1), (0, .ref (q 0)), (2, .int u2), (4, .int u4), (5, .int u5), (6, .int u6), (7, .int u7), (9, .int u9)]) hx hb dX6_coinValueIn_93 hl (by decide) rfl (fun ls hl => ?_)
    refine lv_iinc (v := u9 + 1) (lv' := [(9, .int (u9 + 1)), (8, .int z1), (0, .ref (q 0)), (2, .int u2), (4, .int u4), (5, .int u5), (6, .int u6), (7, .int u7)]) hx hb dX6_coinValueIn_95 hl (k := 7) rfl rfl (by decide) rfl (fun ls hl => ?_)
    refine lv_goto (tgt := 37) hx hb dX6_coinValueIn_98 (by decide) ?_
    exact hk_37 u2 u4 u5 u6 u7 z1 (u9 + 1) ls (lv_sub hl [2, 3, 4, 5, 6, 7, 1, 0] rfl) hf
  have b_37 : ∀ n : Nat, ∀ (u2 : Int32) (u4 : Int32) (u5 : Int32) (u6 : Int32) (u7 : Int32) (u8 : Int32) (u9 : Int32), ∀ ls : Array Slot, lv_has ls 10 [(0, .ref (q 0)), (2, .int u2), (4, .int u4), (5, .int u5), (6, .int u6), (7, .int u7), (8, .int u8), (9, .int u9)] → fX6_coinValueIn_37 N n tI tA wI wA u2 u4 u5 u6 u7 u8 u9 = some r → W p l e rmX6_coinValueIn s m [.ref (q 0), .int x1, .int x2, .int x3, .int x4].toArray below meth cd s.heap [] 0 0 Q (F0 m 37 ls []) := by
    intro n
    induction n with
    | zero =>
      intro u2 u4 u5 u6 u7 u8 u9 ls hl hf
      cases hf
    | succ n hk_37 =>
      intro u2 u4 u5 u6 u7 u8 u9 ls hl hf
      replace hf : fX6_coinValueIn_37s N (fX6_coinValueIn_37 N n) tI tA wI wA u2 u4 u5 u6 u7 u8 u9 = some r := hf
      generalize fX6_coinValueIn_37 N n = k_37 at hf hk_37
      unfold fX6_coinValueIn_37s at hf
      refine lv_iload hx hb dX6_coinValueIn_37 (lv_at hl 7 rfl) ?_
      refine lv_iload hx hb dX6_coinValueIn_39 (lv_at hl 2 rfl) ?_
      refine lv_icmp_ge (tgt := 101) hx hb dX6_coinValueIn_41 (by decide) (fun c1 => ?_) (fun c1 => ?_)
      · rw [if_pos c1] at hf
        exact b_101 u2 u4 u5 u7 u8 ls (lv_sub hl [0, 1, 2, 3, 5, 6] rfl) hf
      · rw [if_neg c1] at hf
        refine lv_iload hx hb dX6_coinValueIn_44 (lv_at hl 7 rfl) ?_
        refine lv_bipush (v := 8) hx hb dX6_coinValueIn_46 (by decide) ?_
        refine lv_icmp_ge (tgt := 101) hx hb dX6_coinValueIn_48 (by decide) (fun c2 => ?_) (fun c2 => ?_)
        · rw [if_pos c2] at hf
          exact b_101 u2 u4 u5 u7 u8 ls (lv_sub hl [0, 1, 2, 3, 5, 6] rfl) hf
        · rw [if_neg c2] at hf
          refine lv_iload hx hb dX6_coinValueIn_51 (lv_at hl 6 rfl) ?_
          refine lv_iload hx hb dX6_coinValueIn_53 (lv_at hl 4 rfl) ?_
          obtain ⟨z3, hz3, hf⟩ := bnd hf
          refine x_rdS (n := 2) hx hb hml hown hts hE (ct_X6_hasBit N l G cI cZ cO u8 u6 z3 hz3) (bg 23 23 rfl) mb_X6_hasBit.1 mb_X6_hasBit.2.1 mb_X6_hasBit.2.2 hd_X6_hasBit rfl (by decide) va_P_nil rfl hl.1 (Nat.le_of_ble_eq_true rfl) ⟨Nat.zero_le _, Nat.zero_le _⟩ dX6_coinValueIn_55 ?_
          refine lv_if_eq (tgt := 71) hx hb dX6_coinValueIn_58 (by decide) (fun c4 => ?_) (fun c4 => ?_)
          · rw [if_pos c4] at hf
            exact b_71 k_37 hk_37 u2 u4 u5 u6 u7 u8 u9 ls (lv_sub hl [0, 1, 2, 3, 4, 5, 6, 7] rfl) hf
          · rw [if_neg c4] at hf
            refine lv_iload hx hb dX6_coinValueIn_61 (lv_at hl 5 rfl) ?_
            refine lv_bipush (v := 99) hx hb dX6_coinValueIn_63 (by decide) ?_
            refine lv_icmp_ge (tgt := 71) hx hb dX6_coinValueIn_65 (by decide) (fun c5 => ?_) (fun c5 => ?_)
            · rw [if_pos c5] at hf
              exact b_71 k_37 hk_37 u2 u4 u5 u6 u7 u8 u9 ls (lv_sub hl [0, 1, 2, 3, 4, 5, 6, 7] rfl) hf
            · rw [if_neg c5] at hf
              refine lv_iinc (v := u7 + 1) (lv' := [(7, .int (u7 + 1)), (0, .ref (q 0)), (2, .int u2), (4, .int u4), (5, .int u5), (6, .int u6), (8, .int u8), (9, .int u9)]) hx hb dX6_coinValueIn_68 hl (k := 5) rfl rfl (by decide) rfl (fun ls hl => ?_)
              exact b_71 k_37 hk_37 u2 u4 u5 u6 (u7 + 1) u8 u9 ls (lv_sub hl [1, 2, 3, 4, 5, 0, 6, 7] rfl) hf
  unfold fX6_coinValueIn at hf
  refine lv_aload_n hx hb dX6_coinValueIn_0 rfl (lv_at hl 0 rfl) ?_
  refine va_get (D := G) (ci := 6) (v := .ref (q 17)) (C := RX6) (T := TX6) (N := 15) hx hb hts inlX6 hown hE.1 hP 0 rfl rfl 3 (by decide) (hts _ (bg 1 1 rfl)) (fun _ h9 => h9) rfl dX6_coinValueIn_1 ?_
  refine lv_iload_n hx hb dX6_coinValueIn_4 rfl (lv_at hl 2 rfl) ?_
  obtain ⟨z1, hz1, hf⟩ := bnd hf
  refine x_rdV (C := RX4) (n := 1) (ci := 4) hx hb hml hown hts hE (ct_X4_deniedOf N l G cI cZ cO (sh q 17) wI wA x2 z1 hz1) (bg 12 18 rfl) mb_X4_deniedOf.1 mb_X4_deniedOf.2.1 mb_X4_deniedOf.2.2.1 mb_X4_deniedOf.2.2.2 hd_X4_deniedOf rfl (by decide) (x_cut hP [17, 18, 19, 20] rfl) rfl rfl rfl rfl hl.1 (Nat.le_of_ble_eq_true rfl) ⟨Nat.zero_le _, Nat.zero_le _⟩ dX6_coinValueIn_5 ?_
  refine lv_istore (lv' := [(5, .int z1), (0, .ref (q 0)), (1, .int x1), (2, .int x2), (3, .int x3), (4, .int x4)]) hx hb dX6_coinValueIn_8 hl (by decide) rfl (fun ls hl => ?_)
  refine lv_aload_n hx hb dX6_coinValueIn_10 rfl (lv_at hl 1 rfl) ?_
  refine va_get (D := G) (ci := 6) (v := .ref (q 3)) (C := RX6) (T := TX6) (N := 15) hx hb hts inlX6 hown hE.1 hP 0 rfl rfl 1 (by decide) (hts _ (bg 0 20 rfl)) (fun _ h9 => h9) rfl dX6_coinValueIn_11 ?_
  refine lv_iload_n hx hb dX6_coinValueIn_14 rfl (lv_at hl 2 rfl) ?_
  obtain ⟨z2, hz2, hf⟩ := bnd hf
  refine x_rdV (C := RX5) (n := 1) (ci := 5) hx hb hml hown hts hE (ct_X5_seatOf N l G cI cZ cO (sh q 3) tI tA x1 z2 hz2) (bg 23 22 rfl) mb_X5_seatOf.1 mb_X5_seatOf.2.1 mb_X5_seatOf.2.2.1 mb_X5_seatOf.2.2.2 hd_X5_seatOf rfl (by decide) (x_cut hP [3, 4, 5, 6, 7, 8, 9] rfl) rfl rfl rfl rfl hl.1 (Nat.le_of_ble_eq_true rfl) ⟨Nat.zero_le _, Nat.zero_le _⟩ dX6_coinValueIn_15 ?_
  refine lv_istore (lv' := [(6, .int z2), (5, .int z1), (0, .ref (q 0)), (1, .int x1), (2, .int x2), (3, .int x3), (4, .int x4)]) hx hb dX6_coinValueIn_18 hl (by decide) rfl (fun ls hl => ?_)
  refine lv_aload_n hx hb dX6_coinValueIn_20 rfl (lv_at hl 2 rfl) ?_
  refine va_get (D := G) (ci := 6) (v := .ref (q 17)) (C := RX6) (T := TX6) (N := 15) hx hb hts inlX6 hown hE.1 hP 0 rfl rfl 3 (by decide) (hts _ (bg 1 1 rfl)) (fun _ h9 => h9) rfl dX6_coinValueIn_21 ?_
  refine lv_iload_n hx hb dX6_coinValueIn_24 rfl (lv_at hl 3 rfl) ?_
  refine lv_iload_n hx hb dX6_coinValueIn_25 rfl (lv_at hl 4 rfl) ?_
  obtain ⟨z3, hz3, hf⟩ := bnd hf
  refine x_rdV (C := RX4) (n := 2) (ci := 4) hx hb hml hown hts hE (ct_X4_coinsOf N l G cI cZ cO (sh q 17) wI wA x1 x2 z3 hz3) (bg 14 11 rfl) mb_X4_coinsOf.1 mb_X4_coinsOf.2.1 mb_X4_coinsOf.2.2.1 mb_X4_coinsOf.2.2.2 hd_X4_coinsOf rfl (by decide) (x_cut hP [17, 18, 19, 20] rfl) rfl rfl rfl rfl hl.1 (Nat.le_of_ble_eq_true rfl) ⟨Nat.zero_le _, Nat.zero_le _⟩ dX6_coinValueIn_26 ?_
  refine lv_istore (lv' := [(7, .int z3), (6, .int z2), (5, .int z1), (0, .ref (q 0)), (1, .int x1), (2, .int x2), (3, .int x3), (4, .int x4)]) hx hb dX6_coinValueIn_29 hl (by decide) rfl (fun ls hl => ?_)
  refine lv_iload_n hx hb dX6_coinValueIn_31 rfl (lv_at hl 6 rfl) ?_
  refine lv_istore (lv' := [(8, .int x3), (7, .int z3), (6, .int z2), (5, .int z1), (0, .ref (q 0)), (1, .int x1), (2, .int x2), (3, .int x3), (4, .int x4)]) hx hb dX6_coinValueIn_32 hl (by decide) rfl (fun ls hl => ?_)
  refine lv_iconst (v := 0) hx hb dX6_coinValueIn_34 (by decide) ?_
  refine lv_istore (lv' := [(9, .int 0), (8, .int x3), (7, .int z3), (6, .int z2), (5, .int z1), (0, .ref (q 0)), (1, .int x1), (2, .int x2), (3, .int x3), (4, .int x4)]) hx hb dX6_coinValueIn_35 hl (by decide) rfl (fun ls hl => ?_)
  exact b_37 N x2 x4 z1 z2 z3 x3 0 ls (lv_sub hl [5, 7, 9, 4, 3, 2, 1, 0] rfl) hf
def fX6_purseIn_5s (N : Nat) (k_5 : (Nat → Int32) → (Nat → Nat → Int32) → (Nat → Int32) → (Nat → Nat → Int32) → Int32 → Int32 → Int32 → Int32 → Option (Int32)) (tI : Nat → Int32) (tA : Nat → Nat → Int32) (wI : Nat → Int32) (wA : Nat → Nat → Int32) (u1 : Int32) (u2 : Int32) (u3 : Int32) (u4 : Int32) : Option (Int32) := if (tI 0) ≤ u4 then some u3 else (fX4_saidOf N wA u4).bind fun z2 => (fX6_coinValueIn N tI tA wI wA u1 u4 z2 u2).bind fun z3 => k_5 tI tA wI wA u1 u2 (u3 + z3) (u4 + 1)
def fX6_purseIn_5 (N : Nat) : Nat → (Nat → Int32) → (Nat → Nat → Int32) → (Nat → Int32) → (Nat → Nat → Int32) → Int32 → Int32 → Int32 → Int32 → Option (Int32)
  | 0 => fun _ _ _ _ _ _ _ _ => none
  | n + 1 => fX6_purseIn_5s N (fX6_purseIn_5 N n)
def fX6_purseIn (N : Nat) (tI : Nat → Int32) (tA : Nat → Nat → Int32) (wI : Nat → Int32) (wA : Nat → Nat → Int32) (x1 : Int32) (x2 : Int32) : Option (Int32) := fX6_purseIn_5 N N tI tA wI wA x1 x2 0 0
def rmX6_purseIn : Room := { frames := 4, cells := 0, slots := 0, locals := 114 }
theorem mb_X6_purseIn : Cond.instanceMethod yX6_purseIn ∈ wsL_law ∧ Cond.selects RX6 yX6_purseIn yX6_purseIn ∈ wsL_law ∧ Cond.initialized RX6 ∈ wsL_law ∧ Cond.code yX6_purseIn cX6_purseIn 5 (some .int) ∈ wsL_law := ⟨(bg 23 15 rfl), (bg 23 16 rfl), (bg 0 2 rfl), (bg 23 17 rfl)⟩
theorem hd_X6_purseIn : yX6_purseIn.cls = RX6 ∧ yX6_purseIn.cls ≠ "java/lang/invoke/MethodHandle" ∧ yX6_purseIn.cls ≠ "java/lang/invoke/VarHandle" ∧ (parseMethodDescriptor yX6_purseIn.desc).map (fun d => d.parameters.length) = some 2 := by decide +kernel
set_option maxRecDepth 100000 in
set_option maxHeartbeats 4000000 in
theorem ct_X6_purseIn (N : Nat) (l : Launch) (G : va_G) (cI cZ cO : ClassId) (q : Nat → Nat) (A : Nat → Nat → Int32) (L : Int64) (rI : Nat → Int32) (rA : Nat → Nat → Int32) (tI : Nat → Int32) (tA : Nat → Nat → Int32) (dI : Nat → Int32) (dA : Nat → Nat → Int32) (wI : Nat → Int32) (wA : Nat → Nat → Int32) (uI : Nat → Int32) (uA : Nat → Nat → Int32) (aI : Nat → Int32) (aS : Nat → Nat → Int32) (aT : Nat → Nat → Nat → Int32) (eI : Nat → Int32) (eA : Nat → Nat → Int32) (sS : Nat → Nat → Int32) (sT : Nat → Nat → Nat → Int32) (bI : Nat → Int32) (x1 : Int32) (x2 : Int32) (r : Int32) (hf : fX6_purseIn N tI tA wI wA x1 x2 = some r) : RtI l yX6_purseIn cX6_purseIn 5 .int rmX6_purseIn G cI cZ cO [.ref (q 0), .int x1, .int x2] (wX6 q cI cZ cO A L rI rA tI tA dI dA wI wA uI uA aI aS aT eI eA sS sT bI) r := by
  refine mkRI (by decide) (Nat.le_of_ble_eq_true rfl) ?_
  intro p e s m below meth cd Q hC hP hE fin ls hl
  obtain ⟨hx, hb, hml, hown, hts⟩ := hC
  have hown : s.vm.findClass RX6 = some m.cls := hown
  have hl : lv_has ls 5 [(0, .ref (q 0)), (1, .int x1), (2, .int x2)] := hl
  have b_5 : ∀ n : Nat, ∀ (u1 : Int32) (u2 : Int32) (u3 : Int32) (u4 : Int32), ∀ ls : Array Slot, lv_has ls 5 [(0, .ref (q 0)), (1, .int u1), (2, .int u2), (3, .int u3), (4, .int u4)] → fX6_purseIn_5 N n tI tA wI wA u1 u2 u3 u4 = some r → W p l e rmX6_purseIn s m [.ref (q 0), .int x1, .int x2].toArray below meth cd s.heap [] 0 0 Q (F0 m 5 ls []) := by
    intro n
    induction n with
    | zero =>
      intro u1 u2 u3 u4 ls hl hf
      cases hf
    | succ n hk_5 =>
      intro u1 u2 u3 u4 ls hl hf
      replace hf : fX6_purseIn_5s N (fX6_purseIn_5 N n) tI tA wI wA u1 u2 u3 u4 = some r := hf
      generalize fX6_purseIn_5 N n = k_5 at hf hk_5
      unfold fX6_purseIn_5s at hf
      refine lv_iload hx hb dX6_purseIn_5 (lv_at hl 4 rfl) ?_
      refine lv_aload_n hx hb dX6_purseIn_7 rfl (lv_at hl 0 rfl) ?_
      refine va_get (D := G) (ci := 6) (v := .ref (q 3)) (C := RX6) (T := TX6) (N := 15) hx hb hts inlX6 hown hE.1 hP 0 rfl rfl 1 (by decide) (hts _ (bg 0 20 rfl)) (fun _ h9 => h9) rfl dX6_purseIn_8 ?_
      refine va_get (D := G) (ci := 5) (v := .int ((tI 0))) (C := RX5) (T := TX5) (N := 8) hx hb hts inlX5 hown hE.1 hP 3 rfl rfl 6 (by decide) (hts _ (bg 11 8 rfl)) (fun _ h9 => h9) rfl dX6_purseIn_11 ?_
      refine lv_icmp_ge (tgt := 43) hx hb dX6_purseIn_14 (by decide) (fun c1 => ?_) (fun c1 => ?_)
      · rw [if_pos c1] at hf
        refine lv_iload_n hx hb dX6_purseIn_43 rfl (lv_at hl 3 rfl) ?_
        have e9 := Option.some.inj hf
        exact fin 44 ls _ e9 (nar_i _) dX6_purseIn_44
      · rw [if_neg c1] at hf
        refine lv_iload_n hx hb dX6_purseIn_17 rfl (lv_at hl 3 rfl) ?_
        refine lv_aload_n hx hb dX6_purseIn_18 rfl (lv_at hl 0 rfl) ?_
        refine lv_iload_n hx hb dX6_purseIn_19 rfl (lv_at hl 1 rfl) ?_
        refine lv_iload hx hb dX6_purseIn_20 (lv_at hl 4 rfl) ?_
        refine lv_aload_n hx hb dX6_purseIn_22 rfl (lv_at hl 0 rfl) ?_
        refine va_get (D := G) (ci := 6) (v := .ref (q 17)) (C := RX6) (T := TX6) (N := 15) hx hb hts inlX6 hown hE.1 hP 0 rfl rfl 3 (by decide) (hts _ (bg 1 1 rfl)) (fun _ h9 => h9) rfl dX6_purseIn_23 ?_
        refine lv_iload hx hb dX6_purseIn_26 (lv_at hl 4 rfl) ?_
        obtain ⟨z2, hz2, hf⟩ := bnd hf
        refine x_rdV (C := RX4) (n := 1) (ci := 4) hx hb hml hown hts hE (ct_X4_saidOf N l G cI cZ cO (sh q 17) wI wA u4 z2 hz2) (bg 12 12 rfl) mb_X4_saidOf.1 mb_X4_saidOf.2.1 mb_X4_saidOf.2.2.1 mb_X4_saidOf.2.2.2 hd_X4_saidOf rfl (by decide) (x_cut hP [17, 18, 19, 20] rfl) rfl rfl rfl rfl hl.1 (Nat.le_of_ble_eq_true rfl) ⟨Nat.zero_le _, Nat.zero_le _⟩ dX6_purseIn_28 ?_
        refine lv_iload_n hx hb dX6_purseIn_31 rfl (lv_at hl 2 rfl) ?_
        obtain ⟨z3, hz3, hf⟩ := bnd hf
        refine x_rdV (C := RX6) (n := 4) (ci := 6) hx hb hml hown hts hE (ct_X6_coinValueIn N l G cI cZ cO q A L rI rA tI tA dI dA wI wA uI uA aI aS aT eI eA sS sT bI u1 u4 z2 u2 z3 hz3) (bg 23 18 rfl) mb_X6_coinValueIn.1 mb_X6_coinValueIn.2.1 mb_X6_coinValueIn.2.2.1 mb_X6_coinValueIn.2.2.2 hd_X6_coinValueIn rfl (by decide) hP rfl rfl rfl rfl hl.1 (Nat.le_of_ble_eq_true rfl) ⟨Nat.zero_le _, Nat.zero_le _⟩ dX6_purseIn_32 ?_
        refine lv_iadd hx hb dX6_purseIn_35 ?_
        refine lv_istore_n (lv' := [(3, .int (u3 + z3)), (0, .ref (q 0)), (1, .int u1), (2, .int u2), (4, .int u4)]) hx hb dX6_purseIn_36 rfl hl (by decide) rfl (fun ls hl => ?_)
        refine lv_iinc (v := u4 + 1) (lv' := [(4, .int (u4 + 1)), (3, .int (u3 + z3)), (0, .ref (q 0)), (1, .int u1), (2, .int u2)]) hx hb dX6_purseIn_37 hl (k := 4) rfl rfl (by decide) rfl (fun ls hl => ?_)
        refine lv_goto (tgt := 5) hx hb dX6_purseIn_40 (by decide) ?_
        exact hk_5 u1 u2 (u3 + z3) (u4 + 1) ls (lv_sub hl [2, 3, 4, 1, 0] rfl) hf
  unfold fX6_purseIn at hf
  refine lv_iconst (v := 0) hx hb dX6_purseIn_0 (by decide) ?_
  refine lv_istore_n (lv' := [(3, .int 0), (0, .ref (q 0)), (1, .int x1), (2, .int x2)]) hx hb dX6_purseIn_1 rfl hl (by decide) rfl (fun ls hl => ?_)
  refine lv_iconst (v := 0) hx hb dX6_purseIn_2 (by decide) ?_
  refine lv_istore (lv' := [(4, .int 0), (3, .int 0), (0, .ref (q 0)), (1, .int x1), (2, .int x2)]) hx hb dX6_purseIn_3 hl (by decide) rfl (fun ls hl => ?_)
  exact b_5 N x1 x2 0 0 ls (lv_sub hl [2, 3, 4, 1, 0] rfl) hf
