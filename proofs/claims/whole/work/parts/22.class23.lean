def fX6_valueAfterDenials (N : Nat) (tI : Nat → Int32) (tA : Nat → Nat → Int32) (wI : Nat → Int32) (wA : Nat → Nat → Int32) (x1 : Int32) (x2 : Int32) : Option (Int32) := (fX4_saidOf N wA x1).bind fun z1 => (fX4_deniedOf N wA x1).bind fun z2 => (fX5_saidAfterDawn N tI tA x1 (z1 &&& (x2 ^^^ (-1))) (z2 ||| x2) (wI 0)).bind fun z3 => (fX5_valueOn N tI tA ((wI 0) + 1) x1 z3 (z2 ||| x2)).bind fun z4 => some z4
def rmX6_valueAfterDenials : Room := { frames := 3, cells := 0, slots := 0, locals := 85 }
theorem mb_X6_valueAfterDenials : Cond.instanceMethod yX6_valueAfterDenials ∈ wsL_law ∧ Cond.selects RX6 yX6_valueAfterDenials yX6_valueAfterDenials ∈ wsL_law ∧ Cond.initialized RX6 ∈ wsL_law ∧ Cond.code yX6_valueAfterDenials cX6_valueAfterDenials 5 (some .int) ∈ wsL_law := ⟨(bg 34 12 rfl), (bg 34 13 rfl), (bg 0 2 rfl), (bg 34 14 rfl)⟩
theorem hd_X6_valueAfterDenials : yX6_valueAfterDenials.cls = RX6 ∧ yX6_valueAfterDenials.cls ≠ "java/lang/invoke/MethodHandle" ∧ yX6_valueAfterDenials.cls ≠ "java/lang/invoke/VarHandle" ∧ (parseMethodDescriptor yX6_valueAfterDenials.desc).map (fun d => d.parameters.length) = some 2 := by decide +kernel
set_option maxRecDepth 100000 in
set_option maxHeartbeats 4000000 in
theorem ct_X6_valueAfterDenials (N : Nat) (l : Launch) (G : va_G) (cI cZ cO : ClassId) (q : Nat → Nat) (A : Nat → Nat → Int32) (L : Int64) (rI : Nat → Int32) (rA : Nat → Nat → Int32) (tI : Nat → Int32) (tA : Nat → Nat → Int32) (dI : Nat → Int32) (dA : Nat → Nat → Int32) (wI : Nat → Int32) (wA : Nat → Nat → Int32) (uI : Nat → Int32) (uA : Nat → Nat → Int32) (aI : Nat → Int32) (aS : Nat → Nat → Int32) (aT : Nat → Nat → Nat → Int32) (eI : Nat → Int32) (eA : Nat → Nat → Int32) (sS : Nat → Nat → Int32) (sT : Nat → Nat → Nat → Int32) (bI : Nat → Int32) (x1 : Int32) (x2 : Int32) (r : Int32) (hf : fX6_valueAfterDenials N tI tA wI wA x1 x2 = some r) : RtI l yX6_valueAfterDenials cX6_valueAfterDenials 5 .int rmX6_valueAfterDenials G cI cZ cO [.ref (q 0), .int x1, .int x2] (wX6 q cI cZ cO A L rI rA tI tA dI dA wI wA uI uA aI aS aT eI eA sS sT bI) r := by
  refine mkRI (by decide) (Nat.le_of_ble_eq_true rfl) ?_
  intro p e s m below meth cd Q hC hP hE fin ls hl
  obtain ⟨hx, hb, hml, hown, hts⟩ := hC
  have hown : s.vm.findClass RX6 = some m.cls := hown
  have hl : lv_has ls 5 [(0, .ref (q 0)), (1, .int x1), (2, .int x2)] := hl
  unfold fX6_valueAfterDenials at hf
  refine lv_aload_n hx hb dX6_valueAfterDenials_0 rfl (lv_at hl 0 rfl) ?_
  refine va_get (D := G) (ci := 6) (v := .ref (q 17)) (C := RX6) (T := TX6) (N := 15) hx hb hts inlX6 hown hE.1 hP 0 rfl rfl 3 (by decide) (hts _ (bg 1 1 rfl)) (fun _ h9 => h9) rfl dX6_valueAfterDenials_1 ?_
  refine lv_iload_n hx hb dX6_valueAfterDenials_4 rfl (lv_at hl 1 rfl) ?_
  obtain ⟨z1, hz1, hf⟩ := bnd hf
  refine x_rdV (C := RX4) (n := 1) (ci := 4) hx hb hml hown hts hE (ct_X4_saidOf N l G cI cZ cO (sh q 17) wI wA x1 z1 hz1) (bg 12 12 rfl) mb_X4_saidOf.1 mb_X4_saidOf.2.1 mb_X4_saidOf.2.2.1 mb_X4_saidOf.2.2.2 hd_X4_saidOf rfl (by decide) (x_cut hP [17, 18, 19, 20] rfl) rfl rfl rfl rfl hl.1 (Nat.le_of_ble_eq_true rfl) ⟨Nat.zero_le _, Nat.zero_le _⟩ dX6_valueAfterDenials_5 ?_
  refine lv_iload_n hx hb dX6_valueAfterDenials_8 rfl (lv_at hl 2 rfl) ?_
  refine lv_iconst (v := (-1)) hx hb dX6_valueAfterDenials_9 (by decide) ?_
  refine lv_ixor hx hb dX6_valueAfterDenials_10 ?_
  refine lv_iand hx hb dX6_valueAfterDenials_11 ?_
  refine lv_istore_n (lv' := [(3, .int (z1 &&& (x2 ^^^ (-1)))), (0, .ref (q 0)), (1, .int x1), (2, .int x2)]) hx hb dX6_valueAfterDenials_12 rfl hl (by decide) rfl (fun ls hl => ?_)
  refine lv_aload_n hx hb dX6_valueAfterDenials_13 rfl (lv_at hl 1 rfl) ?_
  refine va_get (D := G) (ci := 6) (v := .ref (q 17)) (C := RX6) (T := TX6) (N := 15) hx hb hts inlX6 hown hE.1 hP 0 rfl rfl 3 (by decide) (hts _ (bg 1 1 rfl)) (fun _ h9 => h9) rfl dX6_valueAfterDenials_14 ?_
  refine lv_iload_n hx hb dX6_valueAfterDenials_17 rfl (lv_at hl 2 rfl) ?_
  obtain ⟨z2, hz2, hf⟩ := bnd hf
  refine x_rdV (C := RX4) (n := 1) (ci := 4) hx hb hml hown hts hE (ct_X4_deniedOf N l G cI cZ cO (sh q 17) wI wA x1 z2 hz2) (bg 12 18 rfl) mb_X4_deniedOf.1 mb_X4_deniedOf.2.1 mb_X4_deniedOf.2.2.1 mb_X4_deniedOf.2.2.2 hd_X4_deniedOf rfl (by decide) (x_cut hP [17, 18, 19, 20] rfl) rfl rfl rfl rfl hl.1 (Nat.le_of_ble_eq_true rfl) ⟨Nat.zero_le _, Nat.zero_le _⟩ dX6_valueAfterDenials_18 ?_
  refine lv_iload_n hx hb dX6_valueAfterDenials_21 rfl (lv_at hl 3 rfl) ?_
  refine lv_ior hx hb dX6_valueAfterDenials_22 ?_
  refine lv_istore (lv' := [(4, .int (z2 ||| x2)), (3, .int (z1 &&& (x2 ^^^ (-1)))), (0, .ref (q 0)), (1, .int x1), (2, .int x2)]) hx hb dX6_valueAfterDenials_23 hl (by decide) rfl (fun ls hl => ?_)
  refine lv_aload_n hx hb dX6_valueAfterDenials_25 rfl (lv_at hl 2 rfl) ?_
  refine va_get (D := G) (ci := 6) (v := .ref (q 3)) (C := RX6) (T := TX6) (N := 15) hx hb hts inlX6 hown hE.1 hP 0 rfl rfl 1 (by decide) (hts _ (bg 0 20 rfl)) (fun _ h9 => h9) rfl dX6_valueAfterDenials_26 ?_
  refine lv_aload_n hx hb dX6_valueAfterDenials_29 rfl (lv_at hl 2 rfl) ?_
  refine va_get (D := G) (ci := 6) (v := .ref (q 17)) (C := RX6) (T := TX6) (N := 15) hx hb hts inlX6 hown hE.1 hP 0 rfl rfl 3 (by decide) (hts _ (bg 1 1 rfl)) (fun _ h9 => h9) rfl dX6_valueAfterDenials_30 ?_
  refine va_get (D := G) (ci := 4) (v := .int ((wI 0))) (C := RX4) (T := TX4) (N := 4) hx hb hts inlX4 hown hE.1 hP 17 rfl rfl 3 (by decide) (hts _ (bg 12 6 rfl)) (fun _ h9 => h9) rfl dX6_valueAfterDenials_33 ?_
  refine lv_iconst (v := 1) hx hb dX6_valueAfterDenials_36 (by decide) ?_
  refine lv_iadd hx hb dX6_valueAfterDenials_37 ?_
  refine lv_iload_n hx hb dX6_valueAfterDenials_38 rfl (lv_at hl 3 rfl) ?_
  refine lv_aload_n hx hb dX6_valueAfterDenials_39 rfl (lv_at hl 2 rfl) ?_
  refine va_get (D := G) (ci := 6) (v := .ref (q 3)) (C := RX6) (T := TX6) (N := 15) hx hb hts inlX6 hown hE.1 hP 0 rfl rfl 1 (by decide) (hts _ (bg 0 20 rfl)) (fun _ h9 => h9) rfl dX6_valueAfterDenials_40 ?_
  refine lv_iload_n hx hb dX6_valueAfterDenials_43 rfl (lv_at hl 3 rfl) ?_
  refine lv_iload_n hx hb dX6_valueAfterDenials_44 rfl (lv_at hl 1 rfl) ?_
  refine lv_iload hx hb dX6_valueAfterDenials_45 (lv_at hl 0 rfl) ?_
  refine lv_aload_n hx hb dX6_valueAfterDenials_47 rfl (lv_at hl 2 rfl) ?_
  refine va_get (D := G) (ci := 6) (v := .ref (q 17)) (C := RX6) (T := TX6) (N := 15) hx hb hts inlX6 hown hE.1 hP 0 rfl rfl 3 (by decide) (hts _ (bg 1 1 rfl)) (fun _ h9 => h9) rfl dX6_valueAfterDenials_48 ?_
  refine va_get (D := G) (ci := 4) (v := .int ((wI 0))) (C := RX4) (T := TX4) (N := 4) hx hb hts inlX4 hown hE.1 hP 17 rfl rfl 3 (by decide) (hts _ (bg 12 6 rfl)) (fun _ h9 => h9) rfl dX6_valueAfterDenials_51 ?_
  obtain ⟨z3, hz3, hf⟩ := bnd hf
  refine x_rdV (C := RX5) (n := 4) (ci := 5) hx hb hml hown hts hE (ct_X5_saidAfterDawn N l G cI cZ cO (sh q 3) tI tA x1 (z1 &&& (x2 ^^^ (-1))) (z2 ||| x2) (wI 0) z3 hz3) (bg 22 19 rfl) mb_X5_saidAfterDawn.1 mb_X5_saidAfterDawn.2.1 mb_X5_saidAfterDawn.2.2.1 mb_X5_saidAfterDawn.2.2.2 hd_X5_saidAfterDawn rfl (by decide) (x_cut hP [3, 4, 5, 6, 7, 8, 9] rfl) rfl rfl rfl rfl hl.1 (Nat.le_of_ble_eq_true rfl) ⟨Nat.zero_le _, Nat.zero_le _⟩ dX6_valueAfterDenials_54 ?_
  refine lv_iload hx hb dX6_valueAfterDenials_57 (lv_at hl 0 rfl) ?_
  obtain ⟨z4, hz4, hf⟩ := bnd hf
  refine x_rdV (C := RX5) (n := 4) (ci := 5) hx hb hml hown hts hE (ct_X5_valueOn N l G cI cZ cO (sh q 3) tI tA ((wI 0) + 1) x1 z3 (z2 ||| x2) z4 hz4) (bg 22 20 rfl) mb_X5_valueOn.1 mb_X5_valueOn.2.1 mb_X5_valueOn.2.2.1 mb_X5_valueOn.2.2.2 hd_X5_valueOn rfl (by decide) (x_cut hP [3, 4, 5, 6, 7, 8, 9] rfl) rfl rfl rfl rfl hl.1 (Nat.le_of_ble_eq_true rfl) ⟨Nat.zero_le _, Nat.zero_le _⟩ dX6_valueAfterDenials_59 ?_
  have e9 := Option.some.inj hf
  exact fin 62 ls _ e9 (nar_i _) dX6_valueAfterDenials_62
def fX6_power_25 (N : Nat) (u2 : Int32) : Option (Int32) := some u2
def fX6_power_4s (N : Nat) (k_4 : Int32 → Int32 → Int32 → Int32 → Option (Int32)) (u0 : Int32) (u1 : Int32) (u2 : Int32) (u3 : Int32) : Option (Int32) := if u1 ≤ u3 then fX6_power_25 N u2 else if 6 ≤ u3 then fX6_power_25 N u2 else k_4 u0 u1 (u2 * u0) (u3 + 1)
def fX6_power_4 (N : Nat) : Nat → Int32 → Int32 → Int32 → Int32 → Option (Int32)
  | 0 => fun _ _ _ _ => none
  | n + 1 => fX6_power_4s N (fX6_power_4 N n)
def fX6_power (N : Nat) (x0 : Int32) (x1 : Int32) : Option (Int32) := fX6_power_4 N N x0 x1 1 0
def rmX6_power : Room := { frames := 0, cells := 0, slots := 0, locals := 0 }
theorem mb_X6_power : Cond.static yX6_power ∈ wsL_law ∧ Cond.initialized yX6_power.cls ∈ wsL_law ∧ Cond.code yX6_power cX6_power 4 (some .int) ∈ wsL_law := ⟨(bg 34 16 rfl), (bg 0 2 rfl), (bg 34 17 rfl)⟩
theorem hd_X6_power : yX6_power.cls ≠ "java/lang/invoke/MethodHandle" ∧ yX6_power.cls ≠ "java/lang/invoke/VarHandle" ∧ (parseMethodDescriptor yX6_power.desc).map (fun d => d.parameters.length) = some 2 := by decide +kernel
set_option maxRecDepth 100000 in
set_option maxHeartbeats 4000000 in
theorem ct_X6_power (N : Nat) (l : Launch) (G : va_G) (cI cZ cO : ClassId) (x0 : Int32) (x1 : Int32) (r : Int32) (hf : fX6_power N x0 x1 = some r) : RtI l yX6_power cX6_power 4 .int rmX6_power G cI cZ cO [.int x0, .int x1] [] r := by
  refine mkRI (by decide) (Nat.le_of_ble_eq_true rfl) ?_
  intro p e s m below meth cd Q hC hP hE fin ls hl
  obtain ⟨hx, hb, hml, hown, hts⟩ := hC
  have hown : s.vm.findClass RX6 = some m.cls := hown
  have hl : lv_has ls 4 [(0, .int x0), (1, .int x1)] := hl
  have b_25 : ∀ (u2 : Int32), ∀ ls : Array Slot, lv_has ls 4 [(2, .int u2)] → fX6_power_25 N u2 = some r → W p l e rmX6_power s m [.int x0, .int x1].toArray below meth cd s.heap [] 0 0 Q (F0 m 25 ls []) := by
    intro u2 ls hl hf
    unfold fX6_power_25 at hf
    refine lv_iload_n hx hb dX6_power_25 rfl (lv_at hl 0 rfl) ?_
    have e9 := Option.some.inj hf
    exact fin 26 ls _ e9 (nar_i _) dX6_power_26
  have b_4 : ∀ n : Nat, ∀ (u0 : Int32) (u1 : Int32) (u2 : Int32) (u3 : Int32), ∀ ls : Array Slot, lv_has ls 4 [(0, .int u0), (1, .int u1), (2, .int u2), (3, .int u3)] → fX6_power_4 N n u0 u1 u2 u3 = some r → W p l e rmX6_power s m [.int x0, .int x1].toArray below meth cd s.heap [] 0 0 Q (F0 m 4 ls []) := by
    intro n
    induction n with
    | zero =>
      intro u0 u1 u2 u3 ls hl hf
      cases hf
    | succ n hk_4 =>
      intro u0 u1 u2 u3 ls hl hf
      replace hf : fX6_power_4s N (fX6_power_4 N n) u0 u1 u2 u3 = some r := hf
      generalize fX6_power_4 N n = k_4 at hf hk_4
      unfold fX6_power_4s at hf
      refine lv_iload_n hx hb dX6_power_4 rfl (lv_at hl 3 rfl) ?_
      refine lv_iload_n hx hb dX6_power_5 rfl (lv_at hl 1 rfl) ?_
      refine lv_icmp_ge (tgt := 25) hx hb dX6_power_6 (by decide) (fun c1 => ?_) (fun c1 => ?_)
      · rw [if_pos c1] at hf
        exact b_25 u2 ls (lv_sub hl [2] rfl) hf
      · rw [if_neg c1] at hf
        refine lv_iload_n hx hb dX6_power_9 rfl (lv_at hl 3 rfl) ?_
        refine lv_bipush (v := 6) hx hb dX6_power_10 (by decide) ?_
        refine lv_icmp_ge (tgt := 25) hx hb dX6_power_12 (by decide) (fun c2 => ?_) (fun c2 => ?_)
        · rw [if_pos c2] at hf
          exact b_25 u2 ls (lv_sub hl [2] rfl) hf
        · rw [if_neg c2] at hf
          refine lv_iload_n hx hb dX6_power_15 rfl (lv_at hl 2 rfl) ?_
          refine lv_iload_n hx hb dX6_power_16 rfl (lv_at hl 0 rfl) ?_
          refine lv_imul hx hb dX6_power_17 ?_
          refine lv_istore_n (lv' := [(2, .int (u2 * u0)), (0, .int u0), (1, .int u1), (3, .int u3)]) hx hb dX6_power_18 rfl hl (by decide) rfl (fun ls hl => ?_)
          refine lv_iinc (v := u3 + 1) (lv' := [(3, .int (u3 + 1)), (2, .int (u2 * u0)), (0, .int u0), (1, .int u1)]) hx hb dX6_power_19 hl (k := 3) rfl rfl (by decide) rfl (fun ls hl => ?_)
          refine lv_goto (tgt := 4) hx hb dX6_power_22 (by decide) ?_
          exact hk_4 u0 u1 (u2 * u0) (u3 + 1) ls (lv_sub hl [2, 3, 1, 0] rfl) hf
  unfold fX6_power at hf
  refine lv_iconst (v := 1) hx hb dX6_power_0 (by decide) ?_
  refine lv_istore_n (lv' := [(2, .int 1), (0, .int x0), (1, .int x1)]) hx hb dX6_power_1 rfl hl (by decide) rfl (fun ls hl => ?_)
  refine lv_iconst (v := 0) hx hb dX6_power_2 (by decide) ?_
  refine lv_istore_n (lv' := [(3, .int 0), (2, .int 1), (0, .int x0), (1, .int x1)]) hx hb dX6_power_3 rfl hl (by decide) rfl (fun ls hl => ?_)
  exact b_4 N x0 x1 1 0 ls (lv_sub hl [2, 3, 1, 0] rfl) hf
def fX6_chance_140 (N : Nat) (k_81 : (Nat → Int32) → (Nat → Nat → Int32) → (Nat → Int32) → (Nat → Nat → Int32) → Int32 → Int32 → Int32 → Int32 → Int32 → Int32 → Int32 → Int32 → Option (Int32)) (tI : Nat → Int32) (tA : Nat → Nat → Int32) (wI : Nat → Int32) (wA : Nat → Nat → Int32) (u1 : Int32) (u2 : Int32) (u3 : Int32) (u4 : Int32) (u5 : Int32) (u6 : Int32) (u7 : Int32) (u8 : Int32) : Option (Int32) := k_81 tI tA wI wA u1 u2 u3 u4 u5 u6 u7 (u8 + 1)
def fX6_chance_81s (N : Nat) (k_81 : (Nat → Int32) → (Nat → Nat → Int32) → (Nat → Int32) → (Nat → Nat → Int32) → Int32 → Int32 → Int32 → Int32 → Int32 → Int32 → Int32 → Int32 → Option (Int32)) (tI : Nat → Int32) (tA : Nat → Nat → Int32) (wI : Nat → Int32) (wA : Nat → Nat → Int32) (u1 : Int32) (u2 : Int32) (u3 : Int32) (u4 : Int32) (u5 : Int32) (u6 : Int32) (u7 : Int32) (u8 : Int32) : Option (Int32) := if 63 < u8 then (fX6_power N 10 u6).bind fun z2 => (fX6_fraction N u7 z2 u4).bind fun z3 => some z3 else if (u8 &&& (u5 ^^^ (-1))) = 0 then (fX6_valueAfterDenials N tI tA wI wA u1 u8).bind fun z5 => if z5 < u2 then fX6_chance_140 N k_81 tI tA wI wA u1 u2 u3 u4 u5 u6 u7 u8 else (fJ6_bitCount_0f7a4 N u8).bind fun z7 => (fX6_power N u3 z7).bind fun z8 => (fX6_power N (10 - u3) (u6 - z7)).bind fun z9 => fX6_chance_140 N k_81 tI tA wI wA u1 u2 u3 u4 u5 u6 (u7 + (z8 * z9)) u8 else fX6_chance_140 N k_81 tI tA wI wA u1 u2 u3 u4 u5 u6 u7 u8
def fX6_chance_81 (N : Nat) : Nat → (Nat → Int32) → (Nat → Nat → Int32) → (Nat → Int32) → (Nat → Nat → Int32) → Int32 → Int32 → Int32 → Int32 → Int32 → Int32 → Int32 → Int32 → Option (Int32)
  | 0 => fun _ _ _ _ _ _ _ _ _ _ _ _ => none
  | n + 1 => fX6_chance_81s N (fX6_chance_81 N n)
def fX6_chance_66 (N : Nat) (tI : Nat → Int32) (tA : Nat → Nat → Int32) (wI : Nat → Int32) (wA : Nat → Nat → Int32) (u1 : Int32) (u2 : Int32) (u3 : Int32) (u4 : Int32) (y0 : Int32) : Option (Int32) := (fJ6_bitCount_0f7a4 N y0).bind fun z1 => fX6_chance_81 N N tI tA wI wA u1 u2 u3 u4 y0 z1 0 0
def fX6_chance_33 (N : Nat) (tI : Nat → Int32) (tA : Nat → Nat → Int32) (wI : Nat → Int32) (wA : Nat → Nat → Int32) : Option (Int32) := some (-2)
def fX6_chance (N : Nat) (tI : Nat → Int32) (tA : Nat → Nat → Int32) (wI : Nat → Int32) (wA : Nat → Nat → Int32) (x1 : Int32) (x2 : Int32) (x3 : Int32) (x4 : Int32) : Option (Int32) := (fX5_hasRumour N tI x1).bind fun z1 => if z1 = 0 then some (-1) else (fX6_isOutside N x2 0 20).bind fun z3 => if z3 = 0 then (fX6_isOutside N x3 0 10).bind fun z5 => if z5 = 0 then (fX5_isProvedTrue N tI tA x1 (wI 0)).bind fun z7 => if z7 = 0 then (fX4_saidOf N wA x1).bind fun z9 => fX6_chance_66 N tI tA wI wA x1 x2 x3 x4 z9 else fX6_chance_66 N tI tA wI wA x1 x2 x3 x4 0 else fX6_chance_33 N tI tA wI wA else fX6_chance_33 N tI tA wI wA
def rmX6_chance : Room := { frames := 4, cells := 0, slots := 0, locals := 109 }
theorem mb_X6_chance : Cond.instanceMethod yX6_chance ∈ wsL_law ∧ Cond.selects RX6 yX6_chance yX6_chance ∈ wsL_law ∧ Cond.initialized RX6 ∈ wsL_law ∧ Cond.code yX6_chance cX6_chance 10 (some .int) ∈ wsL_law := ⟨(bg 34 7 rfl), (bg 34 8 rfl), (bg 0 2 rfl), (bg 34 9 rfl)⟩
theorem hd_X6_chance : yX6_chance.cls = RX6 ∧ yX6_chance.cls ≠ "java/lang/invoke/MethodHandle" ∧ yX6_chance.cls ≠ "java/lang/invoke/VarHandle" ∧ (parseMethodDescriptor yX6_chance.desc).map (fun d => d.parameters.length) = some 4 := by decide +kernel
set_option maxRecDepth 100000 in
set_option maxHeartbeats 4000000 in
theorem ct_X6_chance (N : Nat) (l : Launch) (G : va_G) (cI cZ cO : ClassId) (q : Nat → Nat) (A : Nat → Nat → Int32) (L : Int64) (rI : Nat → Int32) (rA : Nat → Nat → Int32) (tI : Nat → Int32) (tA : Nat → Nat → Int32) (dI : Nat → Int32) (dA : Nat → Nat → Int32) (wI : Nat → Int32) (wA : Nat → Nat → Int32) (uI : Nat → Int32) (uA : Nat → Nat → Int32) (aI : Nat → Int32) (aS : Nat → Nat → Int32) (aT : Nat → Nat → Nat → Int32) (eI : Nat → Int32) (eA : Nat → Nat → Int32) (sS : Nat → Nat → Int32) (sT : Nat → Nat → Nat → Int32) (bI : Nat → Int32) (x1 : Int32) (x2 : Int32) (x3 : Int32) (x4 : Int32) (r : Int32) (hf : fX6_chance N tI tA wI wA x1 x2 x3 x4 = some r) : RtI l yX6_chance cX6_chance 10 .int rmX6_chance G cI cZ cO [.ref (q 0), .int x1, .int x2, .int x3, .int x4] (wX6 q cI cZ cO A L rI rA tI tA dI dA wI wA uI uA aI aS aT eI eA sS sT bI) r := by
  refine mkRI (by decide) (Nat.le_of_ble_eq_true rfl) ?_
  intro p e s m below meth cd Q hC hP hE fin ls hl
  obtain ⟨hx, hb, hml, hown, hts⟩ := hC
  have hown : s.vm.findClass RX6 = some m.cls := hown
  have hl : lv_has ls 10 [(0, .ref (q 0)), (1, .int x1), (2, .int x2), (3, .int x3), (4, .int x4)] := hl
  have b_140 : ∀ (k_81 : (Nat → Int32) → (Nat → Nat → Int32) → (Nat → Int32) → (Nat → Nat → Int32) → Int32 → Int32 → Int32 → Int32 → Int32 → Int32 → Int32 → Int32 → Option (Int32)) (hk_81 : ∀ (u1 : Int32) (u2 : Int32) (u3 : Int32) (u4 : Int32) (u5 : Int32) (u6 : Int32) (u7 : Int32) (u8 : Int32), ∀ ls : Array Slot, lv_has ls 10 [(0, .ref (q 0)), (1, .int u1), (2, .int u2), (3, .int u3), (4, .int u4), (5, .int u5), (6, .int u6), (7, .int u7), (8, .int u8)] → k_81 tI tA wI wA u1 u2 u3 u4 u5 u6 u7 u8 = some r → W p l e rmX6_chance s m [.ref (q 0), .int x1, .int x2, .int x3, .int x4].toArray below meth cd s.heap [] 0 0 Q (F0 m 81 ls [])), ∀ (u1 : Int32) (u2 : Int32) (u3 : Int32) (u4 : Int32) (u5 : Int32) (u6 : Int32) (u7 : Int32) (u8 : Int32), ∀ ls : Array Slot, lv_has ls 10 [(0, .ref (q 0)), (1, .int u1), (2, .int u2), (3, .int u3), (4, .int u4), (5, .int u5), (6, .int u6), (7, .int u7), (8, .int u8)] → fX6_chance_140 N k_81 tI tA wI wA u1 u2 u3 u4 u5 u6 u7 u8 = some r → W p l e rmX6_chance s m [.ref (q 0), .int x1, .int x2, .int x3, .int x4].toArray below meth cd s.heap [] 0 0 Q (F0 m 140 ls []) := by
    intro k_81 hk_81 u1 u2 u3 u4 u5 u6 u7 u8 ls hl hf
    unfold fX6_chance_140 at hf
    refine lv_iinc (v := u8 + 1) (lv' := [(8, .int (u8 + 1)), (0, .ref (q 0)), (1, .int u1), (2, .int u2), (3, .int u3), (4, .int u4), (5, .int u5), (6, .int u6), (7, .int u7)]) hx hb dX6_chance_140 hl (k := 8) rfl rfl (by decide) rfl (fun ls hl => ?_)
    refine lv_goto (tgt := 81) hx hb dX6_chance_143 (by decide) ?_
    exact hk_81 u1 u2 u3 u4 u5 u6 u7 (u8 + 1) ls (lv_sub hl [1, 2, 3, 4, 5, 6, 7, 8, 0] rfl) hf
  have b_81 : ∀ n : Nat, ∀ (u1 : Int32) (u2 : Int32) (u3 : Int32) (u4 : Int32) (u5 : Int32) (u6 : Int32) (u7 : Int32) (u8 : Int32), ∀ ls : Array Slot, lv_has ls 10 [(0, .ref (q 0)), (1, .int u1), (2, .int u2), (3, .int u3), (4, .int u4), (5, .int u5), (6, .int u6), (7, .int u7), (8, .int u8)] → fX6_chance_81 N n tI tA wI wA u1 u2 u3 u4 u5 u6 u7 u8 = some r → W p l e rmX6_chance s m [.ref (q 0), .int x1, .int x2, .int x3, .int x4].toArray below meth cd s.heap [] 0 0 Q (F0 m 81 ls []) := by
    intro n
    induction n with
    | zero =>
      intro u1 u2 u3 u4 u5 u6 u7 u8 ls hl hf
      cases hf
    | succ n hk_81 =>
      intro u1 u2 u3 u4 u5 u6 u7 u8 ls hl hf
      replace hf : fX6_chance_81s N (fX6_chance_81 N n) tI tA wI wA u1 u2 u3 u4 u5 u6 u7 u8 = some r := hf
      generalize fX6_chance_81 N n = k_81 at hf hk_81
      unfold fX6_chance_81s at hf
      refine lv_iload hx hb dX6_chance_81 (lv_at hl 8 rfl) ?_
      refine lv_bipush (v := 63) hx hb dX6_chance_83 (by decide) ?_
      refine lv_icmp_gt (tgt := 146) hx hb dX6_chance_85 (by decide) (fun c1 => ?_) (fun c1 => ?_)
      · rw [if_pos c1] at hf
        refine lv_iload hx hb dX6_chance_146 (lv_at hl 7 rfl) ?_
        refine lv_bipush (v := 10) hx hb dX6_chance_148 (by decide) ?_
        refine lv_iload hx hb dX6_chance_150 (lv_at hl 6 rfl) ?_
        obtain ⟨z2, hz2, hf⟩ := bnd hf
        refine x_rdS (n := 2) hx hb hml hown hts hE (ct_X6_power N l G cI cZ cO 10 u6 z2 hz2) (bg 34 15 rfl) mb_X6_power.1 mb_X6_power.2.1 mb_X6_power.2.2 hd_X6_power rfl (by decide) va_P_nil rfl hl.1 (Nat.le_of_ble_eq_true rfl) ⟨Nat.zero_le _, Nat.zero_le _⟩ dX6_chance_152 ?_
        refine lv_iload hx hb dX6_chance_155 (lv_at hl 4 rfl) ?_
        obtain ⟨z3, hz3, hf⟩ := bnd hf
        refine x_rdS (n := 3) hx hb hml hown hts hE (ct_X6_fraction N l G cI cZ cO u7 z2 u4 z3 hz3) (bg 31 17 rfl) mb_X6_fraction.1 mb_X6_fraction.2.1 mb_X6_fraction.2.2 hd_X6_fraction rfl (by decide) va_P_nil rfl hl.1 (Nat.le_of_ble_eq_true rfl) ⟨Nat.zero_le _, Nat.zero_le _⟩ dX6_chance_157 ?_
        have e9 := Option.some.inj hf
        exact fin 160 ls _ e9 (nar_i _) dX6_chance_160
      · rw [if_neg c1] at hf
        refine lv_iload hx hb dX6_chance_88 (lv_at hl 8 rfl) ?_
        refine lv_iload hx hb dX6_chance_90 (lv_at hl 5 rfl) ?_
        refine lv_iconst (v := (-1)) hx hb dX6_chance_92 (by decide) ?_
        refine lv_ixor hx hb dX6_chance_93 ?_
        refine lv_iand hx hb dX6_chance_94 ?_
        refine lv_if_ne (tgt := 140) hx hb dX6_chance_95 (by decide) (fun c4 => ?_) (fun c4 => ?_)
        · rw [if_neg c4] at hf
          exact b_140 k_81 hk_81 u1 u2 u3 u4 u5 u6 u7 u8 ls (lv_sub hl [0, 1, 2, 3, 4, 5, 6, 7, 8] rfl) hf
        · rw [if_pos c4] at hf
          refine lv_aload_n hx hb dX6_chance_98 rfl (lv_at hl 0 rfl) ?_
          refine lv_iload_n hx hb dX6_chance_99 rfl (lv_at hl 1 rfl) ?_
          refine lv_iload hx hb dX6_chance_100 (lv_at hl 8 rfl) ?_
          obtain ⟨z5, hz5, hf⟩ := bnd hf
          refine x_rdV (C := RX6) (n := 2) (ci := 6) hx hb hml hown hts hE (ct_X6_valueAfterDenials N l G cI cZ cO q A L rI rA tI tA dI dA wI wA uI uA aI aS aT eI eA sS sT bI u1 u8 z5 hz5) (bg 34 11 rfl) mb_X6_valueAfterDenials.1 mb_X6_valueAfterDenials.2.1 mb_X6_valueAfterDenials.2.2.1 mb_X6_valueAfterDenials.2.2.2 hd_X6_valueAfterDenials rfl (by decide) hP rfl rfl rfl rfl hl.1 (Nat.le_of_ble_eq_true rfl) ⟨Nat.zero_le _, Nat.zero_le _⟩ dX6_chance_102 ?_
          refine lv_iload_n hx hb dX6_chance_105 rfl (lv_at hl 2 rfl) ?_
          refine lv_icmp_lt (tgt := 140) hx hb dX6_chance_106 (by decide) (fun c6 => ?_) (fun c6 => ?_)
          · rw [if_pos c6] at hf
            exact b_140 k_81 hk_81 u1 u2 u3 u4 u5 u6 u7 u8 ls (lv_sub hl [0, 1, 2, 3, 4, 5, 6, 7, 8] rfl) hf
          · rw [if_neg c6] at hf
            refine lv_iload hx hb dX6_chance_109 (lv_at hl 8 rfl) ?_
            obtain ⟨z7, hz7, hf⟩ := bnd hf
            refine x_rdS (n := 1) hx hb hml hown hts hE (ct_J6_bitCount_0f7a4 N l G cI cZ cO u8 z7 hz7) (bg 18 2 rfl) mb_J6_bitCount_0f7a4.1 mb_J6_bitCount_0f7a4.2.1 mb_J6_bitCount_0f7a4.2.2 hd_J6_bitCount_0f7a4 rfl (by decide) va_P_nil rfl hl.1 (Nat.le_of_ble_eq_true rfl) ⟨Nat.zero_le _, Nat.zero_le _⟩ dX6_chance_111 ?_
            refine lv_istore (lv' := [(9, .int z7), (0, .ref (q 0)), (1, .int u1), (2, .int u2), (3, .int u3), (4, .int u4), (5, .int u5), (6, .int u6), (7, .int u7), (8, .int u8)]) hx hb dX6_chance_114 hl (by decide) rfl (fun ls hl => ?_)
            refine lv_iload hx hb dX6_chance_116 (lv_at hl 8 rfl) ?_
            refine lv_iload_n hx hb dX6_chance_118 rfl (lv_at hl 4 rfl) ?_
            refine lv_iload hx hb dX6_chance_119 (lv_at hl 0 rfl) ?_
            obtain ⟨z8, hz8, hf⟩ := bnd hf
            refine x_rdS (n := 2) hx hb hml hown hts hE (ct_X6_power N l G cI cZ cO u3 z7 z8 hz8) (bg 34 15 rfl) mb_X6_power.1 mb_X6_power.2.1 mb_X6_power.2.2 hd_X6_power rfl (by decide) va_P_nil rfl hl.1 (Nat.le_of_ble_eq_true rfl) ⟨Nat.zero_le _, Nat.zero_le _⟩ dX6_chance_121 ?_
            refine lv_bipush (v := 10) hx hb dX6_chance_124 (by decide) ?_
            refine lv_iload_n hx hb dX6_chance_126 rfl (lv_at hl 4 rfl) ?_
            refine lv_isub hx hb dX6_chance_127 ?_
            refine lv_iload hx hb dX6_chance_128 (lv_at hl 7 rfl) ?_
            refine lv_iload hx hb dX6_chance_130 (lv_at hl 0 rfl) ?_
            refine lv_isub hx hb dX6_chance_132 ?_
            obtain ⟨z9, hz9, hf⟩ := bnd hf
            refine x_rdS (n := 2) hx hb hml hown hts hE (ct_X6_power N l G cI cZ cO (10 - u3) (u6 - z7) z9 hz9) (bg 34 15 rfl) mb_X6_power.1 mb_X6_power.2.1 mb_X6_power.2.2 hd_X6_power rfl (by decide) va_P_nil rfl hl.1 (Nat.le_of_ble_eq_true rfl) ⟨Nat.zero_le _, Nat.zero_le _⟩ dX6_chance_133 ?_
            refine lv_imul hx hb dX6_chance_136 ?_
            refine lv_iadd hx hb dX6_chance_137 ?_
            refine lv_istore (lv' := [(7, .int (u7 + (z8 * z9))), (9, .int z7), (0, .ref (q 0)), (1, .int u1), (2, .int u2), (3, .int u3), (4, .int u4), (5, .int u5), (6, .int u6), (8, .int u8)]) hx hb dX6_chance_138 hl (by decide) rfl (fun ls hl => ?_)
            exact b_140 k_81 hk_81 u1 u2 u3 u4 u5 u6 (u7 + (z8 * z9)) u8 ls (lv_sub hl [2, 3, 4, 5, 6, 7, 8, 0, 9] rfl) hf
  have b_66 : ∀ (u1 : Int32) (u2 : Int32) (u3 : Int32) (u4 : Int32) (y0 : Int32), ∀ ls : Array Slot, lv_has ls 10 [(0, .ref (q 0)), (1, .int u1), (2, .int u2), (3, .int u3), (4, .int u4)] → fX6_chance_66 N tI tA wI wA u1 u2 u3 u4 y0 = some r → W p l e rmX6_chance s m [.ref (q 0), .int x1, .int x2, .int x3, .int x4].toArray below meth cd s.heap [] 0 0 Q (F0 m 66 ls [.int y0]) := by
    intro u1 u2 u3 u4 y0 ls hl hf
    unfold fX6_chance_66 at hf
    refine lv_istore (lv' := [(5, .int y0), (0, .ref (q 0)), (1, .int u1), (2, .int u2), (3, .int u3), (4, .int u4)]) hx hb dX6_chance_66 hl (by decide) rfl (fun ls hl => ?_)
    refine lv_iload hx hb dX6_chance_68 (lv_at hl 0 rfl) ?_
    obtain ⟨z1, hz1, hf⟩ := bnd hf
    refine x_rdS (n := 1) hx hb hml hown hts hE (ct_J6_bitCount_0f7a4 N l G cI cZ cO y0 z1 hz1) (bg 18 2 rfl) mb_J6_bitCount_0f7a4.1 mb_J6_bitCount_0f7a4.2.1 mb_J6_bitCount_0f7a4.2.2 hd_J6_bitCount_0f7a4 rfl (by decide) va_P_nil rfl hl.1 (Nat.le_of_ble_eq_true rfl) ⟨Nat.zero_le _, Nat.zero_le _⟩ dX6_chance_70 ?_
    refine lv_istore (lv' := [(6, .int z1), (5, .int y0), (0, .ref (q 0)), (1, .int u1), (2, .int u2), (3, .int u3), (4, .int u4)]) hx hb dX6_chance_73 hl (by decide) rfl (fun ls hl => ?_)
    refine lv_iconst (v := 0) hx hb dX6_chance_75 (by decide) ?_
    refine lv_istore (lv' := [(7, .int 0), (6, .int z1), (5, .int y0), (0, .ref (q 0)), (1, .int u1), (2, .int u2), (3, .int u3), (4, .int u4)]) hx hb dX6_chance_76 hl (by decide) rfl (fun ls hl => ?_)
    refine lv_iconst (v := 0) hx hb dX6_chance_78 (by decide) ?_
    refine lv_istore (lv' := [(8, .int 0), (7, .int 0), (6, .int z1), (5, .int y0), (0, .ref (q 0)), (1, .int u1), (2, .int u2), (3, .int u3), (4, .int u4)]) hx hb dX6_chance_79 hl (by decide) rfl (fun ls hl => ?_)
    exact b_81 N u1 u2 u3 u4 y0 z1 0 0 ls (lv_sub hl [4, 5, 6, 7, 8, 3, 2, 1, 0] rfl) hf
  have b_33 : ∀ ls : Array Slot, lv_has ls 10 [] → fX6_chance_33 N tI tA wI wA = some r → W p l e rmX6_chance s m [.ref (q 0), .int x1, .int x2, .int x3, .int x4].toArray below meth cd s.heap [] 0 0 Q (F0 m 33 ls []) := by
    intro ls hl hf
    unfold fX6_chance_33 at hf
    refine lv_bipush (v := (-2)) hx hb dX6_chance_33 (by decide) ?_
    have e9 := Option.some.inj hf
    exact fin 35 ls _ e9 (nar_i _) dX6_chance_35
  unfold fX6_chance at hf
  refine lv_aload_n hx hb dX6_chance_0 rfl (lv_at hl 0 rfl) ?_
  refine va_get (D := G) (ci := 6) (v := .ref (q 3)) (C := RX6) (T := TX6) (N := 15) hx hb hts inlX6 hown hE.1 hP 0 rfl rfl 1 (by decide) (hts _ (bg 0 20 rfl)) (fun _ h9 => h9) rfl dX6_chance_1 ?_
  refine lv_iload_n hx hb dX6_chance_4 rfl (lv_at hl 1 rfl) ?_
  obtain ⟨z1, hz1, hf⟩ := bnd hf
  refine x_rdV (C := RX5) (n := 1) (ci := 5) hx hb hml hown hts hE (ct_X5_hasRumour N l G cI cZ cO (sh q 3) tI tA x1 z1 hz1) (bg 12 7 rfl) mb_X5_hasRumour.1 mb_X5_hasRumour.2.1 mb_X5_hasRumour.2.2.1 mb_X5_hasRumour.2.2.2 hd_X5_hasRumour rfl (by decide) (x_cut hP [3, 4, 5, 6, 7, 8, 9] rfl) rfl rfl rfl rfl hl.1 (Nat.le_of_ble_eq_true rfl) ⟨Nat.zero_le _, Nat.zero_le _⟩ dX6_chance_5 ?_
  refine lv_if_ne (tgt := 13) hx hb dX6_chance_8 (by decide) (fun c2 => ?_) (fun c2 => ?_)
  · rw [if_neg c2] at hf
    refine lv_iload_n hx hb dX6_chance_13 rfl (lv_at hl 2 rfl) ?_
    refine lv_iconst (v := 0) hx hb dX6_chance_14 (by decide) ?_
    refine lv_bipush (v := 20) hx hb dX6_chance_15 (by decide) ?_
    obtain ⟨z3, hz3, hf⟩ := bnd hf
    refine x_rdS (n := 3) hx hb hml hown hts hE (ct_X6_isOutside N l G cI cZ cO x2 0 20 z3 hz3) (bg 4 17 rfl) mb_X6_isOutside.1 mb_X6_isOutside.2.1 mb_X6_isOutside.2.2 hd_X6_isOutside rfl (by decide) va_P_nil rfl hl.1 (Nat.le_of_ble_eq_true rfl) ⟨Nat.zero_le _, Nat.zero_le _⟩ dX6_chance_17 ?_
    refine lv_if_ne (tgt := 33) hx hb dX6_chance_20 (by decide) (fun c4 => ?_) (fun c4 => ?_)
    · rw [if_neg c4] at hf
      exact b_33 ls (lv_sub hl [] rfl) hf
    · rw [if_pos c4] at hf
      refine lv_iload_n hx hb dX6_chance_23 rfl (lv_at hl 3 rfl) ?_
      refine lv_iconst (v := 0) hx hb dX6_chance_24 (by decide) ?_
      refine lv_bipush (v := 10) hx hb dX6_chance_25 (by decide) ?_
      obtain ⟨z5, hz5, hf⟩ := bnd hf
      refine x_rdS (n := 3) hx hb hml hown hts hE (ct_X6_isOutside N l G cI cZ cO x3 0 10 z5 hz5) (bg 4 17 rfl) mb_X6_isOutside.1 mb_X6_isOutside.2.1 mb_X6_isOutside.2.2 hd_X6_isOutside rfl (by decide) va_P_nil rfl hl.1 (Nat.le_of_ble_eq_true rfl) ⟨Nat.zero_le _, Nat.zero_le _⟩ dX6_chance_27 ?_
      refine lv_if_eq (tgt := 36) hx hb dX6_chance_30 (by decide) (fun c6 => ?_) (fun c6 => ?_)
      · rw [if_pos c6] at hf
        refine lv_aload_n hx hb dX6_chance_36 rfl (lv_at hl 0 rfl) ?_
        refine va_get (D := G) (ci := 6) (v := .ref (q 3)) (C := RX6) (T := TX6) (N := 15) hx hb hts inlX6 hown hE.1 hP 0 rfl rfl 1 (by decide) (hts _ (bg 0 20 rfl)) (fun _ h9 => h9) rfl dX6_chance_37 ?_
        refine lv_iload_n hx hb dX6_chance_40 rfl (lv_at hl 1 rfl) ?_
        refine lv_aload_n hx hb dX6_chance_41 rfl (lv_at hl 0 rfl) ?_
        refine va_get (D := G) (ci := 6) (v := .ref (q 17)) (C := RX6) (T := TX6) (N := 15) hx hb hts inlX6 hown hE.1 hP 0 rfl rfl 3 (by decide) (hts _ (bg 1 1 rfl)) (fun _ h9 => h9) rfl dX6_chance_42 ?_
        refine va_get (D := G) (ci := 4) (v := .int ((wI 0))) (C := RX4) (T := TX4) (N := 4) hx hb hts inlX4 hown hE.1 hP 17 rfl rfl 3 (by decide) (hts _ (bg 12 6 rfl)) (fun _ h9 => h9) rfl dX6_chance_45 ?_
        obtain ⟨z7, hz7, hf⟩ := bnd hf
        refine x_rdV (C := RX5) (n := 2) (ci := 5) hx hb hml hown hts hE (ct_X5_isProvedTrue N l G cI cZ cO (sh q 3) tI tA x1 (wI 0) z7 hz7) (bg 34 10 rfl) mb_X5_isProvedTrue.1 mb_X5_isProvedTrue.2.1 mb_X5_isProvedTrue.2.2.1 mb_X5_isProvedTrue.2.2.2 hd_X5_isProvedTrue rfl (by decide) (x_cut hP [3, 4, 5, 6, 7, 8, 9] rfl) rfl rfl rfl rfl hl.1 (Nat.le_of_ble_eq_true rfl) ⟨Nat.zero_le _, Nat.zero_le _⟩ dX6_chance_48 ?_
        refine lv_if_eq (tgt := 58) hx hb dX6_chance_51 (by decide) (fun c8 => ?_) (fun c8 => ?_)
        · rw [if_pos c8] at hf
          refine lv_aload_n hx hb dX6_chance_58 rfl (lv_at hl 0 rfl) ?_
          refine va_get (D := G) (ci := 6) (v := .ref (q 17)) (C := RX6) (T := TX6) (N := 15) hx hb hts inlX6 hown hE.1 hP 0 rfl rfl 3 (by decide) (hts _ (bg 1 1 rfl)) (fun _ h9 => h9) rfl dX6_chance_59 ?_
          refine lv_iload_n hx hb dX6_chance_62 rfl (lv_at hl 1 rfl) ?_
          obtain ⟨z9, hz9, hf⟩ := bnd hf
          refine x_rdV (C := RX4) (n := 1) (ci := 4) hx hb hml hown hts hE (ct_X4_saidOf N l G cI cZ cO (sh q 17) wI wA x1 z9 hz9) (bg 12 12 rfl) mb_X4_saidOf.1 mb_X4_saidOf.2.1 mb_X4_saidOf.2.2.1 mb_X4_saidOf.2.2.2 hd_X4_saidOf rfl (by decide) (x_cut hP [17, 18, 19, 20] rfl) rfl rfl rfl rfl hl.1 (Nat.le_of_ble_eq_true rfl) ⟨Nat.zero_le _, Nat.zero_le _⟩ dX6_chance_63 ?_
          exact b_66 x1 x2 x3 x4 z9 ls (lv_sub hl [0, 1, 2, 3, 4] rfl) hf
        · rw [if_neg c8] at hf
          refine lv_iconst (v := 0) hx hb dX6_chance_54 (by decide) ?_
          refine lv_goto (tgt := 66) hx hb dX6_chance_55 (by decide) ?_
          exact b_66 x1 x2 x3 x4 0 ls (lv_sub hl [0, 1, 2, 3, 4] rfl) hf
      · rw [if_neg c6] at hf
        exact b_33 ls (lv_sub hl [] rfl) hf
  · rw [if_pos c2] at hf
    refine lv_iconst (v := (-1)) hx hb dX6_chance_11 (by decide) ?_
    have e9 := Option.some.inj hf
    exact fin 12 ls _ e9 (nar_i _) dX6_chance_12
