def fX5_hasPerson_22 (N : Nat) (I : Nat → Int32) (y0 : Int32) : Option (Int32) := (bz y0).bind fun v1 => some v1
def fX5_hasPerson_21 (N : Nat) (I : Nat → Int32) : Option (Int32) := fX5_hasPerson_22 N I 0
def fX5_hasPerson (N : Nat) (I : Nat → Int32) (x1 : Int32) : Option (Int32) := if x1 < 0 then fX5_hasPerson_21 N I else if (I 1) ≤ x1 then fX5_hasPerson_21 N I else if 4 ≤ x1 then fX5_hasPerson_21 N I else fX5_hasPerson_22 N I 1
def rmX5_hasPerson : Room := { frames := 0, cells := 0, slots := 0, locals := 0 }
theorem mb_X5_hasPerson : Cond.instanceMethod yX5_hasPerson ∈ wsL_law ∧ Cond.selects RX5 yX5_hasPerson yX5_hasPerson ∈ wsL_law ∧ Cond.initialized RX5 ∈ wsL_law ∧ Cond.code yX5_hasPerson cX5_hasPerson 2 (some .boolean) ∈ wsL_law := ⟨(bg 13 20 rfl), (bg 13 21 rfl), (bg 0 19 rfl), (bg 13 22 rfl)⟩
theorem hd_X5_hasPerson : yX5_hasPerson.cls = RX5 ∧ yX5_hasPerson.cls ≠ "java/lang/invoke/MethodHandle" ∧ yX5_hasPerson.cls ≠ "java/lang/invoke/VarHandle" ∧ (parseMethodDescriptor yX5_hasPerson.desc).map (fun d => d.parameters.length) = some 1 := by decide +kernel
set_option maxRecDepth 100000 in
set_option maxHeartbeats 4000000 in
theorem ct_X5_hasPerson (N : Nat) (l : Launch) (G : va_G) (cI cZ cO : ClassId) (q : Nat → Nat) (I : Nat → Int32) (A : Nat → Nat → Int32) (x1 : Int32) (r : Int32) (hf : fX5_hasPerson N I x1 = some r) : RtI l yX5_hasPerson cX5_hasPerson 2 .boolean rmX5_hasPerson G cI cZ cO [.ref (q 0), .int x1] (wX5 q cI cZ cO I A) r := by
  refine mkRI (by decide) (Nat.le_of_ble_eq_true rfl) ?_
  intro p e s m below meth cd Q hC hP hE fin ls hl
  obtain ⟨hx, hb, hml, hown, hts⟩ := hC
  have hown : s.vm.findClass RX5 = some m.cls := hown
  have hl : lv_has ls 2 [(0, .ref (q 0)), (1, .int x1)] := hl
  have b_22 : ∀ (y0 : Int32), ∀ ls : Array Slot, lv_has ls 2 [] → fX5_hasPerson_22 N I y0 = some r → W p l e rmX5_hasPerson s m [.ref (q 0), .int x1].toArray below meth cd s.heap [] 0 0 Q (F0 m 22 ls [.int y0]) := by
    intro y0 ls hl hf
    unfold fX5_hasPerson_22 at hf
    obtain ⟨v1, hv1, hf⟩ := bnd hf
    obtain ⟨ev1, hv1⟩ := bz_in hv1
    rw [ev1]
    have e9 := Option.some.inj hf
    exact fin 22 ls _ e9 (nar_z (by rw [← e9]; exact hv1)) dX5_hasPerson_22
  have b_21 : ∀ ls : Array Slot, lv_has ls 2 [] → fX5_hasPerson_21 N I = some r → W p l e rmX5_hasPerson s m [.ref (q 0), .int x1].toArray below meth cd s.heap [] 0 0 Q (F0 m 21 ls []) := by
    intro ls hl hf
    unfold fX5_hasPerson_21 at hf
    refine lv_iconst (v := 0) hx hb dX5_hasPerson_21 (by decide) ?_
    exact b_22 0 ls (lv_sub hl [] rfl) hf
  unfold fX5_hasPerson at hf
  refine lv_iload_n hx hb dX5_hasPerson_0 rfl (lv_at hl 1 rfl) ?_
  refine lv_if_lt (tgt := 21) hx hb dX5_hasPerson_1 (by decide) (fun c1 => ?_) (fun c1 => ?_)
  · rw [if_pos c1] at hf
    exact b_21 ls (lv_sub hl [] rfl) hf
  · rw [if_neg c1] at hf
    refine lv_iload_n hx hb dX5_hasPerson_4 rfl (lv_at hl 1 rfl) ?_
    refine lv_aload_n hx hb dX5_hasPerson_5 rfl (lv_at hl 0 rfl) ?_
    refine va_get (D := G) (ci := 5) (v := .int ((I 1))) (C := RX5) (T := TX5) (N := 8) hx hb hts inlX5 hown hE.1 hP 0 rfl rfl 7 (by decide) (hts _ (bg 6 11 rfl)) (fun _ h9 => h9) rfl dX5_hasPerson_6 ?_
    refine lv_icmp_ge (tgt := 21) hx hb dX5_hasPerson_9 (by decide) (fun c2 => ?_) (fun c2 => ?_)
    · rw [if_pos c2] at hf
      exact b_21 ls (lv_sub hl [] rfl) hf
    · rw [if_neg c2] at hf
      refine lv_iload_n hx hb dX5_hasPerson_12 rfl (lv_at hl 1 rfl) ?_
      refine lv_iconst (v := 4) hx hb dX5_hasPerson_13 (by decide) ?_
      refine lv_icmp_ge (tgt := 21) hx hb dX5_hasPerson_14 (by decide) (fun c3 => ?_) (fun c3 => ?_)
      · rw [if_pos c3] at hf
        exact b_21 ls (lv_sub hl [] rfl) hf
      · rw [if_neg c3] at hf
        refine lv_iconst (v := 1) hx hb dX5_hasPerson_17 (by decide) ?_
        refine lv_goto (tgt := 22) hx hb dX5_hasPerson_18 (by decide) ?_
        exact b_22 1 ls (lv_sub hl [] rfl) hf
def fX6_table_24 (N : Nat) (tI : Nat → Int32) (tA : Nat → Nat → Int32) (y0 : Int32) : Option (Int32) := some y0
def fX6_table (N : Nat) (tI : Nat → Int32) (tA : Nat → Nat → Int32) (x1 : Int32) : Option (Int32) := (fX5_hasPerson N tI x1).bind fun z1 => if z1 = 0 then fX6_table_24 N tI tA (-1) else (rd 4 (tA 5) x1).bind fun v3 => fX6_table_24 N tI tA v3
def rmX6_table : Room := { frames := 1, cells := 0, slots := 0, locals := 21 }
theorem mb_X6_table : Cond.instanceMethod yX6_table ∈ wsL_law ∧ Cond.selects RX6 yX6_table yX6_table ∈ wsL_law ∧ Cond.initialized RX6 ∈ wsL_law ∧ Cond.code yX6_table cX6_table 2 (some .int) ∈ wsL_law := ⟨(bg 13 15 rfl), (bg 13 16 rfl), (bg 0 2 rfl), (bg 13 17 rfl)⟩
theorem hd_X6_table : yX6_table.cls = RX6 ∧ yX6_table.cls ≠ "java/lang/invoke/MethodHandle" ∧ yX6_table.cls ≠ "java/lang/invoke/VarHandle" ∧ (parseMethodDescriptor yX6_table.desc).map (fun d => d.parameters.length) = some 1 := by decide +kernel
set_option maxRecDepth 100000 in
set_option maxHeartbeats 4000000 in
theorem ct_X6_table (N : Nat) (l : Launch) (G : va_G) (cI cZ cO : ClassId) (q : Nat → Nat) (A : Nat → Nat → Int32) (L : Int64) (rI : Nat → Int32) (rA : Nat → Nat → Int32) (tI : Nat → Int32) (tA : Nat → Nat → Int32) (dI : Nat → Int32) (dA : Nat → Nat → Int32) (wI : Nat → Int32) (wA : Nat → Nat → Int32) (uI : Nat → Int32) (uA : Nat → Nat → Int32) (aI : Nat → Int32) (aS : Nat → Nat → Int32) (aT : Nat → Nat → Nat → Int32) (eI : Nat → Int32) (eA : Nat → Nat → Int32) (sS : Nat → Nat → Int32) (sT : Nat → Nat → Nat → Int32) (bI : Nat → Int32) (x1 : Int32) (r : Int32) (hf : fX6_table N tI tA x1 = some r) : RtI l yX6_table cX6_table 2 .int rmX6_table G cI cZ cO [.ref (q 0), .int x1] (wX6 q cI cZ cO A L rI rA tI tA dI dA wI wA uI uA aI aS aT eI eA sS sT bI) r := by
  refine mkRI (by decide) (Nat.le_of_ble_eq_true rfl) ?_
  intro p e s m below meth cd Q hC hP hE fin ls hl
  obtain ⟨hx, hb, hml, hown, hts⟩ := hC
  have hown : s.vm.findClass RX6 = some m.cls := hown
  have hl : lv_has ls 2 [(0, .ref (q 0)), (1, .int x1)] := hl
  have b_24 : ∀ (y0 : Int32), ∀ ls : Array Slot, lv_has ls 2 [] → fX6_table_24 N tI tA y0 = some r → W p l e rmX6_table s m [.ref (q 0), .int x1].toArray below meth cd s.heap [] 0 0 Q (F0 m 24 ls [.int y0]) := by
    intro y0 ls hl hf
    unfold fX6_table_24 at hf
    have e9 := Option.some.inj hf
    exact fin 24 ls _ e9 (nar_i _) dX6_table_24
  unfold fX6_table at hf
  refine lv_aload_n hx hb dX6_table_0 rfl (lv_at hl 0 rfl) ?_
  refine va_get (D := G) (ci := 6) (v := .ref (q 3)) (C := RX6) (T := TX6) (N := 15) hx hb hts inlX6 hown hE.1 hP 0 rfl rfl 1 (by decide) (hts _ (bg 0 20 rfl)) (fun _ h9 => h9) rfl dX6_table_1 ?_
  refine lv_iload_n hx hb dX6_table_4 rfl (lv_at hl 1 rfl) ?_
  obtain ⟨z1, hz1, hf⟩ := bnd hf
  refine x_rdV (C := RX5) (n := 1) (ci := 5) hx hb hml hown hts hE (ct_X5_hasPerson N l G cI cZ cO (sh q 3) tI tA x1 z1 hz1) (bg 13 19 rfl) mb_X5_hasPerson.1 mb_X5_hasPerson.2.1 mb_X5_hasPerson.2.2.1 mb_X5_hasPerson.2.2.2 hd_X5_hasPerson rfl (by decide) (x_cut hP [3, 4, 5, 6, 7, 8, 9] rfl) rfl rfl rfl rfl hl.1 (Nat.le_of_ble_eq_true rfl) ⟨Nat.zero_le _, Nat.zero_le _⟩ dX6_table_5 ?_
  refine lv_if_eq (tgt := 23) hx hb dX6_table_8 (by decide) (fun c2 => ?_) (fun c2 => ?_)
  · rw [if_pos c2] at hf
    refine lv_iconst (v := (-1)) hx hb dX6_table_23 (by decide) ?_
    exact b_24 (-1) ls (lv_sub hl [] rfl) hf
  · rw [if_neg c2] at hf
    refine lv_aload_n hx hb dX6_table_11 rfl (lv_at hl 0 rfl) ?_
    refine va_get (D := G) (ci := 6) (v := .ref (q 3)) (C := RX6) (T := TX6) (N := 15) hx hb hts inlX6 hown hE.1 hP 0 rfl rfl 1 (by decide) (hts _ (bg 0 20 rfl)) (fun _ h9 => h9) rfl dX6_table_12 ?_
    refine va_get (D := G) (ci := 5) (v := .ref (q 9)) (C := RX5) (T := TX5) (N := 8) hx hb hts inlX5 hown hE.1 hP 3 rfl rfl 5 (by decide) (hts _ (bg 13 18 rfl)) (fun _ h9 => h9) rfl dX6_table_15 ?_
    refine lv_iload_n hx hb dX6_table_18 rfl (lv_at hl 1 rfl) ?_
    obtain ⟨v3, hv3, hf⟩ := bnd hf
    refine x_iald hx hb hE.1 hP 9 0 rfl rfl hv3 dX6_table_19 ?_
    refine lv_goto (tgt := 24) hx hb dX6_table_20 (by decide) ?_
    exact b_24 v3 ls (lv_sub hl [] rfl) hf
def fX4_coinsOf (N : Nat) (A : Nat → Nat → Int32) (x1 : Int32) (x2 : Int32) : Option (Int32) := (fX6_at N 20 (A 2) ((x1 * 5) + x2)).bind fun z1 => some z1
def rmX4_coinsOf : Room := { frames := 1, cells := 0, slots := 0, locals := 21 }
theorem mb_X4_coinsOf : Cond.instanceMethod yX4_coinsOf ∈ wsL_law ∧ Cond.selects RX4 yX4_coinsOf yX4_coinsOf ∈ wsL_law ∧ Cond.initialized RX4 ∈ wsL_law ∧ Cond.code yX4_coinsOf cX4_coinsOf 3 (some .int) ∈ wsL_law := ⟨(bg 14 12 rfl), (bg 14 13 rfl), (bg 1 0 rfl), (bg 14 14 rfl)⟩
theorem hd_X4_coinsOf : yX4_coinsOf.cls = RX4 ∧ yX4_coinsOf.cls ≠ "java/lang/invoke/MethodHandle" ∧ yX4_coinsOf.cls ≠ "java/lang/invoke/VarHandle" ∧ (parseMethodDescriptor yX4_coinsOf.desc).map (fun d => d.parameters.length) = some 2 := by decide +kernel
set_option maxRecDepth 100000 in
set_option maxHeartbeats 4000000 in
theorem ct_X4_coinsOf (N : Nat) (l : Launch) (G : va_G) (cI cZ cO : ClassId) (q : Nat → Nat) (I : Nat → Int32) (A : Nat → Nat → Int32) (x1 : Int32) (x2 : Int32) (r : Int32) (hf : fX4_coinsOf N A x1 x2 = some r) : RtI l yX4_coinsOf cX4_coinsOf 3 .int rmX4_coinsOf G cI cZ cO [.ref (q 0), .int x1, .int x2] (wX4 q cI cZ cO I A) r := by
  refine mkRI (by decide) (Nat.le_of_ble_eq_true rfl) ?_
  intro p e s m below meth cd Q hC hP hE fin ls hl
  obtain ⟨hx, hb, hml, hown, hts⟩ := hC
  have hown : s.vm.findClass RX4 = some m.cls := hown
  have hl : lv_has ls 3 [(0, .ref (q 0)), (1, .int x1), (2, .int x2)] := hl
  unfold fX4_coinsOf at hf
  refine lv_aload_n hx hb dX4_coinsOf_0 rfl (lv_at hl 0 rfl) ?_
  refine va_get (D := G) (ci := 4) (v := .ref (q 3)) (C := RX4) (T := TX4) (N := 4) hx hb hts inlX4 hown hE.1 hP 0 rfl rfl 2 (by decide) (hts _ (bg 2 17 rfl)) (fun _ h9 => h9) rfl dX4_coinsOf_1 ?_
  refine lv_iload_n hx hb dX4_coinsOf_4 rfl (lv_at hl 1 rfl) ?_
  refine lv_iconst (v := 5) hx hb dX4_coinsOf_5 (by decide) ?_
  refine lv_imul hx hb dX4_coinsOf_6 ?_
  refine lv_iload_n hx hb dX4_coinsOf_7 rfl (lv_at hl 2 rfl) ?_
  refine lv_iadd hx hb dX4_coinsOf_8 ?_
  obtain ⟨z1, hz1, hf⟩ := bnd hf
  refine x_rdN (n := 2) hx hb hml hown hts hE (ct_X6_at N l G cI cZ cO (q 3) 20 (A 2) ((x1 * 5) + x2) z1 hz1) (List.mem_of_getElem? (i := 11) rfl) mb_X6_at.1 mb_X6_at.2.1 mb_X6_at.2.2 hd_X6_at rfl (by decide) (x_cut hP [3] rfl) rfl hl.1 (Nat.le_of_ble_eq_true rfl) ⟨Nat.zero_le _, Nat.zero_le _⟩ dX4_coinsOf_9 ?_
  have e9 := Option.some.inj hf
  exact fin 12 ls _ e9 (nar_i _) dX4_coinsOf_12
def fX6_coins_22 (N : Nat) (tI : Nat → Int32) (wA : Nat → Nat → Int32) : Option (Int32) := some (-1)
def fX6_coins (N : Nat) (tI : Nat → Int32) (wA : Nat → Nat → Int32) (x1 : Int32) (x2 : Int32) : Option (Int32) := (fX5_hasPerson N tI x1).bind fun z1 => if z1 = 0 then fX6_coins_22 N tI wA else (fX5_hasRumour N tI x2).bind fun z3 => if z3 = 0 then fX6_coins_22 N tI wA else (fX4_coinsOf N wA x1 x2).bind fun z5 => some z5
def rmX6_coins : Room := { frames := 2, cells := 0, slots := 0, locals := 43 }
theorem mb_X6_coins : Cond.instanceMethod yX6_coins ∈ wsL_law ∧ Cond.selects RX6 yX6_coins yX6_coins ∈ wsL_law ∧ Cond.initialized RX6 ∈ wsL_law ∧ Cond.code yX6_coins cX6_coins 3 (some .int) ∈ wsL_law := ⟨(bg 14 8 rfl), (bg 14 9 rfl), (bg 0 2 rfl), (bg 14 10 rfl)⟩
theorem hd_X6_coins : yX6_coins.cls = RX6 ∧ yX6_coins.cls ≠ "java/lang/invoke/MethodHandle" ∧ yX6_coins.cls ≠ "java/lang/invoke/VarHandle" ∧ (parseMethodDescriptor yX6_coins.desc).map (fun d => d.parameters.length) = some 2 := by decide +kernel
set_option maxRecDepth 100000 in
set_option maxHeartbeats 4000000 in
theorem ct_X6_coins (N : Nat) (l : Launch) (G : va_G) (cI cZ cO : ClassId) (q : Nat → Nat) (A : Nat → Nat → Int32) (L : Int64) (rI : Nat → Int32) (rA : Nat → Nat → Int32) (tI : Nat → Int32) (tA : Nat → Nat → Int32) (dI : Nat → Int32) (dA : Nat → Nat → Int32) (wI : Nat → Int32) (wA : Nat → Nat → Int32) (uI : Nat → Int32) (uA : Nat → Nat → Int32) (aI : Nat → Int32) (aS : Nat → Nat → Int32) (aT : Nat → Nat → Nat → Int32) (eI : Nat → Int32) (eA : Nat → Nat → Int32) (sS : Nat → Nat → Int32) (sT : Nat → Nat → Nat → Int32) (bI : Nat → Int32) (x1 : Int32) (x2 : Int32) (r : Int32) (hf : fX6_coins N tI wA x1 x2 = some r) : RtI l yX6_coins cX6_coins 3 .int rmX6_coins G cI cZ cO [.ref (q 0), .int x1, .int x2] (wX6 q cI cZ cO A L rI rA tI tA dI dA wI wA uI uA aI aS aT eI eA sS sT bI) r := by
  refine mkRI (by decide) (Nat.le_of_ble_eq_true rfl) ?_
  intro p e s m below meth cd Q hC hP hE fin ls hl
  obtain ⟨hx, hb, hml, hown, hts⟩ := hC
  have hown : s.vm.findClass RX6 = some m.cls := hown
  have hl : lv_has ls 3 [(0, .ref (q 0)), (1, .int x1), (2, .int x2)] := hl
  have b_22 : ∀ ls : Array Slot, lv_has ls 3 [] → fX6_coins_22 N tI wA = some r → W p l e rmX6_coins s m [.ref (q 0), .int x1, .int x2].toArray below meth cd s.heap [] 0 0 Q (F0 m 22 ls []) := by
    intro ls hl hf
    unfold fX6_coins_22 at hf
    refine lv_iconst (v := (-1)) hx hb dX6_coins_22 (by decide) ?_
    have e9 := Option.some.inj hf
    exact fin 23 ls _ e9 (nar_i _) dX6_coins_23
  unfold fX6_coins at hf
  refine lv_aload_n hx hb dX6_coins_0 rfl (lv_at hl 0 rfl) ?_
  refine va_get (D := G) (ci := 6) (v := .ref (q 3)) (C := RX6) (T := TX6) (N := 15) hx hb hts inlX6 hown hE.1 hP 0 rfl rfl 1 (by decide) (hts _ (bg 0 20 rfl)) (fun _ h9 => h9) rfl dX6_coins_1 ?_
  refine lv_iload_n hx hb dX6_coins_4 rfl (lv_at hl 1 rfl) ?_
  obtain ⟨z1, hz1, hf⟩ := bnd hf
  refine x_rdV (C := RX5) (n := 1) (ci := 5) hx hb hml hown hts hE (ct_X5_hasPerson N l G cI cZ cO (sh q 3) tI tA x1 z1 hz1) (bg 13 19 rfl) mb_X5_hasPerson.1 mb_X5_hasPerson.2.1 mb_X5_hasPerson.2.2.1 mb_X5_hasPerson.2.2.2 hd_X5_hasPerson rfl (by decide) (x_cut hP [3, 4, 5, 6, 7, 8, 9] rfl) rfl rfl rfl rfl hl.1 (Nat.le_of_ble_eq_true rfl) ⟨Nat.zero_le _, Nat.zero_le _⟩ dX6_coins_5 ?_
  refine lv_if_eq (tgt := 22) hx hb dX6_coins_8 (by decide) (fun c2 => ?_) (fun c2 => ?_)
  · rw [if_pos c2] at hf
    exact b_22 ls (lv_sub hl [] rfl) hf
  · rw [if_neg c2] at hf
    refine lv_aload_n hx hb dX6_coins_11 rfl (lv_at hl 0 rfl) ?_
    refine va_get (D := G) (ci := 6) (v := .ref (q 3)) (C := RX6) (T := TX6) (N := 15) hx hb hts inlX6 hown hE.1 hP 0 rfl rfl 1 (by decide) (hts _ (bg 0 20 rfl)) (fun _ h9 => h9) rfl dX6_coins_12 ?_
    refine lv_iload_n hx hb dX6_coins_15 rfl (lv_at hl 2 rfl) ?_
    obtain ⟨z3, hz3, hf⟩ := bnd hf
    refine x_rdV (C := RX5) (n := 1) (ci := 5) hx hb hml hown hts hE (ct_X5_hasRumour N l G cI cZ cO (sh q 3) tI tA x2 z3 hz3) (bg 12 7 rfl) mb_X5_hasRumour.1 mb_X5_hasRumour.2.1 mb_X5_hasRumour.2.2.1 mb_X5_hasRumour.2.2.2 hd_X5_hasRumour rfl (by decide) (x_cut hP [3, 4, 5, 6, 7, 8, 9] rfl) rfl rfl rfl rfl hl.1 (Nat.le_of_ble_eq_true rfl) ⟨Nat.zero_le _, Nat.zero_le _⟩ dX6_coins_16 ?_
    refine lv_if_ne (tgt := 24) hx hb dX6_coins_19 (by decide) (fun c4 => ?_) (fun c4 => ?_)
    · rw [if_neg c4] at hf
      refine lv_aload_n hx hb dX6_coins_24 rfl (lv_at hl 0 rfl) ?_
      refine va_get (D := G) (ci := 6) (v := .ref (q 17)) (C := RX6) (T := TX6) (N := 15) hx hb hts inlX6 hown hE.1 hP 0 rfl rfl 3 (by decide) (hts _ (bg 1 1 rfl)) (fun _ h9 => h9) rfl dX6_coins_25 ?_
      refine lv_iload_n hx hb dX6_coins_28 rfl (lv_at hl 1 rfl) ?_
      refine lv_iload_n hx hb dX6_coins_29 rfl (lv_at hl 2 rfl) ?_
      obtain ⟨z5, hz5, hf⟩ := bnd hf
      refine x_rdV (C := RX4) (n := 2) (ci := 4) hx hb hml hown hts hE (ct_X4_coinsOf N l G cI cZ cO (sh q 17) wI wA x1 x2 z5 hz5) (bg 14 11 rfl) mb_X4_coinsOf.1 mb_X4_coinsOf.2.1 mb_X4_coinsOf.2.2.1 mb_X4_coinsOf.2.2.2 hd_X4_coinsOf rfl (by decide) (x_cut hP [17, 18, 19, 20] rfl) rfl rfl rfl rfl hl.1 (Nat.le_of_ble_eq_true rfl) ⟨Nat.zero_le _, Nat.zero_le _⟩ dX6_coins_30 ?_
      have e9 := Option.some.inj hf
      exact fin 33 ls _ e9 (nar_i _) dX6_coins_33
    · rw [if_pos c4] at hf
      exact b_22 ls (lv_sub hl [] rfl) hf
def fX4_copyFrom (N : Nat) (I : Nat → Int32) (A : Nat → Nat → Int32) (I1 : Nat → Int32) (A1 : Nat → Nat → Int32) : Option ((Nat → Int32) × (Nat → Nat → Int32)) := some (upd I 0 (I1 0), va_up (va_up (va_up A 0 (va_cpy (A1 0) (A 0) 0 0 5)) 1 (va_cpy (A1 1) (A 1) 0 0 5)) 2 (va_cpy (A1 2) (A 2) 0 0 20))
def rmX4_copyFrom : Room := { frames := 1, cells := 0, slots := 0, locals := 60 }
theorem mb_X4_copyFrom : Cond.instanceMethod yX4_copyFrom ∈ wsL_law ∧ Cond.selects RX4 yX4_copyFrom yX4_copyFrom ∈ wsL_law ∧ Cond.initialized RX4 ∈ wsL_law ∧ Cond.code yX4_copyFrom cX4_copyFrom 2 none ∈ wsL_law := ⟨(bg 15 14 rfl), (bg 15 15 rfl), (bg 1 0 rfl), (bg 15 16 rfl)⟩
theorem hd_X4_copyFrom : yX4_copyFrom.cls = RX4 ∧ yX4_copyFrom.cls ≠ "java/lang/invoke/MethodHandle" ∧ yX4_copyFrom.cls ≠ "java/lang/invoke/VarHandle" ∧ (parseMethodDescriptor yX4_copyFrom.desc).map (fun d => d.parameters.length) = some 1 := by decide +kernel
set_option maxRecDepth 100000 in
set_option maxHeartbeats 4000000 in
theorem ct_X4_copyFrom (N : Nat) (l : Launch) (G : va_G) (cI cZ cO : ClassId) (q : Nat → Nat) (I : Nat → Int32) (A : Nat → Nat → Int32) (q1 : Nat → Nat) (I1 : Nat → Int32) (A1 : Nat → Nat → Int32) (Iz : Nat → Int32) (Az : Nat → Nat → Int32) (hf : fX4_copyFrom N I A I1 A1 = some (Iz, Az)) : CtV l yX4_copyFrom cX4_copyFrom 2 rmX4_copyFrom G cI cZ cO [.ref (q 0), .ref (q1 0)] (wX4 q cI cZ cO I A ++ wX4 q1 cI cZ cO I1 A1) (wX4 q cI cZ cO Iz Az ++ wX4 q1 cI cZ cO I1 A1) := by
  refine mkCV (by decide) (Nat.le_of_ble_eq_true rfl) ?_
  intro p e s m below meth cd Q Z hC hP hE hD hA fin ls hl
  obtain ⟨hx, hb, hml, hown, hts⟩ := hC
  have hown : s.vm.findClass RX4 = some m.cls := hown
  have hl : lv_has ls 2 [(0, .ref (q 0)), (1, .ref (q1 0))] := hl
  unfold fX4_copyFrom at hf
  have hS : va_S Z s.heap s.heap [] := va_S.rf
  obtain ⟨H, hH⟩ : ∃ H, H = s.heap := ⟨_, rfl⟩
  obtain ⟨locs, hlocs⟩ : ∃ locs : List Loc, locs = [] := ⟨_, rfl⟩
  rw [← hlocs]
  rw [← hlocs] at hS
  suffices hW : ∀ H : Heap, va_P G vwCl (wX4 q cI cZ cO I A ++ wX4 q1 cI cZ cO I1 A1) H → va_S Z s.heap H locs → W p l e rmX4_copyFrom s m [.ref (q 0), .ref (q1 0)].toArray below meth cd H locs 0 0 Q (F0 m 0 ls []) from hW s.heap hP hS
  clear hP hS hH H
  intro H hP hS
  refine lv_aload_n hx hb dX4_copyFrom_0 rfl (lv_at hl 1 rfl) ?_
  refine va_get (D := G) (ci := 4) (v := .ref (q1 1)) (C := RX4) (T := TX4) (N := 4) hx hb hts inlX4 hown hE.1 hP 4 rfl rfl 0 (by decide) (hts _ (bg 2 15 rfl)) (fun _ h9 => h9) rfl dX4_copyFrom_1 ?_
  refine lv_iconst (v := 0) hx hb dX4_copyFrom_4 (by decide) ?_
  refine lv_aload_n hx hb dX4_copyFrom_5 rfl (lv_at hl 0 rfl) ?_
  refine va_get (D := G) (ci := 4) (v := .ref (q 1)) (C := RX4) (T := TX4) (N := 4) hx hb hts inlX4 hown hE.1 hP 0 rfl rfl 0 (by decide) (hts _ (bg 2 15 rfl)) (fun _ h9 => h9) rfl dX4_copyFrom_6 ?_
  refine lv_iconst (v := 0) hx hb dX4_copyFrom_9 (by decide) ?_
  refine lv_iconst (v := 5) hx hb dX4_copyFrom_10 (by decide) ?_
  refine va_copyi hx hb (hml.trans hl.1.symm) hown (hts _ (bg 15 17 rfl)) (hts _ (bg 15 18 rfl)) (hts _ (bg 15 19 rfl)) (hts _ (bg 15 20 rfl)) hE.1 hP hD hS 5 1 0 0 (f := (A1 0)) (g := (A 0)) rfl rfl rfl rfl rfl (by decide) (by decide) (by decide) (by decide) (by decide) (fun _ _ => rfl) (by decide) (by decide) dX4_copyFrom_11 (fun H locs hP hD hS => ?_)
  have hP : va_P G vwCl (wX4 q cI cZ cO I (va_up A 0 (va_cpy (A1 0) (A 0) 0 0 5)) ++ wX4 q1 cI cZ cO I1 A1) H := hP
  have hD : va_D Z (wX4 q cI cZ cO I (va_up A 0 (va_cpy (A1 0) (A 0) 0 0 5)) ++ wX4 q1 cI cZ cO I1 A1) := hD
  refine lv_aload_n hx hb dX4_copyFrom_14 rfl (lv_at hl 1 rfl) ?_
  refine va_get (D := G) (ci := 4) (v := .ref (q1 2)) (C := RX4) (T := TX4) (N := 4) hx hb hts inlX4 hown hE.1 hP 4 rfl rfl 1 (by decide) (hts _ (bg 2 16 rfl)) (fun _ h9 => h9) rfl dX4_copyFrom_15 ?_
  refine lv_iconst (v := 0) hx hb dX4_copyFrom_18 (by decide) ?_
  refine lv_aload_n hx hb dX4_copyFrom_19 rfl (lv_at hl 0 rfl) ?_
  refine va_get (D := G) (ci := 4) (v := .ref (q 2)) (C := RX4) (T := TX4) (N := 4) hx hb hts inlX4 hown hE.1 hP 0 rfl rfl 1 (by decide) (hts _ (bg 2 16 rfl)) (fun _ h9 => h9) rfl dX4_copyFrom_20 ?_
  refine lv_iconst (v := 0) hx hb dX4_copyFrom_23 (by decide) ?_
  refine lv_iconst (v := 5) hx hb dX4_copyFrom_24 (by decide) ?_
  refine va_copyi hx hb (hml.trans hl.1.symm) hown (hts _ (bg 15 17 rfl)) (hts _ (bg 15 18 rfl)) (hts _ (bg 15 19 rfl)) (hts _ (bg 15 20 rfl)) hE.1 hP hD hS 6 2 0 0 (f := (A1 1)) (g := (A 1)) rfl rfl rfl rfl rfl (by decide) (by decide) (by decide) (by decide) (by decide) (fun _ _ => rfl) (by decide) (by decide) dX4_copyFrom_25 (fun H locs hP hD hS => ?_)
  have hP : va_P G vwCl (wX4 q cI cZ cO I (va_up (va_up A 0 (va_cpy (A1 0) (A 0) 0 0 5)) 1 (va_cpy (A1 1) (A 1) 0 0 5)) ++ wX4 q1 cI cZ cO I1 A1) H := hP
  have hD : va_D Z (wX4 q cI cZ cO I (va_up (va_up A 0 (va_cpy (A1 0) (A 0) 0 0 5)) 1 (va_cpy (A1 1) (A 1) 0 0 5)) ++ wX4 q1 cI cZ cO I1 A1) := hD
  refine lv_aload_n hx hb dX4_copyFrom_28 rfl (lv_at hl 1 rfl) ?_
  refine va_get (D := G) (ci := 4) (v := .ref (q1 3)) (C := RX4) (T := TX4) (N := 4) hx hb hts inlX4 hown hE.1 hP 4 rfl rfl 2 (by decide) (hts _ (bg 2 17 rfl)) (fun _ h9 => h9) rfl dX4_copyFrom_29 ?_
  refine lv_iconst (v := 0) hx hb dX4_copyFrom_32 (by decide) ?_
  refine lv_aload_n hx hb dX4_copyFrom_33 rfl (lv_at hl 0 rfl) ?_
  refine va_get (D := G) (ci := 4) (v := .ref (q 3)) (C := RX4) (T := TX4) (N := 4) hx hb hts inlX4 hown hE.1 hP 0 rfl rfl 2 (by decide) (hts _ (bg 2 17 rfl)) (fun _ h9 => h9) rfl dX4_copyFrom_34 ?_
  refine lv_iconst (v := 0) hx hb dX4_copyFrom_37 (by decide) ?_
  refine lv_bipush (v := 20) hx hb dX4_copyFrom_38 (by decide) ?_
  refine va_copyi hx hb (hml.trans hl.1.symm) hown (hts _ (bg 15 17 rfl)) (hts _ (bg 15 18 rfl)) (hts _ (bg 15 19 rfl)) (hts _ (bg 15 20 rfl)) hE.1 hP hD hS 7 3 0 0 (f := (A1 2)) (g := (A 2)) rfl rfl rfl rfl rfl (by decide) (by decide) (by decide) (by decide) (by decide) (fun _ _ => rfl) (by decide) (by decide) dX4_copyFrom_40 (fun H locs hP hD hS => ?_)
  have hP : va_P G vwCl (wX4 q cI cZ cO I (va_up (va_up (va_up A 0 (va_cpy (A1 0) (A 0) 0 0 5)) 1 (va_cpy (A1 1) (A 1) 0 0 5)) 2 (va_cpy (A1 2) (A 2) 0 0 20)) ++ wX4 q1 cI cZ cO I1 A1) H := hP
  have hD : va_D Z (wX4 q cI cZ cO I (va_up (va_up (va_up A 0 (va_cpy (A1 0) (A 0) 0 0 5)) 1 (va_cpy (A1 1) (A 1) 0 0 5)) 2 (va_cpy (A1 2) (A 2) 0 0 20)) ++ wX4 q1 cI cZ cO I1 A1) := hD
  refine lv_aload_n hx hb dX4_copyFrom_43 rfl (lv_at hl 0 rfl) ?_
  refine lv_aload_n hx hb dX4_copyFrom_44 rfl (lv_at hl 1 rfl) ?_
  refine va_get (D := G) (ci := 4) (v := .int ((I1 0))) (C := RX4) (T := TX4) (N := 4) hx hb hts inlX4 hown hE.1 hP 4 rfl rfl 3 (by decide) (hts _ (bg 11 14 rfl)) (fun _ h9 => h9) rfl dX4_copyFrom_45 ?_
  refine va_put (D := G) (ci := 4) (v := .int ((I1 0))) (ty := .int) (C := RX4) (T := TX4) (N := 4) hx hb hts inlX4 tyX4 tyX4_ok nmX4 hown hE.1 hP hD hS 0 rfl rfl 3 (by decide) (hts _ (bg 11 14 rfl)) (fun _ h9 => h9) rfl (by decide +kernel) rfl rfl (Nat.le_of_ble_eq_true rfl) dX4_copyFrom_48 (fun H locs hP hD hS => ?_)
  have hP : va_P G vwCl (wX4 q cI cZ cO (upd I 0 (I1 0)) (va_up (va_up (va_up A 0 (va_cpy (A1 0) (A 0) 0 0 5)) 1 (va_cpy (A1 1) (A 1) 0 0 5)) 2 (va_cpy (A1 2) (A 2) 0 0 20)) ++ wX4 q1 cI cZ cO I1 A1) H := hP
  have hD : va_D Z (wX4 q cI cZ cO (upd I 0 (I1 0)) (va_up (va_up (va_up A 0 (va_cpy (A1 0) (A 0) 0 0 5)) 1 (va_cpy (A1 1) (A 1) 0 0 5)) 2 (va_cpy (A1 2) (A 2) 0 0 20)) ++ wX4 q1 cI cZ cO I1 A1) := hD
  have e9 := Option.some.inj hf
  exact fin H locs 51 ls (by rw [← (Prod.mk.inj e9).1, ← (Prod.mk.inj e9).2]; exact hP) hS dX4_copyFrom_51
def fX0_remember_66 (N : Nat) (I : Nat → Int32) (S : Nat → Nat → Int32) (T : Nat → Nat → Nat → Int32) (I1 : Nat → Int32) (A1 : Nat → Nat → Int32) : Option ((Nat → Int32) × (Nat → Nat → Int32) × (Nat → Nat → Nat → Int32)) := some (I, S, T)
def fX0_remember_28 (N : Nat) (I : Nat → Int32) (S : Nat → Nat → Int32) (T : Nat → Nat → Nat → Int32) (I1 : Nat → Int32) (A1 : Nat → Nat → Int32) : Option ((Nat → Int32) × (Nat → Nat → Int32) × (Nat → Nat → Nat → Int32)) := fX0_remember_66 N I S T I1 A1
def fX0_remember_28r1 (N : Nat) (I : Nat → Int32) (S : Nat → Nat → Int32) (T : Nat → Nat → Nat → Int32) (I1 : Nat → Int32) (A1 : Nat → Nat → Int32) : Option ((Nat → Int32) × (Nat → Nat → Int32) × (Nat → Nat → Nat → Int32)) := (fX4_copyFrom N (S 0) (T 0) I1 A1).bind fun z1 => fX0_remember_66 N (upd (upd I 0 (rem ((I 0) + 1) 14)) 1 (if 14 < ((I 1) + 1) then 14 else ((I 1) + 1))) (va_up S 0 z1.1) (va_up T 0 z1.2) I1 A1
def fX0_remember_28r2 (N : Nat) (I : Nat → Int32) (S : Nat → Nat → Int32) (T : Nat → Nat → Nat → Int32) (I1 : Nat → Int32) (A1 : Nat → Nat → Int32) : Option ((Nat → Int32) × (Nat → Nat → Int32) × (Nat → Nat → Nat → Int32)) := (fX4_copyFrom N (S 1) (T 1) I1 A1).bind fun z1 => fX0_remember_66 N (upd (upd I 0 (rem ((I 0) + 1) 14)) 1 (if 14 < ((I 1) + 1) then 14 else ((I 1) + 1))) (va_up S 1 z1.1) (va_up T 1 z1.2) I1 A1
def fX0_remember_28r3 (N : Nat) (I : Nat → Int32) (S : Nat → Nat → Int32) (T : Nat → Nat → Nat → Int32) (I1 : Nat → Int32) (A1 : Nat → Nat → Int32) : Option ((Nat → Int32) × (Nat → Nat → Int32) × (Nat → Nat → Nat → Int32)) := (fX4_copyFrom N (S 2) (T 2) I1 A1).bind fun z1 => fX0_remember_66 N (upd (upd I 0 (rem ((I 0) + 1) 14)) 1 (if 14 < ((I 1) + 1) then 14 else ((I 1) + 1))) (va_up S 2 z1.1) (va_up T 2 z1.2) I1 A1
def fX0_remember_28r4 (N : Nat) (I : Nat → Int32) (S : Nat → Nat → Int32) (T : Nat → Nat → Nat → Int32) (I1 : Nat → Int32) (A1 : Nat → Nat → Int32) : Option ((Nat → Int32) × (Nat → Nat → Int32) × (Nat → Nat → Nat → Int32)) := (fX4_copyFrom N (S 3) (T 3) I1 A1).bind fun z1 => fX0_remember_66 N (upd (upd I 0 (rem ((I 0) + 1) 14)) 1 (if 14 < ((I 1) + 1) then 14 else ((I 1) + 1))) (va_up S 3 z1.1) (va_up T 3 z1.2) I1 A1
def fX0_remember_28r5 (N : Nat) (I : Nat → Int32) (S : Nat → Nat → Int32) (T : Nat → Nat → Nat → Int32) (I1 : Nat → Int32) (A1 : Nat → Nat → Int32) : Option ((Nat → Int32) × (Nat → Nat → Int32) × (Nat → Nat → Nat → Int32)) := (fX4_copyFrom N (S 4) (T 4) I1 A1).bind fun z1 => fX0_remember_66 N (upd (upd I 0 (rem ((I 0) + 1) 14)) 1 (if 14 < ((I 1) + 1) then 14 else ((I 1) + 1))) (va_up S 4 z1.1) (va_up T 4 z1.2) I1 A1
def fX0_remember_28r6 (N : Nat) (I : Nat → Int32) (S : Nat → Nat → Int32) (T : Nat → Nat → Nat → Int32) (I1 : Nat → Int32) (A1 : Nat → Nat → Int32) : Option ((Nat → Int32) × (Nat → Nat → Int32) × (Nat → Nat → Nat → Int32)) := (fX4_copyFrom N (S 5) (T 5) I1 A1).bind fun z1 => fX0_remember_66 N (upd (upd I 0 (rem ((I 0) + 1) 14)) 1 (if 14 < ((I 1) + 1) then 14 else ((I 1) + 1))) (va_up S 5 z1.1) (va_up T 5 z1.2) I1 A1
def fX0_remember_28r7 (N : Nat) (I : Nat → Int32) (S : Nat → Nat → Int32) (T : Nat → Nat → Nat → Int32) (I1 : Nat → Int32) (A1 : Nat → Nat → Int32) : Option ((Nat → Int32) × (Nat → Nat → Int32) × (Nat → Nat → Nat → Int32)) := (fX4_copyFrom N (S 6) (T 6) I1 A1).bind fun z1 => fX0_remember_66 N (upd (upd I 0 (rem ((I 0) + 1) 14)) 1 (if 14 < ((I 1) + 1) then 14 else ((I 1) + 1))) (va_up S 6 z1.1) (va_up T 6 z1.2) I1 A1
def fX0_remember_28r8 (N : Nat) (I : Nat → Int32) (S : Nat → Nat → Int32) (T : Nat → Nat → Nat → Int32) (I1 : Nat → Int32) (A1 : Nat → Nat → Int32) : Option ((Nat → Int32) × (Nat → Nat → Int32) × (Nat → Nat → Nat → Int32)) := (fX4_copyFrom N (S 7) (T 7) I1 A1).bind fun z1 => fX0_remember_66 N (upd (upd I 0 (rem ((I 0) + 1) 14)) 1 (if 14 < ((I 1) + 1) then 14 else ((I 1) + 1))) (va_up S 7 z1.1) (va_up T 7 z1.2) I1 A1
def fX0_remember_28r9 (N : Nat) (I : Nat → Int32) (S : Nat → Nat → Int32) (T : Nat → Nat → Nat → Int32) (I1 : Nat → Int32) (A1 : Nat → Nat → Int32) : Option ((Nat → Int32) × (Nat → Nat → Int32) × (Nat → Nat → Nat → Int32)) := (fX4_copyFrom N (S 8) (T 8) I1 A1).bind fun z1 => fX0_remember_66 N (upd (upd I 0 (rem ((I 0) + 1) 14)) 1 (if 14 < ((I 1) + 1) then 14 else ((I 1) + 1))) (va_up S 8 z1.1) (va_up T 8 z1.2) I1 A1
def fX0_remember_28r10 (N : Nat) (I : Nat → Int32) (S : Nat → Nat → Int32) (T : Nat → Nat → Nat → Int32) (I1 : Nat → Int32) (A1 : Nat → Nat → Int32) : Option ((Nat → Int32) × (Nat → Nat → Int32) × (Nat → Nat → Nat → Int32)) := (fX4_copyFrom N (S 9) (T 9) I1 A1).bind fun z1 => fX0_remember_66 N (upd (upd I 0 (rem ((I 0) + 1) 14)) 1 (if 14 < ((I 1) + 1) then 14 else ((I 1) + 1))) (va_up S 9 z1.1) (va_up T 9 z1.2) I1 A1
def fX0_remember_28r11 (N : Nat) (I : Nat → Int32) (S : Nat → Nat → Int32) (T : Nat → Nat → Nat → Int32) (I1 : Nat → Int32) (A1 : Nat → Nat → Int32) : Option ((Nat → Int32) × (Nat → Nat → Int32) × (Nat → Nat → Nat → Int32)) := (fX4_copyFrom N (S 10) (T 10) I1 A1).bind fun z1 => fX0_remember_66 N (upd (upd I 0 (rem ((I 0) + 1) 14)) 1 (if 14 < ((I 1) + 1) then 14 else ((I 1) + 1))) (va_up S 10 z1.1) (va_up T 10 z1.2) I1 A1
def fX0_remember_28r12 (N : Nat) (I : Nat → Int32) (S : Nat → Nat → Int32) (T : Nat → Nat → Nat → Int32) (I1 : Nat → Int32) (A1 : Nat → Nat → Int32) : Option ((Nat → Int32) × (Nat → Nat → Int32) × (Nat → Nat → Nat → Int32)) := (fX4_copyFrom N (S 11) (T 11) I1 A1).bind fun z1 => fX0_remember_66 N (upd (upd I 0 (rem ((I 0) + 1) 14)) 1 (if 14 < ((I 1) + 1) then 14 else ((I 1) + 1))) (va_up S 11 z1.1) (va_up T 11 z1.2) I1 A1
def fX0_remember_28r13 (N : Nat) (I : Nat → Int32) (S : Nat → Nat → Int32) (T : Nat → Nat → Nat → Int32) (I1 : Nat → Int32) (A1 : Nat → Nat → Int32) : Option ((Nat → Int32) × (Nat → Nat → Int32) × (Nat → Nat → Nat → Int32)) := (fX4_copyFrom N (S 12) (T 12) I1 A1).bind fun z1 => fX0_remember_66 N (upd (upd I 0 (rem ((I 0) + 1) 14)) 1 (if 14 < ((I 1) + 1) then 14 else ((I 1) + 1))) (va_up S 12 z1.1) (va_up T 12 z1.2) I1 A1
def fX0_remember_28r14 (N : Nat) (I : Nat → Int32) (S : Nat → Nat → Int32) (T : Nat → Nat → Nat → Int32) (I1 : Nat → Int32) (A1 : Nat → Nat → Int32) : Option ((Nat → Int32) × (Nat → Nat → Int32) × (Nat → Nat → Nat → Int32)) := (fX4_copyFrom N (S 13) (T 13) I1 A1).bind fun z1 => fX0_remember_66 N (upd (upd I 0 (rem ((I 0) + 1) 14)) 1 (if 14 < ((I 1) + 1) then 14 else ((I 1) + 1))) (va_up S 13 z1.1) (va_up T 13 z1.2) I1 A1
def fX0_remember (N : Nat) (I : Nat → Int32) (S : Nat → Nat → Int32) (T : Nat → Nat → Nat → Int32) (I1 : Nat → Int32) (A1 : Nat → Nat → Int32) : Option ((Nat → Int32) × (Nat → Nat → Int32) × (Nat → Nat → Nat → Int32)) := (fX6_isIndex N (I 0) 14).bind fun z1 => if z1 = 0 then fX0_remember_28 N I S T I1 A1 else if (I 0) = 0 then fX0_remember_28r1 N I S T I1 A1 else if (I 0) = 1 then fX0_remember_28r2 N I S T I1 A1 else if (I 0) = 2 then fX0_remember_28r3 N I S T I1 A1 else if (I 0) = 3 then fX0_remember_28r4 N I S T I1 A1 else if (I 0) = 4 then fX0_remember_28r5 N I S T I1 A1 else if (I 0) = 5 then fX0_remember_28r6 N I S T I1 A1 else if (I 0) = 6 then fX0_remember_28r7 N I S T I1 A1 else if (I 0) = 7 then fX0_remember_28r8 N I S T I1 A1 else if (I 0) = 8 then fX0_remember_28r9 N I S T I1 A1 else if (I 0) = 9 then fX0_remember_28r10 N I S T I1 A1 else if (I 0) = 10 then fX0_remember_28r11 N I S T I1 A1 else if (I 0) = 11 then fX0_remember_28r12 N I S T I1 A1 else if (I 0) = 12 then fX0_remember_28r13 N I S T I1 A1 else if (I 0) = 13 then fX0_remember_28r14 N I S T I1 A1 else none
def rmX0_remember : Room := { frames := 2, cells := 0, slots := 0, locals := 81 }
theorem mb_X0_remember : Cond.instanceMethod yX0_remember ∈ wsL_law ∧ Cond.selects RX0 yX0_remember yX0_remember ∈ wsL_law ∧ Cond.initialized RX0 ∈ wsL_law ∧ Cond.code yX0_remember cX0_remember 3 none ∈ wsL_law := ⟨(bg 15 4 rfl), (bg 15 5 rfl), (bg 1 5 rfl), (bg 15 6 rfl)⟩
theorem hd_X0_remember : yX0_remember.cls = RX0 ∧ yX0_remember.cls ≠ "java/lang/invoke/MethodHandle" ∧ yX0_remember.cls ≠ "java/lang/invoke/VarHandle" ∧ (parseMethodDescriptor yX0_remember.desc).map (fun d => d.parameters.length) = some 1 := by decide +kernel
set_option maxRecDepth 100000 in
set_option maxHeartbeats 4000000 in
theorem ct_X0_remember (N : Nat) (l : Launch) (G : va_G) (cI cZ cO : ClassId) (q : Nat → Nat) (I : Nat → Int32) (S : Nat → Nat → Int32) (T : Nat → Nat → Nat → Int32) (q1 : Nat → Nat) (I1 : Nat → Int32) (A1 : Nat → Nat → Int32) (Iz : Nat → Int32) (Sz : Nat → Nat → Int32) (Tz : Nat → Nat → Nat → Int32) (hf : fX0_remember N I S T I1 A1 = some (Iz, Sz, Tz)) : CtV l yX0_remember cX0_remember 3 rmX0_remember G cI cZ cO [.ref (q 0), .ref (q1 0)] (wX0 q cI cZ cO I S T ++ wX4 q1 cI cZ cO I1 A1) (wX0 q cI cZ cO Iz Sz Tz ++ wX4 q1 cI cZ cO I1 A1) := by
  refine mkCV (by decide) (Nat.le_of_ble_eq_true rfl) ?_
  intro p e s m below meth cd Q Z hC hP hE hD hA fin ls hl
  obtain ⟨hx, hb, hml, hown, hts⟩ := hC
  have hown : s.vm.findClass RX0 = some m.cls := hown
  have hl : lv_has ls 3 [(0, .ref (q 0)), (1, .ref (q1 0))] := hl
  have b_66 : ∀ (I : Nat → Int32) (S : Nat → Nat → Int32) (T : Nat → Nat → Nat → Int32), ∀ (H : Heap) (locs : List Loc), va_P G vwCl (wX0 q cI cZ cO I S T ++ wX4 q1 cI cZ cO I1 A1) H → va_D Z (wX0 q cI cZ cO I S T ++ wX4 q1 cI cZ cO I1 A1) → va_S Z s.heap H locs → ∀ ls : Array Slot, lv_has ls 3 [] → fX0_remember_66 N I S T I1 A1 = some (Iz, Sz, Tz) → W p l e rmX0_remember s m [.ref (q 0), .ref (q1 0)].toArray below meth cd H locs 0 0 Q (F0 m 66 ls []) := by
    intro I S T H locs hP hD hS ls hl hf
    unfold fX0_remember_66 at hf
    have e9 := Option.some.inj hf
    exact fin H locs 66 ls (by rw [← (Prod.mk.inj e9).1, ← (Prod.mk.inj (Prod.mk.inj e9).2).1, ← (Prod.mk.inj (Prod.mk.inj e9).2).2]; exact hP) hS dX0_remember_66
  have b_28 : ∀ (I : Nat → Int32) (S : Nat → Nat → Int32) (T : Nat → Nat → Nat → Int32), ∀ (H : Heap) (locs : List Loc), va_P G vwCl (wX0 q cI cZ cO I S T ++ wX4 q1 cI cZ cO I1 A1) H → va_D Z (wX0 q cI cZ cO I S T ++ wX4 q1 cI cZ cO I1 A1) → va_S Z s.heap H locs → ∀ ls : Array Slot, lv_has ls 3 [(0, .ref (q 0)), (1, .ref (q1 0))] → fX0_remember_28 N I S T I1 A1 = some (Iz, Sz, Tz) → W p l e rmX0_remember s m [.ref (q 0), .ref (q1 0)].toArray below meth cd H locs 0 0 Q (F0 m 28 ls [.null]) := by
    intro I S T H locs hP hD hS ls hl hf
    unfold fX0_remember_28 at hf
    refine lv_astore_nN (lv' := [(2, .null), (0, .ref (q 0)), (1, .ref (q1 0))]) hx hb dX0_remember_28 rfl hl (by decide) rfl (fun ls hl => ?_)
    refine lv_aload_nN hx hb dX0_remember_29 rfl (lv_at hl 0 rfl) ?_
    refine lv_ifnullN (tgt := 66) hx hb dX0_remember_30 (by decide) ?_
    exact b_66 I S T H locs hP hD hS ls (lv_sub hl [] rfl) hf
  have b_28r1 : ∀ (I : Nat → Int32) (S : Nat → Nat → Int32) (T : Nat → Nat → Nat → Int32), ∀ (H : Heap) (locs : List Loc), va_P G vwCl (wX0 q cI cZ cO I S T ++ wX4 q1 cI cZ cO I1 A1) H → va_D Z (wX0 q cI cZ cO I S T ++ wX4 q1 cI cZ cO I1 A1) → va_S Z s.heap H locs → ∀ ls : Array Slot, lv_has ls 3 [(0, .ref (q 0)), (1, .ref (q1 0))] → fX0_remember_28r1 N I S T I1 A1 = some (Iz, Sz, Tz) → W p l e rmX0_remember s m [.ref (q 0), .ref (q1 0)].toArray below meth cd H locs 0 0 Q (F0 m 28 ls [.ref (q 2)]) := by
    intro I S T H locs hP hD hS ls hl hf
    unfold fX0_remember_28r1 at hf
    refine lv_astore_n (lv' := [(2, .ref (q 2)), (0, .ref (q 0)), (1, .ref (q1 0))]) hx hb dX0_remember_28 rfl hl (by decide) rfl (fun ls hl => ?_)
    refine lv_aload_n hx hb dX0_remember_29 rfl (lv_at hl 0 rfl) ?_
    refine lv_ifnull hx hb dX0_remember_30 ?_
    refine lv_aload_n hx hb dX0_remember_33 rfl (lv_at hl 0 rfl) ?_
    refine lv_aload_n hx hb dX0_remember_34 rfl (lv_at hl 2 rfl) ?_
    obtain ⟨z1, hz1, hf⟩ := bnd hf
    refine x_wrVv (C := RX4) (n := 1) (ci := 4) (ws1 := (wX0 q cI cZ cO I (va_up S 0 z1.1) (va_up T 0 z1.2) ++ wX4 q1 cI cZ cO I1 A1)) hx hb hml hown hts hE (ct_X4_copyFrom N l G cI cZ cO (sh q 2) (S 0) (T 0) q1 I1 A1 z1.1 z1.2 hz1) (bg 15 13 rfl) mb_X4_copyFrom.1 mb_X4_copyFrom.2.1 mb_X4_copyFrom.2.2.1 mb_X4_copyFrom.2.2.2 hd_X4_copyFrom rfl (by decide) hP hD hS hA [2, 3, 4, 5, 58, 59, 60, 61] [false, false, true, true, true, true, false, false, false, false, false, false, false, false, false, false, false, false, false, false, false, false, false, false, false, false, false, false, false, false, false, false, false, false, false, false, false, false, false, false, false, false, false, false, false, false, false, false, false, false, false, false, false, false, false, false, false, false, true, true, true, true] (by decide) (by decide +kernel) rfl rfl ⟨rfl, rfl, rfl, rfl, rfl, rfl, rfl, rfl, rfl, rfl, rfl, rfl, rfl, rfl, rfl, rfl, rfl, rfl, rfl, rfl, rfl, rfl, rfl, rfl, rfl, rfl, rfl, rfl, rfl, rfl, rfl, rfl, rfl, rfl, rfl, rfl, rfl, rfl, rfl, rfl, rfl, rfl, rfl, rfl, rfl, rfl, rfl, rfl, rfl, rfl, rfl, rfl, rfl, rfl, rfl, rfl, rfl, rfl, rfl, rfl, rfl, rfl, trivial⟩ rfl rfl rfl rfl hl.1 (Nat.le_of_ble_eq_true rfl) ⟨Nat.zero_le _, Nat.zero_le _⟩ dX0_remember_35 (fun H locs hP hD hS => ?_)
    refine lv_aload_n hx hb dX0_remember_38 rfl (lv_at hl 1 rfl) ?_
    refine lv_aload_n hx hb dX0_remember_39 rfl (lv_at hl 1 rfl) ?_
    refine va_get (D := G) (ci := 0) (v := .int ((I 0))) (C := RX0) (T := TX0) (N := 3) hx hb hts inlX0 hown hE.1 hP 0 rfl rfl 1 (by decide) (hts _ (bg 15 7 rfl)) (fun _ h9 => h9) rfl dX0_remember_40 ?_
    refine lv_iconst (v := 1) hx hb dX0_remember_43 (by decide) ?_
    refine lv_iadd hx hb dX0_remember_44 ?_
    refine lv_bipush (v := 14) hx hb dX0_remember_45 (by decide) ?_
    refine x_irem hx hb dX0_remember_47 (by decide) ?_
    refine va_put (D := G) (ci := 0) (v := .int (rem ((I 0) + 1) 14)) (ty := .int) (C := RX0) (T := TX0) (N := 3) hx hb hts inlX0 tyX0 tyX0_ok nmX0 hown hE.1 hP hD hS 0 rfl rfl 1 (by decide) (hts _ (bg 15 7 rfl)) (fun _ h9 => h9) rfl (by decide +kernel) rfl rfl (Nat.le_of_ble_eq_true rfl) dX0_remember_48 (fun H locs hP hD hS => ?_)
    have hP : va_P G vwCl (wX0 q cI cZ cO (upd I 0 (rem ((I 0) + 1) 14)) (va_up S 0 z1.1) (va_up T 0 z1.2) ++ wX4 q1 cI cZ cO I1 A1) H := hP
    have hD : va_D Z (wX0 q cI cZ cO (upd I 0 (rem ((I 0) + 1) 14)) (va_up S 0 z1.1) (va_up T 0 z1.2) ++ wX4 q1 cI cZ cO I1 A1) := hD
    refine lv_aload_n hx hb dX0_remember_51 rfl (lv_at hl 1 rfl) ?_
    refine lv_aload_n hx hb dX0_remember_52 rfl (lv_at hl 1 rfl) ?_
    refine va_get (D := G) (ci := 0) (v := .int ((I 1))) (C := RX0) (T := TX0) (N := 3) hx hb hts inlX0 hown hE.1 hP 0 rfl rfl 2 (by decide) (hts _ (bg 15 8 rfl)) (fun _ h9 => h9) rfl dX0_remember_53 ?_
    refine lv_iconst (v := 1) hx hb dX0_remember_56 (by decide) ?_
    refine lv_iadd hx hb dX0_remember_57 ?_
    refine lv_bipush (v := 14) hx hb dX0_remember_58 (by decide) ?_
    refine va_mmin hx hb (hml.trans hl.1.symm) hown (hts _ (bg 15 9 rfl)) (hts _ (bg 15 10 rfl)) (hts _ (bg 15 11 rfl)) (hts _ (bg 15 12 rfl)) (by decide) (Nat.le_of_ble_eq_true rfl) (Nat.zero_le _) (Nat.zero_le _) dX0_remember_60 ?_
    refine va_put (D := G) (ci := 0) (v := .int (if 14 < ((I 1) + 1) then 14 else ((I 1) + 1))) (ty := .int) (C := RX0) (T := TX0) (N := 3) hx hb hts inlX0 tyX0 tyX0_ok nmX0 hown hE.1 hP hD hS 0 rfl rfl 2 (by decide) (hts _ (bg 15 8 rfl)) (fun _ h9 => h9) rfl (by decide +kernel) rfl rfl (Nat.le_of_ble_eq_true rfl) dX0_remember_63 (fun H locs hP hD hS => ?_)
    have hP : va_P G vwCl (wX0 q cI cZ cO (upd (upd I 0 (rem ((I 0) + 1) 14)) 1 (if 14 < ((I 1) + 1) then 14 else ((I 1) + 1))) (va_up S 0 z1.1) (va_up T 0 z1.2) ++ wX4 q1 cI cZ cO I1 A1) H := hP
    have hD : va_D Z (wX0 q cI cZ cO (upd (upd I 0 (rem ((I 0) + 1) 14)) 1 (if 14 < ((I 1) + 1) then 14 else ((I 1) + 1))) (va_up S 0 z1.1) (va_up T 0 z1.2) ++ wX4 q1 cI cZ cO I1 A1) := hD
    exact b_66 (upd (upd I 0 (rem ((I 0) + 1) 14)) 1 (if 14 < ((I 1) + 1) then 14 else ((I 1) + 1))) (va_up S 0 z1.1) (va_up T 0 z1.2) H locs hP hD hS ls (lv_sub hl [] rfl) hf
  have b_28r2 : ∀ (I : Nat → Int32) (S : Nat → Nat → Int32) (T : Nat → Nat → Nat → Int32), ∀ (H : Heap) (locs : List Loc), va_P G vwCl (wX0 q cI cZ cO I S T ++ wX4 q1 cI cZ cO I1 A1) H → va_D Z (wX0 q cI cZ cO I S T ++ wX4 q1 cI cZ cO I1 A1) → va_S Z s.heap H locs → ∀ ls : Array Slot, lv_has ls 3 [(0, .ref (q 0)), (1, .ref (q1 0))] → fX0_remember_28r2 N I S T I1 A1 = some (Iz, Sz, Tz) → W p l e rmX0_remember s m [.ref (q 0), .ref (q1 0)].toArray below meth cd H locs 0 0 Q (F0 m 28 ls [.ref (q 6)]) := by
    intro I S T H locs hP hD hS ls hl hf
    unfold fX0_remember_28r2 at hf
    refine lv_astore_n (lv' := [(2, .ref (q 6)), (0, .ref (q 0)), (1, .ref (q1 0))]) hx hb dX0_remember_28 rfl hl (by decide) rfl (fun ls hl => ?_)
    refine lv_aload_n hx hb dX0_remember_29 rfl (lv_at hl 0 rfl) ?_
    refine lv_ifnull hx hb dX0_remember_30 ?_
    refine lv_aload_n hx hb dX0_remember_33 rfl (lv_at hl 0 rfl) ?_
    refine lv_aload_n hx hb dX0_remember_34 rfl (lv_at hl 2 rfl) ?_
    obtain ⟨z1, hz1, hf⟩ := bnd hf
    refine x_wrVv (C := RX4) (n := 1) (ci := 4) (ws1 := (wX0 q cI cZ cO I (va_up S 1 z1.1) (va_up T 1 z1.2) ++ wX4 q1 cI cZ cO I1 A1)) hx hb hml hown hts hE (ct_X4_copyFrom N l G cI cZ cO (sh q 6) (S 1) (T 1) q1 I1 A1 z1.1 z1.2 hz1) (bg 15 13 rfl) mb_X4_copyFrom.1 mb_X4_copyFrom.2.1 mb_X4_copyFrom.2.2.1 mb_X4_copyFrom.2.2.2 hd_X4_copyFrom rfl (by decide) hP hD hS hA [6, 7, 8, 9, 58, 59, 60, 61] [false, false, false, false, false, false, true, true, true, true, false, false, false, false, false, false, false, false, false, false, false, false, false, false, false, false, false, false, false, false, false, false, false, false, false, false, false, false, false, false, false, false, false, false, false, false, false, false, false, false, false, false, false, false, false, false, false, false, true, true, true, true] (by decide) (by decide +kernel) rfl rfl ⟨rfl, rfl, rfl, rfl, rfl, rfl, rfl, rfl, rfl, rfl, rfl, rfl, rfl, rfl, rfl, rfl, rfl, rfl, rfl, rfl, rfl, rfl, rfl, rfl, rfl, rfl, rfl, rfl, rfl, rfl, rfl, rfl, rfl, rfl, rfl, rfl, rfl, rfl, rfl, rfl, rfl, rfl, rfl, rfl, rfl, rfl, rfl, rfl, rfl, rfl, rfl, rfl, rfl, rfl, rfl, rfl, rfl, rfl, rfl, rfl, rfl, rfl, trivial⟩ rfl rfl rfl rfl hl.1 (Nat.le_of_ble_eq_true rfl) ⟨Nat.zero_le _, Nat.zero_le _⟩ dX0_remember_35 (fun H locs hP hD hS => ?_)
    refine lv_aload_n hx hb dX0_remember_38 rfl (lv_at hl 1 rfl) ?_
    refine lv_aload_n hx hb dX0_remember_39 rfl (lv_at hl 1 rfl) ?_
    refine va_get (D := G) (ci := 0) (v := .int ((I 0))) (C := RX0) (T := TX0) (N := 3) hx hb hts inlX0 hown hE.1 hP 0 rfl rfl 1 (by decide) (hts _ (bg 15 7 rfl)) (fun _ h9 => h9) rfl dX0_remember_40 ?_
    refine lv_iconst (v := 1) hx hb dX0_remember_43 (by decide) ?_
    refine lv_iadd hx hb dX0_remember_44 ?_
    refine lv_bipush (v := 14) hx hb dX0_remember_45 (by decide) ?_
    refine x_irem hx hb dX0_remember_47 (by decide) ?_
    refine va_put (D := G) (ci := 0) (v := .int (rem ((I 0) + 1) 14)) (ty := .int) (C := RX0) (T := TX0) (N := 3) hx hb hts inlX0 tyX0 tyX0_ok nmX0 hown hE.1 hP hD hS 0 rfl rfl 1 (by decide) (hts _ (bg 15 7 rfl)) (fun _ h9 => h9) rfl (by decide +kernel) rfl rfl (Nat.le_of_ble_eq_true rfl) dX0_remember_48 (fun H locs hP hD hS => ?_)
    have hP : va_P G vwCl (wX0 q cI cZ cO (upd I 0 (rem ((I 0) + 1) 14)) (va_up S 1 z1.1) (va_up T 1 z1.2) ++ wX4 q1 cI cZ cO I1 A1) H := hP
    have hD : va_D Z (wX0 q cI cZ cO (upd I 0 (rem ((I 0) + 1) 14)) (va_up S 1 z1.1) (va_up T 1 z1.2) ++ wX4 q1 cI cZ cO I1 A1) := hD
    refine lv_aload_n hx hb dX0_remember_51 rfl (lv_at hl 1 rfl) ?_
    refine lv_aload_n hx hb dX0_remember_52 rfl (lv_at hl 1 rfl) ?_
    refine va_get (D := G) (ci := 0) (v := .int ((I 1))) (C := RX0) (T := TX0) (N := 3) hx hb hts inlX0 hown hE.1 hP 0 rfl rfl 2 (by decide) (hts _ (bg 15 8 rfl)) (fun _ h9 => h9) rfl dX0_remember_53 ?_
    refine lv_iconst (v := 1) hx hb dX0_remember_56 (by decide) ?_
    refine lv_iadd hx hb dX0_remember_57 ?_
    refine lv_bipush (v := 14) hx hb dX0_remember_58 (by decide) ?_
    refine va_mmin hx hb (hml.trans hl.1.symm) hown (hts _ (bg 15 9 rfl)) (hts _ (bg 15 10 rfl)) (hts _ (bg 15 11 rfl)) (hts _ (bg 15 12 rfl)) (by decide) (Nat.le_of_ble_eq_true rfl) (Nat.zero_le _) (Nat.zero_le _) dX0_remember_60 ?_
    refine va_put (D := G) (ci := 0) (v := .int (if 14 < ((I 1) + 1) then 14 else ((I 1) + 1))) (ty := .int) (C := RX0) (T := TX0) (N := 3) hx hb hts inlX0 tyX0 tyX0_ok nmX0 hown hE.1 hP hD hS 0 rfl rfl 2 (by decide) (hts _ (bg 15 8 rfl)) (fun _ h9 => h9) rfl (by decide +kernel) rfl rfl (Nat.le_of_ble_eq_true rfl) dX0_remember_63 (fun H locs hP hD hS => ?_)
    have hP : va_P G vwCl (wX0 q cI cZ cO (upd (upd I 0 (rem ((I 0) + 1) 14)) 1 (if 14 < ((I 1) + 1) then 14 else ((I 1) + 1))) (va_up S 1 z1.1) (va_up T 1 z1.2) ++ wX4 q1 cI cZ cO I1 A1) H := hP
    have hD : va_D Z (wX0 q cI cZ cO (upd (upd I 0 (rem ((I 0) + 1) 14)) 1 (if 14 < ((I 1) + 1) then 14 else ((I 1) + 1))) (va_up S 1 z1.1) (va_up T 1 z1.2) ++ wX4 q1 cI cZ cO I1 A1) := hD
    exact b_66 (upd (upd I 0 (rem ((I 0) + 1) 14)) 1 (if 14 < ((I 1) + 1) then 14 else ((I 1) + 1))) (va_up S 1 z1.1) (va_up T 1 z1.2) H locs hP hD hS ls (lv_sub hl [] rfl) hf
  have b_28r3 : ∀ (I : Nat → Int32) (S : Nat → Nat → Int32) (T : Nat → Nat → Nat → Int32), ∀ (H : Heap) (locs : List Loc), va_P G vwCl (wX0 q cI cZ cO I S T ++ wX4 q1 cI cZ cO I1 A1) H → va_D Z (wX0 q cI cZ cO I S T ++ wX4 q1 cI cZ cO I1 A1) → va_S Z s.heap H locs → ∀ ls : Array Slot, lv_has ls 3 [(0, .ref (q 0)), (1, .ref (q1 0))] → fX0_remember_28r3 N I S T I1 A1 = some (Iz, Sz, Tz) → W p l e rmX0_remember s m [.ref (q 0), .ref (q1 0)].toArray below meth cd H locs 0 0 Q (F0 m 28 ls [.ref (q 10)]) := by
    intro I S T H locs hP hD hS ls hl hf
    unfold fX0_remember_28r3 at hf
    refine lv_astore_n (lv' := [(2, .ref (q 10)), (0, .ref (q 0)), (1, .ref (q1 0))]) hx hb dX0_remember_28 rfl hl (by decide) rfl (fun ls hl => ?_)
    refine lv_aload_n hx hb dX0_remember_29 rfl (lv_at hl 0 rfl) ?_
    refine lv_ifnull hx hb dX0_remember_30 ?_
    refine lv_aload_n hx hb dX0_remember_33 rfl (lv_at hl 0 rfl) ?_
    refine lv_aload_n hx hb dX0_remember_34 rfl (lv_at hl 2 rfl) ?_
    obtain ⟨z1, hz1, hf⟩ := bnd hf
    refine x_wrVv (C := RX4) (n := 1) (ci := 4) (ws1 := (wX0 q cI cZ cO I (va_up S 2 z1.1) (va_up T 2 z1.2) ++ wX4 q1 cI cZ cO I1 A1)) hx hb hml hown hts hE (ct_X4_copyFrom N l G cI cZ cO (sh q 10) (S 2) (T 2) q1 I1 A1 z1.1 z1.2 hz1) (bg 15 13 rfl) mb_X4_copyFrom.1 mb_X4_copyFrom.2.1 mb_X4_copyFrom.2.2.1 mb_X4_copyFrom.2.2.2 hd_X4_copyFrom rfl (by decide) hP hD hS hA [10, 11, 12, 13, 58, 59, 60, 61] [false, false, false, false, false, false, false, false, false, false, true, true, true, true, false, false, false, false, false, false, false, false, false, false, false, false, false, false, false, false, false, false, false, false, false, false, false, false, false, false, false, false, false, false, false, false, false, false, false, false, false, false, false, false, false, false, false, false, true, true, true, true] (by decide) (by decide +kernel) rfl rfl ⟨rfl, rfl, rfl, rfl, rfl, rfl, rfl, rfl, rfl, rfl, rfl, rfl, rfl, rfl, rfl, rfl, rfl, rfl, rfl, rfl, rfl, rfl, rfl, rfl, rfl, rfl, rfl, rfl, rfl, rfl, rfl, rfl, rfl, rfl, rfl, rfl, rfl, rfl, rfl, rfl, rfl, rfl, rfl, rfl, rfl, rfl, rfl, rfl, rfl, rfl, rfl, rfl, rfl, rfl, rfl, rfl, rfl, rfl, rfl, rfl, rfl, rfl, trivial⟩ rfl rfl rfl rfl hl.1 (Nat.le_of_ble_eq_true rfl) ⟨Nat.zero_le _, Nat.zero_le _⟩ dX0_remember_35 (fun H locs hP hD hS => ?_)
    refine lv_aload_n hx hb dX0_remember_38 rfl (lv_at hl 1 rfl) ?_
    refine lv_aload_n hx hb dX0_remember_39 rfl (lv_at hl 1 rfl) ?_
    refine va_get (D := G) (ci := 0) (v := .int ((I 0))) (C := RX0) (T := TX0) (N := 3) hx hb hts inlX0 hown hE.1 hP 0 rfl rfl 1 (by decide) (hts _ (bg 15 7 rfl)) (fun _ h9 => h9) rfl dX0_remember_40 ?_
    refine lv_iconst (v := 1) hx hb dX0_remember_43 (by decide) ?_
    refine lv_iadd hx hb dX0_remember_44 ?_
    refine lv_bipush (v := 14) hx hb dX0_remember_45 (by decide) ?_
    refine x_irem hx hb dX0_remember_47 (by decide) ?_
    refine va_put (D := G) (ci := 0) (v := .int (rem ((I 0) + 1) 14)) (ty := .int) (C := RX0) (T := TX0) (N := 3) hx hb hts inlX0 tyX0 tyX0_ok nmX0 hown hE.1 hP hD hS 0 rfl rfl 1 (by decide) (hts _ (bg 15 7 rfl)) (fun _ h9 => h9) rfl (by decide +kernel) rfl rfl (Nat.le_of_ble_eq_true rfl) dX0_remember_48 (fun H locs hP hD hS => ?_)
    have hP : va_P G vwCl (wX0 q cI cZ cO (upd I 0 (rem ((I 0) + 1) 14)) (va_up S 2 z1.1) (va_up T 2 z1.2) ++ wX4 q1 cI cZ cO I1 A1) H := hP
    have hD : va_D Z (wX0 q cI cZ cO (upd I 0 (rem ((I 0) + 1) 14)) (va_up S 2 z1.1) (va_up T 2 z1.2) ++ wX4 q1 cI cZ cO I1 A1) := hD
    refine lv_aload_n hx hb dX0_remember_51 rfl (lv_at hl 1 rfl) ?_
    refine lv_aload_n hx hb dX0_remember_52 rfl (lv_at hl 1 rfl) ?_
    refine va_get (D := G) (ci := 0) (v := .int ((I 1))) (C := RX0) (T := TX0) (N := 3) hx hb hts inlX0 hown hE.1 hP 0 rfl rfl 2 (by decide) (hts _ (bg 15 8 rfl)) (fun _ h9 => h9) rfl dX0_remember_53 ?_
    refine lv_iconst (v := 1) hx hb dX0_remember_56 (by decide) ?_
    refine lv_iadd hx hb dX0_remember_57 ?_
    refine lv_bipush (v := 14) hx hb dX0_remember_58 (by decide) ?_
    refine va_mmin hx hb (hml.trans hl.1.symm) hown (hts _ (bg 15 9 rfl)) (hts _ (bg 15 10 rfl)) (hts _ (bg 15 11 rfl)) (hts _ (bg 15 12 rfl)) (by decide) (Nat.le_of_ble_eq_true rfl) (Nat.zero_le _) (Nat.zero_le _) dX0_remember_60 ?_
    refine va_put (D := G) (ci := 0) (v := .int (if 14 < ((I 1) + 1) then 14 else ((I 1) + 1))) (ty := .int) (C := RX0) (T := TX0) (N := 3) hx hb hts inlX0 tyX0 tyX0_ok nmX0 hown hE.1 hP hD hS 0 rfl rfl 2 (by decide) (hts _ (bg 15 8 rfl)) (fun _ h9 => h9) rfl (by decide +kernel) rfl rfl (Nat.le_of_ble_eq_true rfl) dX0_remember_63 (fun H locs hP hD hS => ?_)
    have hP : va_P G vwCl (wX0 q cI cZ cO (upd (upd I 0 (rem ((I 0) + 1) 14)) 1 (if 14 < ((I 1) + 1) then 14 else ((I 1) + 1))) (va_up S 2 z1.1) (va_up T 2 z1.2) ++ wX4 q1 cI cZ cO I1 A1) H := hP
    have hD : va_D Z (wX0 q cI cZ cO (upd (upd I 0 (rem ((I 0) + 1) 14)) 1 (if 14 < ((I 1) + 1) then 14 else ((I 1) + 1))) (va_up S 2 z1.1) (va_up T 2 z1.2) ++ wX4 q1 cI cZ cO I1 A1) := hD
    exact b_66 (upd (upd I 0 (rem ((I 0) + 1) 14)) 1 (if 14 < ((I 1) + 1) then 14 else ((I 1) + 1))) (va_up S 2 z1.1) (va_up T 2 z1.2) H locs hP hD hS ls (lv_sub hl [] rfl) hf
  have b_28r4 : ∀ (I : Nat → Int32) (S : Nat → Nat → Int32) (T : Nat → Nat → Nat → Int32), ∀ (H : Heap) (locs : List Loc), va_P G vwCl (wX0 q cI cZ cO I S T ++ wX4 q1 cI cZ cO I1 A1) H → va_D Z (wX0 q cI cZ cO I S T ++ wX4 q1 cI cZ cO I1 A1) → va_S Z s.heap H locs → ∀ ls : Array Slot, lv_has ls 3 [(0, .ref (q 0)), (1, .ref (q1 0))] → fX0_remember_28r4 N I S T I1 A1 = some (Iz, Sz, Tz) → W p l e rmX0_remember s m [.ref (q 0), .ref (q1 0)].toArray below meth cd H locs 0 0 Q (F0 m 28 ls [.ref (q 14)]) := by
    intro I S T H locs hP hD hS ls hl hf
    unfold fX0_remember_28r4 at hf
    refine lv_astore_n (lv' := [(2, .ref (q 14)), (0, .ref (q 0)), (1, .ref (q1 0))]) hx hb dX0_remember_28 rfl hl (by decide) rfl (fun ls hl => ?_)
    refine lv_aload_n hx hb dX0_remember_29 rfl (lv_at hl 0 rfl) ?_
    refine lv_ifnull hx hb dX0_remember_30 ?_
    refine lv_aload_n hx hb dX0_remember_33 rfl (lv_at hl 0 rfl) ?_
    refine lv_aload_n hx hb dX0_remember_34 rfl (lv_at hl 2 rfl) ?_
    obtain ⟨z1, hz1, hf⟩ := bnd hf
    refine x_wrVv (C := RX4) (n := 1) (ci := 4) (ws1 := (wX0 q cI cZ cO I (va_up S 3 z1.1) (va_up T 3 z1.2) ++ wX4 q1 cI cZ cO I1 A1)) hx hb hml hown hts hE (ct_X4_copyFrom N l G cI cZ cO (sh q 14) (S 3) (T 3) q1 I1 A1 z1.1 z1.2 hz1) (bg 15 13 rfl) mb_X4_copyFrom.1 mb_X4_copyFrom.2.1 mb_X4_copyFrom.2.2.1 mb_X4_copyFrom.2.2.2 hd_X4_copyFrom rfl (by decide) hP hD hS hA [14, 15, 16, 17, 58, 59, 60, 61] [false, false, false, false, false, false, false, false, false, false, false, false, false, false, true, true, true, true, false, false, false, false, false, false, false, false, false, false, false, false, false, false, false, false, false, false, false, false, false, false, false, false, false, false, false, false, false, false, false, false, false, false, false, false, false, false, false, false, true, true, true, true] (by decide) (by decide +kernel) rfl rfl ⟨rfl, rfl, rfl, rfl, rfl, rfl, rfl, rfl, rfl, rfl, rfl, rfl, rfl, rfl, rfl, rfl, rfl, rfl, rfl, rfl, rfl, rfl, rfl, rfl, rfl, rfl, rfl, rfl, rfl, rfl, rfl, rfl, rfl, rfl, rfl, rfl, rfl, rfl, rfl, rfl, rfl, rfl, rfl, rfl, rfl, rfl, rfl, rfl, rfl, rfl, rfl, rfl, rfl, rfl, rfl, rfl, rfl, rfl, rfl, rfl, rfl, rfl, trivial⟩ rfl rfl rfl rfl hl.1 (Nat.le_of_ble_eq_true rfl) ⟨Nat.zero_le _, Nat.zero_le _⟩ dX0_remember_35 (fun H locs hP hD hS => ?_)
    refine lv_aload_n hx hb dX0_remember_38 rfl (lv_at hl 1 rfl) ?_
    refine lv_aload_n hx hb dX0_remember_39 rfl (lv_at hl 1 rfl) ?_
    refine va_get (D := G) (ci := 0) (v := .int ((I 0))) (C := RX0) (T := TX0) (N := 3) hx hb hts inlX0 hown hE.1 hP 0 rfl rfl 1 (by decide) (hts _ (bg 15 7 rfl)) (fun _ h9 => h9) rfl dX0_remember_40 ?_
    refine lv_iconst (v := 1) hx hb dX0_remember_43 (by decide) ?_
    refine lv_iadd hx hb dX0_remember_44 ?_
    refine lv_bipush (v := 14) hx hb dX0_remember_45 (by decide) ?_
    refine x_irem hx hb dX0_remember_47 (by decide) ?_
    refine va_put (D := G) (ci := 0) (v := .int (rem ((I 0) + 1) 14)) (ty := .int) (C := RX0) (T := TX0) (N := 3) hx hb hts inlX0 tyX0 tyX0_ok nmX0 hown hE.1 hP hD hS 0 rfl rfl 1 (by decide) (hts _ (bg 15 7 rfl)) (fun _ h9 => h9) rfl (by decide +kernel) rfl rfl (Nat.le_of_ble_eq_true rfl) dX0_remember_48 (fun H locs hP hD hS => ?_)
    have hP : va_P G vwCl (wX0 q cI cZ cO (upd I 0 (rem ((I 0) + 1) 14)) (va_up S 3 z1.1) (va_up T 3 z1.2) ++ wX4 q1 cI cZ cO I1 A1) H := hP
    have hD : va_D Z (wX0 q cI cZ cO (upd I 0 (rem ((I 0) + 1) 14)) (va_up S 3 z1.1) (va_up T 3 z1.2) ++ wX4 q1 cI cZ cO I1 A1) := hD
    refine lv_aload_n hx hb dX0_remember_51 rfl (lv_at hl 1 rfl) ?_
    refine lv_aload_n hx hb dX0_remember_52 rfl (lv_at hl 1 rfl) ?_
    refine va_get (D := G) (ci := 0) (v := .int ((I 1))) (C := RX0) (T := TX0) (N := 3) hx hb hts inlX0 hown hE.1 hP 0 rfl rfl 2 (by decide) (hts _ (bg 15 8 rfl)) (fun _ h9 => h9) rfl dX0_remember_53 ?_
    refine lv_iconst (v := 1) hx hb dX0_remember_56 (by decide) ?_
    refine lv_iadd hx hb dX0_remember_57 ?_
    refine lv_bipush (v := 14) hx hb dX0_remember_58 (by decide) ?_
    refine va_mmin hx hb (hml.trans hl.1.symm) hown (hts _ (bg 15 9 rfl)) (hts _ (bg 15 10 rfl)) (hts _ (bg 15 11 rfl)) (hts _ (bg 15 12 rfl)) (by decide) (Nat.le_of_ble_eq_true rfl) (Nat.zero_le _) (Nat.zero_le _) dX0_remember_60 ?_
    refine va_put (D := G) (ci := 0) (v := .int (if 14 < ((I 1) + 1) then 14 else ((I 1) + 1))) (ty := .int) (C := RX0) (T := TX0) (N := 3) hx hb hts inlX0 tyX0 tyX0_ok nmX0 hown hE.1 hP hD hS 0 rfl rfl 2 (by decide) (hts _ (bg 15 8 rfl)) (fun _ h9 => h9) rfl (by decide +kernel) rfl rfl (Nat.le_of_ble_eq_true rfl) dX0_remember_63 (fun H locs hP hD hS => ?_)
    have hP : va_P G vwCl (wX0 q cI cZ cO (upd (upd I 0 (rem ((I 0) + 1) 14)) 1 (if 14 < ((I 1) + 1) then 14 else ((I 1) + 1))) (va_up S 3 z1.1) (va_up T 3 z1.2) ++ wX4 q1 cI cZ cO I1 A1) H := hP
    have hD : va_D Z (wX0 q cI cZ cO (upd (upd I 0 (rem ((I 0) + 1) 14)) 1 (if 14 < ((I 1) + 1) then 14 else ((I 1) + 1))) (va_up S 3 z1.1) (va_up T 3 z1.2) ++ wX4 q1 cI cZ cO I1 A1) := hD
    exact b_66 (upd (upd I 0 (rem ((I 0) + 1) 14)) 1 (if 14 < ((I 1) + 1) then 14 else ((I 1) + 1))) (va_up S 3 z1.1) (va_up T 3 z1.2) H locs hP hD hS ls (lv_sub hl [] rfl) hf
  have b_28r5 : ∀ (I : Nat → Int32) (S : Nat → Nat → Int32) (T : Nat → Nat → Nat → Int32), ∀ (H : Heap) (locs : List Loc), va_P G vwCl (wX0 q cI cZ cO I S T ++ wX4 q1 cI cZ cO I1 A1) H → va_D Z (wX0 q cI cZ cO I S T ++ wX4 q1 cI cZ cO I1 A1) → va_S Z s.heap H locs → ∀ ls : Array Slot, lv_has ls 3 [(0, .ref (q 0)), (1, .ref (q1 0))] → fX0_remember_28r5 N I S T I1 A1 = some (Iz, Sz, Tz) → W p l e rmX0_remember s m [.ref (q 0), .ref (q1 0)].toArray below meth cd H locs 0 0 Q (F0 m 28 ls [.ref (q 18)]) := by
    intro I S T H locs hP hD hS ls hl hf
    unfold fX0_remember_28r5 at hf
    refine lv_astore_n (lv' := [(2, .ref (q 18)), (0, .ref (q 0)), (1, .ref (q1 0))]) hx hb dX0_remember_28 rfl hl (by decide) rfl (fun ls hl => ?_)
    refine lv_aload_n hx hb dX0_remember_29 rfl (lv_at hl 0 rfl) ?_
    refine lv_ifnull hx hb dX0_remember_30 ?_
    refine lv_aload_n hx hb dX0_remember_33 rfl (lv_at hl 0 rfl) ?_
    refine lv_aload_n hx hb dX0_remember_34 rfl (lv_at hl 2 rfl) ?_
    obtain ⟨z1, hz1, hf⟩ := bnd hf
    refine x_wrVv (C := RX4) (n := 1) (ci := 4) (ws1 := (wX0 q cI cZ cO I (va_up S 4 z1.1) (va_up T 4 z1.2) ++ wX4 q1 cI cZ cO I1 A1)) hx hb hml hown hts hE (ct_X4_copyFrom N l G cI cZ cO (sh q 18) (S 4) (T 4) q1 I1 A1 z1.1 z1.2 hz1) (bg 15 13 rfl) mb_X4_copyFrom.1 mb_X4_copyFrom.2.1 mb_X4_copyFrom.2.2.1 mb_X4_copyFrom.2.2.2 hd_X4_copyFrom rfl (by decide) hP hD hS hA [18, 19, 20, 21, 58, 59, 60, 61] [false, false, false, false, false, false, false, false, false, false, false, false, false, false, false, false, false, false, true, true, true, true, false, false, false, false, false, false, false, false, false, false, false, false, false, false, false, false, false, false, false, false, false, false, false, false, false, false, false, false, false, false, false, false, false, false, false, false, true, true, true, true] (by decide) (by decide +kernel) rfl rfl ⟨rfl, rfl, rfl, rfl, rfl, rfl, rfl, rfl, rfl, rfl, rfl, rfl, rfl, rfl, rfl, rfl, rfl, rfl, rfl, rfl, rfl, rfl, rfl, rfl, rfl, rfl, rfl, rfl, rfl, rfl, rfl, rfl, rfl, rfl, rfl, rfl, rfl, rfl, rfl, rfl, rfl, rfl, rfl, rfl, rfl, rfl, rfl, rfl, rfl, rfl, rfl, rfl, rfl, rfl, rfl, rfl, rfl, rfl, rfl, rfl, rfl, rfl, trivial⟩ rfl rfl rfl rfl hl.1 (Nat.le_of_ble_eq_true rfl) ⟨Nat.zero_le _, Nat.zero_le _⟩ dX0_remember_35 (fun H locs hP hD hS => ?_)
    refine lv_aload_n hx hb dX0_remember_38 rfl (lv_at hl 1 rfl) ?_
    refine lv_aload_n hx hb dX0_remember_39 rfl (lv_at hl 1 rfl) ?_
    refine va_get (D := G) (ci := 0) (v := .int ((I 0))) (C := RX0) (T := TX0) (N := 3) hx hb hts inlX0 hown hE.1 hP 0 rfl rfl 1 (by decide) (hts _ (bg 15 7 rfl)) (fun _ h9 => h9) rfl dX0_remember_40 ?_
    refine lv_iconst (v := 1) hx hb dX0_remember_43 (by decide) ?_
    refine lv_iadd hx hb dX0_remember_44 ?_
    refine lv_bipush (v := 14) hx hb dX0_remember_45 (by decide) ?_
    refine x_irem hx hb dX0_remember_47 (by decide) ?_
    refine va_put (D := G) (ci := 0) (v := .int (rem ((I 0) + 1) 14)) (ty := .int) (C := RX0) (T := TX0) (N := 3) hx hb hts inlX0 tyX0 tyX0_ok nmX0 hown hE.1 hP hD hS 0 rfl rfl 1 (by decide) (hts _ (bg 15 7 rfl)) (fun _ h9 => h9) rfl (by decide +kernel) rfl rfl (Nat.le_of_ble_eq_true rfl) dX0_remember_48 (fun H locs hP hD hS => ?_)
    have hP : va_P G vwCl (wX0 q cI cZ cO (upd I 0 (rem ((I 0) + 1) 14)) (va_up S 4 z1.1) (va_up T 4 z1.2) ++ wX4 q1 cI cZ cO I1 A1) H := hP
    have hD : va_D Z (wX0 q cI cZ cO (upd I 0 (rem ((I 0) + 1) 14)) (va_up S 4 z1.1) (va_up T 4 z1.2) ++ wX4 q1 cI cZ cO I1 A1) := hD
    refine lv_aload_n hx hb dX0_remember_51 rfl (lv_at hl 1 rfl) ?_
    refine lv_aload_n hx hb dX0_remember_52 rfl (lv_at hl 1 rfl) ?_
    refine va_get (D := G) (ci := 0) (v := .int ((I 1))) (C := RX0) (T := TX0) (N := 3) hx hb hts inlX0 hown hE.1 hP 0 rfl rfl 2 (by decide) (hts _ (bg 15 8 rfl)) (fun _ h9 => h9) rfl dX0_remember_53 ?_
    refine lv_iconst (v := 1) hx hb dX0_remember_56 (by decide) ?_
    refine lv_iadd hx hb dX0_remember_57 ?_
    refine lv_bipush (v := 14) hx hb dX0_remember_58 (by decide) ?_
    refine va_mmin hx hb (hml.trans hl.1.symm) hown (hts _ (bg 15 9 rfl)) (hts _ (bg 15 10 rfl)) (hts _ (bg 15 11 rfl)) (hts _ (bg 15 12 rfl)) (by decide) (Nat.le_of_ble_eq_true rfl) (Nat.zero_le _) (Nat.zero_le _) dX0_remember_60 ?_
    refine va_put (D := G) (ci := 0) (v := .int (if 14 < ((I 1) + 1) then 14 else ((I 1) + 1))) (ty := .int) (C := RX0) (T := TX0) (N := 3) hx hb hts inlX0 tyX0 tyX0_ok nmX0 hown hE.1 hP hD hS 0 rfl rfl 2 (by decide) (hts _ (bg 15 8 rfl)) (fun _ h9 => h9) rfl (by decide +kernel) rfl rfl (Nat.le_of_ble_eq_true rfl) dX0_remember_63 (fun H locs hP hD hS => ?_)
    have hP : va_P G vwCl (wX0 q cI cZ cO (upd (upd I 0 (rem ((I 0) + 1) 14)) 1 (if 14 < ((I 1) + 1) then 14 else ((I 1) + 1))) (va_up S 4 z1.1) (va_up T 4 z1.2) ++ wX4 q1 cI cZ cO I1 A1) H := hP
    have hD : va_D Z (wX0 q cI cZ cO (upd (upd I 0 (rem ((I 0) + 1) 14)) 1 (if 14 < ((I 1) + 1) then 14 else ((I 1) + 1))) (va_up S 4 z1.1) (va_up T 4 z1.2) ++ wX4 q1 cI cZ cO I1 A1) := hD
    exact b_66 (upd (upd I 0 (rem ((I 0) + 1) 14)) 1 (if 14 < ((I 1) + 1) then 14 else ((I 1) + 1))) (va_up S 4 z1.1) (va_up T 4 z1.2) H locs hP hD hS ls (lv_sub hl [] rfl) hf
  have b_28r6 : ∀ (I : Nat → Int32) (S : Nat → Nat → Int32) (T : Nat → Nat → Nat → Int32), ∀ (H : Heap) (locs : List Loc), va_P G vwCl (wX0 q cI cZ cO I S T ++ wX4 q1 cI cZ cO I1 A1) H → va_D Z (wX0 q cI cZ cO I S T ++ wX4 q1 cI cZ cO I1 A1) → va_S Z s.heap H locs → ∀ ls : Array Slot, lv_has ls 3 [(0, .ref (q 0)), (1, .ref (q1 0))] → fX0_remember_28r6 N I S T I1 A1 = some (Iz, Sz, Tz) → W p l e rmX0_remember s m [.ref (q 0), .ref (q1 0)].toArray below meth cd H locs 0 0 Q (F0 m 28 ls [.ref (q 22)]) := by
    intro I S T H locs hP hD hS ls hl hf
    unfold fX0_remember_28r6 at hf
    refine lv_astore_n (lv' := [(2, .ref (q 22)), (0, .ref (q 0)), (1, .ref (q1 0))]) hx hb dX0_remember_28 rfl hl (by decide) rfl (fun ls hl => ?_)
    refine lv_aload_n hx hb dX0_remember_29 rfl (lv_at hl 0 rfl) ?_
    refine lv_ifnull hx hb dX0_remember_30 ?_
    refine lv_aload_n hx hb dX0_remember_33 rfl (lv_at hl 0 rfl) ?_
    refine lv_aload_n hx hb dX0_remember_34 rfl (lv_at hl 2 rfl) ?_
    obtain ⟨z1, hz1, hf⟩ := bnd hf
    refine x_wrVv (C := RX4) (n := 1) (ci := 4) (ws1 := (wX0 q cI cZ cO I (va_up S 5 z1.1) (va_up T 5 z1.2) ++ wX4 q1 cI cZ cO I1 A1)) hx hb hml hown hts hE (ct_X4_copyFrom N l G cI cZ cO (sh q 22) (S 5) (T 5) q1 I1 A1 z1.1 z1.2 hz1) (bg 15 13 rfl) mb_X4_copyFrom.1 mb_X4_copyFrom.2.1 mb_X4_copyFrom.2.2.1 mb_X4_copyFrom.2.2.2 hd_X4_copyFrom rfl (by decide) hP hD hS hA [22, 23, 24, 25, 58, 59, 60, 61] [false, false, false, false, false, false, false, false, false, false, false, false, false, false, false, false, false, false, false, false, false, false, true, true, true, true, false, false, false, false, false, false, false, false, false, false, false, false, false, false, false, false, false, false, false, false, false, false, false, false, false, false, false, false, false, false, false, false, true, true, true, true] (by decide) (by decide +kernel) rfl rfl ⟨rfl, rfl, rfl, rfl, rfl, rfl, rfl, rfl, rfl, rfl, rfl, rfl, rfl, rfl, rfl, rfl, rfl, rfl, rfl, rfl, rfl, rfl, rfl, rfl, rfl, rfl, rfl, rfl, rfl, rfl, rfl, rfl, rfl, rfl, rfl, rfl, rfl, rfl, rfl, rfl, rfl, rfl, rfl, rfl, rfl, rfl, rfl, rfl, rfl, rfl, rfl, rfl, rfl, rfl, rfl, rfl, rfl, rfl, rfl, rfl, rfl, rfl, trivial⟩ rfl rfl rfl rfl hl.1 (Nat.le_of_ble_eq_true rfl) ⟨Nat.zero_le _, Nat.zero_le _⟩ dX0_remember_35 (fun H locs hP hD hS => ?_)
    refine lv_aload_n hx hb dX0_remember_38 rfl (lv_at hl 1 rfl) ?_
    refine lv_aload_n hx hb dX0_remember_39 rfl (lv_at hl 1 rfl) ?_
    refine va_get (D := G) (ci := 0) (v := .int ((I 0))) (C := RX0) (T := TX0) (N := 3) hx hb hts inlX0 hown hE.1 hP 0 rfl rfl 1 (by decide) (hts _ (bg 15 7 rfl)) (fun _ h9 => h9) rfl dX0_remember_40 ?_
    refine lv_iconst (v := 1) hx hb dX0_remember_43 (by decide) ?_
    refine lv_iadd hx hb dX0_remember_44 ?_
    refine lv_bipush (v := 14) hx hb dX0_remember_45 (by decide) ?_
    refine x_irem hx hb dX0_remember_47 (by decide) ?_
    refine va_put (D := G) (ci := 0) (v := .int (rem ((I 0) + 1) 14)) (ty := .int) (C := RX0) (T := TX0) (N := 3) hx hb hts inlX0 tyX0 tyX0_ok nmX0 hown hE.1 hP hD hS 0 rfl rfl 1 (by decide) (hts _ (bg 15 7 rfl)) (fun _ h9 => h9) rfl (by decide +kernel) rfl rfl (Nat.le_of_ble_eq_true rfl) dX0_remember_48 (fun H locs hP hD hS => ?_)
    have hP : va_P G vwCl (wX0 q cI cZ cO (upd I 0 (rem ((I 0) + 1) 14)) (va_up S 5 z1.1) (va_up T 5 z1.2) ++ wX4 q1 cI cZ cO I1 A1) H := hP
    have hD : va_D Z (wX0 q cI cZ cO (upd I 0 (rem ((I 0) + 1) 14)) (va_up S 5 z1.1) (va_up T 5 z1.2) ++ wX4 q1 cI cZ cO I1 A1) := hD
    refine lv_aload_n hx hb dX0_remember_51 rfl (lv_at hl 1 rfl) ?_
    refine lv_aload_n hx hb dX0_remember_52 rfl (lv_at hl 1 rfl) ?_
    refine va_get (D := G) (ci := 0) (v := .int ((I 1))) (C := RX0) (T := TX0) (N := 3) hx hb hts inlX0 hown hE.1 hP 0 rfl rfl 2 (by decide) (hts _ (bg 15 8 rfl)) (fun _ h9 => h9) rfl dX0_remember_53 ?_
    refine lv_iconst (v := 1) hx hb dX0_remember_56 (by decide) ?_
    refine lv_iadd hx hb dX0_remember_57 ?_
    refine lv_bipush (v := 14) hx hb dX0_remember_58 (by decide) ?_
    refine va_mmin hx hb (hml.trans hl.1.symm) hown (hts _ (bg 15 9 rfl)) (hts _ (bg 15 10 rfl)) (hts _ (bg 15 11 rfl)) (hts _ (bg 15 12 rfl)) (by decide) (Nat.le_of_ble_eq_true rfl) (Nat.zero_le _) (Nat.zero_le _) dX0_remember_60 ?_
    refine va_put (D := G) (ci := 0) (v := .int (if 14 < ((I 1) + 1) then 14 else ((I 1) + 1))) (ty := .int) (C := RX0) (T := TX0) (N := 3) hx hb hts inlX0 tyX0 tyX0_ok nmX0 hown hE.1 hP hD hS 0 rfl rfl 2 (by decide) (hts _ (bg 15 8 rfl)) (fun _ h9 => h9) rfl (by decide +kernel) rfl rfl (Nat.le_of_ble_eq_true rfl) dX0_remember_63 (fun H locs hP hD hS => ?_)
    have hP : va_P G vwCl (wX0 q cI cZ cO (upd (upd I 0 (rem ((I 0) + 1) 14)) 1 (if 14 < ((I 1) + 1) then 14 else ((I 1) + 1))) (va_up S 5 z1.1) (va_up T 5 z1.2) ++ wX4 q1 cI cZ cO I1 A1) H := hP
    have hD : va_D Z (wX0 q cI cZ cO (upd (upd I 0 (rem ((I 0) + 1) 14)) 1 (if 14 < ((I 1) + 1) then 14 else ((I 1) + 1))) (va_up S 5 z1.1) (va_up T 5 z1.2) ++ wX4 q1 cI cZ cO I1 A1) := hD
    exact b_66 (upd (upd I 0 (rem ((I 0) + 1) 14)) 1 (if 14 < ((I 1) + 1) then 14 else ((I 1) + 1))) (va_up S 5 z1.1) (va_up T 5 z1.2) H locs hP hD hS ls (lv_sub hl [] rfl) hf
  have b_28r7 : ∀ (I : Nat → Int32) (S : Nat → Nat → Int32) (T : Nat → Nat → Nat → Int32), ∀ (H : Heap) (locs : List Loc), va_P G vwCl (wX0 q cI cZ cO I S T ++ wX4 q1 cI cZ cO I1 A1) H → va_D Z (wX0 q cI cZ cO I S T ++ wX4 q1 cI cZ cO I1 A1) → va_S Z s.heap H locs → ∀ ls : Array Slot, lv_has ls 3 [(0, .ref (q 0)), (1, .ref (q1 0))] → fX0_remember_28r7 N I S T I1 A1 = some (Iz, Sz, Tz) → W p l e rmX0_remember s m [.ref (q 0), .ref (q1 0)].toArray below meth cd H locs 0 0 Q (F0 m 28 ls [.ref (q 26)]) := by
    intro I S T H locs hP hD hS ls hl hf
    unfold fX0_remember_28r7 at hf
    refine lv_astore_n (lv' := [(2, .ref (q 26)), (0, .ref (q 0)), (1, .ref (q1 0))]) hx hb dX0_remember_28 rfl hl (by decide) rfl (fun ls hl => ?_)
    refine lv_aload_n hx hb dX0_remember_29 rfl (lv_at hl 0 rfl) ?_
    refine lv_ifnull hx hb dX0_remember_30 ?_
    refine lv_aload_n hx hb dX0_remember_33 rfl (lv_at hl 0 rfl) ?_
    refine lv_aload_n hx hb dX0_remember_34 rfl (lv_at hl 2 rfl) ?_
    obtain ⟨z1, hz1, hf⟩ := bnd hf
    refine x_wrVv (C := RX4) (n := 1) (ci := 4) (ws1 := (wX0 q cI cZ cO I (va_up S 6 z1.1) (va_up T 6 z1.2) ++ wX4 q1 cI cZ cO I1 A1)) hx hb hml hown hts hE (ct_X4_copyFrom N l G cI cZ cO (sh q 26) (S 6) (T 6) q1 I1 A1 z1.1 z1.2 hz1) (bg 15 13 rfl) mb_X4_copyFrom.1 mb_X4_copyFrom.2.1 mb_X4_copyFrom.2.2.1 mb_X4_copyFrom.2.2.2 hd_X4_copyFrom rfl (by decide) hP hD hS hA [26, 27, 28, 29, 58, 59, 60, 61] [false, false, false, false, false, false, false, false, false, false, false, false, false, false, false, false, false, false, false, false, false, false, false, false, false, false, true, true, true, true, false, false, false, false, false, false, false, false, false, false, false, false, false, false, false, false, false, false, false, false, false, false, false, false, false, false, false, false, true, true, true, true] (by decide) (by decide +kernel) rfl rfl ⟨rfl, rfl, rfl, rfl, rfl, rfl, rfl, rfl, rfl, rfl, rfl, rfl, rfl, rfl, rfl, rfl, rfl, rfl, rfl, rfl, rfl, rfl, rfl, rfl, rfl, rfl, rfl, rfl, rfl, rfl, rfl, rfl, rfl, rfl, rfl, rfl, rfl, rfl, rfl, rfl, rfl, rfl, rfl, rfl, rfl, rfl, rfl, rfl, rfl, rfl, rfl, rfl, rfl, rfl, rfl, rfl, rfl, rfl, rfl, rfl, rfl, rfl, trivial⟩ rfl rfl rfl rfl hl.1 (Nat.le_of_ble_eq_true rfl) ⟨Nat.zero_le _, Nat.zero_le _⟩ dX0_remember_35 (fun H locs hP hD hS => ?_)
    refine lv_aload_n hx hb dX0_remember_38 rfl (lv_at hl 1 rfl) ?_
    refine lv_aload_n hx hb dX0_remember_39 rfl (lv_at hl 1 rfl) ?_
    refine va_get (D := G) (ci := 0) (v := .int ((I 0))) (C := RX0) (T := TX0) (N := 3) hx hb hts inlX0 hown hE.1 hP 0 rfl rfl 1 (by decide) (hts _ (bg 15 7 rfl)) (fun _ h9 => h9) rfl dX0_remember_40 ?_
    refine lv_iconst (v := 1) hx hb dX0_remember_43 (by decide) ?_
    refine lv_iadd hx hb dX0_remember_44 ?_
    refine lv_bipush (v := 14) hx hb dX0_remember_45 (by decide) ?_
    refine x_irem hx hb dX0_remember_47 (by decide) ?_
    refine va_put (D := G) (ci := 0) (v := .int (rem ((I 0) + 1) 14)) (ty := .int) (C := RX0) (T := TX0) (N := 3) hx hb hts inlX0 tyX0 tyX0_ok nmX0 hown hE.1 hP hD hS 0 rfl rfl 1 (by decide) (hts _ (bg 15 7 rfl)) (fun _ h9 => h9) rfl (by decide +kernel) rfl rfl (Nat.le_of_ble_eq_true rfl) dX0_remember_48 (fun H locs hP hD hS => ?_)
    have hP : va_P G vwCl (wX0 q cI cZ cO (upd I 0 (rem ((I 0) + 1) 14)) (va_up S 6 z1.1) (va_up T 6 z1.2) ++ wX4 q1 cI cZ cO I1 A1) H := hP
    have hD : va_D Z (wX0 q cI cZ cO (upd I 0 (rem ((I 0) + 1) 14)) (va_up S 6 z1.1) (va_up T 6 z1.2) ++ wX4 q1 cI cZ cO I1 A1) := hD
    refine lv_aload_n hx hb dX0_remember_51 rfl (lv_at hl 1 rfl) ?_
    refine lv_aload_n hx hb dX0_remember_52 rfl (lv_at hl 1 rfl) ?_
    refine va_get (D := G) (ci := 0) (v := .int ((I 1))) (C := RX0) (T := TX0) (N := 3) hx hb hts inlX0 hown hE.1 hP 0 rfl rfl 2 (by decide) (hts _ (bg 15 8 rfl)) (fun _ h9 => h9) rfl dX0_remember_53 ?_
    refine lv_iconst (v := 1) hx hb dX0_remember_56 (by decide) ?_
    refine lv_iadd hx hb dX0_remember_57 ?_
    refine lv_bipush (v := 14) hx hb dX0_remember_58 (by decide) ?_
    refine va_mmin hx hb (hml.trans hl.1.symm) hown (hts _ (bg 15 9 rfl)) (hts _ (bg 15 10 rfl)) (hts _ (bg 15 11 rfl)) (hts _ (bg 15 12 rfl)) (by decide) (Nat.le_of_ble_eq_true rfl) (Nat.zero_le _) (Nat.zero_le _) dX0_remember_60 ?_
    refine va_put (D := G) (ci := 0) (v := .int (if 14 < ((I 1) + 1) then 14 else ((I 1) + 1))) (ty := .int) (C := RX0) (T := TX0) (N := 3) hx hb hts inlX0 tyX0 tyX0_ok nmX0 hown hE.1 hP hD hS 0 rfl rfl 2 (by decide) (hts _ (bg 15 8 rfl)) (fun _ h9 => h9) rfl (by decide +kernel) rfl rfl (Nat.le_of_ble_eq_true rfl) dX0_remember_63 (fun H locs hP hD hS => ?_)
    have hP : va_P G vwCl (wX0 q cI cZ cO (upd (upd I 0 (rem ((I 0) + 1) 14)) 1 (if 14 < ((I 1) + 1) then 14 else ((I 1) + 1))) (va_up S 6 z1.1) (va_up T 6 z1.2) ++ wX4 q1 cI cZ cO I1 A1) H := hP
    have hD : va_D Z (wX0 q cI cZ cO (upd (upd I 0 (rem ((I 0) + 1) 14)) 1 (if 14 < ((I 1) + 1) then 14 else ((I 1) + 1))) (va_up S 6 z1.1) (va_up T 6 z1.2) ++ wX4 q1 cI cZ cO I1 A1) := hD
    exact b_66 (upd (upd I 0 (rem ((I 0) + 1) 14)) 1 (if 14 < ((I 1) + 1) then 14 else ((I 1) + 1))) (va_up S 6 z1.1) (va_up T 6 z1.2) H locs hP hD hS ls (lv_sub hl [] rfl) hf
  have b_28r8 : ∀ (I : Nat → Int32) (S : Nat → Nat → Int32) (T : Nat → Nat → Nat → Int32), ∀ (H : Heap) (locs : List Loc), va_P G vwCl (wX0 q cI cZ cO I S T ++ wX4 q1 cI cZ cO I1 A1) H → va_D Z (wX0 q cI cZ cO I S T ++ wX4 q1 cI cZ cO I1 A1) → va_S Z s.heap H locs → ∀ ls : Array Slot, lv_has ls 3 [(0, .ref (q 0)), (1, .ref (q1 0))] → fX0_remember_28r8 N I S T I1 A1 = some (Iz, Sz, Tz) → W p l e rmX0_remember s m [.ref (q 0), .ref (q1 0)].toArray below meth cd H locs 0 0 Q (F0 m 28 ls [.ref (q 30)]) := by
    intro I S T H locs hP hD hS ls hl hf
    unfold fX0_remember_28r8 at hf
    refine lv_astore_n (lv' := [(2, .ref (q 30)), (0, .ref (q 0)), (1, .ref (q1 0))]) hx hb dX0_remember_28 rfl hl (by decide) rfl (fun ls hl => ?_)
    refine lv_aload_n hx hb dX0_remember_29 rfl (lv_at hl 0 rfl) ?_
    refine lv_ifnull hx hb dX0_remember_30 ?_
    refine lv_aload_n hx hb dX0_remember_33 rfl (lv_at hl 0 rfl) ?_
    refine lv_aload_n hx hb dX0_remember_34 rfl (lv_at hl 2 rfl) ?_
    obtain ⟨z1, hz1, hf⟩ := bnd hf
    refine x_wrVv (C := RX4) (n := 1) (ci := 4) (ws1 := (wX0 q cI cZ cO I (va_up S 7 z1.1) (va_up T 7 z1.2) ++ wX4 q1 cI cZ cO I1 A1)) hx hb hml hown hts hE (ct_X4_copyFrom N l G cI cZ cO (sh q 30) (S 7) (T 7) q1 I1 A1 z1.1 z1.2 hz1) (bg 15 13 rfl) mb_X4_copyFrom.1 mb_X4_copyFrom.2.1 mb_X4_copyFrom.2.2.1 mb_X4_copyFrom.2.2.2 hd_X4_copyFrom rfl (by decide) hP hD hS hA [30, 31, 32, 33, 58, 59, 60, 61] [false, false, false, false, false, false, false, false, false, false, false, false, false, false, false, false, false, false, false, false, false, false, false, false, false, false, false, false, false, false, true, true, true, true, false, false, false, false, false, false, false, false, false, false, false, false, false, false, false, false, false, false, false, false, false, false, false, false, true, true, true, true] (by decide) (by decide +kernel) rfl rfl ⟨rfl, rfl, rfl, rfl, rfl, rfl, rfl, rfl, rfl, rfl, rfl, rfl, rfl, rfl, rfl, rfl, rfl, rfl, rfl, rfl, rfl, rfl, rfl, rfl, rfl, rfl, rfl, rfl, rfl, rfl, rfl, rfl, rfl, rfl, rfl, rfl, rfl, rfl, rfl, rfl, rfl, rfl, rfl, rfl, rfl, rfl, rfl, rfl, rfl, rfl, rfl, rfl, rfl, rfl, rfl, rfl, rfl, rfl, rfl, rfl, rfl, rfl, trivial⟩ rfl rfl rfl rfl hl.1 (Nat.le_of_ble_eq_true rfl) ⟨Nat.zero_le _, Nat.zero_le _⟩ dX0_remember_35 (fun H locs hP hD hS => ?_)
    refine lv_aload_n hx hb dX0_remember_38 rfl (lv_at hl 1 rfl) ?_
    refine lv_aload_n hx hb dX0_remember_39 rfl (lv_at hl 1 rfl) ?_
    refine va_get (D := G) (ci := 0) (v := .int ((I 0))) (C := RX0) (T := TX0) (N := 3) hx hb hts inlX0 hown hE.1 hP 0 rfl rfl 1 (by decide) (hts _ (bg 15 7 rfl)) (fun _ h9 => h9) rfl dX0_remember_40 ?_
    refine lv_iconst (v := 1) hx hb dX0_remember_43 (by decide) ?_
    refine lv_iadd hx hb dX0_remember_44 ?_
    refine lv_bipush (v := 14) hx hb dX0_remember_45 (by decide) ?_
    refine x_irem hx hb dX0_remember_47 (by decide) ?_
    refine va_put (D := G) (ci := 0) (v := .int (rem ((I 0) + 1) 14)) (ty := .int) (C := RX0) (T := TX0) (N := 3) hx hb hts inlX0 tyX0 tyX0_ok nmX0 hown hE.1 hP hD hS 0 rfl rfl 1 (by decide) (hts _ (bg 15 7 rfl)) (fun _ h9 => h9) rfl (by decide +kernel) rfl rfl (Nat.le_of_ble_eq_true rfl) dX0_remember_48 (fun H locs hP hD hS => ?_)
    have hP : va_P G vwCl (wX0 q cI cZ cO (upd I 0 (rem ((I 0) + 1) 14)) (va_up S 7 z1.1) (va_up T 7 z1.2) ++ wX4 q1 cI cZ cO I1 A1) H := hP
    have hD : va_D Z (wX0 q cI cZ cO (upd I 0 (rem ((I 0) + 1) 14)) (va_up S 7 z1.1) (va_up T 7 z1.2) ++ wX4 q1 cI cZ cO I1 A1) := hD
    refine lv_aload_n hx hb dX0_remember_51 rfl (lv_at hl 1 rfl) ?_
    refine lv_aload_n hx hb dX0_remember_52 rfl (lv_at hl 1 rfl) ?_
    refine va_get (D := G) (ci := 0) (v := .int ((I 1))) (C := RX0) (T := TX0) (N := 3) hx hb hts inlX0 hown hE.1 hP 0 rfl rfl 2 (by decide) (hts _ (bg 15 8 rfl)) (fun _ h9 => h9) rfl dX0_remember_53 ?_
    refine lv_iconst (v := 1) hx hb dX0_remember_56 (by decide) ?_
    refine lv_iadd hx hb dX0_remember_57 ?_
    refine lv_bipush (v := 14) hx hb dX0_remember_58 (by decide) ?_
    refine va_mmin hx hb (hml.trans hl.1.symm) hown (hts _ (bg 15 9 rfl)) (hts _ (bg 15 10 rfl)) (hts _ (bg 15 11 rfl)) (hts _ (bg 15 12 rfl)) (by decide) (Nat.le_of_ble_eq_true rfl) (Nat.zero_le _) (Nat.zero_le _) dX0_remember_60 ?_
    refine va_put (D := G) (ci := 0) (v := .int (if 14 < ((I 1) + 1) then 14 else ((I 1) + 1))) (ty := .int) (C := RX0) (T := TX0) (N := 3) hx hb hts inlX0 tyX0 tyX0_ok nmX0 hown hE.1 hP hD hS 0 rfl rfl 2 (by decide) (hts _ (bg 15 8 rfl)) (fun _ h9 => h9) rfl (by decide +kernel) rfl rfl (Nat.le_of_ble_eq_true rfl) dX0_remember_63 (fun H locs hP hD hS => ?_)
    have hP : va_P G vwCl (wX0 q cI cZ cO (upd (upd I 0 (rem ((I 0) + 1) 14)) 1 (if 14 < ((I 1) + 1) then 14 else ((I 1) + 1))) (va_up S 7 z1.1) (va_up T 7 z1.2) ++ wX4 q1 cI cZ cO I1 A1) H := hP
    have hD : va_D Z (wX0 q cI cZ cO (upd (upd I 0 (rem ((I 0) + 1) 14)) 1 (if 14 < ((I 1) + 1) then 14 else ((I 1) + 1))) (va_up S 7 z1.1) (va_up T 7 z1.2) ++ wX4 q1 cI cZ cO I1 A1) := hD
    exact b_66 (upd (upd I 0 (rem ((I 0) + 1) 14)) 1 (if 14 < ((I 1) + 1) then 14 else ((I 1) + 1))) (va_up S 7 z1.1) (va_up T 7 z1.2) H locs hP hD hS ls (lv_sub hl [] rfl) hf
  have b_28r9 : ∀ (I : Nat → Int32) (S : Nat → Nat → Int32) (T : Nat → Nat → Nat → Int32), ∀ (H : Heap) (locs : List Loc), va_P G vwCl (wX0 q cI cZ cO I S T ++ wX4 q1 cI cZ cO I1 A1) H → va_D Z (wX0 q cI cZ cO I S T ++ wX4 q1 cI cZ cO I1 A1) → va_S Z s.heap H locs → ∀ ls : Array Slot, lv_has ls 3 [(0, .ref (q 0)), (1, .ref (q1 0))] → fX0_remember_28r9 N I S T I1 A1 = some (Iz, Sz, Tz) → W p l e rmX0_remember s m [.ref (q 0), .ref (q1 0)].toArray below meth cd H locs 0 0 Q (F0 m 28 ls [.ref (q 34)]) := by
    intro I S T H locs hP hD hS ls hl hf
    unfold fX0_remember_28r9 at hf
    refine lv_astore_n (lv' := [(2, .ref (q 34)), (0, .ref (q 0)), (1, .ref (q1 0))]) hx hb dX0_remember_28 rfl hl (by decide) rfl (fun ls hl => ?_)
    refine lv_aload_n hx hb dX0_remember_29 rfl (lv_at hl 0 rfl) ?_
    refine lv_ifnull hx hb dX0_remember_30 ?_
    refine lv_aload_n hx hb dX0_remember_33 rfl (lv_at hl 0 rfl) ?_
    refine lv_aload_n hx hb dX0_remember_34 rfl (lv_at hl 2 rfl) ?_
    obtain ⟨z1, hz1, hf⟩ := bnd hf
    refine x_wrVv (C := RX4) (n := 1) (ci := 4) (ws1 := (wX0 q cI cZ cO I (va_up S 8 z1.1) (va_up T 8 z1.2) ++ wX4 q1 cI cZ cO I1 A1)) hx hb hml hown hts hE (ct_X4_copyFrom N l G cI cZ cO (sh q 34) (S 8) (T 8) q1 I1 A1 z1.1 z1.2 hz1) (bg 15 13 rfl) mb_X4_copyFrom.1 mb_X4_copyFrom.2.1 mb_X4_copyFrom.2.2.1 mb_X4_copyFrom.2.2.2 hd_X4_copyFrom rfl (by decide) hP hD hS hA [34, 35, 36, 37, 58, 59, 60, 61] [false, false, false, false, false, false, false, false, false, false, false, false, false, false, false, false, false, false, false, false, false, false, false, false, false, false, false, false, false, false, false, false, false, false, true, true, true, true, false, false, false, false, false, false, false, false, false, false, false, false, false, false, false, false, false, false, false, false, true, true, true, true] (by decide) (by decide +kernel) rfl rfl ⟨rfl, rfl, rfl, rfl, rfl, rfl, rfl, rfl, rfl, rfl, rfl, rfl, rfl, rfl, rfl, rfl, rfl, rfl, rfl, rfl, rfl, rfl, rfl, rfl, rfl, rfl, rfl, rfl, rfl, rfl, rfl, rfl, rfl, rfl, rfl, rfl, rfl, rfl, rfl, rfl, rfl, rfl, rfl, rfl, rfl, rfl, rfl, rfl, rfl, rfl, rfl, rfl, rfl, rfl, rfl, rfl, rfl, rfl, rfl, rfl, rfl, rfl, trivial⟩ rfl rfl rfl rfl hl.1 (Nat.le_of_ble_eq_true rfl) ⟨Nat.zero_le _, Nat.zero_le _⟩ dX0_remember_35 (fun H locs hP hD hS => ?_)
    refine lv_aload_n hx hb dX0_remember_38 rfl (lv_at hl 1 rfl) ?_
    refine lv_aload_n hx hb dX0_remember_39 rfl (lv_at hl 1 rfl) ?_
    refine va_get (D := G) (ci := 0) (v := .int ((I 0))) (C := RX0) (T := TX0) (N := 3) hx hb hts inlX0 hown hE.1 hP 0 rfl rfl 1 (by decide) (hts _ (bg 15 7 rfl)) (fun _ h9 => h9) rfl dX0_remember_40 ?_
    refine lv_iconst (v := 1) hx hb dX0_remember_43 (by decide) ?_
    refine lv_iadd hx hb dX0_remember_44 ?_
    refine lv_bipush (v := 14) hx hb dX0_remember_45 (by decide) ?_
    refine x_irem hx hb dX0_remember_47 (by decide) ?_
    refine va_put (D := G) (ci := 0) (v := .int (rem ((I 0) + 1) 14)) (ty := .int) (C := RX0) (T := TX0) (N := 3) hx hb hts inlX0 tyX0 tyX0_ok nmX0 hown hE.1 hP hD hS 0 rfl rfl 1 (by decide) (hts _ (bg 15 7 rfl)) (fun _ h9 => h9) rfl (by decide +kernel) rfl rfl (Nat.le_of_ble_eq_true rfl) dX0_remember_48 (fun H locs hP hD hS => ?_)
    have hP : va_P G vwCl (wX0 q cI cZ cO (upd I 0 (rem ((I 0) + 1) 14)) (va_up S 8 z1.1) (va_up T 8 z1.2) ++ wX4 q1 cI cZ cO I1 A1) H := hP
    have hD : va_D Z (wX0 q cI cZ cO (upd I 0 (rem ((I 0) + 1) 14)) (va_up S 8 z1.1) (va_up T 8 z1.2) ++ wX4 q1 cI cZ cO I1 A1) := hD
    refine lv_aload_n hx hb dX0_remember_51 rfl (lv_at hl 1 rfl) ?_
    refine lv_aload_n hx hb dX0_remember_52 rfl (lv_at hl 1 rfl) ?_
    refine va_get (D := G) (ci := 0) (v := .int ((I 1))) (C := RX0) (T := TX0) (N := 3) hx hb hts inlX0 hown hE.1 hP 0 rfl rfl 2 (by decide) (hts _ (bg 15 8 rfl)) (fun _ h9 => h9) rfl dX0_remember_53 ?_
    refine lv_iconst (v := 1) hx hb dX0_remember_56 (by decide) ?_
    refine lv_iadd hx hb dX0_remember_57 ?_
    refine lv_bipush (v := 14) hx hb dX0_remember_58 (by decide) ?_
    refine va_mmin hx hb (hml.trans hl.1.symm) hown (hts _ (bg 15 9 rfl)) (hts _ (bg 15 10 rfl)) (hts _ (bg 15 11 rfl)) (hts _ (bg 15 12 rfl)) (by decide) (Nat.le_of_ble_eq_true rfl) (Nat.zero_le _) (Nat.zero_le _) dX0_remember_60 ?_
    refine va_put (D := G) (ci := 0) (v := .int (if 14 < ((I 1) + 1) then 14 else ((I 1) + 1))) (ty := .int) (C := RX0) (T := TX0) (N := 3) hx hb hts inlX0 tyX0 tyX0_ok nmX0 hown hE.1 hP hD hS 0 rfl rfl 2 (by decide) (hts _ (bg 15 8 rfl)) (fun _ h9 => h9) rfl (by decide +kernel) rfl rfl (Nat.le_of_ble_eq_true rfl) dX0_remember_63 (fun H locs hP hD hS => ?_)
    have hP : va_P G vwCl (wX0 q cI cZ cO (upd (upd I 0 (rem ((I 0) + 1) 14)) 1 (if 14 < ((I 1) + 1) then 14 else ((I 1) + 1))) (va_up S 8 z1.1) (va_up T 8 z1.2) ++ wX4 q1 cI cZ cO I1 A1) H := hP
    have hD : va_D Z (wX0 q cI cZ cO (upd (upd I 0 (rem ((I 0) + 1) 14)) 1 (if 14 < ((I 1) + 1) then 14 else ((I 1) + 1))) (va_up S 8 z1.1) (va_up T 8 z1.2) ++ wX4 q1 cI cZ cO I1 A1) := hD
    exact b_66 (upd (upd I 0 (rem ((I 0) + 1) 14)) 1 (if 14 < ((I 1) + 1) then 14 else ((I 1) + 1))) (va_up S 8 z1.1) (va_up T 8 z1.2) H locs hP hD hS ls (lv_sub hl [] rfl) hf
  have b_28r10 : ∀ (I : Nat → Int32) (S : Nat → Nat → Int32) (T : Nat → Nat → Nat → Int32), ∀ (H : Heap) (locs : List Loc), va_P G vwCl (wX0 q cI cZ cO I S T ++ wX4 q1 cI cZ cO I1 A1) H → va_D Z (wX0 q cI cZ cO I S T ++ wX4 q1 cI cZ cO I1 A1) → va_S Z s.heap H locs → ∀ ls : Array Slot, lv_has ls 3 [(0, .ref (q 0)), (1, .ref (q1 0))] → fX0_remember_28r10 N I S T I1 A1 = some (Iz, Sz, Tz) → W p l e rmX0_remember s m [.ref (q 0), .ref (q1 0)].toArray below meth cd H locs 0 0 Q (F0 m 28 ls [.ref (q 38)]) := by
    intro I S T H locs hP hD hS ls hl hf
    unfold fX0_remember_28r10 at hf
    refine lv_astore_n (lv' := [(2, .ref (q 38)), (0, .ref (q 0)), (1, .ref (q1 0))]) hx hb dX0_remember_28 rfl hl (by decide) rfl (fun ls hl => ?_)
    refine lv_aload_n hx hb dX0_remember_29 rfl (lv_at hl 0 rfl) ?_
    refine lv_ifnull hx hb dX0_remember_30 ?_
    refine lv_aload_n hx hb dX0_remember_33 rfl (lv_at hl 0 rfl) ?_
    refine lv_aload_n hx hb dX0_remember_34 rfl (lv_at hl 2 rfl) ?_
    obtain ⟨z1, hz1, hf⟩ := bnd hf
    refine x_wrVv (C := RX4) (n := 1) (ci := 4) (ws1 := (wX0 q cI cZ cO I (va_up S 9 z1.1) (va_up T 9 z1.2) ++ wX4 q1 cI cZ cO I1 A1)) hx hb hml hown hts hE (ct_X4_copyFrom N l G cI cZ cO (sh q 38) (S 9) (T 9) q1 I1 A1 z1.1 z1.2 hz1) (bg 15 13 rfl) mb_X4_copyFrom.1 mb_X4_copyFrom.2.1 mb_X4_copyFrom.2.2.1 mb_X4_copyFrom.2.2.2 hd_X4_copyFrom rfl (by decide) hP hD hS hA [38, 39, 40, 41, 58, 59, 60, 61] [false, false, false, false, false, false, false, false, false, false, false, false, false, false, false, false, false, false, false, false, false, false, false, false, false, false, false, false, false, false, false, false, false, false, false, false, false, false, true, true, true, true, false, false, false, false, false, false, false, false, false, false, false, false, false, false, false, false, true, true, true, true] (by decide) (by decide +kernel) rfl rfl ⟨rfl, rfl, rfl, rfl, rfl, rfl, rfl, rfl, rfl, rfl, rfl, rfl, rfl, rfl, rfl, rfl, rfl, rfl, rfl, rfl, rfl, rfl, rfl, rfl, rfl, rfl, rfl, rfl, rfl, rfl, rfl, rfl, rfl, rfl, rfl, rfl, rfl, rfl, rfl, rfl, rfl, rfl, rfl, rfl, rfl, rfl, rfl, rfl, rfl, rfl, rfl, rfl, rfl, rfl, rfl, rfl, rfl, rfl, rfl, rfl, rfl, rfl, trivial⟩ rfl rfl rfl rfl hl.1 (Nat.le_of_ble_eq_true rfl) ⟨Nat.zero_le _, Nat.zero_le _⟩ dX0_remember_35 (fun H locs hP hD hS => ?_)
    refine lv_aload_n hx hb dX0_remember_38 rfl (lv_at hl 1 rfl) ?_
    refine lv_aload_n hx hb dX0_remember_39 rfl (lv_at hl 1 rfl) ?_
    refine va_get (D := G) (ci := 0) (v := .int ((I 0))) (C := RX0) (T := TX0) (N := 3) hx hb hts inlX0 hown hE.1 hP 0 rfl rfl 1 (by decide) (hts _ (bg 15 7 rfl)) (fun _ h9 => h9) rfl dX0_remember_40 ?_
    refine lv_iconst (v := 1) hx hb dX0_remember_43 (by decide) ?_
    refine lv_iadd hx hb dX0_remember_44 ?_
    refine lv_bipush (v := 14) hx hb dX0_remember_45 (by decide) ?_
    refine x_irem hx hb dX0_remember_47 (by decide) ?_
    refine va_put (D := G) (ci := 0) (v := .int (rem ((I 0) + 1) 14)) (ty := .int) (C := RX0) (T := TX0) (N := 3) hx hb hts inlX0 tyX0 tyX0_ok nmX0 hown hE.1 hP hD hS 0 rfl rfl 1 (by decide) (hts _ (bg 15 7 rfl)) (fun _ h9 => h9) rfl (by decide +kernel) rfl rfl (Nat.le_of_ble_eq_true rfl) dX0_remember_48 (fun H locs hP hD hS => ?_)
    have hP : va_P G vwCl (wX0 q cI cZ cO (upd I 0 (rem ((I 0) + 1) 14)) (va_up S 9 z1.1) (va_up T 9 z1.2) ++ wX4 q1 cI cZ cO I1 A1) H := hP
    have hD : va_D Z (wX0 q cI cZ cO (upd I 0 (rem ((I 0) + 1) 14)) (va_up S 9 z1.1) (va_up T 9 z1.2) ++ wX4 q1 cI cZ cO I1 A1) := hD
    refine lv_aload_n hx hb dX0_remember_51 rfl (lv_at hl 1 rfl) ?_
    refine lv_aload_n hx hb dX0_remember_52 rfl (lv_at hl 1 rfl) ?_
    refine va_get (D := G) (ci := 0) (v := .int ((I 1))) (C := RX0) (T := TX0) (N := 3) hx hb hts inlX0 hown hE.1 hP 0 rfl rfl 2 (by decide) (hts _ (bg 15 8 rfl)) (fun _ h9 => h9) rfl dX0_remember_53 ?_
    refine lv_iconst (v := 1) hx hb dX0_remember_56 (by decide) ?_
    refine lv_iadd hx hb dX0_remember_57 ?_
    refine lv_bipush (v := 14) hx hb dX0_remember_58 (by decide) ?_
    refine va_mmin hx hb (hml.trans hl.1.symm) hown (hts _ (bg 15 9 rfl)) (hts _ (bg 15 10 rfl)) (hts _ (bg 15 11 rfl)) (hts _ (bg 15 12 rfl)) (by decide) (Nat.le_of_ble_eq_true rfl) (Nat.zero_le _) (Nat.zero_le _) dX0_remember_60 ?_
    refine va_put (D := G) (ci := 0) (v := .int (if 14 < ((I 1) + 1) then 14 else ((I 1) + 1))) (ty := .int) (C := RX0) (T := TX0) (N := 3) hx hb hts inlX0 tyX0 tyX0_ok nmX0 hown hE.1 hP hD hS 0 rfl rfl 2 (by decide) (hts _ (bg 15 8 rfl)) (fun _ h9 => h9) rfl (by decide +kernel) rfl rfl (Nat.le_of_ble_eq_true rfl) dX0_remember_63 (fun H locs hP hD hS => ?_)
    have hP : va_P G vwCl (wX0 q cI cZ cO (upd (upd I 0 (rem ((I 0) + 1) 14)) 1 (if 14 < ((I 1) + 1) then 14 else ((I 1) + 1))) (va_up S 9 z1.1) (va_up T 9 z1.2) ++ wX4 q1 cI cZ cO I1 A1) H := hP
    have hD : va_D Z (wX0 q cI cZ cO (upd (upd I 0 (rem ((I 0) + 1) 14)) 1 (if 14 < ((I 1) + 1) then 14 else ((I 1) + 1))) (va_up S 9 z1.1) (va_up T 9 z1.2) ++ wX4 q1 cI cZ cO I1 A1) := hD
    exact b_66 (upd (upd I 0 (rem ((I 0) + 1) 14)) 1 (if 14 < ((I 1) + 1) then 14 else ((I 1) + 1))) (va_up S 9 z1.1) (va_up T 9 z1.2) H locs hP hD hS ls (lv_sub hl [] rfl) hf
  have b_28r11 : ∀ (I : Nat → Int32) (S : Nat → Nat → Int32) (T : Nat → Nat → Nat → Int32), ∀ (H : Heap) (locs : List Loc), va_P G vwCl (wX0 q cI cZ cO I S T ++ wX4 q1 cI cZ cO I1 A1) H → va_D Z (wX0 q cI cZ cO I S T ++ wX4 q1 cI cZ cO I1 A1) → va_S Z s.heap H locs → ∀ ls : Array Slot, lv_has ls 3 [(0, .ref (q 0)), (1, .ref (q1 0))] → fX0_remember_28r11 N I S T I1 A1 = some (Iz, Sz, Tz) → W p l e rmX0_remember s m [.ref (q 0), .ref (q1 0)].toArray below meth cd H locs 0 0 Q (F0 m 28 ls [.ref (q 42)]) := by
    intro I S T H locs hP hD hS ls hl hf
    unfold fX0_remember_28r11 at hf
    refine lv_astore_n (lv' := [(2, .ref (q 42)), (0, .ref (q 0)), (1, .ref (q1 0))]) hx hb dX0_remember_28 rfl hl (by decide) rfl (fun ls hl => ?_)
    refine lv_aload_n hx hb dX0_remember_29 rfl (lv_at hl 0 rfl) ?_
    refine lv_ifnull hx hb dX0_remember_30 ?_
    refine lv_aload_n hx hb dX0_remember_33 rfl (lv_at hl 0 rfl) ?_
    refine lv_aload_n hx hb dX0_remember_34 rfl (lv_at hl 2 rfl) ?_
    obtain ⟨z1, hz1, hf⟩ := bnd hf
    refine x_wrVv (C := RX4) (n := 1) (ci := 4) (ws1 := (wX0 q cI cZ cO I (va_up S 10 z1.1) (va_up T 10 z1.2) ++ wX4 q1 cI cZ cO I1 A1)) hx hb hml hown hts hE (ct_X4_copyFrom N l G cI cZ cO (sh q 42) (S 10) (T 10) q1 I1 A1 z1.1 z1.2 hz1) (bg 15 13 rfl) mb_X4_copyFrom.1 mb_X4_copyFrom.2.1 mb_X4_copyFrom.2.2.1 mb_X4_copyFrom.2.2.2 hd_X4_copyFrom rfl (by decide) hP hD hS hA [42, 43, 44, 45, 58, 59, 60, 61] [false, false, false, false, false, false, false, false, false, false, false, false, false, false, false, false, false, false, false, false, false, false, false, false, false, false, false, false, false, false, false, false, false, false, false, false, false, false, false, false, false, false, true, true, true, true, false, false, false, false, false, false, false, false, false, false, false, false, true, true, true, true] (by decide) (by decide +kernel) rfl rfl ⟨rfl, rfl, rfl, rfl, rfl, rfl, rfl, rfl, rfl, rfl, rfl, rfl, rfl, rfl, rfl, rfl, rfl, rfl, rfl, rfl, rfl, rfl, rfl, rfl, rfl, rfl, rfl, rfl, rfl, rfl, rfl, rfl, rfl, rfl, rfl, rfl, rfl, rfl, rfl, rfl, rfl, rfl, rfl, rfl, rfl, rfl, rfl, rfl, rfl, rfl, rfl, rfl, rfl, rfl, rfl, rfl, rfl, rfl, rfl, rfl, rfl, rfl, trivial⟩ rfl rfl rfl rfl hl.1 (Nat.le_of_ble_eq_true rfl) ⟨Nat.zero_le _, Nat.zero_le _⟩ dX0_remember_35 (fun H locs hP hD hS => ?_)
    refine lv_aload_n hx hb dX0_remember_38 rfl (lv_at hl 1 rfl) ?_
    refine lv_aload_n hx hb dX0_remember_39 rfl (lv_at hl 1 rfl) ?_
    refine va_get (D := G) (ci := 0) (v := .int ((I 0))) (C := RX0) (T := TX0) (N := 3) hx hb hts inlX0 hown hE.1 hP 0 rfl rfl 1 (by decide) (hts _ (bg 15 7 rfl)) (fun _ h9 => h9) rfl dX0_remember_40 ?_
    refine lv_iconst (v := 1) hx hb dX0_remember_43 (by decide) ?_
    refine lv_iadd hx hb dX0_remember_44 ?_
    refine lv_bipush (v := 14) hx hb dX0_remember_45 (by decide) ?_
    refine x_irem hx hb dX0_remember_47 (by decide) ?_
    refine va_put (D := G) (ci := 0) (v := .int (rem ((I 0) + 1) 14)) (ty := .int) (C := RX0) (T := TX0) (N := 3) hx hb hts inlX0 tyX0 tyX0_ok nmX0 hown hE.1 hP hD hS 0 rfl rfl 1 (by decide) (hts _ (bg 15 7 rfl)) (fun _ h9 => h9) rfl (by decide +kernel) rfl rfl (Nat.le_of_ble_eq_true rfl) dX0_remember_48 (fun H locs hP hD hS => ?_)
    have hP : va_P G vwCl (wX0 q cI cZ cO (upd I 0 (rem ((I 0) + 1) 14)) (va_up S 10 z1.1) (va_up T 10 z1.2) ++ wX4 q1 cI cZ cO I1 A1) H := hP
    have hD : va_D Z (wX0 q cI cZ cO (upd I 0 (rem ((I 0) + 1) 14)) (va_up S 10 z1.1) (va_up T 10 z1.2) ++ wX4 q1 cI cZ cO I1 A1) := hD
    refine lv_aload_n hx hb dX0_remember_51 rfl (lv_at hl 1 rfl) ?_
    refine lv_aload_n hx hb dX0_remember_52 rfl (lv_at hl 1 rfl) ?_
    refine va_get (D := G) (ci := 0) (v := .int ((I 1))) (C := RX0) (T := TX0) (N := 3) hx hb hts inlX0 hown hE.1 hP 0 rfl rfl 2 (by decide) (hts _ (bg 15 8 rfl)) (fun _ h9 => h9) rfl dX0_remember_53 ?_
    refine lv_iconst (v := 1) hx hb dX0_remember_56 (by decide) ?_
    refine lv_iadd hx hb dX0_remember_57 ?_
    refine lv_bipush (v := 14) hx hb dX0_remember_58 (by decide) ?_
    refine va_mmin hx hb (hml.trans hl.1.symm) hown (hts _ (bg 15 9 rfl)) (hts _ (bg 15 10 rfl)) (hts _ (bg 15 11 rfl)) (hts _ (bg 15 12 rfl)) (by decide) (Nat.le_of_ble_eq_true rfl) (Nat.zero_le _) (Nat.zero_le _) dX0_remember_60 ?_
    refine va_put (D := G) (ci := 0) (v := .int (if 14 < ((I 1) + 1) then 14 else ((I 1) + 1))) (ty := .int) (C := RX0) (T := TX0) (N := 3) hx hb hts inlX0 tyX0 tyX0_ok nmX0 hown hE.1 hP hD hS 0 rfl rfl 2 (by decide) (hts _ (bg 15 8 rfl)) (fun _ h9 => h9) rfl (by decide +kernel) rfl rfl (Nat.le_of_ble_eq_true rfl) dX0_remember_63 (fun H locs hP hD hS => ?_)
    have hP : va_P G vwCl (wX0 q cI cZ cO (upd (upd I 0 (rem ((I 0) + 1) 14)) 1 (if 14 < ((I 1) + 1) then 14 else ((I 1) + 1))) (va_up S 10 z1.1) (va_up T 10 z1.2) ++ wX4 q1 cI cZ cO I1 A1) H := hP
    have hD : va_D Z (wX0 q cI cZ cO (upd (upd I 0 (rem ((I 0) + 1) 14)) 1 (if 14 < ((I 1) + 1) then 14 else ((I 1) + 1))) (va_up S 10 z1.1) (va_up T 10 z1.2) ++ wX4 q1 cI cZ cO I1 A1) := hD
    exact b_66 (upd (upd I 0 (rem ((I 0) + 1) 14)) 1 (if 14 < ((I 1) + 1) then 14 else ((I 1) + 1))) (va_up S 10 z1.1) (va_up T 10 z1.2) H locs hP hD hS ls (lv_sub hl [] rfl) hf
  have b_28r12 : ∀ (I : Nat → Int32) (S : Nat → Nat → Int32) (T : Nat → Nat → Nat → Int32), ∀ (H : Heap) (locs : List Loc), va_P G vwCl (wX0 q cI cZ cO I S T ++ wX4 q1 cI cZ cO I1 A1) H → va_D Z (wX0 q cI cZ cO I S T ++ wX4 q1 cI cZ cO I1 A1) → va_S Z s.heap H locs → ∀ ls : Array Slot, lv_has ls 3 [(0, .ref (q 0)), (1, .ref (q1 0))] → fX0_remember_28r12 N I S T I1 A1 = some (Iz, Sz, Tz) → W p l e rmX0_remember s m [.ref (q 0), .ref (q1 0)].toArray below meth cd H locs 0 0 Q (F0 m 28 ls [.ref (q 46)]) := by
    intro I S T H locs hP hD hS ls hl hf
    unfold fX0_remember_28r12 at hf
    refine lv_astore_n (lv' := [(2, .ref (q 46)), (0, .ref (q 0)), (1, .ref (q1 0))]) hx hb dX0_remember_28 rfl hl (by decide) rfl (fun ls hl => ?_)
    refine lv_aload_n hx hb dX0_remember_29 rfl (lv_at hl 0 rfl) ?_
    refine lv_ifnull hx hb dX0_remember_30 ?_
    refine lv_aload_n hx hb dX0_remember_33 rfl (lv_at hl 0 rfl) ?_
    refine lv_aload_n hx hb dX0_remember_34 rfl (lv_at hl 2 rfl) ?_
    obtain ⟨z1, hz1, hf⟩ := bnd hf
    refine x_wrVv (C := RX4) (n := 1) (ci := 4) (ws1 := (wX0 q cI cZ cO I (va_up S 11 z1.1) (va_up T 11 z1.2) ++ wX4 q1 cI cZ cO I1 A1)) hx hb hml hown hts hE (ct_X4_copyFrom N l G cI cZ cO (sh q 46) (S 11) (T 11) q1 I1 A1 z1.1 z1.2 hz1) (bg 15 13 rfl) mb_X4_copyFrom.1 mb_X4_copyFrom.2.1 mb_X4_copyFrom.2.2.1 mb_X4_copyFrom.2.2.2 hd_X4_copyFrom rfl (by decide) hP hD hS hA [46, 47, 48, 49, 58, 59, 60, 61] [false, false, false, false, false, false, false, false, false, false, false, false, false, false, false, false, false, false, false, false, false, false, false, false, false, false, false, false, false, false, false, false, false, false, false, false, false, false, false, false, false, false, false, false, false, false, true, true, true, true, false, false, false, false, false, false, false, false, true, true, true, true] (by decide) (by decide +kernel) rfl rfl ⟨rfl, rfl, rfl, rfl, rfl, rfl, rfl, rfl, rfl, rfl, rfl, rfl, rfl, rfl, rfl, rfl, rfl, rfl, rfl, rfl, rfl, rfl, rfl, rfl, rfl, rfl, rfl, rfl, rfl, rfl, rfl, rfl, rfl, rfl, rfl, rfl, rfl, rfl, rfl, rfl, rfl, rfl, rfl, rfl, rfl, rfl, rfl, rfl, rfl, rfl, rfl, rfl, rfl, rfl, rfl, rfl, rfl, rfl, rfl, rfl, rfl, rfl, trivial⟩ rfl rfl rfl rfl hl.1 (Nat.le_of_ble_eq_true rfl) ⟨Nat.zero_le _, Nat.zero_le _⟩ dX0_remember_35 (fun H locs hP hD hS => ?_)
    refine lv_aload_n hx hb dX0_remember_38 rfl (lv_at hl 1 rfl) ?_
    refine lv_aload_n hx hb dX0_remember_39 rfl (lv_at hl 1 rfl) ?_
    refine va_get (D := G) (ci := 0) (v := .int ((I 0))) (C := RX0) (T := TX0) (N := 3) hx hb hts inlX0 hown hE.1 hP 0 rfl rfl 1 (by decide) (hts _ (bg 15 7 rfl)) (fun _ h9 => h9) rfl dX0_remember_40 ?_
    refine lv_iconst (v := 1) hx hb dX0_remember_43 (by decide) ?_
    refine lv_iadd hx hb dX0_remember_44 ?_
    refine lv_bipush (v := 14) hx hb dX0_remember_45 (by decide) ?_
    refine x_irem hx hb dX0_remember_47 (by decide) ?_
    refine va_put (D := G) (ci := 0) (v := .int (rem ((I 0) + 1) 14)) (ty := .int) (C := RX0) (T := TX0) (N := 3) hx hb hts inlX0 tyX0 tyX0_ok nmX0 hown hE.1 hP hD hS 0 rfl rfl 1 (by decide) (hts _ (bg 15 7 rfl)) (fun _ h9 => h9) rfl (by decide +kernel) rfl rfl (Nat.le_of_ble_eq_true rfl) dX0_remember_48 (fun H locs hP hD hS => ?_)
    have hP : va_P G vwCl (wX0 q cI cZ cO (upd I 0 (rem ((I 0) + 1) 14)) (va_up S 11 z1.1) (va_up T 11 z1.2) ++ wX4 q1 cI cZ cO I1 A1) H := hP
    have hD : va_D Z (wX0 q cI cZ cO (upd I 0 (rem ((I 0) + 1) 14)) (va_up S 11 z1.1) (va_up T 11 z1.2) ++ wX4 q1 cI cZ cO I1 A1) := hD
    refine lv_aload_n hx hb dX0_remember_51 rfl (lv_at hl 1 rfl) ?_
    refine lv_aload_n hx hb dX0_remember_52 rfl (lv_at hl 1 rfl) ?_
    refine va_get (D := G) (ci := 0) (v := .int ((I 1))) (C := RX0) (T := TX0) (N := 3) hx hb hts inlX0 hown hE.1 hP 0 rfl rfl 2 (by decide) (hts _ (bg 15 8 rfl)) (fun _ h9 => h9) rfl dX0_remember_53 ?_
    refine lv_iconst (v := 1) hx hb dX0_remember_56 (by decide) ?_
    refine lv_iadd hx hb dX0_remember_57 ?_
    refine lv_bipush (v := 14) hx hb dX0_remember_58 (by decide) ?_
    refine va_mmin hx hb (hml.trans hl.1.symm) hown (hts _ (bg 15 9 rfl)) (hts _ (bg 15 10 rfl)) (hts _ (bg 15 11 rfl)) (hts _ (bg 15 12 rfl)) (by decide) (Nat.le_of_ble_eq_true rfl) (Nat.zero_le _) (Nat.zero_le _) dX0_remember_60 ?_
    refine va_put (D := G) (ci := 0) (v := .int (if 14 < ((I 1) + 1) then 14 else ((I 1) + 1))) (ty := .int) (C := RX0) (T := TX0) (N := 3) hx hb hts inlX0 tyX0 tyX0_ok nmX0 hown hE.1 hP hD hS 0 rfl rfl 2 (by decide) (hts _ (bg 15 8 rfl)) (fun _ h9 => h9) rfl (by decide +kernel) rfl rfl (Nat.le_of_ble_eq_true rfl) dX0_remember_63 (fun H locs hP hD hS => ?_)
    have hP : va_P G vwCl (wX0 q cI cZ cO (upd (upd I 0 (rem ((I 0) + 1) 14)) 1 (if 14 < ((I 1) + 1) then 14 else ((I 1) + 1))) (va_up S 11 z1.1) (va_up T 11 z1.2) ++ wX4 q1 cI cZ cO I1 A1) H := hP
    have hD : va_D Z (wX0 q cI cZ cO (upd (upd I 0 (rem ((I 0) + 1) 14)) 1 (if 14 < ((I 1) + 1) then 14 else ((I 1) + 1))) (va_up S 11 z1.1) (va_up T 11 z1.2) ++ wX4 q1 cI cZ cO I1 A1) := hD
    exact b_66 (upd (upd I 0 (rem ((I 0) + 1) 14)) 1 (if 14 < ((I 1) + 1) then 14 else ((I 1) + 1))) (va_up S 11 z1.1) (va_up T 11 z1.2) H locs hP hD hS ls (lv_sub hl [] rfl) hf
  have b_28r13 : ∀ (I : Nat → Int32) (S : Nat → Nat → Int32) (T : Nat → Nat → Nat → Int32), ∀ (H : Heap) (locs : List Loc), va_P G vwCl (wX0 q cI cZ cO I S T ++ wX4 q1 cI cZ cO I1 A1) H → va_D Z (wX0 q cI cZ cO I S T ++ wX4 q1 cI cZ cO I1 A1) → va_S Z s.heap H locs → ∀ ls : Array Slot, lv_has ls 3 [(0, .ref (q 0)), (1, .ref (q1 0))] → fX0_remember_28r13 N I S T I1 A1 = some (Iz, Sz, Tz) → W p l e rmX0_remember s m [.ref (q 0), .ref (q1 0)].toArray below meth cd H locs 0 0 Q (F0 m 28 ls [.ref (q 50)]) := by
    intro I S T H locs hP hD hS ls hl hf
    unfold fX0_remember_28r13 at hf
    refine lv_astore_n (lv' := [(2, .ref (q 50)), (0, .ref (q 0)), (1, .ref (q1 0))]) hx hb dX0_remember_28 rfl hl (by decide) rfl (fun ls hl => ?_)
    refine lv_aload_n hx hb dX0_remember_29 rfl (lv_at hl 0 rfl) ?_
    refine lv_ifnull hx hb dX0_remember_30 ?_
    refine lv_aload_n hx hb dX0_remember_33 rfl (lv_at hl 0 rfl) ?_
    refine lv_aload_n hx hb dX0_remember_34 rfl (lv_at hl 2 rfl) ?_
    obtain ⟨z1, hz1, hf⟩ := bnd hf
    refine x_wrVv (C := RX4) (n := 1) (ci := 4) (ws1 := (wX0 q cI cZ cO I (va_up S 12 z1.1) (va_up T 12 z1.2) ++ wX4 q1 cI cZ cO I1 A1)) hx hb hml hown hts hE (ct_X4_copyFrom N l G cI cZ cO (sh q 50) (S 12) (T 12) q1 I1 A1 z1.1 z1.2 hz1) (bg 15 13 rfl) mb_X4_copyFrom.1 mb_X4_copyFrom.2.1 mb_X4_copyFrom.2.2.1 mb_X4_copyFrom.2.2.2 hd_X4_copyFrom rfl (by decide) hP hD hS hA [50, 51, 52, 53, 58, 59, 60, 61] [false, false, false, false, false, false, false, false, false, false, false, false, false, false, false, false, false, false, false, false, false, false, false, false, false, false, false, false, false, false, false, false, false, false, false, false, false, false, false, false, false, false, false, false, false, false, false, false, false, false, true, true, true, true, false, false, false, false, true, true, true, true] (by decide) (by decide +kernel) rfl rfl ⟨rfl, rfl, rfl, rfl, rfl, rfl, rfl, rfl, rfl, rfl, rfl, rfl, rfl, rfl, rfl, rfl, rfl, rfl, rfl, rfl, rfl, rfl, rfl, rfl, rfl, rfl, rfl, rfl, rfl, rfl, rfl, rfl, rfl, rfl, rfl, rfl, rfl, rfl, rfl, rfl, rfl, rfl, rfl, rfl, rfl, rfl, rfl, rfl, rfl, rfl, rfl, rfl, rfl, rfl, rfl, rfl, rfl, rfl, rfl, rfl, rfl, rfl, trivial⟩ rfl rfl rfl rfl hl.1 (Nat.le_of_ble_eq_true rfl) ⟨Nat.zero_le _, Nat.zero_le _⟩ dX0_remember_35 (fun H locs hP hD hS => ?_)
    refine lv_aload_n hx hb dX0_remember_38 rfl (lv_at hl 1 rfl) ?_
    refine lv_aload_n hx hb dX0_remember_39 rfl (lv_at hl 1 rfl) ?_
    refine va_get (D := G) (ci := 0) (v := .int ((I 0))) (C := RX0) (T := TX0) (N := 3) hx hb hts inlX0 hown hE.1 hP 0 rfl rfl 1 (by decide) (hts _ (bg 15 7 rfl)) (fun _ h9 => h9) rfl dX0_remember_40 ?_
    refine lv_iconst (v := 1) hx hb dX0_remember_43 (by decide) ?_
    refine lv_iadd hx hb dX0_remember_44 ?_
    refine lv_bipush (v := 14) hx hb dX0_remember_45 (by decide) ?_
    refine x_irem hx hb dX0_remember_47 (by decide) ?_
    refine va_put (D := G) (ci := 0) (v := .int (rem ((I 0) + 1) 14)) (ty := .int) (C := RX0) (T := TX0) (N := 3) hx hb hts inlX0 tyX0 tyX0_ok nmX0 hown hE.1 hP hD hS 0 rfl rfl 1 (by decide) (hts _ (bg 15 7 rfl)) (fun _ h9 => h9) rfl (by decide +kernel) rfl rfl (Nat.le_of_ble_eq_true rfl) dX0_remember_48 (fun H locs hP hD hS => ?_)
    have hP : va_P G vwCl (wX0 q cI cZ cO (upd I 0 (rem ((I 0) + 1) 14)) (va_up S 12 z1.1) (va_up T 12 z1.2) ++ wX4 q1 cI cZ cO I1 A1) H := hP
    have hD : va_D Z (wX0 q cI cZ cO (upd I 0 (rem ((I 0) + 1) 14)) (va_up S 12 z1.1) (va_up T 12 z1.2) ++ wX4 q1 cI cZ cO I1 A1) := hD
    refine lv_aload_n hx hb dX0_remember_51 rfl (lv_at hl 1 rfl) ?_
    refine lv_aload_n hx hb dX0_remember_52 rfl (lv_at hl 1 rfl) ?_
    refine va_get (D := G) (ci := 0) (v := .int ((I 1))) (C := RX0) (T := TX0) (N := 3) hx hb hts inlX0 hown hE.1 hP 0 rfl rfl 2 (by decide) (hts _ (bg 15 8 rfl)) (fun _ h9 => h9) rfl dX0_remember_53 ?_
    refine lv_iconst (v := 1) hx hb dX0_remember_56 (by decide) ?_
    refine lv_iadd hx hb dX0_remember_57 ?_
    refine lv_bipush (v := 14) hx hb dX0_remember_58 (by decide) ?_
    refine va_mmin hx hb (hml.trans hl.1.symm) hown (hts _ (bg 15 9 rfl)) (hts _ (bg 15 10 rfl)) (hts _ (bg 15 11 rfl)) (hts _ (bg 15 12 rfl)) (by decide) (Nat.le_of_ble_eq_true rfl) (Nat.zero_le _) (Nat.zero_le _) dX0_remember_60 ?_
    refine va_put (D := G) (ci := 0) (v := .int (if 14 < ((I 1) + 1) then 14 else ((I 1) + 1))) (ty := .int) (C := RX0) (T := TX0) (N := 3) hx hb hts inlX0 tyX0 tyX0_ok nmX0 hown hE.1 hP hD hS 0 rfl rfl 2 (by decide) (hts _ (bg 15 8 rfl)) (fun _ h9 => h9) rfl (by decide +kernel) rfl rfl (Nat.le_of_ble_eq_true rfl) dX0_remember_63 (fun H locs hP hD hS => ?_)
    have hP : va_P G vwCl (wX0 q cI cZ cO (upd (upd I 0 (rem ((I 0) + 1) 14)) 1 (if 14 < ((I 1) + 1) then 14 else ((I 1) + 1))) (va_up S 12 z1.1) (va_up T 12 z1.2) ++ wX4 q1 cI cZ cO I1 A1) H := hP
    have hD : va_D Z (wX0 q cI cZ cO (upd (upd I 0 (rem ((I 0) + 1) 14)) 1 (if 14 < ((I 1) + 1) then 14 else ((I 1) + 1))) (va_up S 12 z1.1) (va_up T 12 z1.2) ++ wX4 q1 cI cZ cO I1 A1) := hD
    exact b_66 (upd (upd I 0 (rem ((I 0) + 1) 14)) 1 (if 14 < ((I 1) + 1) then 14 else ((I 1) + 1))) (va_up S 12 z1.1) (va_up T 12 z1.2) H locs hP hD hS ls (lv_sub hl [] rfl) hf
  have b_28r14 : ∀ (I : Nat → Int32) (S : Nat → Nat → Int32) (T : Nat → Nat → Nat → Int32), ∀ (H : Heap) (locs : List Loc), va_P G vwCl (wX0 q cI cZ cO I S T ++ wX4 q1 cI cZ cO I1 A1) H → va_D Z (wX0 q cI cZ cO I S T ++ wX4 q1 cI cZ cO I1 A1) → va_S Z s.heap H locs → ∀ ls : Array Slot, lv_has ls 3 [(0, .ref (q 0)), (1, .ref (q1 0))] → fX0_remember_28r14 N I S T I1 A1 = some (Iz, Sz, Tz) → W p l e rmX0_remember s m [.ref (q 0), .ref (q1 0)].toArray below meth cd H locs 0 0 Q (F0 m 28 ls [.ref (q 54)]) := by
    intro I S T H locs hP hD hS ls hl hf
    unfold fX0_remember_28r14 at hf
    refine lv_astore_n (lv' := [(2, .ref (q 54)), (0, .ref (q 0)), (1, .ref (q1 0))]) hx hb dX0_remember_28 rfl hl (by decide) rfl (fun ls hl => ?_)
    refine lv_aload_n hx hb dX0_remember_29 rfl (lv_at hl 0 rfl) ?_
    refine lv_ifnull hx hb dX0_remember_30 ?_
    refine lv_aload_n hx hb dX0_remember_33 rfl (lv_at hl 0 rfl) ?_
    refine lv_aload_n hx hb dX0_remember_34 rfl (lv_at hl 2 rfl) ?_
    obtain ⟨z1, hz1, hf⟩ := bnd hf
    refine x_wrVv (C := RX4) (n := 1) (ci := 4) (ws1 := (wX0 q cI cZ cO I (va_up S 13 z1.1) (va_up T 13 z1.2) ++ wX4 q1 cI cZ cO I1 A1)) hx hb hml hown hts hE (ct_X4_copyFrom N l G cI cZ cO (sh q 54) (S 13) (T 13) q1 I1 A1 z1.1 z1.2 hz1) (bg 15 13 rfl) mb_X4_copyFrom.1 mb_X4_copyFrom.2.1 mb_X4_copyFrom.2.2.1 mb_X4_copyFrom.2.2.2 hd_X4_copyFrom rfl (by decide) hP hD hS hA [54, 55, 56, 57, 58, 59, 60, 61] [false, false, false, false, false, false, false, false, false, false, false, false, false, false, false, false, false, false, false, false, false, false, false, false, false, false, false, false, false, false, false, false, false, false, false, false, false, false, false, false, false, false, false, false, false, false, false, false, false, false, false, false, false, false, true, true, true, true, true, true, true, true] (by decide) (by decide +kernel) rfl rfl ⟨rfl, rfl, rfl, rfl, rfl, rfl, rfl, rfl, rfl, rfl, rfl, rfl, rfl, rfl, rfl, rfl, rfl, rfl, rfl, rfl, rfl, rfl, rfl, rfl, rfl, rfl, rfl, rfl, rfl, rfl, rfl, rfl, rfl, rfl, rfl, rfl, rfl, rfl, rfl, rfl, rfl, rfl, rfl, rfl, rfl, rfl, rfl, rfl, rfl, rfl, rfl, rfl, rfl, rfl, rfl, rfl, rfl, rfl, rfl, rfl, rfl, rfl, trivial⟩ rfl rfl rfl rfl hl.1 (Nat.le_of_ble_eq_true rfl) ⟨Nat.zero_le _, Nat.zero_le _⟩ dX0_remember_35 (fun H locs hP hD hS => ?_)
    refine lv_aload_n hx hb dX0_remember_38 rfl (lv_at hl 1 rfl) ?_
    refine lv_aload_n hx hb dX0_remember_39 rfl (lv_at hl 1 rfl) ?_
    refine va_get (D := G) (ci := 0) (v := .int ((I 0))) (C := RX0) (T := TX0) (N := 3) hx hb hts inlX0 hown hE.1 hP 0 rfl rfl 1 (by decide) (hts _ (bg 15 7 rfl)) (fun _ h9 => h9) rfl dX0_remember_40 ?_
    refine lv_iconst (v := 1) hx hb dX0_remember_43 (by decide) ?_
    refine lv_iadd hx hb dX0_remember_44 ?_
    refine lv_bipush (v := 14) hx hb dX0_remember_45 (by decide) ?_
    refine x_irem hx hb dX0_remember_47 (by decide) ?_
    refine va_put (D := G) (ci := 0) (v := .int (rem ((I 0) + 1) 14)) (ty := .int) (C := RX0) (T := TX0) (N := 3) hx hb hts inlX0 tyX0 tyX0_ok nmX0 hown hE.1 hP hD hS 0 rfl rfl 1 (by decide) (hts _ (bg 15 7 rfl)) (fun _ h9 => h9) rfl (by decide +kernel) rfl rfl (Nat.le_of_ble_eq_true rfl) dX0_remember_48 (fun H locs hP hD hS => ?_)
    have hP : va_P G vwCl (wX0 q cI cZ cO (upd I 0 (rem ((I 0) + 1) 14)) (va_up S 13 z1.1) (va_up T 13 z1.2) ++ wX4 q1 cI cZ cO I1 A1) H := hP
    have hD : va_D Z (wX0 q cI cZ cO (upd I 0 (rem ((I 0) + 1) 14)) (va_up S 13 z1.1) (va_up T 13 z1.2) ++ wX4 q1 cI cZ cO I1 A1) := hD
    refine lv_aload_n hx hb dX0_remember_51 rfl (lv_at hl 1 rfl) ?_
    refine lv_aload_n hx hb dX0_remember_52 rfl (lv_at hl 1 rfl) ?_
    refine va_get (D := G) (ci := 0) (v := .int ((I 1))) (C := RX0) (T := TX0) (N := 3) hx hb hts inlX0 hown hE.1 hP 0 rfl rfl 2 (by decide) (hts _ (bg 15 8 rfl)) (fun _ h9 => h9) rfl dX0_remember_53 ?_
    refine lv_iconst (v := 1) hx hb dX0_remember_56 (by decide) ?_
    refine lv_iadd hx hb dX0_remember_57 ?_
    refine lv_bipush (v := 14) hx hb dX0_remember_58 (by decide) ?_
    refine va_mmin hx hb (hml.trans hl.1.symm) hown (hts _ (bg 15 9 rfl)) (hts _ (bg 15 10 rfl)) (hts _ (bg 15 11 rfl)) (hts _ (bg 15 12 rfl)) (by decide) (Nat.le_of_ble_eq_true rfl) (Nat.zero_le _) (Nat.zero_le _) dX0_remember_60 ?_
    refine va_put (D := G) (ci := 0) (v := .int (if 14 < ((I 1) + 1) then 14 else ((I 1) + 1))) (ty := .int) (C := RX0) (T := TX0) (N := 3) hx hb hts inlX0 tyX0 tyX0_ok nmX0 hown hE.1 hP hD hS 0 rfl rfl 2 (by decide) (hts _ (bg 15 8 rfl)) (fun _ h9 => h9) rfl (by decide +kernel) rfl rfl (Nat.le_of_ble_eq_true rfl) dX0_remember_63 (fun H locs hP hD hS => ?_)
    have hP : va_P G vwCl (wX0 q cI cZ cO (upd (upd I 0 (rem ((I 0) + 1) 14)) 1 (if 14 < ((I 1) + 1) then 14 else ((I 1) + 1))) (va_up S 13 z1.1) (va_up T 13 z1.2) ++ wX4 q1 cI cZ cO I1 A1) H := hP
    have hD : va_D Z (wX0 q cI cZ cO (upd (upd I 0 (rem ((I 0) + 1) 14)) 1 (if 14 < ((I 1) + 1) then 14 else ((I 1) + 1))) (va_up S 13 z1.1) (va_up T 13 z1.2) ++ wX4 q1 cI cZ cO I1 A1) := hD
    exact b_66 (upd (upd I 0 (rem ((I 0) + 1) 14)) 1 (if 14 < ((I 1) + 1) then 14 else ((I 1) + 1))) (va_up S 13 z1.1) (va_up T 13 z1.2) H locs hP hD hS ls (lv_sub hl [] rfl) hf
  unfold fX0_remember at hf
  have hS : va_S Z s.heap s.heap [] := va_S.rf
  obtain ⟨H, hH⟩ : ∃ H, H = s.heap := ⟨_, rfl⟩
  obtain ⟨locs, hlocs⟩ : ∃ locs : List Loc, locs = [] := ⟨_, rfl⟩
  rw [← hlocs]
  rw [← hlocs] at hS
  suffices hW : ∀ H : Heap, va_P G vwCl (wX0 q cI cZ cO I S T ++ wX4 q1 cI cZ cO I1 A1) H → va_S Z s.heap H locs → W p l e rmX0_remember s m [.ref (q 0), .ref (q1 0)].toArray below meth cd H locs 0 0 Q (F0 m 0 ls []) from hW s.heap hP hS
  clear hP hS hH H
  intro H hP hS
  refine lv_aload_n hx hb dX0_remember_0 rfl (lv_at hl 0 rfl) ?_
  refine va_get (D := G) (ci := 0) (v := .int ((I 0))) (C := RX0) (T := TX0) (N := 3) hx hb hts inlX0 hown hE.1 hP 0 rfl rfl 1 (by decide) (hts _ (bg 15 7 rfl)) (fun _ h9 => h9) rfl dX0_remember_1 ?_
  refine lv_aload_n hx hb dX0_remember_4 rfl (lv_at hl 0 rfl) ?_
  refine va_get (D := G) (ci := 0) (v := .ref (q 1)) (C := RX0) (T := TX0) (N := 3) hx hb hts inlX0 hown hE.1 hP 0 rfl rfl 0 (by decide) (hts _ (bg 2 23 rfl)) (fun _ h9 => h9) rfl dX0_remember_5 ?_
  refine va_alen (v := 14) hx hb hE.1 hP 1 2 rfl rfl rfl dX0_remember_8 ?_
  obtain ⟨z1, hz1, hf⟩ := bnd hf
  refine x_rdN (n := 2) hx hb hml hown hts hE (ct_X6_isIndex N l G cI cZ cO (I 0) 14 z1 hz1) (List.mem_of_getElem? (i := 13) rfl) mb_X6_isIndex.1 mb_X6_isIndex.2.1 mb_X6_isIndex.2.2 hd_X6_isIndex rfl (by decide) va_P_nil rfl hl.1 (Nat.le_of_ble_eq_true rfl) ⟨Nat.zero_le _, Nat.zero_le _⟩ dX0_remember_9 ?_
  refine lv_if_eq (tgt := 27) hx hb dX0_remember_12 (by decide) (fun c2 => ?_) (fun c2 => ?_)
  · rw [if_pos c2] at hf
    refine lv_null hx hb dX0_remember_27 ?_
    exact b_28 I S T H locs hP hD hS ls (lv_sub hl [0, 1] rfl) hf
  · rw [if_neg c2] at hf
    refine lv_aload_n hx hb dX0_remember_15 rfl (lv_at hl 0 rfl) ?_
    refine va_get (D := G) (ci := 0) (v := .ref (q 1)) (C := RX0) (T := TX0) (N := 3) hx hb hts inlX0 hown hE.1 hP 0 rfl rfl 0 (by decide) (hts _ (bg 2 23 rfl)) (fun _ h9 => h9) rfl dX0_remember_16 ?_
    refine lv_aload_n hx hb dX0_remember_19 rfl (lv_at hl 0 rfl) ?_
    refine va_get (D := G) (ci := 0) (v := .int ((I 0))) (C := RX0) (T := TX0) (N := 3) hx hb hts inlX0 hown hE.1 hP 0 rfl rfl 1 (by decide) (hts _ (bg 15 7 rfl)) (fun _ h9 => h9) rfl dX0_remember_20 ?_
    by_cases c3 : (I 0) = 0
    · rw [if_pos c3] at hf
      refine x_aldq hx hb hE.1 hP 1 2 rfl rfl c3 (by decide) rfl dX0_remember_23 ?_
      refine lv_goto (tgt := 28) hx hb dX0_remember_24 (by decide) ?_
      exact b_28r1 I S T H locs hP hD hS ls (lv_sub hl [0, 1] rfl) hf
    · rw [if_neg c3] at hf
      by_cases c4 : (I 0) = 1
      · rw [if_pos c4] at hf
        refine x_aldq hx hb hE.1 hP 1 2 rfl rfl c4 (by decide) rfl dX0_remember_23 ?_
        refine lv_goto (tgt := 28) hx hb dX0_remember_24 (by decide) ?_
        exact b_28r2 I S T H locs hP hD hS ls (lv_sub hl [0, 1] rfl) hf
      · rw [if_neg c4] at hf
        by_cases c5 : (I 0) = 2
        · rw [if_pos c5] at hf
          refine x_aldq hx hb hE.1 hP 1 2 rfl rfl c5 (by decide) rfl dX0_remember_23 ?_
          refine lv_goto (tgt := 28) hx hb dX0_remember_24 (by decide) ?_
          exact b_28r3 I S T H locs hP hD hS ls (lv_sub hl [0, 1] rfl) hf
        · rw [if_neg c5] at hf
          by_cases c6 : (I 0) = 3
          · rw [if_pos c6] at hf
            refine x_aldq hx hb hE.1 hP 1 2 rfl rfl c6 (by decide) rfl dX0_remember_23 ?_
            refine lv_goto (tgt := 28) hx hb dX0_remember_24 (by decide) ?_
            exact b_28r4 I S T H locs hP hD hS ls (lv_sub hl [0, 1] rfl) hf
          · rw [if_neg c6] at hf
            by_cases c7 : (I 0) = 4
            · rw [if_pos c7] at hf
              refine x_aldq hx hb hE.1 hP 1 2 rfl rfl c7 (by decide) rfl dX0_remember_23 ?_
              refine lv_goto (tgt := 28) hx hb dX0_remember_24 (by decide) ?_
              exact b_28r5 I S T H locs hP hD hS ls (lv_sub hl [0, 1] rfl) hf
            · rw [if_neg c7] at hf
              by_cases c8 : (I 0) = 5
              · rw [if_pos c8] at hf
                refine x_aldq hx hb hE.1 hP 1 2 rfl rfl c8 (by decide) rfl dX0_remember_23 ?_
                refine lv_goto (tgt := 28) hx hb dX0_remember_24 (by decide) ?_
                exact b_28r6 I S T H locs hP hD hS ls (lv_sub hl [0, 1] rfl) hf
              · rw [if_neg c8] at hf
                by_cases c9 : (I 0) = 6
                · rw [if_pos c9] at hf
                  refine x_aldq hx hb hE.1 hP 1 2 rfl rfl c9 (by decide) rfl dX0_remember_23 ?_
                  refine lv_goto (tgt := 28) hx hb dX0_remember_24 (by decide) ?_
                  exact b_28r7 I S T H locs hP hD hS ls (lv_sub hl [0, 1] rfl) hf
                · rw [if_neg c9] at hf
                  by_cases c10 : (I 0) = 7
                  · rw [if_pos c10] at hf
                    refine x_aldq hx hb hE.1 hP 1 2 rfl rfl c10 (by decide) rfl dX0_remember_23 ?_
                    refine lv_goto (tgt := 28) hx hb dX0_remember_24 (by decide) ?_
                    exact b_28r8 I S T H locs hP hD hS ls (lv_sub hl [0, 1] rfl) hf
                  · rw [if_neg c10] at hf
                    by_cases c11 : (I 0) = 8
                    · rw [if_pos c11] at hf
                      refine x_aldq hx hb hE.1 hP 1 2 rfl rfl c11 (by decide) rfl dX0_remember_23 ?_
                      refine lv_goto (tgt := 28) hx hb dX0_remember_24 (by decide) ?_
                      exact b_28r9 I S T H locs hP hD hS ls (lv_sub hl [0, 1] rfl) hf
                    · rw [if_neg c11] at hf
                      by_cases c12 : (I 0) = 9
                      · rw [if_pos c12] at hf
                        refine x_aldq hx hb hE.1 hP 1 2 rfl rfl c12 (by decide) rfl dX0_remember_23 ?_
                        refine lv_goto (tgt := 28) hx hb dX0_remember_24 (by decide) ?_
                        exact b_28r10 I S T H locs hP hD hS ls (lv_sub hl [0, 1] rfl) hf
                      · rw [if_neg c12] at hf
                        by_cases c13 : (I 0) = 10
                        · rw [if_pos c13] at hf
                          refine x_aldq hx hb hE.1 hP 1 2 rfl rfl c13 (by decide) rfl dX0_remember_23 ?_
                          refine lv_goto (tgt := 28) hx hb dX0_remember_24 (by decide) ?_
                          exact b_28r11 I S T H locs hP hD hS ls (lv_sub hl [0, 1] rfl) hf
                        · rw [if_neg c13] at hf
                          by_cases c14 : (I 0) = 11
                          · rw [if_pos c14] at hf
                            refine x_aldq hx hb hE.1 hP 1 2 rfl rfl c14 (by decide) rfl dX0_remember_23 ?_
                            refine lv_goto (tgt := 28) hx hb dX0_remember_24 (by decide) ?_
                            exact b_28r12 I S T H locs hP hD hS ls (lv_sub hl [0, 1] rfl) hf
                          · rw [if_neg c14] at hf
                            by_cases c15 : (I 0) = 12
                            · rw [if_pos c15] at hf
                              refine x_aldq hx hb hE.1 hP 1 2 rfl rfl c15 (by decide) rfl dX0_remember_23 ?_
                              refine lv_goto (tgt := 28) hx hb dX0_remember_24 (by decide) ?_
                              exact b_28r13 I S T H locs hP hD hS ls (lv_sub hl [0, 1] rfl) hf
                            · rw [if_neg c15] at hf
                              by_cases c16 : (I 0) = 13
                              · rw [if_pos c16] at hf
                                refine x_aldq hx hb hE.1 hP 1 2 rfl rfl c16 (by decide) rfl dX0_remember_23 ?_
                                refine lv_goto (tgt := 28) hx hb dX0_remember_24 (by decide) ?_
                                exact b_28r14 I S T H locs hP hD hS ls (lv_sub hl [0, 1] rfl) hf
                              · rw [if_neg c16] at hf
                                cases hf
