def fX4_valueOf (N : Nat) (I : Nat → Int32) (A : Nat → Nat → Int32) (I1 : Nat → Int32) (A1 : Nat → Nat → Int32) (x2 : Int32) : Option (Int32) := (fX4_saidOf N A x2).bind fun z1 => (fX4_deniedOf N A x2).bind fun z2 => (fX5_valueOn N I1 A1 (I 0) x2 z1 z2).bind fun z3 => some z3
def rmX4_valueOf : Room := { frames := 3, cells := 0, slots := 0, locals := 85 }
theorem mb_X4_valueOf : Cond.instanceMethod yX4_valueOf ∈ wsL_law ∧ Cond.selects RX4 yX4_valueOf yX4_valueOf ∈ wsL_law ∧ Cond.initialized RX4 ∈ wsL_law ∧ Cond.code yX4_valueOf cX4_valueOf 3 (some .int) ∈ wsL_law := ⟨(bg 20 13 rfl), (bg 20 14 rfl), (bg 1 0 rfl), (bg 20 15 rfl)⟩
theorem hd_X4_valueOf : yX4_valueOf.cls = RX4 ∧ yX4_valueOf.cls ≠ "java/lang/invoke/MethodHandle" ∧ yX4_valueOf.cls ≠ "java/lang/invoke/VarHandle" ∧ (parseMethodDescriptor yX4_valueOf.desc).map (fun d => d.parameters.length) = some 2 := by decide +kernel
set_option maxRecDepth 100000 in
set_option maxHeartbeats 4000000 in
theorem ct_X4_valueOf (N : Nat) (l : Launch) (G : va_G) (cI cZ cO : ClassId) (q : Nat → Nat) (I : Nat → Int32) (A : Nat → Nat → Int32) (q1 : Nat → Nat) (I1 : Nat → Int32) (A1 : Nat → Nat → Int32) (x2 : Int32) (r : Int32) (hf : fX4_valueOf N I A I1 A1 x2 = some r) : RtI l yX4_valueOf cX4_valueOf 3 .int rmX4_valueOf G cI cZ cO [.ref (q 0), .ref (q1 0), .int x2] (wX4 q cI cZ cO I A ++ wX5 q1 cI cZ cO I1 A1) r := by
  refine mkRI (by decide) (Nat.le_of_ble_eq_true rfl) ?_
  intro p e s m below meth cd Q hC hP hE fin ls hl
  obtain ⟨hx, hb, hml, hown, hts⟩ := hC
  have hown : s.vm.findClass RX4 = some m.cls := hown
  have hl : lv_has ls 3 [(0, .ref (q 0)), (1, .ref (q1 0)), (2, .int x2)] := hl
  unfold fX4_valueOf at hf
  refine lv_aload_n hx hb dX4_valueOf_0 rfl (lv_at hl 1 rfl) ?_
  refine lv_aload_n hx hb dX4_valueOf_1 rfl (lv_at hl 0 rfl) ?_
  refine va_get (D := G) (ci := 4) (v := .int ((I 0))) (C := RX4) (T := TX4) (N := 4) hx hb hts inlX4 hown hE.1 hP 0 rfl rfl 3 (by decide) (hts _ (bg 11 14 rfl)) (fun _ h9 => h9) rfl dX4_valueOf_2 ?_
  refine lv_iload_n hx hb dX4_valueOf_5 rfl (lv_at hl 2 rfl) ?_
  refine lv_aload_n hx hb dX4_valueOf_6 rfl (lv_at hl 0 rfl) ?_
  refine lv_iload_n hx hb dX4_valueOf_7 rfl (lv_at hl 2 rfl) ?_
  obtain ⟨z1, hz1, hf⟩ := bnd hf
  refine x_rdV (C := RX4) (n := 1) (ci := 4) hx hb hml hown hts hE (ct_X4_saidOf N l G cI cZ cO q I A x2 z1 hz1) (bg 16 6 rfl) mb_X4_saidOf.1 mb_X4_saidOf.2.1 mb_X4_saidOf.2.2.1 mb_X4_saidOf.2.2.2 hd_X4_saidOf rfl (by decide) (x_cut hP [0, 1, 2, 3] rfl) rfl rfl rfl rfl hl.1 (Nat.le_of_ble_eq_true rfl) ⟨Nat.zero_le _, Nat.zero_le _⟩ dX4_valueOf_8 ?_
  refine lv_aload_n hx hb dX4_valueOf_11 rfl (lv_at hl 0 rfl) ?_
  refine lv_iload_n hx hb dX4_valueOf_12 rfl (lv_at hl 2 rfl) ?_
  obtain ⟨z2, hz2, hf⟩ := bnd hf
  refine x_rdV (C := RX4) (n := 1) (ci := 4) hx hb hml hown hts hE (ct_X4_deniedOf N l G cI cZ cO q I A x2 z2 hz2) (bg 17 21 rfl) mb_X4_deniedOf.1 mb_X4_deniedOf.2.1 mb_X4_deniedOf.2.2.1 mb_X4_deniedOf.2.2.2 hd_X4_deniedOf rfl (by decide) (x_cut hP [0, 1, 2, 3] rfl) rfl rfl rfl rfl hl.1 (Nat.le_of_ble_eq_true rfl) ⟨Nat.zero_le _, Nat.zero_le _⟩ dX4_valueOf_13 ?_
  obtain ⟨z3, hz3, hf⟩ := bnd hf
  refine x_rdV (C := RX5) (n := 4) (ci := 5) hx hb hml hown hts hE (ct_X5_valueOn N l G cI cZ cO q1 I1 A1 (I 0) x2 z1 z2 z3 hz3) (bg 20 16 rfl) mb_X5_valueOn.1 mb_X5_valueOn.2.1 mb_X5_valueOn.2.2.1 mb_X5_valueOn.2.2.2 hd_X5_valueOn rfl (by decide) (x_cut hP [4, 5, 6, 7, 8, 9, 10] rfl) rfl rfl rfl rfl hl.1 (Nat.le_of_ble_eq_true rfl) ⟨Nat.zero_le _, Nat.zero_le _⟩ dX4_valueOf_16 ?_
  have e9 := Option.some.inj hf
  exact fin 19 ls _ e9 (nar_i _) dX4_valueOf_19
def fX4_hasRivalCoin_37 (N : Nat) (k_3 : (Nat → Nat → Int32) → (Nat → Nat → Int32) → Int32 → Int32 → Int32 → Option (Int32)) (A : Nat → Nat → Int32) (A1 : Nat → Nat → Int32) (u2 : Int32) (u3 : Int32) (u4 : Int32) : Option (Int32) := k_3 A A1 u2 u3 (u4 + 1)
def fX4_hasRivalCoin_3s (N : Nat) (k_3 : (Nat → Nat → Int32) → (Nat → Nat → Int32) → Int32 → Int32 → Int32 → Option (Int32)) (A : Nat → Nat → Int32) (A1 : Nat → Nat → Int32) (u2 : Int32) (u3 : Int32) (u4 : Int32) : Option (Int32) := if 5 ≤ u4 then some 0 else (fX6_at N 5 (A1 3) u3).bind fun z2 => (fX6_hasBit N z2 u4).bind fun z3 => if z3 = 0 then fX4_hasRivalCoin_37 N k_3 A A1 u2 u3 u4 else (fX4_coinsOf N A u2 u4).bind fun z5 => if z5 ≤ 0 then fX4_hasRivalCoin_37 N k_3 A A1 u2 u3 u4 else some 1
def fX4_hasRivalCoin_3 (N : Nat) : Nat → (Nat → Nat → Int32) → (Nat → Nat → Int32) → Int32 → Int32 → Int32 → Option (Int32)
  | 0 => fun _ _ _ _ _ => none
  | n + 1 => fX4_hasRivalCoin_3s N (fX4_hasRivalCoin_3 N n)
def fX4_hasRivalCoin (N : Nat) (A : Nat → Nat → Int32) (A1 : Nat → Nat → Int32) (x2 : Int32) (x3 : Int32) : Option (Int32) := fX4_hasRivalCoin_3 N N A A1 x2 x3 0
def rmX4_hasRivalCoin : Room := { frames := 2, cells := 0, slots := 0, locals := 43 }
theorem mb_X4_hasRivalCoin : Cond.instanceMethod yX4_hasRivalCoin ∈ wsL_law ∧ Cond.selects RX4 yX4_hasRivalCoin yX4_hasRivalCoin ∈ wsL_law ∧ Cond.initialized RX4 ∈ wsL_law ∧ Cond.code yX4_hasRivalCoin cX4_hasRivalCoin 5 (some .boolean) ∈ wsL_law := ⟨(bg 21 1 rfl), (bg 21 2 rfl), (bg 1 0 rfl), (bg 21 3 rfl)⟩
theorem hd_X4_hasRivalCoin : yX4_hasRivalCoin.cls = RX4 ∧ yX4_hasRivalCoin.cls ≠ "java/lang/invoke/MethodHandle" ∧ yX4_hasRivalCoin.cls ≠ "java/lang/invoke/VarHandle" ∧ (parseMethodDescriptor yX4_hasRivalCoin.desc).map (fun d => d.parameters.length) = some 3 := by decide +kernel
set_option maxRecDepth 100000 in
set_option maxHeartbeats 4000000 in
theorem ct_X4_hasRivalCoin (N : Nat) (l : Launch) (G : va_G) (cI cZ cO : ClassId) (q : Nat → Nat) (I : Nat → Int32) (A : Nat → Nat → Int32) (q1 : Nat → Nat) (I1 : Nat → Int32) (A1 : Nat → Nat → Int32) (x2 : Int32) (x3 : Int32) (r : Int32) (hf : fX4_hasRivalCoin N A A1 x2 x3 = some r) : RtI l yX4_hasRivalCoin cX4_hasRivalCoin 5 .boolean rmX4_hasRivalCoin G cI cZ cO [.ref (q 0), .ref (q1 0), .int x2, .int x3] (wX4 q cI cZ cO I A ++ wX5 q1 cI cZ cO I1 A1) r := by
  refine mkRI (by decide) (Nat.le_of_ble_eq_true rfl) ?_
  intro p e s m below meth cd Q hC hP hE fin ls hl
  obtain ⟨hx, hb, hml, hown, hts⟩ := hC
  have hown : s.vm.findClass RX4 = some m.cls := hown
  have hl : lv_has ls 5 [(0, .ref (q 0)), (1, .ref (q1 0)), (2, .int x2), (3, .int x3)] := hl
  have b_37 : ∀ (k_3 : (Nat → Nat → Int32) → (Nat → Nat → Int32) → Int32 → Int32 → Int32 → Option (Int32)) (hk_3 : ∀ (u2 : Int32) (u3 : Int32) (u4 : Int32), ∀ ls : Array Slot, lv_has ls 5 [(0, .ref (q 0)), (1, .ref (q1 0)), (2, .int u2), (3, .int u3), (4, .int u4)] → k_3 A A1 u2 u3 u4 = some r → W p l e rmX4_hasRivalCoin s m [.ref (q 0), .ref (q1 0), .int x2, .int x3].toArray below meth cd s.heap [] 0 0 Q (F0 m 3 ls [])), ∀ (u2 : Int32) (u3 : Int32) (u4 : Int32), ∀ ls : Array Slot, lv_has ls 5 [(0, .ref (q 0)), (1, .ref (q1 0)), (2, .int u2), (3, .int u3), (4, .int u4)] → fX4_hasRivalCoin_37 N k_3 A A1 u2 u3 u4 = some r → W p l e rmX4_hasRivalCoin s m [.ref (q 0), .ref (q1 0), .int x2, .int x3].toArray below meth cd s.heap [] 0 0 Q (F0 m 37 ls []) := by
    intro k_3 hk_3 u2 u3 u4 ls hl hf
    unfold fX4_hasRivalCoin_37 at hf
    refine lv_iinc (v := u4 + 1) (lv' := [(4, .int (u4 + 1)), (0, .ref (q 0)), (1, .ref (q1 0)), (2, .int u2), (3, .int u3)]) hx hb dX4_hasRivalCoin_37 hl (k := 4) rfl rfl (by decide) rfl (fun ls hl => ?_)
    refine lv_goto (tgt := 3) hx hb dX4_hasRivalCoin_40 (by decide) ?_
    exact hk_3 u2 u3 (u4 + 1) ls (lv_sub hl [1, 2, 3, 4, 0] rfl) hf
  have b_3 : ∀ n : Nat, ∀ (u2 : Int32) (u3 : Int32) (u4 : Int32), ∀ ls : Array Slot, lv_has ls 5 [(0, .ref (q 0)), (1, .ref (q1 0)), (2, .int u2), (3, .int u3), (4, .int u4)] → fX4_hasRivalCoin_3 N n A A1 u2 u3 u4 = some r → W p l e rmX4_hasRivalCoin s m [.ref (q 0), .ref (q1 0), .int x2, .int x3].toArray below meth cd s.heap [] 0 0 Q (F0 m 3 ls []) := by
    intro n
    induction n with
    | zero =>
      intro u2 u3 u4 ls hl hf
      cases hf
    | succ n hk_3 =>
      intro u2 u3 u4 ls hl hf
      replace hf : fX4_hasRivalCoin_3s N (fX4_hasRivalCoin_3 N n) A A1 u2 u3 u4 = some r := hf
      generalize fX4_hasRivalCoin_3 N n = k_3 at hf hk_3
      unfold fX4_hasRivalCoin_3s at hf
      refine lv_iload hx hb dX4_hasRivalCoin_3 (lv_at hl 4 rfl) ?_
      refine lv_iconst (v := 5) hx hb dX4_hasRivalCoin_5 (by decide) ?_
      refine lv_icmp_ge (tgt := 43) hx hb dX4_hasRivalCoin_6 (by decide) (fun c1 => ?_) (fun c1 => ?_)
      · rw [if_pos c1] at hf
        refine lv_iconst (v := 0) hx hb dX4_hasRivalCoin_43 (by decide) ?_
        have e9 := Option.some.inj hf
        exact fin 44 ls _ e9 (nar_z (Or.inl e9.symm)) dX4_hasRivalCoin_44
      · rw [if_neg c1] at hf
        refine lv_aload_n hx hb dX4_hasRivalCoin_9 rfl (lv_at hl 1 rfl) ?_
        refine va_get (D := G) (ci := 5) (v := .ref (q1 4)) (C := RX5) (T := TX5) (N := 8) hx hb hts inlX5 hown hE.1 hP 4 rfl rfl 3 (by decide) (hts _ (bg 21 4 rfl)) (fun _ h9 => h9) rfl dX4_hasRivalCoin_10 ?_
        refine lv_iload_n hx hb dX4_hasRivalCoin_13 rfl (lv_at hl 3 rfl) ?_
        obtain ⟨z2, hz2, hf⟩ := bnd hf
        refine x_rdN (n := 2) hx hb hml hown hts hE (ct_X6_at N l G cI cZ cO (q1 4) 5 (A1 3) u3 z2 hz2) (List.mem_of_getElem? (i := 11) rfl) mb_X6_at.1 mb_X6_at.2.1 mb_X6_at.2.2 hd_X6_at rfl (by decide) (x_cut hP [8] rfl) rfl hl.1 (Nat.le_of_ble_eq_true rfl) ⟨Nat.zero_le _, Nat.zero_le _⟩ dX4_hasRivalCoin_14 ?_
        refine lv_iload hx hb dX4_hasRivalCoin_17 (lv_at hl 4 rfl) ?_
        obtain ⟨z3, hz3, hf⟩ := bnd hf
        refine x_rdN (n := 2) hx hb hml hown hts hE (ct_X6_hasBit N l G cI cZ cO z2 u4 z3 hz3) (List.mem_of_getElem? (i := 14) rfl) mb_X6_hasBit.1 mb_X6_hasBit.2.1 mb_X6_hasBit.2.2 hd_X6_hasBit rfl (by decide) va_P_nil rfl hl.1 (Nat.le_of_ble_eq_true rfl) ⟨Nat.zero_le _, Nat.zero_le _⟩ dX4_hasRivalCoin_19 ?_
        refine lv_if_eq (tgt := 37) hx hb dX4_hasRivalCoin_22 (by decide) (fun c4 => ?_) (fun c4 => ?_)
        · rw [if_pos c4] at hf
          exact b_37 k_3 hk_3 u2 u3 u4 ls (lv_sub hl [0, 1, 2, 3, 4] rfl) hf
        · rw [if_neg c4] at hf
          refine lv_aload_n hx hb dX4_hasRivalCoin_25 rfl (lv_at hl 0 rfl) ?_
          refine lv_iload_n hx hb dX4_hasRivalCoin_26 rfl (lv_at hl 2 rfl) ?_
          refine lv_iload hx hb dX4_hasRivalCoin_27 (lv_at hl 4 rfl) ?_
          obtain ⟨z5, hz5, hf⟩ := bnd hf
          refine x_rdV (C := RX4) (n := 2) (ci := 4) hx hb hml hown hts hE (ct_X4_coinsOf N l G cI cZ cO q I A u2 u4 z5 hz5) (bg 16 11 rfl) mb_X4_coinsOf.1 mb_X4_coinsOf.2.1 mb_X4_coinsOf.2.2.1 mb_X4_coinsOf.2.2.2 hd_X4_coinsOf rfl (by decide) (x_cut hP [0, 1, 2, 3] rfl) rfl rfl rfl rfl hl.1 (Nat.le_of_ble_eq_true rfl) ⟨Nat.zero_le _, Nat.zero_le _⟩ dX4_hasRivalCoin_29 ?_
          refine lv_if_le (tgt := 37) hx hb dX4_hasRivalCoin_32 (by decide) (fun c6 => ?_) (fun c6 => ?_)
          · rw [if_pos c6] at hf
            exact b_37 k_3 hk_3 u2 u3 u4 ls (lv_sub hl [0, 1, 2, 3, 4] rfl) hf
          · rw [if_neg c6] at hf
            refine lv_iconst (v := 1) hx hb dX4_hasRivalCoin_35 (by decide) ?_
            have e9 := Option.some.inj hf
            exact fin 36 ls _ e9 (nar_z (Or.inr e9.symm)) dX4_hasRivalCoin_36
  unfold fX4_hasRivalCoin at hf
  refine lv_iconst (v := 0) hx hb dX4_hasRivalCoin_0 (by decide) ?_
  refine lv_istore (lv' := [(4, .int 0), (0, .ref (q 0)), (1, .ref (q1 0)), (2, .int x2), (3, .int x3)]) hx hb dX4_hasRivalCoin_1 hl (by decide) rfl (fun ls hl => ?_)
  exact b_3 N x2 x3 0 ls (lv_sub hl [1, 2, 3, 4, 0] rfl) hf
def fX4_isTakenBy_36 (N : Nat) (I : Nat → Int32) (A : Nat → Nat → Int32) (I1 : Nat → Int32) (A1 : Nat → Nat → Int32) (y0 : Int32) : Option (Int32) := (bz y0).bind fun v1 => some v1
def fX4_isTakenBy_35 (N : Nat) (I : Nat → Int32) (A : Nat → Nat → Int32) (I1 : Nat → Int32) (A1 : Nat → Nat → Int32) : Option (Int32) := fX4_isTakenBy_36 N I A I1 A1 0
def fX4_isTakenBy (N : Nat) (I : Nat → Int32) (A : Nat → Nat → Int32) (I1 : Nat → Int32) (A1 : Nat → Nat → Int32) (x2 : Int32) (x3 : Int32) : Option (Int32) := (fX4_valueOf N I A I1 A1 x3).bind fun z1 => if z1 < 1 then fX4_isTakenBy_35 N I A I1 A1 else (fX4_coinsOf N A x2 x3).bind fun z3 => if 99 ≤ z3 then fX4_isTakenBy_35 N I A I1 A1 else (fX4_hasRivalCoin N A A1 x2 x3).bind fun z5 => if z5 = 0 then fX4_isTakenBy_36 N I A I1 A1 1 else fX4_isTakenBy_35 N I A I1 A1
def rmX4_isTakenBy : Room := { frames := 4, cells := 0, slots := 0, locals := 107 }
theorem mb_X4_isTakenBy : Cond.instanceMethod yX4_isTakenBy ∈ wsL_law ∧ Cond.selects RX4 yX4_isTakenBy yX4_isTakenBy ∈ wsL_law ∧ Cond.initialized RX4 ∈ wsL_law ∧ Cond.code yX4_isTakenBy cX4_isTakenBy 4 (some .boolean) ∈ wsL_law := ⟨(bg 20 9 rfl), (bg 20 10 rfl), (bg 1 0 rfl), (bg 20 11 rfl)⟩
theorem hd_X4_isTakenBy : yX4_isTakenBy.cls = RX4 ∧ yX4_isTakenBy.cls ≠ "java/lang/invoke/MethodHandle" ∧ yX4_isTakenBy.cls ≠ "java/lang/invoke/VarHandle" ∧ (parseMethodDescriptor yX4_isTakenBy.desc).map (fun d => d.parameters.length) = some 3 := by decide +kernel
set_option maxRecDepth 100000 in
set_option maxHeartbeats 4000000 in
theorem ct_X4_isTakenBy (N : Nat) (l : Launch) (G : va_G) (cI cZ cO : ClassId) (q : Nat → Nat) (I : Nat → Int32) (A : Nat → Nat → Int32) (q1 : Nat → Nat) (I1 : Nat → Int32) (A1 : Nat → Nat → Int32) (x2 : Int32) (x3 : Int32) (r : Int32) (hf : fX4_isTakenBy N I A I1 A1 x2 x3 = some r) : RtI l yX4_isTakenBy cX4_isTakenBy 4 .boolean rmX4_isTakenBy G cI cZ cO [.ref (q 0), .ref (q1 0), .int x2, .int x3] (wX4 q cI cZ cO I A ++ wX5 q1 cI cZ cO I1 A1) r := by
  refine mkRI (by decide) (Nat.le_of_ble_eq_true rfl) ?_
  intro p e s m below meth cd Q hC hP hE fin ls hl
  obtain ⟨hx, hb, hml, hown, hts⟩ := hC
  have hown : s.vm.findClass RX4 = some m.cls := hown
  have hl : lv_has ls 4 [(0, .ref (q 0)), (1, .ref (q1 0)), (2, .int x2), (3, .int x3)] := hl
  have b_36 : ∀ (y0 : Int32), ∀ ls : Array Slot, lv_has ls 4 [] → fX4_isTakenBy_36 N I A I1 A1 y0 = some r → W p l e rmX4_isTakenBy s m [.ref (q 0), .ref (q1 0), .int x2, .int x3].toArray below meth cd s.heap [] 0 0 Q (F0 m 36 ls [.int y0]) := by
    intro y0 ls hl hf
    unfold fX4_isTakenBy_36 at hf
    obtain ⟨v1, hv1, hf⟩ := bnd hf
    obtain ⟨ev1, hv1⟩ := bz_in hv1
    rw [ev1]
    have e9 := Option.some.inj hf
    exact fin 36 ls _ e9 (nar_z (by rw [← e9]; exact hv1)) dX4_isTakenBy_36
  have b_35 : ∀ ls : Array Slot, lv_has ls 4 [] → fX4_isTakenBy_35 N I A I1 A1 = some r → W p l e rmX4_isTakenBy s m [.ref (q 0), .ref (q1 0), .int x2, .int x3].toArray below meth cd s.heap [] 0 0 Q (F0 m 35 ls []) := by
    intro ls hl hf
    unfold fX4_isTakenBy_35 at hf
    refine lv_iconst (v := 0) hx hb dX4_isTakenBy_35 (by decide) ?_
    exact b_36 0 ls (lv_sub hl [] rfl) hf
  unfold fX4_isTakenBy at hf
  refine lv_aload_n hx hb dX4_isTakenBy_0 rfl (lv_at hl 0 rfl) ?_
  refine lv_aload_n hx hb dX4_isTakenBy_1 rfl (lv_at hl 1 rfl) ?_
  refine lv_iload_n hx hb dX4_isTakenBy_2 rfl (lv_at hl 3 rfl) ?_
  obtain ⟨z1, hz1, hf⟩ := bnd hf
  refine x_rdV (C := RX4) (n := 2) (ci := 4) hx hb hml hown hts hE (ct_X4_valueOf N l G cI cZ cO q I A q1 I1 A1 x3 z1 hz1) (bg 20 12 rfl) mb_X4_valueOf.1 mb_X4_valueOf.2.1 mb_X4_valueOf.2.2.1 mb_X4_valueOf.2.2.2 hd_X4_valueOf rfl (by decide) hP rfl rfl rfl rfl hl.1 (Nat.le_of_ble_eq_true rfl) ⟨Nat.zero_le _, Nat.zero_le _⟩ dX4_isTakenBy_3 ?_
  refine lv_iconst (v := 1) hx hb dX4_isTakenBy_6 (by decide) ?_
  refine lv_icmp_lt (tgt := 35) hx hb dX4_isTakenBy_7 (by decide) (fun c2 => ?_) (fun c2 => ?_)
  · rw [if_pos c2] at hf
    exact b_35 ls (lv_sub hl [] rfl) hf
  · rw [if_neg c2] at hf
    refine lv_aload_n hx hb dX4_isTakenBy_10 rfl (lv_at hl 0 rfl) ?_
    refine lv_iload_n hx hb dX4_isTakenBy_11 rfl (lv_at hl 2 rfl) ?_
    refine lv_iload_n hx hb dX4_isTakenBy_12 rfl (lv_at hl 3 rfl) ?_
    obtain ⟨z3, hz3, hf⟩ := bnd hf
    refine x_rdV (C := RX4) (n := 2) (ci := 4) hx hb hml hown hts hE (ct_X4_coinsOf N l G cI cZ cO q I A x2 x3 z3 hz3) (bg 16 11 rfl) mb_X4_coinsOf.1 mb_X4_coinsOf.2.1 mb_X4_coinsOf.2.2.1 mb_X4_coinsOf.2.2.2 hd_X4_coinsOf rfl (by decide) (x_cut hP [0, 1, 2, 3] rfl) rfl rfl rfl rfl hl.1 (Nat.le_of_ble_eq_true rfl) ⟨Nat.zero_le _, Nat.zero_le _⟩ dX4_isTakenBy_13 ?_
    refine lv_bipush (v := 99) hx hb dX4_isTakenBy_16 (by decide) ?_
    refine lv_icmp_ge (tgt := 35) hx hb dX4_isTakenBy_18 (by decide) (fun c4 => ?_) (fun c4 => ?_)
    · rw [if_pos c4] at hf
      exact b_35 ls (lv_sub hl [] rfl) hf
    · rw [if_neg c4] at hf
      refine lv_aload_n hx hb dX4_isTakenBy_21 rfl (lv_at hl 0 rfl) ?_
      refine lv_aload_n hx hb dX4_isTakenBy_22 rfl (lv_at hl 1 rfl) ?_
      refine lv_iload_n hx hb dX4_isTakenBy_23 rfl (lv_at hl 2 rfl) ?_
      refine lv_iload_n hx hb dX4_isTakenBy_24 rfl (lv_at hl 3 rfl) ?_
      obtain ⟨z5, hz5, hf⟩ := bnd hf
      refine x_rdV (C := RX4) (n := 3) (ci := 4) hx hb hml hown hts hE (ct_X4_hasRivalCoin N l G cI cZ cO q I A q1 I1 A1 x2 x3 z5 hz5) (bg 21 0 rfl) mb_X4_hasRivalCoin.1 mb_X4_hasRivalCoin.2.1 mb_X4_hasRivalCoin.2.2.1 mb_X4_hasRivalCoin.2.2.2 hd_X4_hasRivalCoin rfl (by decide) hP rfl rfl rfl rfl hl.1 (Nat.le_of_ble_eq_true rfl) ⟨Nat.zero_le _, Nat.zero_le _⟩ dX4_isTakenBy_25 ?_
      refine lv_if_ne (tgt := 35) hx hb dX4_isTakenBy_28 (by decide) (fun c6 => ?_) (fun c6 => ?_)
      · rw [if_neg c6] at hf
        exact b_35 ls (lv_sub hl [] rfl) hf
      · rw [if_pos c6] at hf
        refine lv_iconst (v := 1) hx hb dX4_isTakenBy_31 (by decide) ?_
        refine lv_goto (tgt := 36) hx hb dX4_isTakenBy_32 (by decide) ?_
        exact b_36 1 ls (lv_sub hl [] rfl) hf
def fX6_pay_72 (N : Nat) (tI : Nat → Int32) (tA : Nat → Nat → Int32) (wI : Nat → Int32) (wA : Nat → Nat → Int32) (aI : Nat → Int32) (aS : Nat → Nat → Int32) (aT : Nat → Nat → Nat → Int32) : Option (Int32 × (Nat → Nat → Int32) × (Nat → Int32) × (Nat → Nat → Int32) × (Nat → Nat → Nat → Int32)) := some ((-3), wA, aI, aS, aT)
def fX6_pay_33 (N : Nat) (tI : Nat → Int32) (tA : Nat → Nat → Int32) (wI : Nat → Int32) (wA : Nat → Nat → Int32) (aI : Nat → Int32) (aS : Nat → Nat → Int32) (aT : Nat → Nat → Nat → Int32) : Option (Int32 × (Nat → Nat → Int32) × (Nat → Int32) × (Nat → Nat → Int32) × (Nat → Nat → Nat → Int32)) := some ((-1), wA, aI, aS, aT)
def fX6_pay (N : Nat) (tI : Nat → Int32) (tA : Nat → Nat → Int32) (wI : Nat → Int32) (wA : Nat → Nat → Int32) (aI : Nat → Int32) (aS : Nat → Nat → Int32) (aT : Nat → Nat → Nat → Int32) (x1 : Int32) (x2 : Int32) (x3 : Int32) : Option (Int32 × (Nat → Nat → Int32) × (Nat → Int32) × (Nat → Nat → Int32) × (Nat → Nat → Nat → Int32)) := (fX5_hasPerson N tI x1).bind fun z1 => if z1 = 0 then fX6_pay_33 N tI tA wI wA aI aS aT else (fX5_hasPerson N tI x2).bind fun z3 => if z3 = 0 then fX6_pay_33 N tI tA wI wA aI aS aT else (fX5_hasRumour N tI x3).bind fun z5 => if z5 = 0 then fX6_pay_33 N tI tA wI wA aI aS aT else if x1 = x2 then some ((-2), wA, aI, aS, aT) else (fX4_coinsOf N wA x1 x3).bind fun z8 => if z8 < 1 then fX6_pay_72 N tI tA wI wA aI aS aT else (fX4_isTakenBy N wI wA tI tA x2 x3).bind fun z10 => if z10 = 0 then fX6_pay_72 N tI tA wI wA aI aS aT else (fX0_remember N aI aS aT wI wA).bind fun z12 => (fX4_addCoins N wA x1 x3 (-1)).bind fun z13 => (fX4_addCoins N z13 x2 x3 1).bind fun z14 => (fX4_valueOf N wI z14 tI tA x3).bind fun z15 => some (z15, z14, z12.1, z12.2.1, z12.2.2)
def rmX6_pay : Room := { frames := 5, cells := 0, slots := 0, locals := 130 }
theorem mb_X6_pay : Cond.instanceMethod yX6_pay ∈ wsL_law ∧ Cond.selects RX6 yX6_pay yX6_pay ∈ wsL_law ∧ Cond.initialized RX6 ∈ wsL_law ∧ Cond.code yX6_pay cX6_pay 4 (some .int) ∈ wsL_law := ⟨(bg 20 5 rfl), (bg 20 6 rfl), (bg 0 2 rfl), (bg 20 7 rfl)⟩
theorem hd_X6_pay : yX6_pay.cls = RX6 ∧ yX6_pay.cls ≠ "java/lang/invoke/MethodHandle" ∧ yX6_pay.cls ≠ "java/lang/invoke/VarHandle" ∧ (parseMethodDescriptor yX6_pay.desc).map (fun d => d.parameters.length) = some 3 := by decide +kernel
set_option maxRecDepth 100000 in
set_option maxHeartbeats 4000000 in
theorem ct_X6_pay (N : Nat) (l : Launch) (G : va_G) (cI cZ cO : ClassId) (q : Nat → Nat) (A : Nat → Nat → Int32) (L : Int64) (rI : Nat → Int32) (rA : Nat → Nat → Int32) (tI : Nat → Int32) (tA : Nat → Nat → Int32) (dI : Nat → Int32) (dA : Nat → Nat → Int32) (wI : Nat → Int32) (wA : Nat → Nat → Int32) (uI : Nat → Int32) (uA : Nat → Nat → Int32) (aI : Nat → Int32) (aS : Nat → Nat → Int32) (aT : Nat → Nat → Nat → Int32) (eI : Nat → Int32) (eA : Nat → Nat → Int32) (sS : Nat → Nat → Int32) (sT : Nat → Nat → Nat → Int32) (bI : Nat → Int32) (x1 : Int32) (x2 : Int32) (x3 : Int32) (r : Int32) (wAz : Nat → Nat → Int32) (aIz : Nat → Int32) (aSz : Nat → Nat → Int32) (aTz : Nat → Nat → Nat → Int32) (hf : fX6_pay N tI tA wI wA aI aS aT x1 x2 x3 = some (r, wAz, aIz, aSz, aTz)) : CtI l yX6_pay cX6_pay 4 .int rmX6_pay G cI cZ cO [.ref (q 0), .int x1, .int x2, .int x3] (wX6 q cI cZ cO A L rI rA tI tA dI dA wI wA uI uA aI aS aT eI eA sS sT bI) (wX6 q cI cZ cO A L rI rA tI tA dI dA wI wAz uI uA aIz aSz aTz eI eA sS sT bI) r := by
  refine mkCI (by decide) (Nat.le_of_ble_eq_true rfl) ?_
  intro p e s m below meth cd Q Z hC hP hE hD hA fin ls hl
  obtain ⟨hx, hb, hml, hown, hts⟩ := hC
  have hown : s.vm.findClass RX6 = some m.cls := hown
  have hl : lv_has ls 4 [(0, .ref (q 0)), (1, .int x1), (2, .int x2), (3, .int x3)] := hl
  have b_72 : ∀ (wA : Nat → Nat → Int32) (aI : Nat → Int32) (aS : Nat → Nat → Int32) (aT : Nat → Nat → Nat → Int32), ∀ (H : Heap) (locs : List Loc), va_P G vwCl (wX6 q cI cZ cO A L rI rA tI tA dI dA wI wA uI uA aI aS aT eI eA sS sT bI) H → va_D Z (wX6 q cI cZ cO A L rI rA tI tA dI dA wI wA uI uA aI aS aT eI eA sS sT bI) → va_S Z s.heap H locs → ∀ ls : Array Slot, lv_has ls 4 [] → fX6_pay_72 N tI tA wI wA aI aS aT = some (r, wAz, aIz, aSz, aTz) → W p l e rmX6_pay s m [.ref (q 0), .int x1, .int x2, .int x3].toArray below meth cd H locs 0 0 Q (F0 m 72 ls []) := by
    intro wA aI aS aT H locs hP hD hS ls hl hf
    unfold fX6_pay_72 at hf
    refine lv_bipush (v := (-3)) hx hb dX6_pay_72 (by decide) ?_
    have e9 := Option.some.inj hf
    exact fin H locs 74 ls _ (Prod.mk.inj e9).1 (nar_i _) (by rw [← (Prod.mk.inj (Prod.mk.inj e9).2).1, ← (Prod.mk.inj (Prod.mk.inj (Prod.mk.inj e9).2).2).1, ← (Prod.mk.inj (Prod.mk.inj (Prod.mk.inj (Prod.mk.inj e9).2).2).2).1, ← (Prod.mk.inj (Prod.mk.inj (Prod.mk.inj (Prod.mk.inj e9).2).2).2).2]; exact hP) hS dX6_pay_74
  have b_33 : ∀ (wA : Nat → Nat → Int32) (aI : Nat → Int32) (aS : Nat → Nat → Int32) (aT : Nat → Nat → Nat → Int32), ∀ (H : Heap) (locs : List Loc), va_P G vwCl (wX6 q cI cZ cO A L rI rA tI tA dI dA wI wA uI uA aI aS aT eI eA sS sT bI) H → va_D Z (wX6 q cI cZ cO A L rI rA tI tA dI dA wI wA uI uA aI aS aT eI eA sS sT bI) → va_S Z s.heap H locs → ∀ ls : Array Slot, lv_has ls 4 [] → fX6_pay_33 N tI tA wI wA aI aS aT = some (r, wAz, aIz, aSz, aTz) → W p l e rmX6_pay s m [.ref (q 0), .int x1, .int x2, .int x3].toArray below meth cd H locs 0 0 Q (F0 m 33 ls []) := by
    intro wA aI aS aT H locs hP hD hS ls hl hf
    unfold fX6_pay_33 at hf
    refine lv_iconst (v := (-1)) hx hb dX6_pay_33 (by decide) ?_
    have e9 := Option.some.inj hf
    exact fin H locs 34 ls _ (Prod.mk.inj e9).1 (nar_i _) (by rw [← (Prod.mk.inj (Prod.mk.inj e9).2).1, ← (Prod.mk.inj (Prod.mk.inj (Prod.mk.inj e9).2).2).1, ← (Prod.mk.inj (Prod.mk.inj (Prod.mk.inj (Prod.mk.inj e9).2).2).2).1, ← (Prod.mk.inj (Prod.mk.inj (Prod.mk.inj (Prod.mk.inj e9).2).2).2).2]; exact hP) hS dX6_pay_34
  unfold fX6_pay at hf
  have hS : va_S Z s.heap s.heap [] := va_S.rf
  obtain ⟨H, hH⟩ : ∃ H, H = s.heap := ⟨_, rfl⟩
  obtain ⟨locs, hlocs⟩ : ∃ locs : List Loc, locs = [] := ⟨_, rfl⟩
  rw [← hlocs]
  rw [← hlocs] at hS
  suffices hW : ∀ H : Heap, va_P G vwCl (wX6 q cI cZ cO A L rI rA tI tA dI dA wI wA uI uA aI aS aT eI eA sS sT bI) H → va_S Z s.heap H locs → W p l e rmX6_pay s m [.ref (q 0), .int x1, .int x2, .int x3].toArray below meth cd H locs 0 0 Q (F0 m 0 ls []) from hW s.heap hP hS
  clear hP hS hH H
  intro H hP hS
  refine lv_aload_n hx hb dX6_pay_0 rfl (lv_at hl 0 rfl) ?_
  refine va_get (D := G) (ci := 6) (v := .ref (q 3)) (C := RX6) (T := TX6) (N := 15) hx hb hts inlX6 hown hE.1 hP 0 rfl rfl 1 (by decide) (hts _ (bg 0 20 rfl)) (fun _ h9 => h9) rfl dX6_pay_1 ?_
  refine lv_iload_n hx hb dX6_pay_4 rfl (lv_at hl 1 rfl) ?_
  obtain ⟨z1, hz1, hf⟩ := bnd hf
  refine x_rdV (C := RX5) (n := 1) (ci := 5) hx hb hml hown hts hE (ct_X5_hasPerson N l G cI cZ cO (sh q 3) tI tA x1 z1 hz1) (bg 13 19 rfl) mb_X5_hasPerson.1 mb_X5_hasPerson.2.1 mb_X5_hasPerson.2.2.1 mb_X5_hasPerson.2.2.2 hd_X5_hasPerson rfl (by decide) (x_cut hP [3, 4, 5, 6, 7, 8, 9] rfl) rfl rfl rfl rfl hl.1 (Nat.le_of_ble_eq_true rfl) ⟨Nat.zero_le _, Nat.zero_le _⟩ dX6_pay_5 ?_
  refine lv_if_eq (tgt := 33) hx hb dX6_pay_8 (by decide) (fun c2 => ?_) (fun c2 => ?_)
  · rw [if_pos c2] at hf
    exact b_33 wA aI aS aT H locs hP hD hS ls (lv_sub hl [] rfl) hf
  · rw [if_neg c2] at hf
    refine lv_aload_n hx hb dX6_pay_11 rfl (lv_at hl 0 rfl) ?_
    refine va_get (D := G) (ci := 6) (v := .ref (q 3)) (C := RX6) (T := TX6) (N := 15) hx hb hts inlX6 hown hE.1 hP 0 rfl rfl 1 (by decide) (hts _ (bg 0 20 rfl)) (fun _ h9 => h9) rfl dX6_pay_12 ?_
    refine lv_iload_n hx hb dX6_pay_15 rfl (lv_at hl 2 rfl) ?_
    obtain ⟨z3, hz3, hf⟩ := bnd hf
    refine x_rdV (C := RX5) (n := 1) (ci := 5) hx hb hml hown hts hE (ct_X5_hasPerson N l G cI cZ cO (sh q 3) tI tA x2 z3 hz3) (bg 13 19 rfl) mb_X5_hasPerson.1 mb_X5_hasPerson.2.1 mb_X5_hasPerson.2.2.1 mb_X5_hasPerson.2.2.2 hd_X5_hasPerson rfl (by decide) (x_cut hP [3, 4, 5, 6, 7, 8, 9] rfl) rfl rfl rfl rfl hl.1 (Nat.le_of_ble_eq_true rfl) ⟨Nat.zero_le _, Nat.zero_le _⟩ dX6_pay_16 ?_
    refine lv_if_eq (tgt := 33) hx hb dX6_pay_19 (by decide) (fun c4 => ?_) (fun c4 => ?_)
    · rw [if_pos c4] at hf
      exact b_33 wA aI aS aT H locs hP hD hS ls (lv_sub hl [] rfl) hf
    · rw [if_neg c4] at hf
      refine lv_aload_n hx hb dX6_pay_22 rfl (lv_at hl 0 rfl) ?_
      refine va_get (D := G) (ci := 6) (v := .ref (q 3)) (C := RX6) (T := TX6) (N := 15) hx hb hts inlX6 hown hE.1 hP 0 rfl rfl 1 (by decide) (hts _ (bg 0 20 rfl)) (fun _ h9 => h9) rfl dX6_pay_23 ?_
      refine lv_iload_n hx hb dX6_pay_26 rfl (lv_at hl 3 rfl) ?_
      obtain ⟨z5, hz5, hf⟩ := bnd hf
      refine x_rdV (C := RX5) (n := 1) (ci := 5) hx hb hml hown hts hE (ct_X5_hasRumour N l G cI cZ cO (sh q 3) tI tA x3 z5 hz5) (bg 12 7 rfl) mb_X5_hasRumour.1 mb_X5_hasRumour.2.1 mb_X5_hasRumour.2.2.1 mb_X5_hasRumour.2.2.2 hd_X5_hasRumour rfl (by decide) (x_cut hP [3, 4, 5, 6, 7, 8, 9] rfl) rfl rfl rfl rfl hl.1 (Nat.le_of_ble_eq_true rfl) ⟨Nat.zero_le _, Nat.zero_le _⟩ dX6_pay_27 ?_
      refine lv_if_ne (tgt := 35) hx hb dX6_pay_30 (by decide) (fun c6 => ?_) (fun c6 => ?_)
      · rw [if_neg c6] at hf
        refine lv_iload_n hx hb dX6_pay_35 rfl (lv_at hl 1 rfl) ?_
        refine lv_iload_n hx hb dX6_pay_36 rfl (lv_at hl 2 rfl) ?_
        refine lv_icmp_ne (tgt := 43) hx hb dX6_pay_37 (by decide) (fun c7 => ?_) (fun c7 => ?_)
        · rw [if_neg c7] at hf
          refine lv_aload_n hx hb dX6_pay_43 rfl (lv_at hl 0 rfl) ?_
          refine va_get (D := G) (ci := 6) (v := .ref (q 17)) (C := RX6) (T := TX6) (N := 15) hx hb hts inlX6 hown hE.1 hP 0 rfl rfl 3 (by decide) (hts _ (bg 1 1 rfl)) (fun _ h9 => h9) rfl dX6_pay_44 ?_
          refine lv_iload_n hx hb dX6_pay_47 rfl (lv_at hl 1 rfl) ?_
          refine lv_iload_n hx hb dX6_pay_48 rfl (lv_at hl 3 rfl) ?_
          obtain ⟨z8, hz8, hf⟩ := bnd hf
          refine x_rdV (C := RX4) (n := 2) (ci := 4) hx hb hml hown hts hE (ct_X4_coinsOf N l G cI cZ cO (sh q 17) wI wA x1 x3 z8 hz8) (bg 14 11 rfl) mb_X4_coinsOf.1 mb_X4_coinsOf.2.1 mb_X4_coinsOf.2.2.1 mb_X4_coinsOf.2.2.2 hd_X4_coinsOf rfl (by decide) (x_cut hP [17, 18, 19, 20] rfl) rfl rfl rfl rfl hl.1 (Nat.le_of_ble_eq_true rfl) ⟨Nat.zero_le _, Nat.zero_le _⟩ dX6_pay_49 ?_
          refine lv_iconst (v := 1) hx hb dX6_pay_52 (by decide) ?_
          refine lv_icmp_lt (tgt := 72) hx hb dX6_pay_53 (by decide) (fun c9 => ?_) (fun c9 => ?_)
          · rw [if_pos c9] at hf
            exact b_72 wA aI aS aT H locs hP hD hS ls (lv_sub hl [] rfl) hf
          · rw [if_neg c9] at hf
            refine lv_aload_n hx hb dX6_pay_56 rfl (lv_at hl 0 rfl) ?_
            refine va_get (D := G) (ci := 6) (v := .ref (q 17)) (C := RX6) (T := TX6) (N := 15) hx hb hts inlX6 hown hE.1 hP 0 rfl rfl 3 (by decide) (hts _ (bg 1 1 rfl)) (fun _ h9 => h9) rfl dX6_pay_57 ?_
            refine lv_aload_n hx hb dX6_pay_60 rfl (lv_at hl 0 rfl) ?_
            refine va_get (D := G) (ci := 6) (v := .ref (q 3)) (C := RX6) (T := TX6) (N := 15) hx hb hts inlX6 hown hE.1 hP 0 rfl rfl 1 (by decide) (hts _ (bg 0 20 rfl)) (fun _ h9 => h9) rfl dX6_pay_61 ?_
            refine lv_iload_n hx hb dX6_pay_64 rfl (lv_at hl 2 rfl) ?_
            refine lv_iload_n hx hb dX6_pay_65 rfl (lv_at hl 3 rfl) ?_
            obtain ⟨z10, hz10, hf⟩ := bnd hf
            refine x_rdV (C := RX4) (n := 3) (ci := 4) hx hb hml hown hts hE (ct_X4_isTakenBy N l G cI cZ cO (sh q 17) wI wA (sh q 3) tI tA x2 x3 z10 hz10) (bg 20 8 rfl) mb_X4_isTakenBy.1 mb_X4_isTakenBy.2.1 mb_X4_isTakenBy.2.2.1 mb_X4_isTakenBy.2.2.2 hd_X4_isTakenBy rfl (by decide) (x_cut hP [17, 18, 19, 20, 3, 4, 5, 6, 7, 8, 9] rfl) rfl rfl rfl rfl hl.1 (Nat.le_of_ble_eq_true rfl) ⟨Nat.zero_le _, Nat.zero_le _⟩ dX6_pay_66 ?_
            refine lv_if_ne (tgt := 75) hx hb dX6_pay_69 (by decide) (fun c11 => ?_) (fun c11 => ?_)
            · rw [if_neg c11] at hf
              refine lv_aload_n hx hb dX6_pay_75 rfl (lv_at hl 0 rfl) ?_
              refine va_get (D := G) (ci := 6) (v := .ref (q 25)) (C := RX6) (T := TX6) (N := 15) hx hb hts inlX6 hown hE.1 hP 0 rfl rfl 5 (by decide) (hts _ (bg 1 6 rfl)) (fun _ h9 => h9) rfl dX6_pay_76 ?_
              refine lv_aload_n hx hb dX6_pay_79 rfl (lv_at hl 0 rfl) ?_
              refine va_get (D := G) (ci := 6) (v := .ref (q 17)) (C := RX6) (T := TX6) (N := 15) hx hb hts inlX6 hown hE.1 hP 0 rfl rfl 3 (by decide) (hts _ (bg 1 1 rfl)) (fun _ h9 => h9) rfl dX6_pay_80 ?_
              obtain ⟨z12, hz12, hf⟩ := bnd hf
              refine x_wrVv (C := RX0) (n := 1) (ci := 0) (ws1 := (wX6 q cI cZ cO A L rI rA tI tA dI dA wI wA uI uA z12.1 z12.2.1 z12.2.2 eI eA sS sT bI)) hx hb hml hown hts hE (ct_X0_remember N l G cI cZ cO (sh q 25) aI aS aT (sh q 17) wI wA z12.1 z12.2.1 z12.2.2 hz12) (bg 15 3 rfl) mb_X0_remember.1 mb_X0_remember.2.1 mb_X0_remember.2.2.1 mb_X0_remember.2.2.2 hd_X0_remember rfl (by decide) hP hD hS hA [25, 26, 27, 28, 29, 30, 31, 32, 33, 34, 35, 36, 37, 38, 39, 40, 41, 42, 43, 44, 45, 46, 47, 48, 49, 50, 51, 52, 53, 54, 55, 56, 57, 58, 59, 60, 61, 62, 63, 64, 65, 66, 67, 68, 69, 70, 71, 72, 73, 74, 75, 76, 77, 78, 79, 80, 81, 82, 17, 18, 19, 20] [false, false, false, false, false, false, false, false, false, false, false, false, false, false, false, false, false, true, true, true, true, false, false, false, false, true, true, true, true, true, true, true, true, true, true, true, true, true, true, true, true, true, true, true, true, true, true, true, true, true, true, true, true, true, true, true, true, true, true, true, true, true, true, true, true, true, true, true, true, true, true, true, true, true, true, true, true, true, true, true, true, true, true, false, false, false, false, false, false, false, false, false, false, false, false, false, false, false, false, false, false, false, false] (by decide) (by decide +kernel) rfl rfl ⟨rfl, rfl, rfl, rfl, rfl, rfl, rfl, rfl, rfl, rfl, rfl, rfl, rfl, rfl, rfl, rfl, rfl, rfl, rfl, rfl, rfl, rfl, rfl, rfl, rfl, rfl, rfl, rfl, rfl, rfl, rfl, rfl, rfl, rfl, rfl, rfl, rfl, rfl, rfl, rfl, rfl, rfl, rfl, rfl, rfl, rfl, rfl, rfl, rfl, rfl, rfl, rfl, rfl, rfl, rfl, rfl, rfl, rfl, rfl, rfl, rfl, rfl, rfl, rfl, rfl, rfl, rfl, rfl, rfl, rfl, rfl, rfl, rfl, rfl, rfl, rfl, rfl, rfl, rfl, rfl, rfl, rfl, rfl, rfl, rfl, rfl, rfl, rfl, rfl, rfl, rfl, rfl, rfl, rfl, rfl, rfl, rfl, rfl, rfl, rfl, rfl, rfl, rfl, trivial⟩ rfl rfl rfl rfl hl.1 (Nat.le_of_ble_eq_true rfl) ⟨Nat.zero_le _, Nat.zero_le _⟩ dX6_pay_83 (fun H locs hP hD hS => ?_)
              refine lv_aload_n hx hb dX6_pay_86 rfl (lv_at hl 0 rfl) ?_
              refine va_get (D := G) (ci := 6) (v := .ref (q 17)) (C := RX6) (T := TX6) (N := 15) hx hb hts inlX6 hown hE.1 hP 0 rfl rfl 3 (by decide) (hts _ (bg 1 1 rfl)) (fun _ h9 => h9) rfl dX6_pay_87 ?_
              refine lv_iload_n hx hb dX6_pay_90 rfl (lv_at hl 1 rfl) ?_
              refine lv_iload_n hx hb dX6_pay_91 rfl (lv_at hl 3 rfl) ?_
              refine lv_iconst (v := (-1)) hx hb dX6_pay_92 (by decide) ?_
              obtain ⟨z13, hz13, hf⟩ := bnd hf
              refine x_wrVv (C := RX4) (n := 3) (ci := 4) (ws1 := (wX6 q cI cZ cO A L rI rA tI tA dI dA wI z13 uI uA z12.1 z12.2.1 z12.2.2 eI eA sS sT bI)) hx hb hml hown hts hE (ct_X4_addCoins N l G cI cZ cO (sh q 17) wI wA x1 x3 (-1) z13 hz13) (bg 21 5 rfl) mb_X4_addCoins.1 mb_X4_addCoins.2.1 mb_X4_addCoins.2.2.1 mb_X4_addCoins.2.2.2 hd_X4_addCoins rfl (by decide) hP hD hS hA [17, 18, 19, 20] [false, false, false, false, false, false, false, false, false, false, false, false, false, false, false, false, false, true, true, true, true, false, false, false, false, false, false, false, false, false, false, false, false, false, false, false, false, false, false, false, false, false, false, false, false, false, false, false, false, false, false, false, false, false, false, false, false, false, false, false, false, false, false, false, false, false, false, false, false, false, false, false, false, false, false, false, false, false, false, false, false, false, false, false, false, false, false, false, false, false, false, false, false, false, false, false, false, false, false, false, false, false, false] (by decide) (by decide +kernel) rfl rfl ⟨rfl, rfl, rfl, rfl, rfl, rfl, rfl, rfl, rfl, rfl, rfl, rfl, rfl, rfl, rfl, rfl, rfl, rfl, rfl, rfl, rfl, rfl, rfl, rfl, rfl, rfl, rfl, rfl, rfl, rfl, rfl, rfl, rfl, rfl, rfl, rfl, rfl, rfl, rfl, rfl, rfl, rfl, rfl, rfl, rfl, rfl, rfl, rfl, rfl, rfl, rfl, rfl, rfl, rfl, rfl, rfl, rfl, rfl, rfl, rfl, rfl, rfl, rfl, rfl, rfl, rfl, rfl, rfl, rfl, rfl, rfl, rfl, rfl, rfl, rfl, rfl, rfl, rfl, rfl, rfl, rfl, rfl, rfl, rfl, rfl, rfl, rfl, rfl, rfl, rfl, rfl, rfl, rfl, rfl, rfl, rfl, rfl, rfl, rfl, rfl, rfl, rfl, rfl, trivial⟩ rfl rfl rfl rfl hl.1 (Nat.le_of_ble_eq_true rfl) ⟨Nat.zero_le _, Nat.zero_le _⟩ dX6_pay_93 (fun H locs hP hD hS => ?_)
              refine lv_aload_n hx hb dX6_pay_96 rfl (lv_at hl 0 rfl) ?_
              refine va_get (D := G) (ci := 6) (v := .ref (q 17)) (C := RX6) (T := TX6) (N := 15) hx hb hts inlX6 hown hE.1 hP 0 rfl rfl 3 (by decide) (hts _ (bg 1 1 rfl)) (fun _ h9 => h9) rfl dX6_pay_97 ?_
              refine lv_iload_n hx hb dX6_pay_100 rfl (lv_at hl 2 rfl) ?_
              refine lv_iload_n hx hb dX6_pay_101 rfl (lv_at hl 3 rfl) ?_
              refine lv_iconst (v := 1) hx hb dX6_pay_102 (by decide) ?_
              obtain ⟨z14, hz14, hf⟩ := bnd hf
              refine x_wrVv (C := RX4) (n := 3) (ci := 4) (ws1 := (wX6 q cI cZ cO A L rI rA tI tA dI dA wI z14 uI uA z12.1 z12.2.1 z12.2.2 eI eA sS sT bI)) hx hb hml hown hts hE (ct_X4_addCoins N l G cI cZ cO (sh q 17) wI z13 x2 x3 1 z14 hz14) (bg 21 5 rfl) mb_X4_addCoins.1 mb_X4_addCoins.2.1 mb_X4_addCoins.2.2.1 mb_X4_addCoins.2.2.2 hd_X4_addCoins rfl (by decide) hP hD hS hA [17, 18, 19, 20] [false, false, false, false, false, false, false, false, false, false, false, false, false, false, false, false, false, true, true, true, true, false, false, false, false, false, false, false, false, false, false, false, false, false, false, false, false, false, false, false, false, false, false, false, false, false, false, false, false, false, false, false, false, false, false, false, false, false, false, false, false, false, false, false, false, false, false, false, false, false, false, false, false, false, false, false, false, false, false, false, false, false, false, false, false, false, false, false, false, false, false, false, false, false, false, false, false, false, false, false, false, false, false] (by decide) (by decide +kernel) rfl rfl ⟨rfl, rfl, rfl, rfl, rfl, rfl, rfl, rfl, rfl, rfl, rfl, rfl, rfl, rfl, rfl, rfl, rfl, rfl, rfl, rfl, rfl, rfl, rfl, rfl, rfl, rfl, rfl, rfl, rfl, rfl, rfl, rfl, rfl, rfl, rfl, rfl, rfl, rfl, rfl, rfl, rfl, rfl, rfl, rfl, rfl, rfl, rfl, rfl, rfl, rfl, rfl, rfl, rfl, rfl, rfl, rfl, rfl, rfl, rfl, rfl, rfl, rfl, rfl, rfl, rfl, rfl, rfl, rfl, rfl, rfl, rfl, rfl, rfl, rfl, rfl, rfl, rfl, rfl, rfl, rfl, rfl, rfl, rfl, rfl, rfl, rfl, rfl, rfl, rfl, rfl, rfl, rfl, rfl, rfl, rfl, rfl, rfl, rfl, rfl, rfl, rfl, rfl, rfl, trivial⟩ rfl rfl rfl rfl hl.1 (Nat.le_of_ble_eq_true rfl) ⟨Nat.zero_le _, Nat.zero_le _⟩ dX6_pay_103 (fun H locs hP hD hS => ?_)
              refine lv_aload_n hx hb dX6_pay_106 rfl (lv_at hl 0 rfl) ?_
              refine va_get (D := G) (ci := 6) (v := .ref (q 17)) (C := RX6) (T := TX6) (N := 15) hx hb hts inlX6 hown hE.1 hP 0 rfl rfl 3 (by decide) (hts _ (bg 1 1 rfl)) (fun _ h9 => h9) rfl dX6_pay_107 ?_
              refine lv_aload_n hx hb dX6_pay_110 rfl (lv_at hl 0 rfl) ?_
              refine va_get (D := G) (ci := 6) (v := .ref (q 3)) (C := RX6) (T := TX6) (N := 15) hx hb hts inlX6 hown hE.1 hP 0 rfl rfl 1 (by decide) (hts _ (bg 0 20 rfl)) (fun _ h9 => h9) rfl dX6_pay_111 ?_
              refine lv_iload_n hx hb dX6_pay_114 rfl (lv_at hl 3 rfl) ?_
              obtain ⟨z15, hz15, hf⟩ := bnd hf
              refine x_rdV (C := RX4) (n := 2) (ci := 4) hx hb hml hown hts hE (ct_X4_valueOf N l G cI cZ cO (sh q 17) wI z14 (sh q 3) tI tA x3 z15 hz15) (bg 21 6 rfl) mb_X4_valueOf.1 mb_X4_valueOf.2.1 mb_X4_valueOf.2.2.1 mb_X4_valueOf.2.2.2 hd_X4_valueOf rfl (by decide) (x_cut hP [17, 18, 19, 20, 3, 4, 5, 6, 7, 8, 9] rfl) rfl rfl rfl rfl hl.1 (Nat.le_of_ble_eq_true rfl) ⟨Nat.zero_le _, Nat.zero_le _⟩ dX6_pay_115 ?_
              have e9 := Option.some.inj hf
              exact fin H locs 118 ls _ (Prod.mk.inj e9).1 (nar_i _) (by rw [← (Prod.mk.inj (Prod.mk.inj e9).2).1, ← (Prod.mk.inj (Prod.mk.inj (Prod.mk.inj e9).2).2).1, ← (Prod.mk.inj (Prod.mk.inj (Prod.mk.inj (Prod.mk.inj e9).2).2).2).1, ← (Prod.mk.inj (Prod.mk.inj (Prod.mk.inj (Prod.mk.inj e9).2).2).2).2]; exact hP) hS dX6_pay_118
            · rw [if_pos c11] at hf
              exact b_72 wA aI aS aT H locs hP hD hS ls (lv_sub hl [] rfl) hf
        · rw [if_pos c7] at hf
          refine lv_bipush (v := (-2)) hx hb dX6_pay_40 (by decide) ?_
          have e9 := Option.some.inj hf
          exact fin H locs 42 ls _ (Prod.mk.inj e9).1 (nar_i _) (by rw [← (Prod.mk.inj (Prod.mk.inj e9).2).1, ← (Prod.mk.inj (Prod.mk.inj (Prod.mk.inj e9).2).2).1, ← (Prod.mk.inj (Prod.mk.inj (Prod.mk.inj (Prod.mk.inj e9).2).2).2).1, ← (Prod.mk.inj (Prod.mk.inj (Prod.mk.inj (Prod.mk.inj e9).2).2).2).2]; exact hP) hS dX6_pay_42
      · rw [if_pos c6] at hf
        exact b_33 wA aI aS aT H locs hP hD hS ls (lv_sub hl [] rfl) hf
