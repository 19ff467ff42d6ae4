def fX5_seatOf (N : Nat) (A : Nat → Nat → Int32) (x1 : Int32) : Option (Int32) := (fX6_at N 4 (A 5) x1).bind fun z1 => some z1
def rmX5_seatOf : Room := { frames := 1, cells := 0, slots := 0, locals := 21 }
theorem mb_X5_seatOf : Cond.instanceMethod yX5_seatOf ∈ wsL_law ∧ Cond.selects RX5 yX5_seatOf yX5_seatOf ∈ wsL_law ∧ Cond.initialized RX5 ∈ wsL_law ∧ Cond.code yX5_seatOf cX5_seatOf 2 (some .int) ∈ wsL_law := ⟨(bg 16 8 rfl), (bg 16 9 rfl), (bg 0 19 rfl), (bg 16 10 rfl)⟩
theorem hd_X5_seatOf : yX5_seatOf.cls = RX5 ∧ yX5_seatOf.cls ≠ "java/lang/invoke/MethodHandle" ∧ yX5_seatOf.cls ≠ "java/lang/invoke/VarHandle" ∧ (parseMethodDescriptor yX5_seatOf.desc).map (fun d => d.parameters.length) = some 1 := by decide +kernel
set_option maxRecDepth 100000 in
set_option maxHeartbeats 4000000 in
theorem ct_X5_seatOf (N : Nat) (l : Launch) (G : va_G) (cI cZ cO : ClassId) (q : Nat → Nat) (I : Nat → Int32) (A : Nat → Nat → Int32) (x1 : Int32) (r : Int32) (hf : fX5_seatOf N A x1 = some r) : RtI l yX5_seatOf cX5_seatOf 2 .int rmX5_seatOf G cI cZ cO [.ref (q 0), .int x1] (wX5 q cI cZ cO I A) r := by
  refine mkRI (by decide) (Nat.le_of_ble_eq_true rfl) ?_
  intro p e s m below meth cd Q hC hP hE fin ls hl
  obtain ⟨hx, hb, hml, hown, hts⟩ := hC
  have hown : s.vm.findClass RX5 = some m.cls := hown
  have hl : lv_has ls 2 [(0, .ref (q 0)), (1, .int x1)] := hl
  unfold fX5_seatOf at hf
  refine lv_aload_n hx hb dX5_seatOf_0 rfl (lv_at hl 0 rfl) ?_
  refine va_get (D := G) (ci := 5) (v := .ref (q 6)) (C := RX5) (T := TX5) (N := 8) hx hb hts inlX5 hown hE.1 hP 0 rfl rfl 5 (by decide) (hts _ (bg 2 11 rfl)) (fun _ h9 => h9) rfl dX5_seatOf_1 ?_
  refine lv_iload_n hx hb dX5_seatOf_4 rfl (lv_at hl 1 rfl) ?_
  obtain ⟨z1, hz1, hf⟩ := bnd hf
  refine x_rdN (n := 2) hx hb hml hown hts hE (ct_X6_at N l G cI cZ cO (q 6) 4 (A 5) x1 z1 hz1) (List.mem_of_getElem? (i := 12) rfl) mb_X6_at.1 mb_X6_at.2.1 mb_X6_at.2.2 hd_X6_at rfl (by decide) (x_cut hP [6] rfl) rfl hl.1 (Nat.le_of_ble_eq_true rfl) ⟨Nat.zero_le _, Nat.zero_le _⟩ dX5_seatOf_5 ?_
  have e9 := Option.some.inj hf
  exact fin 8 ls _ e9 (nar_i _) dX5_seatOf_8
def fX4_addCoins_31 (N : Nat) (A : Nat → Nat → Int32) : Option ((Nat → Nat → Int32)) := some A
def fX4_addCoins (N : Nat) (A : Nat → Nat → Int32) (x1 : Int32) (x2 : Int32) (x3 : Int32) : Option ((Nat → Nat → Int32)) := (fX6_isIndex N ((x1 * 5) + x2) 20).bind fun z1 => if z1 = 0 then fX4_addCoins_31 N A else (rd 20 (A 2) ((x1 * 5) + x2)).bind fun v3 => (wr 20 (A 2) ((x1 * 5) + x2) (v3 + x3)).bind fun g4 => fX4_addCoins_31 N (va_up A 2 g4)
def rmX4_addCoins : Room := { frames := 1, cells := 0, slots := 0, locals := 21 }
theorem mb_X4_addCoins : Cond.instanceMethod yX4_addCoins ∈ wsL_law ∧ Cond.selects RX4 yX4_addCoins yX4_addCoins ∈ wsL_law ∧ Cond.initialized RX4 ∈ wsL_law ∧ Cond.code yX4_addCoins cX4_addCoins 5 none ∈ wsL_law := ⟨(bg 16 13 rfl), (bg 16 14 rfl), (bg 1 0 rfl), (bg 16 15 rfl)⟩
theorem hd_X4_addCoins : yX4_addCoins.cls = RX4 ∧ yX4_addCoins.cls ≠ "java/lang/invoke/MethodHandle" ∧ yX4_addCoins.cls ≠ "java/lang/invoke/VarHandle" ∧ (parseMethodDescriptor yX4_addCoins.desc).map (fun d => d.parameters.length) = some 3 := by decide +kernel
set_option maxRecDepth 100000 in
set_option maxHeartbeats 4000000 in
theorem ct_X4_addCoins (N : Nat) (l : Launch) (G : va_G) (cI cZ cO : ClassId) (q : Nat → Nat) (I : Nat → Int32) (A : Nat → Nat → Int32) (x1 : Int32) (x2 : Int32) (x3 : Int32) (Az : Nat → Nat → Int32) (hf : fX4_addCoins N A x1 x2 x3 = some Az) : CtV l yX4_addCoins cX4_addCoins 5 rmX4_addCoins G cI cZ cO [.ref (q 0), .int x1, .int x2, .int x3] (wX4 q cI cZ cO I A) (wX4 q cI cZ cO I Az) := by
  refine mkCV (by decide) (Nat.le_of_ble_eq_true rfl) ?_
  intro p e s m below meth cd Q Z hC hP hE hD hA fin ls hl
  obtain ⟨hx, hb, hml, hown, hts⟩ := hC
  have hown : s.vm.findClass RX4 = some m.cls := hown
  have hl : lv_has ls 5 [(0, .ref (q 0)), (1, .int x1), (2, .int x2), (3, .int x3)] := hl
  have b_31 : ∀ (A : Nat → Nat → Int32), ∀ (H : Heap) (locs : List Loc), va_P G vwCl (wX4 q cI cZ cO I A) H → va_D Z (wX4 q cI cZ cO I A) → va_S Z s.heap H locs → ∀ ls : Array Slot, lv_has ls 5 [] → fX4_addCoins_31 N A = some Az → W p l e rmX4_addCoins s m [.ref (q 0), .int x1, .int x2, .int x3].toArray below meth cd H locs 0 0 Q (F0 m 31 ls []) := by
    intro A H locs hP hD hS ls hl hf
    unfold fX4_addCoins_31 at hf
    have e9 := Option.some.inj hf
    exact fin H locs 31 ls (by rw [← e9]; exact hP) hS dX4_addCoins_31
  unfold fX4_addCoins at hf
  have hS : va_S Z s.heap s.heap [] := va_S.rf
  obtain ⟨H, hH⟩ : ∃ H, H = s.heap := ⟨_, rfl⟩
  obtain ⟨locs, hlocs⟩ : ∃ locs : List Loc, locs = [] := ⟨_, rfl⟩
  rw [← hlocs]
  rw [← hlocs] at hS
  suffices hW : ∀ H : Heap, va_P G vwCl (wX4 q cI cZ cO I A) H → va_S Z s.heap H locs → W p l e rmX4_addCoins s m [.ref (q 0), .int x1, .int x2, .int x3].toArray below meth cd H locs 0 0 Q (F0 m 0 ls []) from hW s.heap hP hS
  clear hP hS hH H
  intro H hP hS
  refine lv_iload_n hx hb dX4_addCoins_0 rfl (lv_at hl 1 rfl) ?_
  refine lv_iconst (v := 5) hx hb dX4_addCoins_1 (by decide) ?_
  refine lv_imul hx hb dX4_addCoins_2 ?_
  refine lv_iload_n hx hb dX4_addCoins_3 rfl (lv_at hl 2 rfl) ?_
  refine lv_iadd hx hb dX4_addCoins_4 ?_
  refine lv_istore (lv' := [(4, .int ((x1 * 5) + x2)), (0, .ref (q 0)), (1, .int x1), (2, .int x2), (3, .int x3)]) hx hb dX4_addCoins_5 hl (by decide) rfl (fun ls hl => ?_)
  refine lv_iload hx hb dX4_addCoins_7 (lv_at hl 0 rfl) ?_
  refine lv_aload_n hx hb dX4_addCoins_9 rfl (lv_at hl 1 rfl) ?_
  refine va_get (D := G) (ci := 4) (v := .ref (q 3)) (C := RX4) (T := TX4) (N := 4) hx hb hts inlX4 hown hE.1 hP 0 rfl rfl 2 (by decide) (hts _ (bg 2 17 rfl)) (fun _ h9 => h9) rfl dX4_addCoins_10 ?_
  refine va_alen (v := 20) hx hb hE.1 hP 3 0 rfl rfl rfl dX4_addCoins_13 ?_
  obtain ⟨z1, hz1, hf⟩ := bnd hf
  refine x_rdN (n := 2) hx hb hml hown hts hE (ct_X6_isIndex N l G cI cZ cO ((x1 * 5) + x2) 20 z1 hz1) (List.mem_of_getElem? (i := 15) rfl) mb_X6_isIndex.1 mb_X6_isIndex.2.1 mb_X6_isIndex.2.2 hd_X6_isIndex rfl (by decide) va_P_nil rfl hl.1 (Nat.le_of_ble_eq_true rfl) ⟨Nat.zero_le _, Nat.zero_le _⟩ dX4_addCoins_14 ?_
  refine lv_if_eq (tgt := 31) hx hb dX4_addCoins_17 (by decide) (fun c2 => ?_) (fun c2 => ?_)
  · rw [if_pos c2] at hf
    exact b_31 A H locs hP hD hS ls (lv_sub hl [] rfl) hf
  · rw [if_neg c2] at hf
    refine lv_aload_n hx hb dX4_addCoins_20 rfl (lv_at hl 1 rfl) ?_
    refine va_get (D := G) (ci := 4) (v := .ref (q 3)) (C := RX4) (T := TX4) (N := 4) hx hb hts inlX4 hown hE.1 hP 0 rfl rfl 2 (by decide) (hts _ (bg 2 17 rfl)) (fun _ h9 => h9) rfl dX4_addCoins_21 ?_
    refine lv_iload hx hb dX4_addCoins_24 (lv_at hl 0 rfl) ?_
    refine lv_dup2_11 hx hb dX4_addCoins_26 rfl rfl ?_
    obtain ⟨v3, hv3, hf⟩ := bnd hf
    refine x_iald hx hb hE.1 hP 3 0 rfl rfl hv3 dX4_addCoins_27 ?_
    refine lv_iload_n hx hb dX4_addCoins_28 rfl (lv_at hl 4 rfl) ?_
    refine lv_iadd hx hb dX4_addCoins_29 ?_
    obtain ⟨g4, hg4, hf⟩ := bnd hf
    refine x_iast hx hb hE.1 hP hD hS 3 0 rfl rfl hg4 dX4_addCoins_30 (fun H locs hP hD hS => ?_)
    have hP : va_P G vwCl (wX4 q cI cZ cO I (va_up A 2 g4)) H := hP
    have hD : va_D Z (wX4 q cI cZ cO I (va_up A 2 g4)) := hD
    exact b_31 (va_up A 2 g4) H locs hP hD hS ls (lv_sub hl [] rfl) hf
def fX4_strike_54 (N : Nat) (k_5 : (Nat → Nat → Int32) → (Nat → Int32) → (Nat → Nat → Int32) → Int32 → Int32 → Int32 → Option (Int32 × (Nat → Nat → Int32))) (A : Nat → Nat → Int32) (I1 : Nat → Int32) (A1 : Nat → Nat → Int32) (u2 : Int32) (u3 : Int32) (u4 : Int32) : Option (Int32 × (Nat → Nat → Int32)) := k_5 A I1 A1 u2 u3 (u4 + 1)
def fX4_strike_5s (N : Nat) (k_5 : (Nat → Nat → Int32) → (Nat → Int32) → (Nat → Nat → Int32) → Int32 → Int32 → Int32 → Option (Int32 × (Nat → Nat → Int32))) (A : Nat → Nat → Int32) (I1 : Nat → Int32) (A1 : Nat → Nat → Int32) (u2 : Int32) (u3 : Int32) (u4 : Int32) : Option (Int32 × (Nat → Nat → Int32)) := if (I1 1) ≤ u4 then some (u3, A) else (fX4_saidOf N A u2).bind fun z2 => (fX5_seatOf N A1 u4).bind fun z3 => (fX6_hasBit N z2 z3).bind fun z4 => if z4 = 0 then fX4_strike_54 N k_5 A I1 A1 u2 u3 u4 else (fX4_coinsOf N A u4 u2).bind fun z6 => if 99 ≤ z6 then fX4_strike_54 N k_5 A I1 A1 u2 u3 u4 else (fX4_addCoins N A u4 u2 1).bind fun z8 => fX4_strike_54 N k_5 z8 I1 A1 u2 (u3 + 1) u4
def fX4_strike_5 (N : Nat) : Nat → (Nat → Nat → Int32) → (Nat → Int32) → (Nat → Nat → Int32) → Int32 → Int32 → Int32 → Option (Int32 × (Nat → Nat → Int32))
  | 0 => fun _ _ _ _ _ _ => none
  | n + 1 => fX4_strike_5s N (fX4_strike_5 N n)
def fX4_strike (N : Nat) (A : Nat → Nat → Int32) (I1 : Nat → Int32) (A1 : Nat → Nat → Int32) (x2 : Int32) : Option (Int32 × (Nat → Nat → Int32)) := fX4_strike_5 N N A I1 A1 x2 0 0
def rmX4_strike : Room := { frames := 2, cells := 0, slots := 0, locals := 45 }
theorem mb_X4_strike : Cond.instanceMethod yX4_strike ∈ wsL_law ∧ Cond.selects RX4 yX4_strike yX4_strike ∈ wsL_law ∧ Cond.initialized RX4 ∈ wsL_law ∧ Cond.code yX4_strike cX4_strike 5 (some .int) ∈ wsL_law := ⟨(bg 16 2 rfl), (bg 16 3 rfl), (bg 1 0 rfl), (bg 16 4 rfl)⟩
theorem hd_X4_strike : yX4_strike.cls = RX4 ∧ yX4_strike.cls ≠ "java/lang/invoke/MethodHandle" ∧ yX4_strike.cls ≠ "java/lang/invoke/VarHandle" ∧ (parseMethodDescriptor yX4_strike.desc).map (fun d => d.parameters.length) = some 2 := by decide +kernel
set_option maxRecDepth 100000 in
set_option maxHeartbeats 4000000 in
theorem ct_X4_strike (N : Nat) (l : Launch) (G : va_G) (cI cZ cO : ClassId) (q : Nat → Nat) (I : Nat → Int32) (A : Nat → Nat → Int32) (q1 : Nat → Nat) (I1 : Nat → Int32) (A1 : Nat → Nat → Int32) (x2 : Int32) (r : Int32) (Az : Nat → Nat → Int32) (hf : fX4_strike N A I1 A1 x2 = some (r, Az)) : CtI l yX4_strike cX4_strike 5 .int rmX4_strike G cI cZ cO [.ref (q 0), .ref (q1 0), .int x2] (wX4 q cI cZ cO I A ++ wX5 q1 cI cZ cO I1 A1) (wX4 q cI cZ cO I Az ++ wX5 q1 cI cZ cO I1 A1) r := by
  refine mkCI (by decide) (Nat.le_of_ble_eq_true rfl) ?_
  intro p e s m below meth cd Q Z hC hP hE hD hA fin ls hl
  obtain ⟨hx, hb, hml, hown, hts⟩ := hC
  have hown : s.vm.findClass RX4 = some m.cls := hown
  have hl : lv_has ls 5 [(0, .ref (q 0)), (1, .ref (q1 0)), (2, .int x2)] := hl
  have b_54 : ∀ (k_5 : (Nat → Nat → Int32) → (Nat → Int32) → (Nat → Nat → Int32) → Int32 → Int32 → Int32 → Option (Int32 × (Nat → Nat → Int32))) (hk_5 : ∀ (A : Nat → Nat → Int32) (u2 : Int32) (u3 : Int32) (u4 : Int32), ∀ (H : Heap) (locs : List Loc), va_P G vwCl (wX4 q cI cZ cO I A ++ wX5 q1 cI cZ cO I1 A1) H → va_D Z (wX4 q cI cZ cO I A ++ wX5 q1 cI cZ cO I1 A1) → va_S Z s.heap H locs → ∀ ls : Array Slot, lv_has ls 5 [(0, .ref (q 0)), (1, .ref (q1 0)), (2, .int u2), (3, .int u3), (4, .int u4)] → k_5 A I1 A1 u2 u3 u4 = some (r, Az) → W p l e rmX4_strike s m [.ref (q 0), .ref (q1 0), .int x2].toArray below meth cd H locs 0 0 Q (F0 m 5 ls [])), ∀ (A : Nat → Nat → Int32) (u2 : Int32) (u3 : Int32) (u4 : Int32), ∀ (H : Heap) (locs : List Loc), va_P G vwCl (wX4 q cI cZ cO I A ++ wX5 q1 cI cZ cO I1 A1) H → va_D Z (wX4 q cI cZ cO I A ++ wX5 q1 cI cZ cO I1 A1) → va_S Z s.heap H locs → ∀ ls : Array Slot, lv_has ls 5 [(0, .ref (q 0)), (1, .ref (q1 0)), (2, .int u2), (3, .int u3), (4, .int u4)] → fX4_strike_54 N k_5 A I1 A1 u2 u3 u4 = some (r, Az) → W p l e rmX4_strike s m [.ref (q 0), .ref (q1 0), .int x2].toArray below meth cd H locs 0 0 Q (F0 m 54 ls []) := by
    intro k_5 hk_5 A u2 u3 u4 H locs hP hD hS ls hl hf
    unfold fX4_strike_54 at hf
    refine lv_iinc (v := u4 + 1) (lv' := [(4, .int (u4 + 1)), (0, .ref (q 0)), (1, .ref (q1 0)), (2, .int u2), (3, .int u3)]) hx hb dX4_strike_54 hl (k := 4) rfl rfl (by decide) rfl (fun ls hl => ?_)
    refine lv_goto (tgt := 5) hx hb dX4_strike_57 (by decide) ?_
    exact hk_5 A u2 u3 (u4 + 1) H locs hP hD hS ls (lv_sub hl [1, 2, 3, 4, 0] rfl) hf
  have b_5 : ∀ n : Nat, ∀ (A : Nat → Nat → Int32) (u2 : Int32) (u3 : Int32) (u4 : Int32), ∀ (H : Heap) (locs : List Loc), va_P G vwCl (wX4 q cI cZ cO I A ++ wX5 q1 cI cZ cO I1 A1) H → va_D Z (wX4 q cI cZ cO I A ++ wX5 q1 cI cZ cO I1 A1) → va_S Z s.heap H locs → ∀ ls : Array Slot, lv_has ls 5 [(0, .ref (q 0)), (1, .ref (q1 0)), (2, .int u2), (3, .int u3), (4, .int u4)] → fX4_strike_5 N n A I1 A1 u2 u3 u4 = some (r, Az) → W p l e rmX4_strike s m [.ref (q 0), .ref (q1 0), .int x2].toArray below meth cd H locs 0 0 Q (F0 m 5 ls []) := by
    intro n
    induction n with
    | zero =>
      intro A u2 u3 u4 H locs hP hD hS ls hl hf
      cases hf
    | succ n hk_5 =>
      intro A u2 u3 u4 H locs hP hD hS ls hl hf
      replace hf : fX4_strike_5s N (fX4_strike_5 N n) A I1 A1 u2 u3 u4 = some (r, Az) := hf
      generalize fX4_strike_5 N n = k_5 at hf hk_5
      unfold fX4_strike_5s at hf
      refine lv_iload hx hb dX4_strike_5 (lv_at hl 4 rfl) ?_
      refine lv_aload_n hx hb dX4_strike_7 rfl (lv_at hl 1 rfl) ?_
      refine va_get (D := G) (ci := 5) (v := .int ((I1 1))) (C := RX5) (T := TX5) (N := 8) hx hb hts inlX5 hown hE.1 hP 4 rfl rfl 7 (by decide) (hts _ (bg 16 5 rfl)) (fun _ h9 => h9) rfl dX4_strike_8 ?_
      refine lv_icmp_ge (tgt := 60) hx hb dX4_strike_11 (by decide) (fun c1 => ?_) (fun c1 => ?_)
      · rw [if_pos c1] at hf
        refine lv_iload_n hx hb dX4_strike_60 rfl (lv_at hl 3 rfl) ?_
        have e9 := Option.some.inj hf
        exact fin H locs 61 ls _ (Prod.mk.inj e9).1 (nar_i _) (by rw [← (Prod.mk.inj e9).2]; exact hP) hS dX4_strike_61
      · rw [if_neg c1] at hf
        refine lv_aload_n hx hb dX4_strike_14 rfl (lv_at hl 0 rfl) ?_
        refine lv_iload_n hx hb dX4_strike_15 rfl (lv_at hl 2 rfl) ?_
        obtain ⟨z2, hz2, hf⟩ := bnd hf
        refine x_rdV (C := RX4) (n := 1) (ci := 4) hx hb hml hown hts hE (ct_X4_saidOf N l G cI cZ cO q I A u2 z2 hz2) (bg 16 6 rfl) mb_X4_saidOf.1 mb_X4_saidOf.2.1 mb_X4_saidOf.2.2.1 mb_X4_saidOf.2.2.2 hd_X4_saidOf rfl (by decide) (x_cut hP [0, 1, 2, 3] rfl) rfl rfl rfl rfl hl.1 (Nat.le_of_ble_eq_true rfl) ⟨Nat.zero_le _, Nat.zero_le _⟩ dX4_strike_16 ?_
        refine lv_aload_n hx hb dX4_strike_19 rfl (lv_at hl 1 rfl) ?_
        refine lv_iload hx hb dX4_strike_20 (lv_at hl 4 rfl) ?_
        obtain ⟨z3, hz3, hf⟩ := bnd hf
        refine x_rdV (C := RX5) (n := 1) (ci := 5) hx hb hml hown hts hE (ct_X5_seatOf N l G cI cZ cO q1 I1 A1 u4 z3 hz3) (bg 16 7 rfl) mb_X5_seatOf.1 mb_X5_seatOf.2.1 mb_X5_seatOf.2.2.1 mb_X5_seatOf.2.2.2 hd_X5_seatOf rfl (by decide) (x_cut hP [4, 5, 6, 7, 8, 9, 10] rfl) rfl rfl rfl rfl hl.1 (Nat.le_of_ble_eq_true rfl) ⟨Nat.zero_le _, Nat.zero_le _⟩ dX4_strike_22 ?_
        obtain ⟨z4, hz4, hf⟩ := bnd hf
        refine x_rdN (n := 2) hx hb hml hown hts hE (ct_X6_hasBit N l G cI cZ cO z2 z3 z4 hz4) (List.mem_of_getElem? (i := 14) rfl) mb_X6_hasBit.1 mb_X6_hasBit.2.1 mb_X6_hasBit.2.2 hd_X6_hasBit rfl (by decide) va_P_nil rfl hl.1 (Nat.le_of_ble_eq_true rfl) ⟨Nat.zero_le _, Nat.zero_le _⟩ dX4_strike_25 ?_
        refine lv_if_eq (tgt := 54) hx hb dX4_strike_28 (by decide) (fun c5 => ?_) (fun c5 => ?_)
        · rw [if_pos c5] at hf
          exact b_54 k_5 hk_5 A u2 u3 u4 H locs hP hD hS ls (lv_sub hl [0, 1, 2, 3, 4] rfl) hf
        · rw [if_neg c5] at hf
          refine lv_aload_n hx hb dX4_strike_31 rfl (lv_at hl 0 rfl) ?_
          refine lv_iload hx hb dX4_strike_32 (lv_at hl 4 rfl) ?_
          refine lv_iload_n hx hb dX4_strike_34 rfl (lv_at hl 2 rfl) ?_
          obtain ⟨z6, hz6, hf⟩ := bnd hf
          refine x_rdV (C := RX4) (n := 2) (ci := 4) hx hb hml hown hts hE (ct_X4_coinsOf N l G cI cZ cO q I A u4 u2 z6 hz6) (bg 16 11 rfl) mb_X4_coinsOf.1 mb_X4_coinsOf.2.1 mb_X4_coinsOf.2.2.1 mb_X4_coinsOf.2.2.2 hd_X4_coinsOf rfl (by decide) (x_cut hP [0, 1, 2, 3] rfl) rfl rfl rfl rfl hl.1 (Nat.le_of_ble_eq_true rfl) ⟨Nat.zero_le _, Nat.zero_le _⟩ dX4_strike_35 ?_
          refine lv_bipush (v := 99) hx hb dX4_strike_38 (by decide) ?_
          refine lv_icmp_ge (tgt := 54) hx hb dX4_strike_40 (by decide) (fun c7 => ?_) (fun c7 => ?_)
          · rw [if_pos c7] at hf
            exact b_54 k_5 hk_5 A u2 u3 u4 H locs hP hD hS ls (lv_sub hl [0, 1, 2, 3, 4] rfl) hf
          · rw [if_neg c7] at hf
            refine lv_aload_n hx hb dX4_strike_43 rfl (lv_at hl 0 rfl) ?_
            refine lv_iload hx hb dX4_strike_44 (lv_at hl 4 rfl) ?_
            refine lv_iload_n hx hb dX4_strike_46 rfl (lv_at hl 2 rfl) ?_
            refine lv_iconst (v := 1) hx hb dX4_strike_47 (by decide) ?_
            obtain ⟨z8, hz8, hf⟩ := bnd hf
            refine x_wrVv (C := RX4) (n := 3) (ci := 4) (ws1 := (wX4 q cI cZ cO I z8 ++ wX5 q1 cI cZ cO I1 A1)) hx hb hml hown hts hE (ct_X4_addCoins N l G cI cZ cO q I A u4 u2 1 z8 hz8) (bg 16 12 rfl) mb_X4_addCoins.1 mb_X4_addCoins.2.1 mb_X4_addCoins.2.2.1 mb_X4_addCoins.2.2.2 hd_X4_addCoins rfl (by decide) hP hD hS hA [0, 1, 2, 3] [true, true, true, true, false, false, false, false, false, false, false] (by decide) (by decide +kernel) rfl rfl ⟨rfl, rfl, rfl, rfl, rfl, rfl, rfl, rfl, rfl, rfl, rfl, trivial⟩ rfl rfl rfl rfl hl.1 (Nat.le_of_ble_eq_true rfl) ⟨Nat.zero_le _, Nat.zero_le _⟩ dX4_strike_48 (fun H locs hP hD hS => ?_)
            refine lv_iinc (v := u3 + 1) (lv' := [(3, .int (u3 + 1)), (0, .ref (q 0)), (1, .ref (q1 0)), (2, .int u2), (4, .int u4)]) hx hb dX4_strike_51 hl (k := 3) rfl rfl (by decide) rfl (fun ls hl => ?_)
            exact b_54 k_5 hk_5 z8 u2 (u3 + 1) u4 H locs hP hD hS ls (lv_sub hl [1, 2, 3, 0, 4] rfl) hf
  unfold fX4_strike at hf
  have hS : va_S Z s.heap s.heap [] := va_S.rf
  obtain ⟨H, hH⟩ : ∃ H, H = s.heap := ⟨_, rfl⟩
  obtain ⟨locs, hlocs⟩ : ∃ locs : List Loc, locs = [] := ⟨_, rfl⟩
  rw [← hlocs]
  rw [← hlocs] at hS
  suffices hW : ∀ H : Heap, va_P G vwCl (wX4 q cI cZ cO I A ++ wX5 q1 cI cZ cO I1 A1) H → va_S Z s.heap H locs → W p l e rmX4_strike s m [.ref (q 0), .ref (q1 0), .int x2].toArray below meth cd H locs 0 0 Q (F0 m 0 ls []) from hW s.heap hP hS
  clear hP hS hH H
  intro H hP hS
  refine lv_iconst (v := 0) hx hb dX4_strike_0 (by decide) ?_
  refine lv_istore_n (lv' := [(3, .int 0), (0, .ref (q 0)), (1, .ref (q1 0)), (2, .int x2)]) hx hb dX4_strike_1 rfl hl (by decide) rfl (fun ls hl => ?_)
  refine lv_iconst (v := 0) hx hb dX4_strike_2 (by decide) ?_
  refine lv_istore (lv' := [(4, .int 0), (3, .int 0), (0, .ref (q 0)), (1, .ref (q1 0)), (2, .int x2)]) hx hb dX4_strike_3 hl (by decide) rfl (fun ls hl => ?_)
  exact b_5 N A x2 0 0 H locs hP hD hS ls (lv_sub hl [2, 3, 4, 1, 0] rfl) hf
def fX5_saidAfterDawn_22 (N : Nat) (I : Nat → Int32) (A : Nat → Nat → Int32) (u2 : Int32) (u3 : Int32) : Option (Int32) := some ((((u2 ||| (shl u2 1)) ||| (shr u2 1)) &&& 63) &&& (u3 ^^^ (-1)))
def fX5_saidAfterDawn (N : Nat) (I : Nat → Int32) (A : Nat → Nat → Int32) (x1 : Int32) (x2 : Int32) (x3 : Int32) (x4 : Int32) : Option (Int32) := (fX5_isProved N A x1 (x4 + 1)).bind fun z1 => if z1 = 0 then fX5_saidAfterDawn_22 N I A x2 x3 else (fX5_isLie N I A x1).bind fun z3 => if z3 = 0 then fX5_saidAfterDawn_22 N I A x2 x3 else some 0
def rmX5_saidAfterDawn : Room := { frames := 2, cells := 0, slots := 0, locals := 44 }
theorem mb_X5_saidAfterDawn : Cond.instanceMethod yX5_saidAfterDawn ∈ wsL_law ∧ Cond.selects RX5 yX5_saidAfterDawn yX5_saidAfterDawn ∈ wsL_law ∧ Cond.initialized RX5 ∈ wsL_law ∧ Cond.code yX5_saidAfterDawn cX5_saidAfterDawn 5 (some .int) ∈ wsL_law := ⟨(bg 16 17 rfl), (bg 16 18 rfl), (bg 0 19 rfl), (bg 16 19 rfl)⟩
theorem hd_X5_saidAfterDawn : yX5_saidAfterDawn.cls = RX5 ∧ yX5_saidAfterDawn.cls ≠ "java/lang/invoke/MethodHandle" ∧ yX5_saidAfterDawn.cls ≠ "java/lang/invoke/VarHandle" ∧ (parseMethodDescriptor yX5_saidAfterDawn.desc).map (fun d => d.parameters.length) = some 4 := by decide +kernel
set_option maxRecDepth 100000 in
set_option maxHeartbeats 4000000 in
theorem ct_X5_saidAfterDawn (N : Nat) (l : Launch) (G : va_G) (cI cZ cO : ClassId) (q : Nat → Nat) (I : Nat → Int32) (A : Nat → Nat → Int32) (x1 : Int32) (x2 : Int32) (x3 : Int32) (x4 : Int32) (r : Int32) (hf : fX5_saidAfterDawn N I A x1 x2 x3 x4 = some r) : RtI l yX5_saidAfterDawn cX5_saidAfterDawn 5 .int rmX5_saidAfterDawn G cI cZ cO [.ref (q 0), .int x1, .int x2, .int x3, .int x4] (wX5 q cI cZ cO I A) r := by
  refine mkRI (by decide) (Nat.le_of_ble_eq_true rfl) ?_
  intro p e s m below meth cd Q hC hP hE fin ls hl
  obtain ⟨hx, hb, hml, hown, hts⟩ := hC
  have hown : s.vm.findClass RX5 = some m.cls := hown
  have hl : lv_has ls 5 [(0, .ref (q 0)), (1, .int x1), (2, .int x2), (3, .int x3), (4, .int x4)] := hl
  have b_22 : ∀ (u2 : Int32) (u3 : Int32), ∀ ls : Array Slot, lv_has ls 5 [(2, .int u2), (3, .int u3)] → fX5_saidAfterDawn_22 N I A u2 u3 = some r → W p l e rmX5_saidAfterDawn s m [.ref (q 0), .int x1, .int x2, .int x3, .int x4].toArray below meth cd s.heap [] 0 0 Q (F0 m 22 ls []) := by
    intro u2 u3 ls hl hf
    unfold fX5_saidAfterDawn_22 at hf
    refine lv_iload_n hx hb dX5_saidAfterDawn_22 rfl (lv_at hl 0 rfl) ?_
    refine lv_iload_n hx hb dX5_saidAfterDawn_23 rfl (lv_at hl 0 rfl) ?_
    refine lv_iconst (v := 1) hx hb dX5_saidAfterDawn_24 (by decide) ?_
    refine x_ishl hx hb dX5_saidAfterDawn_25 ?_
    refine lv_ior hx hb dX5_saidAfterDawn_26 ?_
    refine lv_iload_n hx hb dX5_saidAfterDawn_27 rfl (lv_at hl 0 rfl) ?_
    refine lv_iconst (v := 1) hx hb dX5_saidAfterDawn_28 (by decide) ?_
    refine x_ishr hx hb dX5_saidAfterDawn_29 ?_
    refine lv_ior hx hb dX5_saidAfterDawn_30 ?_
    refine lv_bipush (v := 63) hx hb dX5_saidAfterDawn_31 (by decide) ?_
    refine lv_iand hx hb dX5_saidAfterDawn_33 ?_
    refine lv_iload_n hx hb dX5_saidAfterDawn_34 rfl (lv_at hl 1 rfl) ?_
    refine lv_iconst (v := (-1)) hx hb dX5_saidAfterDawn_35 (by decide) ?_
    refine lv_ixor hx hb dX5_saidAfterDawn_36 ?_
    refine lv_iand hx hb dX5_saidAfterDawn_37 ?_
    have e9 := Option.some.inj hf
    exact fin 38 ls _ e9 (nar_i _) dX5_saidAfterDawn_38
  unfold fX5_saidAfterDawn at hf
  refine lv_aload_n hx hb dX5_saidAfterDawn_0 rfl (lv_at hl 0 rfl) ?_
  refine lv_iload_n hx hb dX5_saidAfterDawn_1 rfl (lv_at hl 1 rfl) ?_
  refine lv_iload hx hb dX5_saidAfterDawn_2 (lv_at hl 4 rfl) ?_
  refine lv_iconst (v := 1) hx hb dX5_saidAfterDawn_4 (by decide) ?_
  refine lv_iadd hx hb dX5_saidAfterDawn_5 ?_
  obtain ⟨z1, hz1, hf⟩ := bnd hf
  refine x_rdV (C := RX5) (n := 2) (ci := 5) hx hb hml hown hts hE (ct_X5_isProved N l G cI cZ cO q I A x1 (x4 + 1) z1 hz1) (bg 16 20 rfl) mb_X5_isProved.1 mb_X5_isProved.2.1 mb_X5_isProved.2.2.1 mb_X5_isProved.2.2.2 hd_X5_isProved rfl (by decide) hP rfl rfl rfl rfl hl.1 (Nat.le_of_ble_eq_true rfl) ⟨Nat.zero_le _, Nat.zero_le _⟩ dX5_saidAfterDawn_6 ?_
  refine lv_if_eq (tgt := 22) hx hb dX5_saidAfterDawn_9 (by decide) (fun c2 => ?_) (fun c2 => ?_)
  · rw [if_pos c2] at hf
    exact b_22 x2 x3 ls (lv_sub hl [2, 3] rfl) hf
  · rw [if_neg c2] at hf
    refine lv_aload_n hx hb dX5_saidAfterDawn_12 rfl (lv_at hl 0 rfl) ?_
    refine lv_iload_n hx hb dX5_saidAfterDawn_13 rfl (lv_at hl 1 rfl) ?_
    obtain ⟨z3, hz3, hf⟩ := bnd hf
    refine x_rdV (C := RX5) (n := 1) (ci := 5) hx hb hml hown hts hE (ct_X5_isLie N l G cI cZ cO q I A x1 z3 hz3) (bg 16 21 rfl) mb_X5_isLie.1 mb_X5_isLie.2.1 mb_X5_isLie.2.2.1 mb_X5_isLie.2.2.2 hd_X5_isLie rfl (by decide) hP rfl rfl rfl rfl hl.1 (Nat.le_of_ble_eq_true rfl) ⟨Nat.zero_le _, Nat.zero_le _⟩ dX5_saidAfterDawn_14 ?_
    refine lv_if_eq (tgt := 22) hx hb dX5_saidAfterDawn_17 (by decide) (fun c4 => ?_) (fun c4 => ?_)
    · rw [if_pos c4] at hf
      exact b_22 x2 x3 ls (lv_sub hl [2, 3] rfl) hf
    · rw [if_neg c4] at hf
      refine lv_iconst (v := 0) hx hb dX5_saidAfterDawn_20 (by decide) ?_
      have e9 := Option.some.inj hf
      exact fin 21 ls _ e9 (nar_i _) dX5_saidAfterDawn_21
def fX4_passDawn_4s (N : Nat) (k_4 : (Nat → Int32) → (Nat → Nat → Int32) → (Nat → Int32) → (Nat → Nat → Int32) → Int32 → Int32 → Option (Int32 × (Nat → Int32) × (Nat → Nat → Int32))) (I : Nat → Int32) (A : Nat → Nat → Int32) (I1 : Nat → Int32) (A1 : Nat → Nat → Int32) (u2 : Int32) (u3 : Int32) : Option (Int32 × (Nat → Int32) × (Nat → Nat → Int32)) := if 5 ≤ u3 then some (u2, upd I 0 ((I 0) + 1), A) else (fX4_strike N A I1 A1 u3).bind fun z2 => (rd 5 (z2.2 0) u3).bind fun v3 => (rd 5 (z2.2 1) u3).bind fun v4 => (fX5_saidAfterDawn N I1 A1 u3 v3 v4 (I 0)).bind fun z5 => (wr 5 (z2.2 0) u3 z5).bind fun g6 => k_4 I (va_up z2.2 0 g6) I1 A1 (u2 + z2.1) (u3 + 1)
def fX4_passDawn_4 (N : Nat) : Nat → (Nat → Int32) → (Nat → Nat → Int32) → (Nat → Int32) → (Nat → Nat → Int32) → Int32 → Int32 → Option (Int32 × (Nat → Int32) × (Nat → Nat → Int32))
  | 0 => fun _ _ _ _ _ _ => none
  | n + 1 => fX4_passDawn_4s N (fX4_passDawn_4 N n)
def fX4_passDawn (N : Nat) (I : Nat → Int32) (A : Nat → Nat → Int32) (I1 : Nat → Int32) (A1 : Nat → Nat → Int32) : Option (Int32 × (Nat → Int32) × (Nat → Nat → Int32)) := fX4_passDawn_4 N N I A I1 A1 0 0
def rmX4_passDawn : Room := { frames := 3, cells := 0, slots := 0, locals := 69 }
theorem mb_X4_passDawn : Cond.instanceMethod yX4_passDawn ∈ wsL_law ∧ Cond.selects RX4 yX4_passDawn yX4_passDawn ∈ wsL_law ∧ Cond.initialized RX4 ∈ wsL_law ∧ Cond.code yX4_passDawn cX4_passDawn 4 (some .int) ∈ wsL_law := ⟨(bg 15 22 rfl), (bg 15 23 rfl), (bg 1 0 rfl), (bg 16 0 rfl)⟩
theorem hd_X4_passDawn : yX4_passDawn.cls = RX4 ∧ yX4_passDawn.cls ≠ "java/lang/invoke/MethodHandle" ∧ yX4_passDawn.cls ≠ "java/lang/invoke/VarHandle" ∧ (parseMethodDescriptor yX4_passDawn.desc).map (fun d => d.parameters.length) = some 1 := by decide +kernel
set_option maxRecDepth 100000 in
set_option maxHeartbeats 4000000 in
theorem ct_X4_passDawn (N : Nat) (l : Launch) (G : va_G) (cI cZ cO : ClassId) (q : Nat → Nat) (I : Nat → Int32) (A : Nat → Nat → Int32) (q1 : Nat → Nat) (I1 : Nat → Int32) (A1 : Nat → Nat → Int32) (r : Int32) (Iz : Nat → Int32) (Az : Nat → Nat → Int32) (hf : fX4_passDawn N I A I1 A1 = some (r, Iz, Az)) : CtI l yX4_passDawn cX4_passDawn 4 .int rmX4_passDawn G cI cZ cO [.ref (q 0), .ref (q1 0)] (wX4 q cI cZ cO I A ++ wX5 q1 cI cZ cO I1 A1) (wX4 q cI cZ cO Iz Az ++ wX5 q1 cI cZ cO I1 A1) r := by
  refine mkCI (by decide) (Nat.le_of_ble_eq_true rfl) ?_
  intro p e s m below meth cd Q Z hC hP hE hD hA fin ls hl
  obtain ⟨hx, hb, hml, hown, hts⟩ := hC
  have hown : s.vm.findClass RX4 = some m.cls := hown
  have hl : lv_has ls 4 [(0, .ref (q 0)), (1, .ref (q1 0))] := hl
  have b_4 : ∀ n : Nat, ∀ (I : Nat → Int32) (A : Nat → Nat → Int32) (u2 : Int32) (u3 : Int32), ∀ (H : Heap) (locs : List Loc), va_P G vwCl (wX4 q cI cZ cO I A ++ wX5 q1 cI cZ cO I1 A1) H → va_D Z (wX4 q cI cZ cO I A ++ wX5 q1 cI cZ cO I1 A1) → va_S Z s.heap H locs → ∀ ls : Array Slot, lv_has ls 4 [(0, .ref (q 0)), (1, .ref (q1 0)), (2, .int u2), (3, .int u3)] → fX4_passDawn_4 N n I A I1 A1 u2 u3 = some (r, Iz, Az) → W p l e rmX4_passDawn s m [.ref (q 0), .ref (q1 0)].toArray below meth cd H locs 0 0 Q (F0 m 4 ls []) := by
    intro n
    induction n with
    | zero =>
      intro I A u2 u3 H locs hP hD hS ls hl hf
      cases hf
    | succ n hk_4 =>
      intro I A u2 u3 H locs hP hD hS ls hl hf
      replace hf : fX4_passDawn_4s N (fX4_passDawn_4 N n) I A I1 A1 u2 u3 = some (r, Iz, Az) := hf
      generalize fX4_passDawn_4 N n = k_4 at hf hk_4
      unfold fX4_passDawn_4s at hf
      refine lv_iload_n hx hb dX4_passDawn_4 rfl (lv_at hl 3 rfl) ?_
      refine lv_iconst (v := 5) hx hb dX4_passDawn_5 (by decide) ?_
      refine lv_icmp_ge (tgt := 51) hx hb dX4_passDawn_6 (by decide) (fun c1 => ?_) (fun c1 => ?_)
      · rw [if_pos c1] at hf
        refine lv_aload_n hx hb dX4_passDawn_51 rfl (lv_at hl 0 rfl) ?_
        refine lv_dup hx hb dX4_passDawn_52 rfl ?_
        refine va_get (D := G) (ci := 4) (v := .int ((I 0))) (C := RX4) (T := TX4) (N := 4) hx hb hts inlX4 hown hE.1 hP 0 rfl rfl 3 (by decide) (hts _ (bg 11 14 rfl)) (fun _ h9 => h9) rfl dX4_passDawn_53 ?_
        refine lv_iconst (v := 1) hx hb dX4_passDawn_56 (by decide) ?_
        refine lv_iadd hx hb dX4_passDawn_57 ?_
        refine va_put (D := G) (ci := 4) (v := .int ((I 0) + 1)) (ty := .int) (C := RX4) (T := TX4) (N := 4) hx hb hts inlX4 tyX4 tyX4_ok nmX4 hown hE.1 hP hD hS 0 rfl rfl 3 (by decide) (hts _ (bg 11 14 rfl)) (fun _ h9 => h9) rfl (by decide +kernel) rfl rfl (Nat.le_of_ble_eq_true rfl) dX4_passDawn_58 (fun H locs hP hD hS => ?_)
        have hP : va_P G vwCl (wX4 q cI cZ cO (upd I 0 ((I 0) + 1)) A ++ wX5 q1 cI cZ cO I1 A1) H := hP
        have hD : va_D Z (wX4 q cI cZ cO (upd I 0 ((I 0) + 1)) A ++ wX5 q1 cI cZ cO I1 A1) := hD
        refine lv_iload_n hx hb dX4_passDawn_61 rfl (lv_at hl 2 rfl) ?_
        have e9 := Option.some.inj hf
        exact fin H locs 62 ls _ (Prod.mk.inj e9).1 (nar_i _) (by rw [← (Prod.mk.inj (Prod.mk.inj e9).2).1, ← (Prod.mk.inj (Prod.mk.inj e9).2).2]; exact hP) hS dX4_passDawn_62
      · rw [if_neg c1] at hf
        refine lv_iload_n hx hb dX4_passDawn_9 rfl (lv_at hl 2 rfl) ?_
        refine lv_aload_n hx hb dX4_passDawn_10 rfl (lv_at hl 0 rfl) ?_
        refine lv_aload_n hx hb dX4_passDawn_11 rfl (lv_at hl 1 rfl) ?_
        refine lv_iload_n hx hb dX4_passDawn_12 rfl (lv_at hl 3 rfl) ?_
        obtain ⟨z2, hz2, hf⟩ := bnd hf
        refine x_wwV (C := RX4) (n := 2) (ci := 4) hx hb hml hown hts hE (ct_X4_strike N l G cI cZ cO q I A q1 I1 A1 u3 z2.1 z2.2 hz2) (bg 16 1 rfl) mb_X4_strike.1 mb_X4_strike.2.1 mb_X4_strike.2.2.1 mb_X4_strike.2.2.2 hd_X4_strike rfl (by decide) hP hD hS hA rfl rfl rfl rfl rfl hl.1 (Nat.le_of_ble_eq_true rfl) ⟨Nat.zero_le _, Nat.zero_le _⟩ dX4_passDawn_13 (fun H locs hP hD hS => ?_)
        have hP : va_P G vwCl (wX4 q cI cZ cO I z2.2 ++ wX5 q1 cI cZ cO I1 A1) H := hP
        have hD : va_D Z (wX4 q cI cZ cO I z2.2 ++ wX5 q1 cI cZ cO I1 A1) := hD
        refine lv_iadd hx hb dX4_passDawn_16 ?_
        refine lv_istore_n (lv' := [(2, .int (u2 + z2.1)), (0, .ref (q 0)), (1, .ref (q1 0)), (3, .int u3)]) hx hb dX4_passDawn_17 rfl hl (by decide) rfl (fun ls hl => ?_)
        refine lv_aload_n hx hb dX4_passDawn_18 rfl (lv_at hl 1 rfl) ?_
        refine va_get (D := G) (ci := 4) (v := .ref (q 1)) (C := RX4) (T := TX4) (N := 4) hx hb hts inlX4 hown hE.1 hP 0 rfl rfl 0 (by decide) (hts _ (bg 2 15 rfl)) (fun _ h9 => h9) rfl dX4_passDawn_19 ?_
        refine lv_iload_n hx hb dX4_passDawn_22 rfl (lv_at hl 3 rfl) ?_
        refine lv_aload_n hx hb dX4_passDawn_23 rfl (lv_at hl 2 rfl) ?_
        refine lv_iload_n hx hb dX4_passDawn_24 rfl (lv_at hl 3 rfl) ?_
        refine lv_aload_n hx hb dX4_passDawn_25 rfl (lv_at hl 1 rfl) ?_
        refine va_get (D := G) (ci := 4) (v := .ref (q 1)) (C := RX4) (T := TX4) (N := 4) hx hb hts inlX4 hown hE.1 hP 0 rfl rfl 0 (by decide) (hts _ (bg 2 15 rfl)) (fun _ h9 => h9) rfl dX4_passDawn_26 ?_
        refine lv_iload_n hx hb dX4_passDawn_29 rfl (lv_at hl 3 rfl) ?_
        obtain ⟨v3, hv3, hf⟩ := bnd hf
        refine x_iald hx hb hE.1 hP 1 0 rfl rfl hv3 dX4_passDawn_30 ?_
        refine lv_aload_n hx hb dX4_passDawn_31 rfl (lv_at hl 1 rfl) ?_
        refine va_get (D := G) (ci := 4) (v := .ref (q 2)) (C := RX4) (T := TX4) (N := 4) hx hb hts inlX4 hown hE.1 hP 0 rfl rfl 1 (by decide) (hts _ (bg 2 16 rfl)) (fun _ h9 => h9) rfl dX4_passDawn_32 ?_
        refine lv_iload_n hx hb dX4_passDawn_35 rfl (lv_at hl 3 rfl) ?_
        obtain ⟨v4, hv4, hf⟩ := bnd hf
        refine x_iald hx hb hE.1 hP 2 0 rfl rfl hv4 dX4_passDawn_36 ?_
        refine lv_aload_n hx hb dX4_passDawn_37 rfl (lv_at hl 1 rfl) ?_
        refine va_get (D := G) (ci := 4) (v := .int ((I 0))) (C := RX4) (T := TX4) (N := 4) hx hb hts inlX4 hown hE.1 hP 0 rfl rfl 3 (by decide) (hts _ (bg 11 14 rfl)) (fun _ h9 => h9) rfl dX4_passDawn_38 ?_
        obtain ⟨z5, hz5, hf⟩ := bnd hf
        refine x_rdV (C := RX5) (n := 4) (ci := 5) hx hb hml hown hts hE (ct_X5_saidAfterDawn N l G cI cZ cO q1 I1 A1 u3 v3 v4 (I 0) z5 hz5) (bg 16 16 rfl) mb_X5_saidAfterDawn.1 mb_X5_saidAfterDawn.2.1 mb_X5_saidAfterDawn.2.2.1 mb_X5_saidAfterDawn.2.2.2 hd_X5_saidAfterDawn rfl (by decide) (x_cut hP [4, 5, 6, 7, 8, 9, 10] rfl) rfl rfl rfl rfl hl.1 (Nat.le_of_ble_eq_true rfl) ⟨Nat.zero_le _, Nat.zero_le _⟩ dX4_passDawn_41 ?_
        obtain ⟨g6, hg6, hf⟩ := bnd hf
        refine x_iast hx hb hE.1 hP hD hS 1 0 rfl rfl hg6 dX4_passDawn_44 (fun H locs hP hD hS => ?_)
        have hP : va_P G vwCl (wX4 q cI cZ cO I (va_up z2.2 0 g6) ++ wX5 q1 cI cZ cO I1 A1) H := hP
        have hD : va_D Z (wX4 q cI cZ cO I (va_up z2.2 0 g6) ++ wX5 q1 cI cZ cO I1 A1) := hD
        refine lv_iinc (v := u3 + 1) (lv' := [(3, .int (u3 + 1)), (2, .int (u2 + z2.1)), (0, .ref (q 0)), (1, .ref (q1 0))]) hx hb dX4_passDawn_45 hl (k := 3) rfl rfl (by decide) rfl (fun ls hl => ?_)
        refine lv_goto (tgt := 4) hx hb dX4_passDawn_48 (by decide) ?_
        exact hk_4 I (va_up z2.2 0 g6) (u2 + z2.1) (u3 + 1) H locs hP hD hS ls (lv_sub hl [2, 3, 1, 0] rfl) hf
  unfold fX4_passDawn at hf
  have hS : va_S Z s.heap s.heap [] := va_S.rf
  obtain ⟨H, hH⟩ : ∃ H, H = s.heap := ⟨_, rfl⟩
  obtain ⟨locs, hlocs⟩ : ∃ locs : List Loc, locs = [] := ⟨_, rfl⟩
  rw [← hlocs]
  rw [← hlocs] at hS
  suffices hW : ∀ H : Heap, va_P G vwCl (wX4 q cI cZ cO I A ++ wX5 q1 cI cZ cO I1 A1) H → va_S Z s.heap H locs → W p l e rmX4_passDawn s m [.ref (q 0), .ref (q1 0)].toArray below meth cd H locs 0 0 Q (F0 m 0 ls []) from hW s.heap hP hS
  clear hP hS hH H
  intro H hP hS
  refine lv_iconst (v := 0) hx hb dX4_passDawn_0 (by decide) ?_
  refine lv_istore_n (lv' := [(2, .int 0), (0, .ref (q 0)), (1, .ref (q1 0))]) hx hb dX4_passDawn_1 rfl hl (by decide) rfl (fun ls hl => ?_)
  refine lv_iconst (v := 0) hx hb dX4_passDawn_2 (by decide) ?_
  refine lv_istore_n (lv' := [(3, .int 0), (2, .int 0), (0, .ref (q 0)), (1, .ref (q1 0))]) hx hb dX4_passDawn_3 rfl hl (by decide) rfl (fun ls hl => ?_)
  exact b_4 N I A 0 0 H locs hP hD hS ls (lv_sub hl [2, 3, 1, 0] rfl) hf
