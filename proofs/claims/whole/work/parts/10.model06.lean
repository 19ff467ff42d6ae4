def fX7_seed (N : Nat) (L : Int64) (x1 : Int64) : Option (Int64 × Int64) := some (L, x1)
def rmX7_seed : Room := { frames := 0, cells := 0, slots := 0, locals := 0 }
theorem mb_X7_seed : Cond.instanceMethod yX7_seed ∈ wsL_law ∧ Cond.selects RX7 yX7_seed yX7_seed ∈ wsL_law ∧ Cond.initialized RX7 ∈ wsL_law ∧ Cond.code yX7_seed cX7_seed 5 (some .long) ∈ wsL_law := ⟨(bg 35 5 rfl), (bg 35 6 rfl), (bg 0 5 rfl), (bg 35 7 rfl)⟩
theorem hd_X7_seed : yX7_seed.cls = RX7 ∧ yX7_seed.cls ≠ "java/lang/invoke/MethodHandle" ∧ yX7_seed.cls ≠ "java/lang/invoke/VarHandle" ∧ (parseMethodDescriptor yX7_seed.desc).map (fun d => d.parameters.length) = some 1 := by decide +kernel
set_option maxRecDepth 100000 in
set_option maxHeartbeats 4000000 in
theorem ct_X7_seed (N : Nat) (l : Launch) (G : va_G) (cI cZ cO : ClassId) (q : Nat → Nat) (I : Nat → Int32) (A : Nat → Nat → Int32) (L : Int64) (x1 : Int64) (r : Int64) (Lz : Int64) (hf : fX7_seed N L x1 = some (r, Lz)) : CtL l yX7_seed cX7_seed 5 rmX7_seed G cI cZ cO [.ref (q 0), .long x1] (wX7 q cI cZ cO I A L) (wX7 q cI cZ cO I A Lz) r := by
  refine mkCL (by decide) (Nat.le_of_ble_eq_true rfl) ?_
  intro p e s m below meth cd Q Z hC hP hE hD hA fin ls hl
  obtain ⟨hx, hb, hml, hown, hts⟩ := hC
  have hown : s.vm.findClass RX7 = some m.cls := hown
  have hl : lv_has ls 5 [(0, .ref (q 0)), (1, .long x1)] := hl
  unfold fX7_seed at hf
  have hS : va_S Z s.heap s.heap [] := va_S.rf
  obtain ⟨H, hH⟩ : ∃ H, H = s.heap := ⟨_, rfl⟩
  obtain ⟨locs, hlocs⟩ : ∃ locs : List Loc, locs = [] := ⟨_, rfl⟩
  rw [← hlocs]
  rw [← hlocs] at hS
  suffices hW : ∀ H : Heap, va_P G vwCl (wX7 q cI cZ cO I A L) H → va_S Z s.heap H locs → W p l e rmX7_seed s m [.ref (q 0), .long x1].toArray below meth cd H locs 0 0 Q (F0 m 0 ls []) from hW s.heap hP hS
  clear hP hS hH H
  intro H hP hS
  refine lv_aload_n hx hb dX7_seed_0 rfl (lv_at hl 0 rfl) ?_
  refine va_get (D := G) (ci := 7) (v := .long L) (C := RX7) (T := TX7) (N := 33) hx hb hts inlX7 hown hE.1 hP 0 rfl rfl 30 (by decide) (hts _ (bg 35 8 rfl)) (fun _ h9 => h9) rfl dX7_seed_1 ?_
  refine lv_lstore_n (lv' := [(3, .long L), (0, .ref (q 0)), (1, .long x1)]) hx hb dX7_seed_4 rfl hl (by decide) rfl (fun ls hl => ?_)
  refine lv_aload_n hx hb dX7_seed_5 rfl (lv_at hl 1 rfl) ?_
  refine lv_lload_n hx hb dX7_seed_6 rfl (lv_at hl 2 rfl) ?_
  refine va_put (D := G) (ci := 7) (v := .long x1) (ty := .long) (C := RX7) (T := TX7) (N := 33) hx hb hts inlX7 tyX7 tyX7_ok nmX7 hown hE.1 hP hD hS 0 rfl rfl 30 (by decide) (hts _ (bg 35 8 rfl)) (fun _ h9 => h9) rfl (by decide +kernel) rfl rfl (Nat.le_of_ble_eq_true rfl) dX7_seed_7 (fun H locs hP hD hS => ?_)
  have hP : va_P G vwCl (wX7 q cI cZ cO I A x1) H := hP
  have hD : va_D Z (wX7 q cI cZ cO I A x1) := hD
  refine lv_lload_n hx hb dX7_seed_10 rfl (lv_at hl 0 rfl) ?_
  have e9 := Option.some.inj hf
  exact fin H locs 11 ls _ (Prod.mk.inj e9).1 (by rw [← (Prod.mk.inj e9).2]; exact hP) hS dX7_seed_11
def fX7_allPurses_4s (N : Nat) (k_4 : (Nat → Int32) → (Nat → Nat → Int32) → Int32 → Int32 → Int32 → Option (Int32)) (I : Nat → Int32) (A : Nat → Nat → Int32) (u1 : Int32) (u2 : Int32) (u3 : Int32) : Option (Int32) := if (I 1) ≤ u3 then some u2 else (fX7_purseOf N I A u1 u3).bind fun z2 => k_4 I A u1 (u2 + z2) (u3 + 1)
def fX7_allPurses_4 (N : Nat) : Nat → (Nat → Int32) → (Nat → Nat → Int32) → Int32 → Int32 → Int32 → Option (Int32)
  | 0 => fun _ _ _ _ _ => none
  | n + 1 => fX7_allPurses_4s N (fX7_allPurses_4 N n)
def fX7_allPurses (N : Nat) (I : Nat → Int32) (A : Nat → Nat → Int32) (x1 : Int32) : Option (Int32) := fX7_allPurses_4 N N I A x1 0 0
def rmX7_allPurses : Room := { frames := 3, cells := 0, slots := 0, locals := 69 }
theorem mb_X7_allPurses : Cond.instanceMethod yX7_allPurses ∈ wsL_law ∧ Cond.selects RX7 yX7_allPurses yX7_allPurses ∈ wsL_law ∧ Cond.initialized RX7 ∈ wsL_law ∧ Cond.code yX7_allPurses cX7_allPurses 4 (some .int) ∈ wsL_law := ⟨(bg 36 4 rfl), (bg 36 5 rfl), (bg 0 5 rfl), (bg 36 6 rfl)⟩
theorem hd_X7_allPurses : yX7_allPurses.cls = RX7 ∧ yX7_allPurses.cls ≠ "java/lang/invoke/MethodHandle" ∧ yX7_allPurses.cls ≠ "java/lang/invoke/VarHandle" ∧ (parseMethodDescriptor yX7_allPurses.desc).map (fun d => d.parameters.length) = some 1 := by decide +kernel
set_option maxRecDepth 100000 in
set_option maxHeartbeats 4000000 in
theorem ct_X7_allPurses (N : Nat) (l : Launch) (G : va_G) (cI cZ cO : ClassId) (q : Nat → Nat) (I : Nat → Int32) (A : Nat → Nat → Int32) (L : Int64) (x1 : Int32) (r : Int32) (hf : fX7_allPurses N I A x1 = some r) : RtI l yX7_allPurses cX7_allPurses 4 .int rmX7_allPurses G cI cZ cO [.ref (q 0), .int x1] (wX7 q cI cZ cO I A L) r := by
  refine mkRI (by decide) (Nat.le_of_ble_eq_true rfl) ?_
  intro p e s m below meth cd Q hC hP hE fin ls hl
  obtain ⟨hx, hb, hml, hown, hts⟩ := hC
  have hown : s.vm.findClass RX7 = some m.cls := hown
  have hl : lv_has ls 4 [(0, .ref (q 0)), (1, .int x1)] := hl
  have b_4 : ∀ n : Nat, ∀ (u1 : Int32) (u2 : Int32) (u3 : Int32), ∀ ls : Array Slot, lv_has ls 4 [(0, .ref (q 0)), (1, .int u1), (2, .int u2), (3, .int u3)] → fX7_allPurses_4 N n I A u1 u2 u3 = some r → W p l e rmX7_allPurses s m [.ref (q 0), .int x1].toArray below meth cd s.heap [] 0 0 Q (F0 m 4 ls []) := by
    intro n
    induction n with
    | zero =>
      intro u1 u2 u3 ls hl hf
      cases hf
    | succ n hk_4 =>
      intro u1 u2 u3 ls hl hf
      replace hf : fX7_allPurses_4s N (fX7_allPurses_4 N n) I A u1 u2 u3 = some r := hf
      generalize fX7_allPurses_4 N n = k_4 at hf hk_4
      unfold fX7_allPurses_4s at hf
      refine lv_iload_n hx hb dX7_allPurses_4 rfl (lv_at hl 3 rfl) ?_
      refine lv_aload_n hx hb dX7_allPurses_5 rfl (lv_at hl 0 rfl) ?_
      refine va_get (D := G) (ci := 7) (v := .int ((I 1))) (C := RX7) (T := TX7) (N := 33) hx hb hts inlX7 hown hE.1 hP 0 rfl rfl 1 (by decide) (hts _ (bg 11 21 rfl)) (fun _ h9 => h9) rfl dX7_allPurses_6 ?_
      refine lv_icmp_ge (tgt := 27) hx hb dX7_allPurses_9 (by decide) (fun c1 => ?_) (fun c1 => ?_)
      · rw [if_pos c1] at hf
        refine lv_iload_n hx hb dX7_allPurses_27 rfl (lv_at hl 2 rfl) ?_
        have e9 := Option.some.inj hf
        exact fin 28 ls _ e9 (nar_i _) dX7_allPurses_28
      · rw [if_neg c1] at hf
        refine lv_iload_n hx hb dX7_allPurses_12 rfl (lv_at hl 2 rfl) ?_
        refine lv_aload_n hx hb dX7_allPurses_13 rfl (lv_at hl 0 rfl) ?_
        refine lv_iload_n hx hb dX7_allPurses_14 rfl (lv_at hl 1 rfl) ?_
        refine lv_iload_n hx hb dX7_allPurses_15 rfl (lv_at hl 3 rfl) ?_
        obtain ⟨z2, hz2, hf⟩ := bnd hf
        refine x_rdV (C := RX7) (n := 2) (ci := 7) hx hb hml hown hts hE (ct_X7_purseOf N l G cI cZ cO q I A L u1 u3 z2 hz2) (bg 24 4 rfl) mb_X7_purseOf.1 mb_X7_purseOf.2.1 mb_X7_purseOf.2.2.1 mb_X7_purseOf.2.2.2 hd_X7_purseOf rfl (by decide) hP rfl rfl rfl rfl hl.1 (Nat.le_of_ble_eq_true rfl) ⟨Nat.zero_le _, Nat.zero_le _⟩ dX7_allPurses_16 ?_
        refine lv_iadd hx hb dX7_allPurses_19 ?_
        refine lv_istore_n (lv' := [(2, .int (u2 + z2)), (0, .ref (q 0)), (1, .int u1), (3, .int u3)]) hx hb dX7_allPurses_20 rfl hl (by decide) rfl (fun ls hl => ?_)
        refine lv_iinc (v := u3 + 1) (lv' := [(3, .int (u3 + 1)), (2, .int (u2 + z2)), (0, .ref (q 0)), (1, .int u1)]) hx hb dX7_allPurses_21 hl (k := 3) rfl rfl (by decide) rfl (fun ls hl => ?_)
        refine lv_goto (tgt := 4) hx hb dX7_allPurses_24 (by decide) ?_
        exact hk_4 u1 (u2 + z2) (u3 + 1) ls (lv_sub hl [2, 3, 1, 0] rfl) hf
  unfold fX7_allPurses at hf
  refine lv_iconst (v := 0) hx hb dX7_allPurses_0 (by decide) ?_
  refine lv_istore_n (lv' := [(2, .int 0), (0, .ref (q 0)), (1, .int x1)]) hx hb dX7_allPurses_1 rfl hl (by decide) rfl (fun ls hl => ?_)
  refine lv_iconst (v := 0) hx hb dX7_allPurses_2 (by decide) ?_
  refine lv_istore_n (lv' := [(3, .int 0), (2, .int 0), (0, .ref (q 0)), (1, .int x1)]) hx hb dX7_allPurses_3 rfl hl (by decide) rfl (fun ls hl => ?_)
  exact b_4 N x1 0 0 ls (lv_sub hl [2, 3, 1, 0] rfl) hf
def fX7_weeks_21s (N : Nat) (k_21 : (Nat → Int32) → (Nat → Nat → Int32) → Int64 → Int32 → Int32 → Option (Int32 × (Nat → Nat → Int32) × Int64)) (I : Nat → Int32) (A : Nat → Nat → Int32) (L : Int64) (u1 : Int32) (u2 : Int32) : Option (Int32 × (Nat → Nat → Int32) × Int64) := if u1 ≤ u2 then (fX7_allPurses N I A 1).bind fun z2 => some (z2, A, L) else (fX7_sayTrial N I A ((Int64.toInt32 (remL (ushL ((L * 6364136223846793005) + 1442695040888963407) 33) 60)) / 10) (rem (Int64.toInt32 (remL (ushL ((L * 6364136223846793005) + 1442695040888963407) 33) 60)) 10)).bind fun z3 => (fX7_dawnOn N I z3.2 1).bind fun z4 => k_21 I z4.2 ((L * 6364136223846793005) + 1442695040888963407) u1 (u2 + 1)
def fX7_weeks_21 (N : Nat) : Nat → (Nat → Int32) → (Nat → Nat → Int32) → Int64 → Int32 → Int32 → Option (Int32 × (Nat → Nat → Int32) × Int64)
  | 0 => fun _ _ _ _ _ => none
  | n + 1 => fX7_weeks_21s N (fX7_weeks_21 N n)
def fX7_weeks (N : Nat) (I : Nat → Int32) (A : Nat → Nat → Int32) (L : Int64) (x1 : Int32) : Option (Int32 × (Nat → Nat → Int32) × Int64) := (fX7_in N (Int32.toInt64 x1) 1 20).bind fun z1 => if z1 = 0 then some ((-2), A, L) else (fX7_layTrial N A).bind fun z3 => fX7_weeks_21 N N I z3 L x1 0
def rmX7_weeks : Room := { frames := 4, cells := 0, slots := 0, locals := 92 }
theorem mb_X7_weeks : Cond.instanceMethod yX7_weeks ∈ wsL_law ∧ Cond.selects RX7 yX7_weeks yX7_weeks ∈ wsL_law ∧ Cond.initialized RX7 ∈ wsL_law ∧ Cond.code yX7_weeks cX7_weeks 4 (some .int) ∈ wsL_law := ⟨(bg 35 21 rfl), (bg 35 22 rfl), (bg 0 5 rfl), (bg 35 23 rfl)⟩
theorem hd_X7_weeks : yX7_weeks.cls = RX7 ∧ yX7_weeks.cls ≠ "java/lang/invoke/MethodHandle" ∧ yX7_weeks.cls ≠ "java/lang/invoke/VarHandle" ∧ (parseMethodDescriptor yX7_weeks.desc).map (fun d => d.parameters.length) = some 1 := by decide +kernel
set_option maxRecDepth 100000 in
set_option maxHeartbeats 4000000 in
theorem ct_X7_weeks (N : Nat) (l : Launch) (G : va_G) (cI cZ cO : ClassId) (q : Nat → Nat) (I : Nat → Int32) (A : Nat → Nat → Int32) (L : Int64) (x1 : Int32) (r : Int32) (Az : Nat → Nat → Int32) (Lz : Int64) (hf : fX7_weeks N I A L x1 = some (r, Az, Lz)) : CtI l yX7_weeks cX7_weeks 4 .int rmX7_weeks G cI cZ cO [.ref (q 0), .int x1] (wX7 q cI cZ cO I A L) (wX7 q cI cZ cO I Az Lz) r := by
  refine mkCI (by decide) (Nat.le_of_ble_eq_true rfl) ?_
  intro p e s m below meth cd Q Z hC hP hE hD hA fin ls hl
  obtain ⟨hx, hb, hml, hown, hts⟩ := hC
  have hown : s.vm.findClass RX7 = some m.cls := hown
  have hl : lv_has ls 4 [(0, .ref (q 0)), (1, .int x1)] := hl
  have b_21 : ∀ n : Nat, ∀ (A : Nat → Nat → Int32) (L : Int64) (u1 : Int32) (u2 : Int32), ∀ (H : Heap) (locs : List Loc), va_P G vwCl (wX7 q cI cZ cO I A L) H → va_D Z (wX7 q cI cZ cO I A L) → va_S Z s.heap H locs → ∀ ls : Array Slot, lv_has ls 4 [(0, .ref (q 0)), (1, .int u1), (2, .int u2)] → fX7_weeks_21 N n I A L u1 u2 = some (r, Az, Lz) → W p l e rmX7_weeks s m [.ref (q 0), .int x1].toArray below meth cd H locs 0 0 Q (F0 m 21 ls []) := by
    intro n
    induction n with
    | zero =>
      intro A L u1 u2 H locs hP hD hS ls hl hf
      cases hf
    | succ n hk_21 =>
      intro A L u1 u2 H locs hP hD hS ls hl hf
      replace hf : fX7_weeks_21s N (fX7_weeks_21 N n) I A L u1 u2 = some (r, Az, Lz) := hf
      generalize fX7_weeks_21 N n = k_21 at hf hk_21
      unfold fX7_weeks_21s at hf
      refine lv_iload_n hx hb dX7_weeks_21 rfl (lv_at hl 2 rfl) ?_
      refine lv_iload_n hx hb dX7_weeks_22 rfl (lv_at hl 1 rfl) ?_
      refine lv_icmp_ge (tgt := 80) hx hb dX7_weeks_23 (by decide) (fun c1 => ?_) (fun c1 => ?_)
      · rw [if_pos c1] at hf
        refine lv_aload_n hx hb dX7_weeks_80 rfl (lv_at hl 0 rfl) ?_
        refine lv_iconst (v := 1) hx hb dX7_weeks_81 (by decide) ?_
        obtain ⟨z2, hz2, hf⟩ := bnd hf
        refine x_rdV (C := RX7) (n := 1) (ci := 7) hx hb hml hown hts hE (ct_X7_allPurses N l G cI cZ cO q I A L 1 z2 hz2) (bg 36 3 rfl) mb_X7_allPurses.1 mb_X7_allPurses.2.1 mb_X7_allPurses.2.2.1 mb_X7_allPurses.2.2.2 hd_X7_allPurses rfl (by decide) hP rfl rfl rfl rfl hl.1 (Nat.le_of_ble_eq_true rfl) ⟨Nat.zero_le _, Nat.zero_le _⟩ dX7_weeks_82 ?_
        have e9 := Option.some.inj hf
        exact fin H locs 85 ls _ (Prod.mk.inj e9).1 (nar_i _) (by rw [← (Prod.mk.inj (Prod.mk.inj e9).2).1, ← (Prod.mk.inj (Prod.mk.inj e9).2).2]; exact hP) hS dX7_weeks_85
      · rw [if_neg c1] at hf
        refine lv_aload_n hx hb dX7_weeks_26 rfl (lv_at hl 0 rfl) ?_
        refine lv_aload_n hx hb dX7_weeks_27 rfl (lv_at hl 0 rfl) ?_
        refine va_get (D := G) (ci := 7) (v := .long L) (C := RX7) (T := TX7) (N := 33) hx hb hts inlX7 hown hE.1 hP 0 rfl rfl 30 (by decide) (hts _ (bg 35 8 rfl)) (fun _ h9 => h9) rfl dX7_weeks_28 ?_
        refine lv_ldc2 hx hb hown (hts _ (bg 36 0 rfl)) dX7_weeks_31 ?_
        refine lv_lmul hx hb dX7_weeks_34 ?_
        refine lv_ldc2 hx hb hown (hts _ (bg 36 1 rfl)) dX7_weeks_35 ?_
        refine lv_ladd hx hb dX7_weeks_38 ?_
        refine va_put (D := G) (ci := 7) (v := .long ((L * 6364136223846793005) + 1442695040888963407)) (ty := .long) (C := RX7) (T := TX7) (N := 33) hx hb hts inlX7 tyX7 tyX7_ok nmX7 hown hE.1 hP hD hS 0 rfl rfl 30 (by decide) (hts _ (bg 35 8 rfl)) (fun _ h9 => h9) rfl (by decide +kernel) rfl rfl (Nat.le_of_ble_eq_true rfl) dX7_weeks_39 (fun H locs hP hD hS => ?_)
        have hP : va_P G vwCl (wX7 q cI cZ cO I A ((L * 6364136223846793005) + 1442695040888963407)) H := hP
        have hD : va_D Z (wX7 q cI cZ cO I A ((L * 6364136223846793005) + 1442695040888963407)) := hD
        refine lv_aload_n hx hb dX7_weeks_42 rfl (lv_at hl 0 rfl) ?_
        refine va_get (D := G) (ci := 7) (v := .long ((L * 6364136223846793005) + 1442695040888963407)) (C := RX7) (T := TX7) (N := 33) hx hb hts inlX7 hown hE.1 hP 0 rfl rfl 30 (by decide) (hts _ (bg 35 8 rfl)) (fun _ h9 => h9) rfl dX7_weeks_43 ?_
        refine lv_bipush (v := 33) hx hb dX7_weeks_46 (by decide) ?_
        refine lv_lushr (v := ushL ((L * 6364136223846793005) + 1442695040888963407) 33) hx hb dX7_weeks_48 rfl ?_
        refine lv_ldc2 hx hb hown (hts _ (bg 36 2 rfl)) dX7_weeks_49 ?_
        refine x_lrem hx hb dX7_weeks_52 (by decide) ?_
        refine lv_l2i (v := Int64.toInt32 (remL (ushL ((L * 6364136223846793005) + 1442695040888963407) 33) 60)) hx hb dX7_weeks_53 rfl ?_
        refine lv_istore_n (lv' := [(3, .int (Int64.toInt32 (remL (ushL ((L * 6364136223846793005) + 1442695040888963407) 33) 60))), (0, .ref (q 0)), (1, .int u1), (2, .int u2)]) hx hb dX7_weeks_54 rfl hl (by decide) rfl (fun ls hl => ?_)
        refine lv_aload_n hx hb dX7_weeks_55 rfl (lv_at hl 1 rfl) ?_
        refine lv_iload_n hx hb dX7_weeks_56 rfl (lv_at hl 0 rfl) ?_
        refine lv_bipush (v := 10) hx hb dX7_weeks_57 (by decide) ?_
        refine lv_idiv hx hb dX7_weeks_59 (by decide) ?_
        refine lv_iload_n hx hb dX7_weeks_60 rfl (lv_at hl 0 rfl) ?_
        refine lv_bipush (v := 10) hx hb dX7_weeks_61 (by decide) ?_
        refine x_irem hx hb dX7_weeks_63 (by decide) ?_
        obtain ⟨z3, hz3, hf⟩ := bnd hf
        refine x_wwV (C := RX7) (n := 2) (ci := 7) hx hb hml hown hts hE (ct_X7_sayTrial N l G cI cZ cO q I A ((L * 6364136223846793005) + 1442695040888963407) ((Int64.toInt32 (remL (ushL ((L * 6364136223846793005) + 1442695040888963407) 33) 60)) / 10) (rem (Int64.toInt32 (remL (ushL ((L * 6364136223846793005) + 1442695040888963407) 33) 60)) 10) z3.1 z3.2 hz3) (bg 27 0 rfl) mb_X7_sayTrial.1 mb_X7_sayTrial.2.1 mb_X7_sayTrial.2.2.1 mb_X7_sayTrial.2.2.2 hd_X7_sayTrial rfl (by decide) hP hD hS hA rfl rfl rfl rfl rfl hl.1 (Nat.le_of_ble_eq_true rfl) ⟨Nat.zero_le _, Nat.zero_le _⟩ dX7_weeks_64 (fun H locs hP hD hS => ?_)
        have hP : va_P G vwCl (wX7 q cI cZ cO I z3.2 ((L * 6364136223846793005) + 1442695040888963407)) H := hP
        have hD : va_D Z (wX7 q cI cZ cO I z3.2 ((L * 6364136223846793005) + 1442695040888963407)) := hD
        refine lv_pop hx hb dX7_weeks_67 rfl ?_
        refine lv_aload_n hx hb dX7_weeks_68 rfl (lv_at hl 1 rfl) ?_
        refine lv_iconst (v := 1) hx hb dX7_weeks_69 (by decide) ?_
        obtain ⟨z4, hz4, hf⟩ := bnd hf
        refine x_wwV (C := RX7) (n := 1) (ci := 7) hx hb hml hown hts hE (ct_X7_dawnOn N l G cI cZ cO q I z3.2 ((L * 6364136223846793005) + 1442695040888963407) 1 z4.1 z4.2 hz4) (bg 17 7 rfl) mb_X7_dawnOn.1 mb_X7_dawnOn.2.1 mb_X7_dawnOn.2.2.1 mb_X7_dawnOn.2.2.2 hd_X7_dawnOn rfl (by decide) hP hD hS hA rfl rfl rfl rfl rfl hl.1 (Nat.le_of_ble_eq_true rfl) ⟨Nat.zero_le _, Nat.zero_le _⟩ dX7_weeks_70 (fun H locs hP hD hS => ?_)
        have hP : va_P G vwCl (wX7 q cI cZ cO I z4.2 ((L * 6364136223846793005) + 1442695040888963407)) H := hP
        have hD : va_D Z (wX7 q cI cZ cO I z4.2 ((L * 6364136223846793005) + 1442695040888963407)) := hD
        refine lv_pop hx hb dX7_weeks_73 rfl ?_
        refine lv_iinc (v := u2 + 1) (lv' := [(2, .int (u2 + 1)), (3, .int (Int64.toInt32 (remL (ushL ((L * 6364136223846793005) + 1442695040888963407) 33) 60))), (0, .ref (q 0)), (1, .int u1)]) hx hb dX7_weeks_74 hl (k := 3) rfl rfl (by decide) rfl (fun ls hl => ?_)
        refine lv_goto (tgt := 21) hx hb dX7_weeks_77 (by decide) ?_
        exact hk_21 z4.2 ((L * 6364136223846793005) + 1442695040888963407) u1 (u2 + 1) H locs hP hD hS ls (lv_sub hl [2, 3, 0] rfl) hf
  unfold fX7_weeks at hf
  have hS : va_S Z s.heap s.heap [] := va_S.rf
  obtain ⟨H, hH⟩ : ∃ H, H = s.heap := ⟨_, rfl⟩
  obtain ⟨locs, hlocs⟩ : ∃ locs : List Loc, locs = [] := ⟨_, rfl⟩
  rw [← hlocs]
  rw [← hlocs] at hS
  suffices hW : ∀ H : Heap, va_P G vwCl (wX7 q cI cZ cO I A L) H → va_S Z s.heap H locs → W p l e rmX7_weeks s m [.ref (q 0), .int x1].toArray below meth cd H locs 0 0 Q (F0 m 0 ls []) from hW s.heap hP hS
  clear hP hS hH H
  intro H hP hS
  refine lv_iload_n hx hb dX7_weeks_0 rfl (lv_at hl 1 rfl) ?_
  refine lv_i2l (v := Int32.toInt64 x1) hx hb dX7_weeks_1 rfl ?_
  refine lv_lconst (v := 1) hx hb dX7_weeks_2 (by decide) ?_
  refine lv_ldc2 hx hb hown (hts _ (bg 34 22 rfl)) dX7_weeks_3 ?_
  obtain ⟨z1, hz1, hf⟩ := bnd hf
  refine x_rdS (n := 3) hx hb hml hown hts hE (ct_X7_in N l G cI cZ cO (Int32.toInt64 x1) 1 20 z1 hz1) (bg 5 9 rfl) mb_X7_in.1 mb_X7_in.2.1 mb_X7_in.2.2 hd_X7_in rfl (by decide) va_P_nil rfl hl.1 (Nat.le_of_ble_eq_true rfl) ⟨Nat.zero_le _, Nat.zero_le _⟩ dX7_weeks_6 ?_
  refine lv_if_ne (tgt := 15) hx hb dX7_weeks_9 (by decide) (fun c2 => ?_) (fun c2 => ?_)
  · rw [if_neg c2] at hf
    refine lv_aload_n hx hb dX7_weeks_15 rfl (lv_at hl 0 rfl) ?_
    obtain ⟨z3, hz3, hf⟩ := bnd hf
    refine x_wwVv (C := RX7) (n := 0) (ci := 7) hx hb hml hown hts hE (ct_X7_layTrial N l G cI cZ cO q I A L z3 hz3) (bg 23 2 rfl) mb_X7_layTrial.1 mb_X7_layTrial.2.1 mb_X7_layTrial.2.2.1 mb_X7_layTrial.2.2.2 hd_X7_layTrial rfl (by decide) hP hD hS hA rfl rfl rfl rfl rfl hl.1 (Nat.le_of_ble_eq_true rfl) ⟨Nat.zero_le _, Nat.zero_le _⟩ dX7_weeks_16 (fun H locs hP hD hS => ?_)
    have hP : va_P G vwCl (wX7 q cI cZ cO I z3 L) H := hP
    have hD : va_D Z (wX7 q cI cZ cO I z3 L) := hD
    refine lv_iconst (v := 0) hx hb dX7_weeks_19 (by decide) ?_
    refine lv_istore_n (lv' := [(2, .int 0), (0, .ref (q 0)), (1, .int x1)]) hx hb dX7_weeks_20 rfl hl (by decide) rfl (fun ls hl => ?_)
    exact b_21 N z3 L x1 0 H locs hP hD hS ls (lv_sub hl [1, 2, 0] rfl) hf
  · rw [if_pos c2] at hf
    refine lv_bipush (v := (-2)) hx hb dX7_weeks_12 (by decide) ?_
    have e9 := Option.some.inj hf
    exact fin H locs 14 ls _ (Prod.mk.inj e9).1 (nar_i _) (by rw [← (Prod.mk.inj (Prod.mk.inj e9).2).1, ← (Prod.mk.inj (Prod.mk.inj e9).2).2]; exact hP) hS dX7_weeks_14
def fX7_keep_21s (N : Nat) (k_21 : (Nat → Nat → Int32) → Int32 → Int32 → Option (Int32 × (Nat → Nat → Int32))) (A : Nat → Nat → Int32) (u1 : Int32) (u2 : Int32) : Option (Int32 × (Nat → Nat → Int32)) := if 31 ≤ u2 then (rd 62 (A 5) 30).bind fun v2 => some (v2, A) else (rd 62 (A 5) u2).bind fun v3 => (wr 62 (A 21) ((31 * u1) + u2) v3).bind fun g4 => k_21 (va_up A 21 g4) u1 (u2 + 1)
def fX7_keep_21 (N : Nat) : Nat → (Nat → Nat → Int32) → Int32 → Int32 → Option (Int32 × (Nat → Nat → Int32))
  | 0 => fun _ _ _ => none
  | n + 1 => fX7_keep_21s N (fX7_keep_21 N n)
def fX7_keep (N : Nat) (A : Nat → Nat → Int32) (x1 : Int32) : Option (Int32 × (Nat → Nat → Int32)) := (fX7_in N (Int32.toInt64 x1) 0 1).bind fun z1 => if z1 = 0 then some ((-1), A) else (wrZ 2 (A 20) x1 1).bind fun g3 => fX7_keep_21 N N (va_up A 20 g3) x1 0
def rmX7_keep : Room := { frames := 1, cells := 0, slots := 0, locals := 25 }
theorem mb_X7_keep : Cond.instanceMethod yX7_keep ∈ wsL_law ∧ Cond.selects RX7 yX7_keep yX7_keep ∈ wsL_law ∧ Cond.initialized RX7 ∈ wsL_law ∧ Cond.code yX7_keep cX7_keep 3 (some .int) ∈ wsL_law := ⟨(bg 36 17 rfl), (bg 36 18 rfl), (bg 0 5 rfl), (bg 36 19 rfl)⟩
theorem hd_X7_keep : yX7_keep.cls = RX7 ∧ yX7_keep.cls ≠ "java/lang/invoke/MethodHandle" ∧ yX7_keep.cls ≠ "java/lang/invoke/VarHandle" ∧ (parseMethodDescriptor yX7_keep.desc).map (fun d => d.parameters.length) = some 1 := by decide +kernel
set_option maxRecDepth 100000 in
set_option maxHeartbeats 4000000 in
theorem ct_X7_keep (N : Nat) (l : Launch) (G : va_G) (cI cZ cO : ClassId) (q : Nat → Nat) (I : Nat → Int32) (A : Nat → Nat → Int32) (L : Int64) (x1 : Int32) (r : Int32) (Az : Nat → Nat → Int32) (hf : fX7_keep N A x1 = some (r, Az)) : CtI l yX7_keep cX7_keep 3 .int rmX7_keep G cI cZ cO [.ref (q 0), .int x1] (wX7 q cI cZ cO I A L) (wX7 q cI cZ cO I Az L) r := by
  refine mkCI (by decide) (Nat.le_of_ble_eq_true rfl) ?_
  intro p e s m below meth cd Q Z hC hP hE hD hA fin ls hl
  obtain ⟨hx, hb, hml, hown, hts⟩ := hC
  have hown : s.vm.findClass RX7 = some m.cls := hown
  have hl : lv_has ls 3 [(0, .ref (q 0)), (1, .int x1)] := hl
  have b_21 : ∀ n : Nat, ∀ (A : Nat → Nat → Int32) (u1 : Int32) (u2 : Int32), ∀ (H : Heap) (locs : List Loc), va_P G vwCl (wX7 q cI cZ cO I A L) H → va_D Z (wX7 q cI cZ cO I A L) → va_S Z s.heap H locs → ∀ ls : Array Slot, lv_has ls 3 [(0, .ref (q 0)), (1, .int u1), (2, .int u2)] → fX7_keep_21 N n A u1 u2 = some (r, Az) → W p l e rmX7_keep s m [.ref (q 0), .int x1].toArray below meth cd H locs 0 0 Q (F0 m 21 ls []) := by
    intro n
    induction n with
    | zero =>
      intro A u1 u2 H locs hP hD hS ls hl hf
      cases hf
    | succ n hk_21 =>
      intro A u1 u2 H locs hP hD hS ls hl hf
      replace hf : fX7_keep_21s N (fX7_keep_21 N n) A u1 u2 = some (r, Az) := hf
      generalize fX7_keep_21 N n = k_21 at hf hk_21
      unfold fX7_keep_21s at hf
      refine lv_iload_n hx hb dX7_keep_21 rfl (lv_at hl 2 rfl) ?_
      refine lv_bipush (v := 31) hx hb dX7_keep_22 (by decide) ?_
      refine lv_icmp_ge (tgt := 50) hx hb dX7_keep_24 (by decide) (fun c1 => ?_) (fun c1 => ?_)
      · rw [if_pos c1] at hf
        refine lv_aload_n hx hb dX7_keep_50 rfl (lv_at hl 0 rfl) ?_
        refine va_get (D := G) (ci := 7) (v := .ref (q 6)) (C := RX7) (T := TX7) (N := 33) hx hb hts inlX7 hown hE.1 hP 0 rfl rfl 7 (by decide) (hts _ (bg 3 19 rfl)) (fun _ h9 => h9) rfl dX7_keep_51 ?_
        refine lv_bipush (v := 30) hx hb dX7_keep_54 (by decide) ?_
        obtain ⟨v2, hv2, hf⟩ := bnd hf
        refine x_iald hx hb hE.1 hP 6 0 rfl rfl hv2 dX7_keep_56 ?_
        have e9 := Option.some.inj hf
        exact fin H locs 57 ls _ (Prod.mk.inj e9).1 (nar_i _) (by rw [← (Prod.mk.inj e9).2]; exact hP) hS dX7_keep_57
      · rw [if_neg c1] at hf
        refine lv_aload_n hx hb dX7_keep_27 rfl (lv_at hl 0 rfl) ?_
        refine va_get (D := G) (ci := 7) (v := .ref (q 22)) (C := RX7) (T := TX7) (N := 33) hx hb hts inlX7 hown hE.1 hP 0 rfl rfl 32 (by decide) (hts _ (bg 4 11 rfl)) (fun _ h9 => h9) rfl dX7_keep_28 ?_
        refine lv_bipush (v := 31) hx hb dX7_keep_31 (by decide) ?_
        refine lv_iload_n hx hb dX7_keep_33 rfl (lv_at hl 1 rfl) ?_
        refine lv_imul hx hb dX7_keep_34 ?_
        refine lv_iload_n hx hb dX7_keep_35 rfl (lv_at hl 2 rfl) ?_
        refine lv_iadd hx hb dX7_keep_36 ?_
        refine lv_aload_n hx hb dX7_keep_37 rfl (lv_at hl 0 rfl) ?_
        refine va_get (D := G) (ci := 7) (v := .ref (q 6)) (C := RX7) (T := TX7) (N := 33) hx hb hts inlX7 hown hE.1 hP 0 rfl rfl 7 (by decide) (hts _ (bg 3 19 rfl)) (fun _ h9 => h9) rfl dX7_keep_38 ?_
        refine lv_iload_n hx hb dX7_keep_41 rfl (lv_at hl 2 rfl) ?_
        obtain ⟨v3, hv3, hf⟩ := bnd hf
        refine x_iald hx hb hE.1 hP 6 0 rfl rfl hv3 dX7_keep_42 ?_
        obtain ⟨g4, hg4, hf⟩ := bnd hf
        refine x_iast hx hb hE.1 hP hD hS 22 0 rfl rfl hg4 dX7_keep_43 (fun H locs hP hD hS => ?_)
        have hP : va_P G vwCl (wX7 q cI cZ cO I (va_up A 21 g4) L) H := hP
        have hD : va_D Z (wX7 q cI cZ cO I (va_up A 21 g4) L) := hD
        refine lv_iinc (v := u2 + 1) (lv' := [(2, .int (u2 + 1)), (0, .ref (q 0)), (1, .int u1)]) hx hb dX7_keep_44 hl (k := 2) rfl rfl (by decide) rfl (fun ls hl => ?_)
        refine lv_goto (tgt := 21) hx hb dX7_keep_47 (by decide) ?_
        exact hk_21 (va_up A 21 g4) u1 (u2 + 1) H locs hP hD hS ls (lv_sub hl [1, 2, 0] rfl) hf
  unfold fX7_keep at hf
  have hS : va_S Z s.heap s.heap [] := va_S.rf
  obtain ⟨H, hH⟩ : ∃ H, H = s.heap := ⟨_, rfl⟩
  obtain ⟨locs, hlocs⟩ : ∃ locs : List Loc, locs = [] := ⟨_, rfl⟩
  rw [← hlocs]
  rw [← hlocs] at hS
  suffices hW : ∀ H : Heap, va_P G vwCl (wX7 q cI cZ cO I A L) H → va_S Z s.heap H locs → W p l e rmX7_keep s m [.ref (q 0), .int x1].toArray below meth cd H locs 0 0 Q (F0 m 0 ls []) from hW s.heap hP hS
  clear hP hS hH H
  intro H hP hS
  refine lv_iload_n hx hb dX7_keep_0 rfl (lv_at hl 1 rfl) ?_
  refine lv_i2l (v := Int32.toInt64 x1) hx hb dX7_keep_1 rfl ?_
  refine lv_lconst (v := 0) hx hb dX7_keep_2 (by decide) ?_
  refine lv_lconst (v := 1) hx hb dX7_keep_3 (by decide) ?_
  obtain ⟨z1, hz1, hf⟩ := bnd hf
  refine x_rdS (n := 3) hx hb hml hown hts hE (ct_X7_in N l G cI cZ cO (Int32.toInt64 x1) 0 1 z1 hz1) (bg 5 9 rfl) mb_X7_in.1 mb_X7_in.2.1 mb_X7_in.2.2 hd_X7_in rfl (by decide) va_P_nil rfl hl.1 (Nat.le_of_ble_eq_true rfl) ⟨Nat.zero_le _, Nat.zero_le _⟩ dX7_keep_4 ?_
  refine lv_if_ne (tgt := 12) hx hb dX7_keep_7 (by decide) (fun c2 => ?_) (fun c2 => ?_)
  · rw [if_neg c2] at hf
    refine lv_aload_n hx hb dX7_keep_12 rfl (lv_at hl 0 rfl) ?_
    refine va_get (D := G) (ci := 7) (v := .ref (q 21)) (C := RX7) (T := TX7) (N := 33) hx hb hts inlX7 hown hE.1 hP 0 rfl rfl 31 (by decide) (hts _ (bg 4 10 rfl)) (fun _ h9 => h9) rfl dX7_keep_13 ?_
    refine lv_iload_n hx hb dX7_keep_16 rfl (lv_at hl 1 rfl) ?_
    refine lv_iconst (v := 1) hx hb dX7_keep_17 (by decide) ?_
    obtain ⟨g3, hg3, hf⟩ := bnd hf
    refine x_zast hx hb hE.1 hP hD hS 21 1 rfl rfl hg3 dX7_keep_18 (fun H locs hP hD hS => ?_)
    have hP : va_P G vwCl (wX7 q cI cZ cO I (va_up A 20 g3) L) H := hP
    have hD : va_D Z (wX7 q cI cZ cO I (va_up A 20 g3) L) := hD
    refine lv_iconst (v := 0) hx hb dX7_keep_19 (by decide) ?_
    refine lv_istore_n (lv' := [(2, .int 0), (0, .ref (q 0)), (1, .int x1)]) hx hb dX7_keep_20 rfl hl (by decide) rfl (fun ls hl => ?_)
    exact b_21 N (va_up A 20 g3) x1 0 H locs hP hD hS ls (lv_sub hl [1, 2, 0] rfl) hf
  · rw [if_pos c2] at hf
    refine lv_iconst (v := (-1)) hx hb dX7_keep_10 (by decide) ?_
    have e9 := Option.some.inj hf
    exact fin H locs 11 ls _ (Prod.mk.inj e9).1 (nar_i _) (by rw [← (Prod.mk.inj e9).2]; exact hP) hS dX7_keep_11
def fX7_again_26s (N : Nat) (k_26 : (Nat → Int32) → (Nat → Nat → Int32) → Int32 → Int32 → Option (Int32 × (Nat → Int32) × (Nat → Nat → Int32))) (I : Nat → Int32) (A : Nat → Nat → Int32) (u1 : Int32) (u2 : Int32) : Option (Int32 × (Nat → Int32) × (Nat → Nat → Int32)) := if 31 ≤ u2 then (rd 62 (A 5) 30).bind fun v2 => some (v2, upd I 7 0, A) else (rd 62 (A 21) ((31 * u1) + u2)).bind fun v3 => (wr 62 (A 5) u2 v3).bind fun g4 => k_26 I (va_up A 5 g4) u1 (u2 + 1)
def fX7_again_26 (N : Nat) : Nat → (Nat → Int32) → (Nat → Nat → Int32) → Int32 → Int32 → Option (Int32 × (Nat → Int32) × (Nat → Nat → Int32))
  | 0 => fun _ _ _ _ => none
  | n + 1 => fX7_again_26s N (fX7_again_26 N n)
def fX7_again (N : Nat) (I : Nat → Int32) (A : Nat → Nat → Int32) (x1 : Int32) : Option (Int32 × (Nat → Int32) × (Nat → Nat → Int32)) := (fX7_in N (Int32.toInt64 x1) 0 1).bind fun z1 => if z1 = 0 then some ((-1), I, A) else (rd 2 (A 20) x1).bind fun v3 => if v3 = 0 then some ((-3), I, A) else fX7_again_26 N N I A x1 0
def rmX7_again : Room := { frames := 1, cells := 0, slots := 0, locals := 25 }
theorem mb_X7_again : Cond.instanceMethod yX7_again ∈ wsL_law ∧ Cond.selects RX7 yX7_again yX7_again ∈ wsL_law ∧ Cond.initialized RX7 ∈ wsL_law ∧ Cond.code yX7_again cX7_again 3 (some .int) ∈ wsL_law := ⟨(bg 37 1 rfl), (bg 37 2 rfl), (bg 0 5 rfl), (bg 37 3 rfl)⟩
theorem hd_X7_again : yX7_again.cls = RX7 ∧ yX7_again.cls ≠ "java/lang/invoke/MethodHandle" ∧ yX7_again.cls ≠ "java/lang/invoke/VarHandle" ∧ (parseMethodDescriptor yX7_again.desc).map (fun d => d.parameters.length) = some 1 := by decide +kernel
set_option maxRecDepth 100000 in
set_option maxHeartbeats 4000000 in
theorem ct_X7_again (N : Nat) (l : Launch) (G : va_G) (cI cZ cO : ClassId) (q : Nat → Nat) (I : Nat → Int32) (A : Nat → Nat → Int32) (L : Int64) (x1 : Int32) (r : Int32) (Iz : Nat → Int32) (Az : Nat → Nat → Int32) (hf : fX7_again N I A x1 = some (r, Iz, Az)) : CtI l yX7_again cX7_again 3 .int rmX7_again G cI cZ cO [.ref (q 0), .int x1] (wX7 q cI cZ cO I A L) (wX7 q cI cZ cO Iz Az L) r := by
  refine mkCI (by decide) (Nat.le_of_ble_eq_true rfl) ?_
  intro p e s m below meth cd Q Z hC hP hE hD hA fin ls hl
  obtain ⟨hx, hb, hml, hown, hts⟩ := hC
  have hown : s.vm.findClass RX7 = some m.cls := hown
  have hl : lv_has ls 3 [(0, .ref (q 0)), (1, .int x1)] := hl
  have b_26 : ∀ n : Nat, ∀ (I : Nat → Int32) (A : Nat → Nat → Int32) (u1 : Int32) (u2 : Int32), ∀ (H : Heap) (locs : List Loc), va_P G vwCl (wX7 q cI cZ cO I A L) H → va_D Z (wX7 q cI cZ cO I A L) → va_S Z s.heap H locs → ∀ ls : Array Slot, lv_has ls 3 [(0, .ref (q 0)), (1, .int u1), (2, .int u2)] → fX7_again_26 N n I A u1 u2 = some (r, Iz, Az) → W p l e rmX7_again s m [.ref (q 0), .int x1].toArray below meth cd H locs 0 0 Q (F0 m 26 ls []) := by
    intro n
    induction n with
    | zero =>
      intro I A u1 u2 H locs hP hD hS ls hl hf
      cases hf
    | succ n hk_26 =>
      intro I A u1 u2 H locs hP hD hS ls hl hf
      replace hf : fX7_again_26s N (fX7_again_26 N n) I A u1 u2 = some (r, Iz, Az) := hf
      generalize fX7_again_26 N n = k_26 at hf hk_26
      unfold fX7_again_26s at hf
      refine lv_iload_n hx hb dX7_again_26 rfl (lv_at hl 2 rfl) ?_
      refine lv_bipush (v := 31) hx hb dX7_again_27 (by decide) ?_
      refine lv_icmp_ge (tgt := 55) hx hb dX7_again_29 (by decide) (fun c1 => ?_) (fun c1 => ?_)
      · rw [if_pos c1] at hf
        refine lv_aload_n hx hb dX7_again_55 rfl (lv_at hl 0 rfl) ?_
        refine lv_iconst (v := 0) hx hb dX7_again_56 (by decide) ?_
        refine va_put (D := G) (ci := 7) (v := .int 0) (ty := .int) (C := RX7) (T := TX7) (N := 33) hx hb hts inlX7 tyX7 tyX7_ok nmX7 hown hE.1 hP hD hS 0 rfl rfl 20 (by decide) (hts _ (bg 11 22 rfl)) (fun _ h9 => h9) rfl (by decide +kernel) rfl rfl (Nat.le_of_ble_eq_true rfl) dX7_again_57 (fun H locs hP hD hS => ?_)
        have hP : va_P G vwCl (wX7 q cI cZ cO (upd I 7 0) A L) H := hP
        have hD : va_D Z (wX7 q cI cZ cO (upd I 7 0) A L) := hD
        refine lv_aload_n hx hb dX7_again_60 rfl (lv_at hl 0 rfl) ?_
        refine va_get (D := G) (ci := 7) (v := .ref (q 6)) (C := RX7) (T := TX7) (N := 33) hx hb hts inlX7 hown hE.1 hP 0 rfl rfl 7 (by decide) (hts _ (bg 3 19 rfl)) (fun _ h9 => h9) rfl dX7_again_61 ?_
        refine lv_bipush (v := 30) hx hb dX7_again_64 (by decide) ?_
        obtain ⟨v2, hv2, hf⟩ := bnd hf
        refine x_iald hx hb hE.1 hP 6 0 rfl rfl hv2 dX7_again_66 ?_
        have e9 := Option.some.inj hf
        exact fin H locs 67 ls _ (Prod.mk.inj e9).1 (nar_i _) (by rw [← (Prod.mk.inj (Prod.mk.inj e9).2).1, ← (Prod.mk.inj (Prod.mk.inj e9).2).2]; exact hP) hS dX7_again_67
      · rw [if_neg c1] at hf
        refine lv_aload_n hx hb dX7_again_32 rfl (lv_at hl 0 rfl) ?_
        refine va_get (D := G) (ci := 7) (v := .ref (q 6)) (C := RX7) (T := TX7) (N := 33) hx hb hts inlX7 hown hE.1 hP 0 rfl rfl 7 (by decide) (hts _ (bg 3 19 rfl)) (fun _ h9 => h9) rfl dX7_again_33 ?_
        refine lv_iload_n hx hb dX7_again_36 rfl (lv_at hl 2 rfl) ?_
        refine lv_aload_n hx hb dX7_again_37 rfl (lv_at hl 0 rfl) ?_
        refine va_get (D := G) (ci := 7) (v := .ref (q 22)) (C := RX7) (T := TX7) (N := 33) hx hb hts inlX7 hown hE.1 hP 0 rfl rfl 32 (by decide) (hts _ (bg 4 11 rfl)) (fun _ h9 => h9) rfl dX7_again_38 ?_
        refine lv_bipush (v := 31) hx hb dX7_again_41 (by decide) ?_
        refine lv_iload_n hx hb dX7_again_43 rfl (lv_at hl 1 rfl) ?_
        refine lv_imul hx hb dX7_again_44 ?_
        refine lv_iload_n hx hb dX7_again_45 rfl (lv_at hl 2 rfl) ?_
        refine lv_iadd hx hb dX7_again_46 ?_
        obtain ⟨v3, hv3, hf⟩ := bnd hf
        refine x_iald hx hb hE.1 hP 22 0 rfl rfl hv3 dX7_again_47 ?_
        obtain ⟨g4, hg4, hf⟩ := bnd hf
        refine x_iast hx hb hE.1 hP hD hS 6 0 rfl rfl hg4 dX7_again_48 (fun H locs hP hD hS => ?_)
        have hP : va_P G vwCl (wX7 q cI cZ cO I (va_up A 5 g4) L) H := hP
        have hD : va_D Z (wX7 q cI cZ cO I (va_up A 5 g4) L) := hD
        refine lv_iinc (v := u2 + 1) (lv' := [(2, .int (u2 + 1)), (0, .ref (q 0)), (1, .int u1)]) hx hb dX7_again_49 hl (k := 2) rfl rfl (by decide) rfl (fun ls hl => ?_)
        refine lv_goto (tgt := 26) hx hb dX7_again_52 (by decide) ?_
        exact hk_26 I (va_up A 5 g4) u1 (u2 + 1) H locs hP hD hS ls (lv_sub hl [1, 2, 0] rfl) hf
  unfold fX7_again at hf
  have hS : va_S Z s.heap s.heap [] := va_S.rf
  obtain ⟨H, hH⟩ : ∃ H, H = s.heap := ⟨_, rfl⟩
  obtain ⟨locs, hlocs⟩ : ∃ locs : List Loc, locs = [] := ⟨_, rfl⟩
  rw [← hlocs]
  rw [← hlocs] at hS
  suffices hW : ∀ H : Heap, va_P G vwCl (wX7 q cI cZ cO I A L) H → va_S Z s.heap H locs → W p l e rmX7_again s m [.ref (q 0), .int x1].toArray below meth cd H locs 0 0 Q (F0 m 0 ls []) from hW s.heap hP hS
  clear hP hS hH H
  intro H hP hS
  refine lv_iload_n hx hb dX7_again_0 rfl (lv_at hl 1 rfl) ?_
  refine lv_i2l (v := Int32.toInt64 x1) hx hb dX7_again_1 rfl ?_
  refine lv_lconst (v := 0) hx hb dX7_again_2 (by decide) ?_
  refine lv_lconst (v := 1) hx hb dX7_again_3 (by decide) ?_
  obtain ⟨z1, hz1, hf⟩ := bnd hf
  refine x_rdS (n := 3) hx hb hml hown hts hE (ct_X7_in N l G cI cZ cO (Int32.toInt64 x1) 0 1 z1 hz1) (bg 5 9 rfl) mb_X7_in.1 mb_X7_in.2.1 mb_X7_in.2.2 hd_X7_in rfl (by decide) va_P_nil rfl hl.1 (Nat.le_of_ble_eq_true rfl) ⟨Nat.zero_le _, Nat.zero_le _⟩ dX7_again_4 ?_
  refine lv_if_ne (tgt := 12) hx hb dX7_again_7 (by decide) (fun c2 => ?_) (fun c2 => ?_)
  · rw [if_neg c2] at hf
    refine lv_aload_n hx hb dX7_again_12 rfl (lv_at hl 0 rfl) ?_
    refine va_get (D := G) (ci := 7) (v := .ref (q 21)) (C := RX7) (T := TX7) (N := 33) hx hb hts inlX7 hown hE.1 hP 0 rfl rfl 31 (by decide) (hts _ (bg 4 10 rfl)) (fun _ h9 => h9) rfl dX7_again_13 ?_
    refine lv_iload_n hx hb dX7_again_16 rfl (lv_at hl 1 rfl) ?_
    obtain ⟨v3, hv3, hf⟩ := bnd hf
    refine x_zald hx hb hE.1 hP 21 1 rfl rfl hv3 dX7_again_17 ?_
    refine lv_if_ne (tgt := 24) hx hb dX7_again_18 (by decide) (fun c4 => ?_) (fun c4 => ?_)
    · rw [if_neg c4] at hf
      refine lv_iconst (v := 0) hx hb dX7_again_24 (by decide) ?_
      refine lv_istore_n (lv' := [(2, .int 0), (0, .ref (q 0)), (1, .int x1)]) hx hb dX7_again_25 rfl hl (by decide) rfl (fun ls hl => ?_)
      exact b_26 N I A x1 0 H locs hP hD hS ls (lv_sub hl [1, 2, 0] rfl) hf
    · rw [if_pos c4] at hf
      refine lv_bipush (v := (-3)) hx hb dX7_again_21 (by decide) ?_
      have e9 := Option.some.inj hf
      exact fin H locs 23 ls _ (Prod.mk.inj e9).1 (nar_i _) (by rw [← (Prod.mk.inj (Prod.mk.inj e9).2).1, ← (Prod.mk.inj (Prod.mk.inj e9).2).2]; exact hP) hS dX7_again_23
  · rw [if_pos c2] at hf
    refine lv_iconst (v := (-1)) hx hb dX7_again_10 (by decide) ?_
    have e9 := Option.some.inj hf
    exact fin H locs 11 ls _ (Prod.mk.inj e9).1 (nar_i _) (by rw [← (Prod.mk.inj (Prod.mk.inj e9).2).1, ← (Prod.mk.inj (Prod.mk.inj e9).2).2]; exact hP) hS dX7_again_11
def fX7_count_40s (N : Nat) (k_7 : (Nat → Int32) → (Nat → Nat → Int32) → Int32 → Int32 → Int32 → Int32 → Option (Int32)) (k_40 : (Nat → Int32) → (Nat → Nat → Int32) → Int32 → Int32 → Int32 → Int32 → Int32 → Option (Int32)) (I : Nat → Int32) (A : Nat → Nat → Int32) (u1 : Int32) (u2 : Int32) (u3 : Int32) (u4 : Int32) (u5 : Int32) : Option (Int32) := if (I 1) ≤ u5 then k_7 I A u1 u2 u3 (u4 + 1) else (fX7_coinAt N 0 u5 u4).bind fun z2 => (rd 62 (A 5) z2).bind fun v3 => k_40 I A u1 (u2 + v3) u3 u4 (u5 + 1)
def fX7_count_40 (N : Nat) (k_7 : (Nat → Int32) → (Nat → Nat → Int32) → Int32 → Int32 → Int32 → Int32 → Option (Int32)) : Nat → (Nat → Int32) → (Nat → Nat → Int32) → Int32 → Int32 → Int32 → Int32 → Int32 → Option (Int32)
  | 0 => fun _ _ _ _ _ _ _ => none
  | n + 1 => fX7_count_40s N k_7 (fX7_count_40 N k_7 n)
def fX7_count_35 (N : Nat) (k_7 : (Nat → Int32) → (Nat → Nat → Int32) → Int32 → Int32 → Int32 → Int32 → Option (Int32)) (I : Nat → Int32) (A : Nat → Nat → Int32) (u1 : Int32) (u2 : Int32) (u4 : Int32) (y0 : Int32) (y1 : Int32) : Option (Int32) := fX7_count_40 N k_7 N I A u1 u2 (y0 ||| y1) u4 0
def fX7_count_7s (N : Nat) (k_7 : (Nat → Int32) → (Nat → Nat → Int32) → Int32 → Int32 → Int32 → Int32 → Option (Int32)) (I : Nat → Int32) (A : Nat → Nat → Int32) (u1 : Int32) (u2 : Int32) (u3 : Int32) (u4 : Int32) : Option (Int32) := if (I 0) ≤ u4 then if u1 = 0 then some (I 4) else if u1 = 1 then some (I 0) else if u1 = 2 then some (I 1) else if u1 = 3 then (rd 62 (A 5) 30).bind fun v6 => some v6 else if u1 = 4 then some u2 else if u1 = 5 then (fX7_allPurses N I A 0).bind fun z9 => some z9 else if u1 = 6 then some u3 else if u1 = 7 then some (I 7) else if u1 = 8 then some (I 9) else some (-2) else (rd 62 (A 5) u4).bind fun v13 => if v13 = 0 then fX7_count_35 N k_7 I A u1 u2 u4 u3 0 else fX7_count_35 N k_7 I A u1 u2 u4 u3 (shl 1 u4)
def fX7_count_7 (N : Nat) : Nat → (Nat → Int32) → (Nat → Nat → Int32) → Int32 → Int32 → Int32 → Int32 → Option (Int32)
  | 0 => fun _ _ _ _ _ _ => none
  | n + 1 => fX7_count_7s N (fX7_count_7 N n)
def fX7_count (N : Nat) (I : Nat → Int32) (A : Nat → Nat → Int32) (x1 : Int32) : Option (Int32) := fX7_count_7 N N I A x1 0 0 0
def rmX7_count : Room := { frames := 4, cells := 0, slots := 0, locals := 92 }
theorem mb_X7_count : Cond.instanceMethod yX7_count ∈ wsL_law ∧ Cond.selects RX7 yX7_count yX7_count ∈ wsL_law ∧ Cond.initialized RX7 ∈ wsL_law ∧ Cond.code yX7_count cX7_count 6 (some .int) ∈ wsL_law := ⟨(bg 37 17 rfl), (bg 37 18 rfl), (bg 0 5 rfl), (bg 37 19 rfl)⟩
theorem hd_X7_count : yX7_count.cls = RX7 ∧ yX7_count.cls ≠ "java/lang/invoke/MethodHandle" ∧ yX7_count.cls ≠ "java/lang/invoke/VarHandle" ∧ (parseMethodDescriptor yX7_count.desc).map (fun d => d.parameters.length) = some 1 := by decide +kernel
set_option maxRecDepth 100000 in
set_option maxHeartbeats 4000000 in
theorem ct_X7_count (N : Nat) (l : Launch) (G : va_G) (cI cZ cO : ClassId) (q : Nat → Nat) (I : Nat → Int32) (A : Nat → Nat → Int32) (L : Int64) (x1 : Int32) (r : Int32) (hf : fX7_count N I A x1 = some r) : RtI l yX7_count cX7_count 6 .int rmX7_count G cI cZ cO [.ref (q 0), .int x1] (wX7 q cI cZ cO I A L) r := by
  refine mkRI (by decide) (Nat.le_of_ble_eq_true rfl) ?_
  intro p e s m below meth cd Q hC hP hE fin ls hl
  obtain ⟨hx, hb, hml, hown, hts⟩ := hC
  have hown : s.vm.findClass RX7 = some m.cls := hown
  have hl : lv_has ls 6 [(0, .ref (q 0)), (1, .int x1)] := hl
  have b_40 : ∀ (k_7 : (Nat → Int32) → (Nat → Nat → Int32) → Int32 → Int32 → Int32 → Int32 → Option (Int32)) (hk_7 : ∀ (u1 : Int32) (u2 : Int32) (u3 : Int32) (u4 : Int32), ∀ ls : Array Slot, lv_has ls 6 [(0, .ref (q 0)), (1, .int u1), (2, .int u2), (3, .int u3), (4, .int u4)] → k_7 I A u1 u2 u3 u4 = some r → W p l e rmX7_count s m [.ref (q 0), .int x1].toArray below meth cd s.heap [] 0 0 Q (F0 m 7 ls [])), ∀ n : Nat, ∀ (u1 : Int32) (u2 : Int32) (u3 : Int32) (u4 : Int32) (u5 : Int32), ∀ ls : Array Slot, lv_has ls 6 [(0, .ref (q 0)), (1, .int u1), (2, .int u2), (3, .int u3), (4, .int u4), (5, .int u5)] → fX7_count_40 N k_7 n I A u1 u2 u3 u4 u5 = some r → W p l e rmX7_count s m [.ref (q 0), .int x1].toArray below meth cd s.heap [] 0 0 Q (F0 m 40 ls []) := by
    intro k_7 hk_7
    intro n
    induction n with
    | zero =>
      intro u1 u2 u3 u4 u5 ls hl hf
      cases hf
    | succ n hk_40 =>
      intro u1 u2 u3 u4 u5 ls hl hf
      replace hf : fX7_count_40s N k_7 (fX7_count_40 N k_7 n) I A u1 u2 u3 u4 u5 = some r := hf
      generalize fX7_count_40 N k_7 n = k_40 at hf hk_40
      unfold fX7_count_40s at hf
      refine lv_iload hx hb dX7_count_40 (lv_at hl 5 rfl) ?_
      refine lv_aload_n hx hb dX7_count_42 rfl (lv_at hl 0 rfl) ?_
      refine va_get (D := G) (ci := 7) (v := .int ((I 1))) (C := RX7) (T := TX7) (N := 33) hx hb hts inlX7 hown hE.1 hP 0 rfl rfl 1 (by decide) (hts _ (bg 11 21 rfl)) (fun _ h9 => h9) rfl dX7_count_43 ?_
      refine lv_icmp_ge (tgt := 72) hx hb dX7_count_46 (by decide) (fun c1 => ?_) (fun c1 => ?_)
      · rw [if_pos c1] at hf
        refine lv_iinc (v := u4 + 1) (lv' := [(4, .int (u4 + 1)), (0, .ref (q 0)), (1, .int u1), (2, .int u2), (3, .int u3), (5, .int u5)]) hx hb dX7_count_72 hl (k := 4) rfl rfl (by decide) rfl (fun ls hl => ?_)
        refine lv_goto (tgt := 7) hx hb dX7_count_75 (by decide) ?_
        exact hk_7 u1 u2 u3 (u4 + 1) ls (lv_sub hl [1, 2, 3, 4, 0] rfl) hf
      · rw [if_neg c1] at hf
        refine lv_iload_n hx hb dX7_count_49 rfl (lv_at hl 2 rfl) ?_
        refine lv_aload_n hx hb dX7_count_50 rfl (lv_at hl 0 rfl) ?_
        refine va_get (D := G) (ci := 7) (v := .ref (q 6)) (C := RX7) (T := TX7) (N := 33) hx hb hts inlX7 hown hE.1 hP 0 rfl rfl 7 (by decide) (hts _ (bg 3 19 rfl)) (fun _ h9 => h9) rfl dX7_count_51 ?_
        refine lv_aload_n hx hb dX7_count_54 rfl (lv_at hl 0 rfl) ?_
        refine lv_iconst (v := 0) hx hb dX7_count_55 (by decide) ?_
        refine lv_iload hx hb dX7_count_56 (lv_at hl 5 rfl) ?_
        refine lv_iload hx hb dX7_count_58 (lv_at hl 4 rfl) ?_
        obtain ⟨z2, hz2, hf⟩ := bnd hf
        refine x_rdV (C := RX7) (n := 3) (ci := 7) hx hb hml hown hts hE (ct_X7_coinAt N l G cI cZ cO q I A L 0 u5 u4 z2 hz2) (bg 14 19 rfl) mb_X7_coinAt.1 mb_X7_coinAt.2.1 mb_X7_coinAt.2.2.1 mb_X7_coinAt.2.2.2 hd_X7_coinAt rfl (by decide) hP rfl rfl rfl rfl hl.1 (Nat.le_of_ble_eq_true rfl) ⟨Nat.zero_le _, Nat.zero_le _⟩ dX7_count_60 ?_
        obtain ⟨v3, hv3, hf⟩ := bnd hf
        refine x_iald hx hb hE.1 hP 6 0 rfl rfl hv3 dX7_count_63 ?_
        refine lv_iadd hx hb dX7_count_64 ?_
        refine lv_istore_n (lv' := [(2, .int (u2 + v3)), (0, .ref (q 0)), (1, .int u1), (3, .int u3), (4, .int u4), (5, .int u5)]) hx hb dX7_count_65 rfl hl (by decide) rfl (fun ls hl => ?_)
        refine lv_iinc (v := u5 + 1) (lv' := [(5, .int (u5 + 1)), (2, .int (u2 + v3)), (0, .ref (q 0)), (1, .int u1), (3, .int u3), (4, .int u4)]) hx hb dX7_count_66 hl (k := 5) rfl rfl (by decide) rfl (fun ls hl => ?_)
        refine lv_goto (tgt := 40) hx hb dX7_count_69 (by decide) ?_
        exact hk_40 u1 (u2 + v3) u3 u4 (u5 + 1) ls (lv_sub hl [2, 3, 1, 4, 5, 0] rfl) hf
  have b_35 : ∀ (k_7 : (Nat → Int32) → (Nat → Nat → Int32) → Int32 → Int32 → Int32 → Int32 → Option (Int32)) (hk_7 : ∀ (u1 : Int32) (u2 : Int32) (u3 : Int32) (u4 : Int32), ∀ ls : Array Slot, lv_has ls 6 [(0, .ref (q 0)), (1, .int u1), (2, .int u2), (3, .int u3), (4, .int u4)] → k_7 I A u1 u2 u3 u4 = some r → W p l e rmX7_count s m [.ref (q 0), .int x1].toArray below meth cd s.heap [] 0 0 Q (F0 m 7 ls [])), ∀ (u1 : Int32) (u2 : Int32) (u4 : Int32) (y0 : Int32) (y1 : Int32), ∀ ls : Array Slot, lv_has ls 6 [(0, .ref (q 0)), (1, .int u1), (2, .int u2), (4, .int u4)] → fX7_count_35 N k_7 I A u1 u2 u4 y0 y1 = some r → W p l e rmX7_count s m [.ref (q 0), .int x1].toArray below meth cd s.heap [] 0 0 Q (F0 m 35 ls [.int y1, .int y0]) := by
    intro k_7 hk_7 u1 u2 u4 y0 y1 ls hl hf
    unfold fX7_count_35 at hf
    refine lv_ior hx hb dX7_count_35 ?_
    refine lv_istore_n (lv' := [(3, .int (y0 ||| y1)), (0, .ref (q 0)), (1, .int u1), (2, .int u2), (4, .int u4)]) hx hb dX7_count_36 rfl hl (by decide) rfl (fun ls hl => ?_)
    refine lv_iconst (v := 0) hx hb dX7_count_37 (by decide) ?_
    refine lv_istore (lv' := [(5, .int 0), (3, .int (y0 ||| y1)), (0, .ref (q 0)), (1, .int u1), (2, .int u2), (4, .int u4)]) hx hb dX7_count_38 hl (by decide) rfl (fun ls hl => ?_)
    exact b_40 k_7 hk_7 N u1 u2 (y0 ||| y1) u4 0 ls (lv_sub hl [2, 3, 4, 1, 5, 0] rfl) hf
  have b_7 : ∀ n : Nat, ∀ (u1 : Int32) (u2 : Int32) (u3 : Int32) (u4 : Int32), ∀ ls : Array Slot, lv_has ls 6 [(0, .ref (q 0)), (1, .int u1), (2, .int u2), (3, .int u3), (4, .int u4)] → fX7_count_7 N n I A u1 u2 u3 u4 = some r → W p l e rmX7_count s m [.ref (q 0), .int x1].toArray below meth cd s.heap [] 0 0 Q (F0 m 7 ls []) := by
    intro n
    induction n with
    | zero =>
      intro u1 u2 u3 u4 ls hl hf
      cases hf
    | succ n hk_7 =>
      intro u1 u2 u3 u4 ls hl hf
      replace hf : fX7_count_7s N (fX7_count_7 N n) I A u1 u2 u3 u4 = some r := hf
      generalize fX7_count_7 N n = k_7 at hf hk_7
      unfold fX7_count_7s at hf
      refine lv_iload hx hb dX7_count_7 (lv_at hl 4 rfl) ?_
      refine lv_aload_n hx hb dX7_count_9 rfl (lv_at hl 0 rfl) ?_
      refine va_get (D := G) (ci := 7) (v := .int ((I 0))) (C := RX7) (T := TX7) (N := 33) hx hb hts inlX7 hown hE.1 hP 0 rfl rfl 0 (by decide) (hts _ (bg 4 12 rfl)) (fun _ h9 => h9) rfl dX7_count_10 ?_
      refine lv_icmp_ge (tgt := 78) hx hb dX7_count_13 (by decide) (fun c1 => ?_) (fun c1 => ?_)
      · rw [if_pos c1] at hf
        refine lv_iload_n hx hb dX7_count_78 rfl (lv_at hl 1 rfl) ?_
        by_cases c2 : u1 = 0
        · rw [if_pos c2] at hf
          refine x_tsw (tgt := 128) hx hb c2 dX7_count_79 (by decide) (by decide) rfl (by decide) ?_
          refine lv_aload_n hx hb dX7_count_128 rfl (lv_at hl 0 rfl) ?_
          refine va_get (D := G) (ci := 7) (v := .int ((I 4))) (C := RX7) (T := TX7) (N := 33) hx hb hts inlX7 hown hE.1 hP 0 rfl rfl 17 (by decide) (hts _ (bg 5 8 rfl)) (fun _ h9 => h9) rfl dX7_count_129 ?_
          have e9 := Option.some.inj hf
          exact fin 132 ls _ e9 (nar_i _) dX7_count_132
        · rw [if_neg c2] at hf
          by_cases c3 : u1 = 1
          · rw [if_pos c3] at hf
            refine x_tsw (tgt := 133) hx hb c3 dX7_count_79 (by decide) (by decide) rfl (by decide) ?_
            refine lv_aload_n hx hb dX7_count_133 rfl (lv_at hl 0 rfl) ?_
            refine va_get (D := G) (ci := 7) (v := .int ((I 0))) (C := RX7) (T := TX7) (N := 33) hx hb hts inlX7 hown hE.1 hP 0 rfl rfl 0 (by decide) (hts _ (bg 4 12 rfl)) (fun _ h9 => h9) rfl dX7_count_134 ?_
            have e9 := Option.some.inj hf
            exact fin 137 ls _ e9 (nar_i _) dX7_count_137
          · rw [if_neg c3] at hf
            by_cases c4 : u1 = 2
            · rw [if_pos c4] at hf
              refine x_tsw (tgt := 138) hx hb c4 dX7_count_79 (by decide) (by decide) rfl (by decide) ?_
              refine lv_aload_n hx hb dX7_count_138 rfl (lv_at hl 0 rfl) ?_
              refine va_get (D := G) (ci := 7) (v := .int ((I 1))) (C := RX7) (T := TX7) (N := 33) hx hb hts inlX7 hown hE.1 hP 0 rfl rfl 1 (by decide) (hts _ (bg 11 21 rfl)) (fun _ h9 => h9) rfl dX7_count_139 ?_
              have e9 := Option.some.inj hf
              exact fin 142 ls _ e9 (nar_i _) dX7_count_142
            · rw [if_neg c4] at hf
              by_cases c5 : u1 = 3
              · rw [if_pos c5] at hf
                refine x_tsw (tgt := 143) hx hb c5 dX7_count_79 (by decide) (by decide) rfl (by decide) ?_
                refine lv_aload_n hx hb dX7_count_143 rfl (lv_at hl 0 rfl) ?_
                refine va_get (D := G) (ci := 7) (v := .ref (q 6)) (C := RX7) (T := TX7) (N := 33) hx hb hts inlX7 hown hE.1 hP 0 rfl rfl 7 (by decide) (hts _ (bg 3 19 rfl)) (fun _ h9 => h9) rfl dX7_count_144 ?_
                refine lv_bipush (v := 30) hx hb dX7_count_147 (by decide) ?_
                obtain ⟨v6, hv6, hf⟩ := bnd hf
                refine x_iald hx hb hE.1 hP 6 0 rfl rfl hv6 dX7_count_149 ?_
                have e9 := Option.some.inj hf
                exact fin 150 ls _ e9 (nar_i _) dX7_count_150
              · rw [if_neg c5] at hf
                by_cases c7 : u1 = 4
                · rw [if_pos c7] at hf
                  refine x_tsw (tgt := 151) hx hb c7 dX7_count_79 (by decide) (by decide) rfl (by decide) ?_
                  refine lv_iload_n hx hb dX7_count_151 rfl (lv_at hl 2 rfl) ?_
                  have e9 := Option.some.inj hf
                  exact fin 152 ls _ e9 (nar_i _) dX7_count_152
                · rw [if_neg c7] at hf
                  by_cases c8 : u1 = 5
                  · rw [if_pos c8] at hf
                    refine x_tsw (tgt := 153) hx hb c8 dX7_count_79 (by decide) (by decide) rfl (by decide) ?_
                    refine lv_aload_n hx hb dX7_count_153 rfl (lv_at hl 0 rfl) ?_
                    refine lv_iconst (v := 0) hx hb dX7_count_154 (by decide) ?_
                    obtain ⟨z9, hz9, hf⟩ := bnd hf
                    refine x_rdV (C := RX7) (n := 1) (ci := 7) hx hb hml hown hts hE (ct_X7_allPurses N l G cI cZ cO q I A L 0 z9 hz9) (bg 36 3 rfl) mb_X7_allPurses.1 mb_X7_allPurses.2.1 mb_X7_allPurses.2.2.1 mb_X7_allPurses.2.2.2 hd_X7_allPurses rfl (by decide) hP rfl rfl rfl rfl hl.1 (Nat.le_of_ble_eq_true rfl) ⟨Nat.zero_le _, Nat.zero_le _⟩ dX7_count_155 ?_
                    have e9 := Option.some.inj hf
                    exact fin 158 ls _ e9 (nar_i _) dX7_count_158
                  · rw [if_neg c8] at hf
                    by_cases c10 : u1 = 6
                    · rw [if_pos c10] at hf
                      refine x_tsw (tgt := 159) hx hb c10 dX7_count_79 (by decide) (by decide) rfl (by decide) ?_
                      refine lv_iload_n hx hb dX7_count_159 rfl (lv_at hl 3 rfl) ?_
                      have e9 := Option.some.inj hf
                      exact fin 160 ls _ e9 (nar_i _) dX7_count_160
                    · rw [if_neg c10] at hf
                      by_cases c11 : u1 = 7
                      · rw [if_pos c11] at hf
                        refine x_tsw (tgt := 161) hx hb c11 dX7_count_79 (by decide) (by decide) rfl (by decide) ?_
                        refine lv_aload_n hx hb dX7_count_161 rfl (lv_at hl 0 rfl) ?_
                        refine va_get (D := G) (ci := 7) (v := .int ((I 7))) (C := RX7) (T := TX7) (N := 33) hx hb hts inlX7 hown hE.1 hP 0 rfl rfl 20 (by decide) (hts _ (bg 11 22 rfl)) (fun _ h9 => h9) rfl dX7_count_162 ?_
                        have e9 := Option.some.inj hf
                        exact fin 165 ls _ e9 (nar_i _) dX7_count_165
                      · rw [if_neg c11] at hf
                        by_cases c12 : u1 = 8
                        · rw [if_pos c12] at hf
                          refine x_tsw (tgt := 166) hx hb c12 dX7_count_79 (by decide) (by decide) rfl (by decide) ?_
                          refine lv_aload_n hx hb dX7_count_166 rfl (lv_at hl 0 rfl) ?_
                          refine va_get (D := G) (ci := 7) (v := .int ((I 9))) (C := RX7) (T := TX7) (N := 33) hx hb hts inlX7 hown hE.1 hP 0 rfl rfl 23 (by decide) (hts _ (bg 30 6 rfl)) (fun _ h9 => h9) rfl dX7_count_167 ?_
                          have e9 := Option.some.inj hf
                          exact fin 170 ls _ e9 (nar_i _) dX7_count_170
                        · rw [if_neg c12] at hf
                          refine lv_tableOut (tgt := 171) hx hb dX7_count_79 (by have tc2 := lv_neT (a := 0) c2 (by decide); have tc3 := lv_neT (a := 1) c3 (by decide); have tc4 := lv_neT (a := 2) c4 (by decide); have tc5 := lv_neT (a := 3) c5 (by decide); have tc7 := lv_neT (a := 4) c7 (by decide); have tc8 := lv_neT (a := 5) c8 (by decide); have tc10 := lv_neT (a := 6) c10 (by decide); have tc11 := lv_neT (a := 7) c11 (by decide); have tc12 := lv_neT (a := 8) c12 (by decide); omega) (by decide) ?_
                          refine lv_bipush (v := (-2)) hx hb dX7_count_171 (by decide) ?_
                          have e9 := Option.some.inj hf
                          exact fin 173 ls _ e9 (nar_i _) dX7_count_173
      · rw [if_neg c1] at hf
        refine lv_iload_n hx hb dX7_count_16 rfl (lv_at hl 3 rfl) ?_
        refine lv_aload_n hx hb dX7_count_17 rfl (lv_at hl 0 rfl) ?_
        refine va_get (D := G) (ci := 7) (v := .ref (q 6)) (C := RX7) (T := TX7) (N := 33) hx hb hts inlX7 hown hE.1 hP 0 rfl rfl 7 (by decide) (hts _ (bg 3 19 rfl)) (fun _ h9 => h9) rfl dX7_count_18 ?_
        refine lv_iload hx hb dX7_count_21 (lv_at hl 4 rfl) ?_
        obtain ⟨v13, hv13, hf⟩ := bnd hf
        refine x_iald hx hb hE.1 hP 6 0 rfl rfl hv13 dX7_count_23 ?_
        refine lv_if_eq (tgt := 34) hx hb dX7_count_24 (by decide) (fun c14 => ?_) (fun c14 => ?_)
        · rw [if_pos c14] at hf
          refine lv_iconst (v := 0) hx hb dX7_count_34 (by decide) ?_
          exact b_35 k_7 hk_7 u1 u2 u4 u3 0 ls (lv_sub hl [0, 1, 2, 4] rfl) hf
        · rw [if_neg c14] at hf
          refine lv_iconst (v := 1) hx hb dX7_count_27 (by decide) ?_
          refine lv_iload hx hb dX7_count_28 (lv_at hl 4 rfl) ?_
          refine x_ishl hx hb dX7_count_30 ?_
          refine lv_goto (tgt := 35) hx hb dX7_count_31 (by decide) ?_
          exact b_35 k_7 hk_7 u1 u2 u4 u3 (shl 1 u4) ls (lv_sub hl [0, 1, 2, 4] rfl) hf
  unfold fX7_count at hf
  refine lv_iconst (v := 0) hx hb dX7_count_0 (by decide) ?_
  refine lv_istore_n (lv' := [(2, .int 0), (0, .ref (q 0)), (1, .int x1)]) hx hb dX7_count_1 rfl hl (by decide) rfl (fun ls hl => ?_)
  refine lv_iconst (v := 0) hx hb dX7_count_2 (by decide) ?_
  refine lv_istore_n (lv' := [(3, .int 0), (2, .int 0), (0, .ref (q 0)), (1, .int x1)]) hx hb dX7_count_3 rfl hl (by decide) rfl (fun ls hl => ?_)
  refine lv_iconst (v := 0) hx hb dX7_count_4 (by decide) ?_
  refine lv_istore (lv' := [(4, .int 0), (3, .int 0), (2, .int 0), (0, .ref (q 0)), (1, .int x1)]) hx hb dX7_count_5 hl (by decide) rfl (fun ls hl => ?_)
  exact b_7 N x1 0 0 0 ls (lv_sub hl [3, 4, 2, 1, 0] rfl) hf
