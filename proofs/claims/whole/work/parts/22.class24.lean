def fX6_seed (N : Nat) (L : Int64) (x1 : Int64) : Option (Int64 × Int64) := some (L, x1)
def rmX6_seed : Room := { frames := 0, cells := 0, slots := 0, locals := 0 }
theorem mb_X6_seed : Cond.instanceMethod yX6_seed ∈ wsL_law ∧ Cond.selects RX6 yX6_seed yX6_seed ∈ wsL_law ∧ Cond.initialized RX6 ∈ wsL_law ∧ Cond.code yX6_seed cX6_seed 5 (some .long) ∈ wsL_law := ⟨(bg 35 0 rfl), (bg 35 1 rfl), (bg 0 2 rfl), (bg 35 2 rfl)⟩
theorem hd_X6_seed : yX6_seed.cls = RX6 ∧ yX6_seed.cls ≠ "java/lang/invoke/MethodHandle" ∧ yX6_seed.cls ≠ "java/lang/invoke/VarHandle" ∧ (parseMethodDescriptor yX6_seed.desc).map (fun d => d.parameters.length) = some 1 := by decide +kernel
set_option maxRecDepth 100000 in
set_option maxHeartbeats 4000000 in
theorem ct_X6_seed (N : Nat) (l : Launch) (G : va_G) (cI cZ cO : ClassId) (q : Nat → Nat) (A : Nat → Nat → Int32) (L : Int64) (rI : Nat → Int32) (rA : Nat → Nat → Int32) (tI : Nat → Int32) (tA : Nat → Nat → Int32) (dI : Nat → Int32) (dA : Nat → Nat → Int32) (wI : Nat → Int32) (wA : Nat → Nat → Int32) (uI : Nat → Int32) (uA : Nat → Nat → Int32) (aI : Nat → Int32) (aS : Nat → Nat → Int32) (aT : Nat → Nat → Nat → Int32) (eI : Nat → Int32) (eA : Nat → Nat → Int32) (sS : Nat → Nat → Int32) (sT : Nat → Nat → Nat → Int32) (bI : Nat → Int32) (x1 : Int64) (r : Int64) (Lz : Int64) (hf : fX6_seed N L x1 = some (r, Lz)) : CtL l yX6_seed cX6_seed 5 rmX6_seed G cI cZ cO [.ref (q 0), .long x1] (wX6 q cI cZ cO A L rI rA tI tA dI dA wI wA uI uA aI aS aT eI eA sS sT bI) (wX6 q cI cZ cO A Lz rI rA tI tA dI dA wI wA uI uA aI aS aT eI eA sS sT bI) r := by
  refine mkCL (by decide) (Nat.le_of_ble_eq_true rfl) ?_
  intro p e s m below meth cd Q Z hC hP hE hD hA fin ls hl
  obtain ⟨hx, hb, hml, hown, hts⟩ := hC
  have hown : s.vm.findClass RX6 = some m.cls := hown
  have hl : lv_has ls 5 [(0, .ref (q 0)), (1, .long x1)] := hl
  unfold fX6_seed at hf
  have hS : va_S Z s.heap s.heap [] := va_S.rf
  obtain ⟨H, hH⟩ : ∃ H, H = s.heap := ⟨_, rfl⟩
  obtain ⟨locs, hlocs⟩ : ∃ locs : List Loc, locs = [] := ⟨_, rfl⟩
  rw [← hlocs]
  rw [← hlocs] at hS
  suffices hW : ∀ H : Heap, va_P G vwCl (wX6 q cI cZ cO A L rI rA tI tA dI dA wI wA uI uA aI aS aT eI eA sS sT bI) H → va_S Z s.heap H locs → W p l e rmX6_seed s m [.ref (q 0), .long x1].toArray below meth cd H locs 0 0 Q (F0 m 0 ls []) from hW s.heap hP hS
  clear hP hS hH H
  intro H hP hS
  refine lv_aload_n hx hb dX6_seed_0 rfl (lv_at hl 0 rfl) ?_
  refine va_get (D := G) (ci := 6) (v := .long L) (C := RX6) (T := TX6) (N := 15) hx hb hts inlX6 hown hE.1 hP 0 rfl rfl 14 (by decide) (hts _ (bg 35 3 rfl)) (fun _ h9 => h9) rfl dX6_seed_1 ?_
  refine lv_lstore_n (lv' := [(3, .long L), (0, .ref (q 0)), (1, .long x1)]) hx hb dX6_seed_4 rfl hl (by decide) rfl (fun ls hl => ?_)
  refine lv_aload_n hx hb dX6_seed_5 rfl (lv_at hl 1 rfl) ?_
  refine lv_lload_n hx hb dX6_seed_6 rfl (lv_at hl 2 rfl) ?_
  refine va_put (D := G) (ci := 6) (v := .long x1) (ty := .long) (C := RX6) (T := TX6) (N := 15) hx hb hts inlX6 tyX6 tyX6_ok nmX6 hown hE.1 hP hD hS 0 rfl rfl 14 (by decide) (hts _ (bg 35 3 rfl)) (fun _ h9 => h9) rfl (by decide +kernel) rfl rfl (Nat.le_of_ble_eq_true rfl) dX6_seed_7 (fun H locs hP hD hS => ?_)
  have hP : va_P G vwCl (wX6 q cI cZ cO A x1 rI rA tI tA dI dA wI wA uI uA aI aS aT eI eA sS sT bI) H := hP
  have hD : va_D Z (wX6 q cI cZ cO A x1 rI rA tI tA dI dA wI wA uI uA aI aS aT eI eA sS sT bI) := hD
  refine lv_lload_n hx hb dX6_seed_10 rfl (lv_at hl 0 rfl) ?_
  have e9 := Option.some.inj hf
  exact fin H locs 11 ls _ (Prod.mk.inj e9).1 (by rw [← (Prod.mk.inj e9).2]; exact hP) hS dX6_seed_11
def fX4_valueOfPurses_4s (N : Nat) (k_4 : (Nat → Int32) → (Nat → Nat → Int32) → (Nat → Int32) → (Nat → Nat → Int32) → Int32 → Int32 → Option (Int32)) (I : Nat → Int32) (A : Nat → Nat → Int32) (I1 : Nat → Int32) (A1 : Nat → Nat → Int32) (u2 : Int32) (u3 : Int32) : Option (Int32) := if (I1 1) ≤ u3 then some u2 else (fX4_valueOfSet N I A I1 A1 u3 31).bind fun z2 => k_4 I A I1 A1 (u2 + z2) (u3 + 1)
def fX4_valueOfPurses_4 (N : Nat) : Nat → (Nat → Int32) → (Nat → Nat → Int32) → (Nat → Int32) → (Nat → Nat → Int32) → Int32 → Int32 → Option (Int32)
  | 0 => fun _ _ _ _ _ _ => none
  | n + 1 => fX4_valueOfPurses_4s N (fX4_valueOfPurses_4 N n)
def fX4_valueOfPurses (N : Nat) (I : Nat → Int32) (A : Nat → Nat → Int32) (I1 : Nat → Int32) (A1 : Nat → Nat → Int32) : Option (Int32) := fX4_valueOfPurses_4 N N I A I1 A1 0 0
def rmX4_valueOfPurses : Room := { frames := 5, cells := 0, slots := 0, locals := 132 }
theorem mb_X4_valueOfPurses : Cond.instanceMethod yX4_valueOfPurses ∈ wsL_law ∧ Cond.selects RX4 yX4_valueOfPurses yX4_valueOfPurses ∈ wsL_law ∧ Cond.initialized RX4 ∈ wsL_law ∧ Cond.code yX4_valueOfPurses cX4_valueOfPurses 4 (some .int) ∈ wsL_law := ⟨(bg 35 16 rfl), (bg 35 17 rfl), (bg 1 0 rfl), (bg 35 18 rfl)⟩
theorem hd_X4_valueOfPurses : yX4_valueOfPurses.cls = RX4 ∧ yX4_valueOfPurses.cls ≠ "java/lang/invoke/MethodHandle" ∧ yX4_valueOfPurses.cls ≠ "java/lang/invoke/VarHandle" ∧ (parseMethodDescriptor yX4_valueOfPurses.desc).map (fun d => d.parameters.length) = some 1 := by decide +kernel
set_option maxRecDepth 100000 in
set_option maxHeartbeats 4000000 in
theorem ct_X4_valueOfPurses (N : Nat) (l : Launch) (G : va_G) (cI cZ cO : ClassId) (q : Nat → Nat) (I : Nat → Int32) (A : Nat → Nat → Int32) (q1 : Nat → Nat) (I1 : Nat → Int32) (A1 : Nat → Nat → Int32) (r : Int32) (hf : fX4_valueOfPurses N I A I1 A1 = some r) : RtI l yX4_valueOfPurses cX4_valueOfPurses 4 .int rmX4_valueOfPurses G cI cZ cO [.ref (q 0), .ref (q1 0)] (wX4 q cI cZ cO I A ++ wX5 q1 cI cZ cO I1 A1) r := by
  refine mkRI (by decide) (Nat.le_of_ble_eq_true rfl) ?_
  intro p e s m below meth cd Q hC hP hE fin ls hl
  obtain ⟨hx, hb, hml, hown, hts⟩ := hC
  have hown : s.vm.findClass RX4 = some m.cls := hown
  have hl : lv_has ls 4 [(0, .ref (q 0)), (1, .ref (q1 0))] := hl
  have b_4 : ∀ n : Nat, ∀ (u2 : Int32) (u3 : Int32), ∀ ls : Array Slot, lv_has ls 4 [(0, .ref (q 0)), (1, .ref (q1 0)), (2, .int u2), (3, .int u3)] → fX4_valueOfPurses_4 N n I A I1 A1 u2 u3 = some r → W p l e rmX4_valueOfPurses s m [.ref (q 0), .ref (q1 0)].toArray below meth cd s.heap [] 0 0 Q (F0 m 4 ls []) := by
    intro n
    induction n with
    | zero =>
      intro u2 u3 ls hl hf
      cases hf
    | succ n hk_4 =>
      intro u2 u3 ls hl hf
      replace hf : fX4_valueOfPurses_4s N (fX4_valueOfPurses_4 N n) I A I1 A1 u2 u3 = some r := hf
      generalize fX4_valueOfPurses_4 N n = k_4 at hf hk_4
      unfold fX4_valueOfPurses_4s at hf
      refine lv_iload_n hx hb dX4_valueOfPurses_4 rfl (lv_at hl 3 rfl) ?_
      refine lv_aload_n hx hb dX4_valueOfPurses_5 rfl (lv_at hl 1 rfl) ?_
      refine va_get (D := G) (ci := 5) (v := .int ((I1 1))) (C := RX5) (T := TX5) (N := 8) hx hb hts inlX5 hown hE.1 hP 4 rfl rfl 7 (by decide) (hts _ (bg 16 5 rfl)) (fun _ h9 => h9) rfl dX4_valueOfPurses_6 ?_
      refine lv_icmp_ge (tgt := 29) hx hb dX4_valueOfPurses_9 (by decide) (fun c1 => ?_) (fun c1 => ?_)
      · rw [if_pos c1] at hf
        refine lv_iload_n hx hb dX4_valueOfPurses_29 rfl (lv_at hl 2 rfl) ?_
        have e9 := Option.some.inj hf
        exact fin 30 ls _ e9 (nar_i _) dX4_valueOfPurses_30
      · rw [if_neg c1] at hf
        refine lv_iload_n hx hb dX4_valueOfPurses_12 rfl (lv_at hl 2 rfl) ?_
        refine lv_aload_n hx hb dX4_valueOfPurses_13 rfl (lv_at hl 0 rfl) ?_
        refine lv_aload_n hx hb dX4_valueOfPurses_14 rfl (lv_at hl 1 rfl) ?_
        refine lv_iload_n hx hb dX4_valueOfPurses_15 rfl (lv_at hl 3 rfl) ?_
        refine lv_bipush (v := 31) hx hb dX4_valueOfPurses_16 (by decide) ?_
        obtain ⟨z2, hz2, hf⟩ := bnd hf
        refine x_rdV (C := RX4) (n := 3) (ci := 4) hx hb hml hown hts hE (ct_X4_valueOfSet N l G cI cZ cO q I A q1 I1 A1 u3 31 z2 hz2) (bg 35 19 rfl) mb_X4_valueOfSet.1 mb_X4_valueOfSet.2.1 mb_X4_valueOfSet.2.2.1 mb_X4_valueOfSet.2.2.2 hd_X4_valueOfSet rfl (by decide) hP rfl rfl rfl rfl hl.1 (Nat.le_of_ble_eq_true rfl) ⟨Nat.zero_le _, Nat.zero_le _⟩ dX4_valueOfPurses_18 ?_
        refine lv_iadd hx hb dX4_valueOfPurses_21 ?_
        refine lv_istore_n (lv' := [(2, .int (u2 + z2)), (0, .ref (q 0)), (1, .ref (q1 0)), (3, .int u3)]) hx hb dX4_valueOfPurses_22 rfl hl (by decide) rfl (fun ls hl => ?_)
        refine lv_iinc (v := u3 + 1) (lv' := [(3, .int (u3 + 1)), (2, .int (u2 + z2)), (0, .ref (q 0)), (1, .ref (q1 0))]) hx hb dX4_valueOfPurses_23 hl (k := 3) rfl rfl (by decide) rfl (fun ls hl => ?_)
        refine lv_goto (tgt := 4) hx hb dX4_valueOfPurses_26 (by decide) ?_
        exact hk_4 (u2 + z2) (u3 + 1) ls (lv_sub hl [2, 3, 1, 0] rfl) hf
  unfold fX4_valueOfPurses at hf
  refine lv_iconst (v := 0) hx hb dX4_valueOfPurses_0 (by decide) ?_
  refine lv_istore_n (lv' := [(2, .int 0), (0, .ref (q 0)), (1, .ref (q1 0))]) hx hb dX4_valueOfPurses_1 rfl hl (by decide) rfl (fun ls hl => ?_)
  refine lv_iconst (v := 0) hx hb dX4_valueOfPurses_2 (by decide) ?_
  refine lv_istore_n (lv' := [(3, .int 0), (2, .int 0), (0, .ref (q 0)), (1, .ref (q1 0))]) hx hb dX4_valueOfPurses_3 rfl hl (by decide) rfl (fun ls hl => ?_)
  exact b_4 N 0 0 ls (lv_sub hl [2, 3, 1, 0] rfl) hf
def fX6_weeks_26s (N : Nat) (k_26 : Int64 → (Nat → Int32) → (Nat → Nat → Int32) → (Nat → Int32) → (Nat → Nat → Int32) → (Nat → Int32) → (Nat → Nat → Int32) → Int32 → Int32 → Option (Int32 × Int64 × (Nat → Int32) × (Nat → Nat → Int32))) (L : Int64) (tI : Nat → Int32) (tA : Nat → Nat → Int32) (wI : Nat → Int32) (wA : Nat → Nat → Int32) (uI : Nat → Int32) (uA : Nat → Nat → Int32) (u1 : Int32) (u2 : Int32) : Option (Int32 × Int64 × (Nat → Int32) × (Nat → Nat → Int32)) := if u1 ≤ u2 then (fX4_valueOfPurses N uI uA tI tA).bind fun z2 => some (z2, L, uI, uA) else (fX6_trySaying N tI tA uI uA ((rem (Int64.toInt32 (ushL ((L * 6364136223846793005) + 1442695040888963407) 33)) 60) / 10) (rem (rem (Int64.toInt32 (ushL ((L * 6364136223846793005) + 1442695040888963407) 33)) 60) 10)).bind fun z3 => (fX4_passDawn N uI z3.2 tI tA).bind fun z4 => k_26 ((L * 6364136223846793005) + 1442695040888963407) tI tA wI wA z4.2.1 z4.2.2 u1 (u2 + 1)
def fX6_weeks_26 (N : Nat) : Nat → Int64 → (Nat → Int32) → (Nat → Nat → Int32) → (Nat → Int32) → (Nat → Nat → Int32) → (Nat → Int32) → (Nat → Nat → Int32) → Int32 → Int32 → Option (Int32 × Int64 × (Nat → Int32) × (Nat → Nat → Int32))
  | 0 => fun _ _ _ _ _ _ _ _ _ => none
  | n + 1 => fX6_weeks_26s N (fX6_weeks_26 N n)
def fX6_weeks (N : Nat) (L : Int64) (tI : Nat → Int32) (tA : Nat → Nat → Int32) (wI : Nat → Int32) (wA : Nat → Nat → Int32) (uI : Nat → Int32) (uA : Nat → Nat → Int32) (x1 : Int32) : Option (Int32 × Int64 × (Nat → Int32) × (Nat → Nat → Int32)) := (fX6_isOutside N x1 1 20).bind fun z1 => if z1 = 0 then (fX4_copyFrom N uI uA wI wA).bind fun z3 => fX6_weeks_26 N N L tI tA wI wA z3.1 z3.2 x1 0 else some ((-2), L, uI, uA)
def rmX6_weeks : Room := { frames := 6, cells := 0, slots := 0, locals := 155 }
theorem mb_X6_weeks : Cond.instanceMethod yX6_weeks ∈ wsL_law ∧ Cond.selects RX6 yX6_weeks yX6_weeks ∈ wsL_law ∧ Cond.initialized RX6 ∈ wsL_law ∧ Cond.code yX6_weeks cX6_weeks 4 (some .int) ∈ wsL_law := ⟨(bg 35 10 rfl), (bg 35 11 rfl), (bg 0 2 rfl), (bg 35 12 rfl)⟩
theorem hd_X6_weeks : yX6_weeks.cls = RX6 ∧ yX6_weeks.cls ≠ "java/lang/invoke/MethodHandle" ∧ yX6_weeks.cls ≠ "java/lang/invoke/VarHandle" ∧ (parseMethodDescriptor yX6_weeks.desc).map (fun d => d.parameters.length) = some 1 := by decide +kernel
set_option maxRecDepth 100000 in
set_option maxHeartbeats 4000000 in
theorem ct_X6_weeks (N : Nat) (l : Launch) (G : va_G) (cI cZ cO : ClassId) (q : Nat → Nat) (A : Nat → Nat → Int32) (L : Int64) (rI : Nat → Int32) (rA : Nat → Nat → Int32) (tI : Nat → Int32) (tA : Nat → Nat → Int32) (dI : Nat → Int32) (dA : Nat → Nat → Int32) (wI : Nat → Int32) (wA : Nat → Nat → Int32) (uI : Nat → Int32) (uA : Nat → Nat → Int32) (aI : Nat → Int32) (aS : Nat → Nat → Int32) (aT : Nat → Nat → Nat → Int32) (eI : Nat → Int32) (eA : Nat → Nat → Int32) (sS : Nat → Nat → Int32) (sT : Nat → Nat → Nat → Int32) (bI : Nat → Int32) (x1 : Int32) (r : Int32) (Lz : Int64) (uIz : Nat → Int32) (uAz : Nat → Nat → Int32) (hf : fX6_weeks N L tI tA wI wA uI uA x1 = some (r, Lz, uIz, uAz)) : CtI l yX6_weeks cX6_weeks 4 .int rmX6_weeks G cI cZ cO [.ref (q 0), .int x1] (wX6 q cI cZ cO A L rI rA tI tA dI dA wI wA uI uA aI aS aT eI eA sS sT bI) (wX6 q cI cZ cO A Lz rI rA tI tA dI dA wI wA uIz uAz aI aS aT eI eA sS sT bI) r := by
  refine mkCI (by decide) (Nat.le_of_ble_eq_true rfl) ?_
  intro p e s m below meth cd Q Z hC hP hE hD hA fin ls hl
  obtain ⟨hx, hb, hml, hown, hts⟩ := hC
  have hown : s.vm.findClass RX6 = some m.cls := hown
  have hl : lv_has ls 4 [(0, .ref (q 0)), (1, .int x1)] := hl
  have b_26 : ∀ n : Nat, ∀ (L : Int64) (uI : Nat → Int32) (uA : Nat → Nat → Int32) (u1 : Int32) (u2 : Int32), ∀ (H : Heap) (locs : List Loc), va_P G vwCl (wX6 q cI cZ cO A L rI rA tI tA dI dA wI wA uI uA aI aS aT eI eA sS sT bI) H → va_D Z (wX6 q cI cZ cO A L rI rA tI tA dI dA wI wA uI uA aI aS aT eI eA sS sT bI) → va_S Z s.heap H locs → ∀ ls : Array Slot, lv_has ls 4 [(0, .ref (q 0)), (1, .int u1), (2, .int u2)] → fX6_weeks_26 N n L tI tA wI wA uI uA u1 u2 = some (r, Lz, uIz, uAz) → W p l e rmX6_weeks s m [.ref (q 0), .int x1].toArray below meth cd H locs 0 0 Q (F0 m 26 ls []) := by
    intro n
    induction n with
    | zero =>
      intro L uI uA u1 u2 H locs hP hD hS ls hl hf
      cases hf
    | succ n hk_26 =>
      intro L uI uA u1 u2 H locs hP hD hS ls hl hf
      replace hf : fX6_weeks_26s N (fX6_weeks_26 N n) L tI tA wI wA uI uA u1 u2 = some (r, Lz, uIz, uAz) := hf
      generalize fX6_weeks_26 N n = k_26 at hf hk_26
      unfold fX6_weeks_26s at hf
      refine lv_iload_n hx hb dX6_weeks_26 rfl (lv_at hl 2 rfl) ?_
      refine lv_iload_n hx hb dX6_weeks_27 rfl (lv_at hl 1 rfl) ?_
      refine lv_icmp_ge (tgt := 90) hx hb dX6_weeks_28 (by decide) (fun c1 => ?_) (fun c1 => ?_)
      · rw [if_pos c1] at hf
        refine lv_aload_n hx hb dX6_weeks_90 rfl (lv_at hl 0 rfl) ?_
        refine va_get (D := G) (ci := 6) (v := .ref (q 21)) (C := RX6) (T := TX6) (N := 15) hx hb hts inlX6 hown hE.1 hP 0 rfl rfl 4 (by decide) (hts _ (bg 1 2 rfl)) (fun _ h9 => h9) rfl dX6_weeks_91 ?_
        refine lv_aload_n hx hb dX6_weeks_94 rfl (lv_at hl 0 rfl) ?_
        refine va_get (D := G) (ci := 6) (v := .ref (q 3)) (C := RX6) (T := TX6) (N := 15) hx hb hts inlX6 hown hE.1 hP 0 rfl rfl 1 (by decide) (hts _ (bg 0 20 rfl)) (fun _ h9 => h9) rfl dX6_weeks_95 ?_
        obtain ⟨z2, hz2, hf⟩ := bnd hf
        refine x_rdV (C := RX4) (n := 1) (ci := 4) hx hb hml hown hts hE (ct_X4_valueOfPurses N l G cI cZ cO (sh q 21) uI uA (sh q 3) tI tA z2 hz2) (bg 35 15 rfl) mb_X4_valueOfPurses.1 mb_X4_valueOfPurses.2.1 mb_X4_valueOfPurses.2.2.1 mb_X4_valueOfPurses.2.2.2 hd_X4_valueOfPurses rfl (by decide) (x_cut hP [21, 22, 23, 24, 3, 4, 5, 6, 7, 8, 9] rfl) rfl rfl rfl rfl hl.1 (Nat.le_of_ble_eq_true rfl) ⟨Nat.zero_le _, Nat.zero_le _⟩ dX6_weeks_98 ?_
        have e9 := Option.some.inj hf
        exact fin H locs 101 ls _ (Prod.mk.inj e9).1 (nar_i _) (by rw [← (Prod.mk.inj (Prod.mk.inj e9).2).1, ← (Prod.mk.inj (Prod.mk.inj (Prod.mk.inj e9).2).2).1, ← (Prod.mk.inj (Prod.mk.inj (Prod.mk.inj e9).2).2).2]; exact hP) hS dX6_weeks_101
      · rw [if_neg c1] at hf
        refine lv_aload_n hx hb dX6_weeks_31 rfl (lv_at hl 0 rfl) ?_
        refine lv_aload_n hx hb dX6_weeks_32 rfl (lv_at hl 0 rfl) ?_
        refine va_get (D := G) (ci := 6) (v := .long L) (C := RX6) (T := TX6) (N := 15) hx hb hts inlX6 hown hE.1 hP 0 rfl rfl 14 (by decide) (hts _ (bg 35 3 rfl)) (fun _ h9 => h9) rfl dX6_weeks_33 ?_
        refine lv_ldc2 hx hb hown (hts _ (bg 35 13 rfl)) dX6_weeks_36 ?_
        refine lv_lmul hx hb dX6_weeks_39 ?_
        refine lv_ldc2 hx hb hown (hts _ (bg 35 14 rfl)) dX6_weeks_40 ?_
        refine lv_ladd hx hb dX6_weeks_43 ?_
        refine va_put (D := G) (ci := 6) (v := .long ((L * 6364136223846793005) + 1442695040888963407)) (ty := .long) (C := RX6) (T := TX6) (N := 15) hx hb hts inlX6 tyX6 tyX6_ok nmX6 hown hE.1 hP hD hS 0 rfl rfl 14 (by decide) (hts _ (bg 35 3 rfl)) (fun _ h9 => h9) rfl (by decide +kernel) rfl rfl (Nat.le_of_ble_eq_true rfl) dX6_weeks_44 (fun H locs hP hD hS => ?_)
        have hP : va_P G vwCl (wX6 q cI cZ cO A ((L * 6364136223846793005) + 1442695040888963407) rI rA tI tA dI dA wI wA uI uA aI aS aT eI eA sS sT bI) H := hP
        have hD : va_D Z (wX6 q cI cZ cO A ((L * 6364136223846793005) + 1442695040888963407) rI rA tI tA dI dA wI wA uI uA aI aS aT eI eA sS sT bI) := hD
        refine lv_aload_n hx hb dX6_weeks_47 rfl (lv_at hl 0 rfl) ?_
        refine va_get (D := G) (ci := 6) (v := .long ((L * 6364136223846793005) + 1442695040888963407)) (C := RX6) (T := TX6) (N := 15) hx hb hts inlX6 hown hE.1 hP 0 rfl rfl 14 (by decide) (hts _ (bg 35 3 rfl)) (fun _ h9 => h9) rfl dX6_weeks_48 ?_
        refine lv_bipush (v := 33) hx hb dX6_weeks_51 (by decide) ?_
        refine lv_lushr (v := ushL ((L * 6364136223846793005) + 1442695040888963407) 33) hx hb dX6_weeks_53 rfl ?_
        refine lv_l2i (v := Int64.toInt32 (ushL ((L * 6364136223846793005) + 1442695040888963407) 33)) hx hb dX6_weeks_54 rfl ?_
        refine lv_bipush (v := 60) hx hb dX6_weeks_55 (by decide) ?_
        refine x_irem hx hb dX6_weeks_57 (by decide) ?_
        refine lv_istore_n (lv' := [(3, .int (rem (Int64.toInt32 (ushL ((L * 6364136223846793005) + 1442695040888963407) 33)) 60)), (0, .ref (q 0)), (1, .int u1), (2, .int u2)]) hx hb dX6_weeks_58 rfl hl (by decide) rfl (fun ls hl => ?_)
        refine lv_aload_n hx hb dX6_weeks_59 rfl (lv_at hl 1 rfl) ?_
        refine lv_iload_n hx hb dX6_weeks_60 rfl (lv_at hl 0 rfl) ?_
        refine lv_bipush (v := 10) hx hb dX6_weeks_61 (by decide) ?_
        refine lv_idiv hx hb dX6_weeks_63 (by decide) ?_
        refine lv_iload_n hx hb dX6_weeks_64 rfl (lv_at hl 0 rfl) ?_
        refine lv_bipush (v := 10) hx hb dX6_weeks_65 (by decide) ?_
        refine x_irem hx hb dX6_weeks_67 (by decide) ?_
        obtain ⟨z3, hz3, hf⟩ := bnd hf
        refine x_wwV (C := RX6) (n := 2) (ci := 6) hx hb hml hown hts hE (ct_X6_trySaying N l G cI cZ cO q A ((L * 6364136223846793005) + 1442695040888963407) rI rA tI tA dI dA wI wA uI uA aI aS aT eI eA sS sT bI ((rem (Int64.toInt32 (ushL ((L * 6364136223846793005) + 1442695040888963407) 33)) 60) / 10) (rem (rem (Int64.toInt32 (ushL ((L * 6364136223846793005) + 1442695040888963407) 33)) 60) 10) z3.1 z3.2 hz3) (bg 28 15 rfl) mb_X6_trySaying.1 mb_X6_trySaying.2.1 mb_X6_trySaying.2.2.1 mb_X6_trySaying.2.2.2 hd_X6_trySaying rfl (by decide) hP hD hS hA rfl rfl rfl rfl rfl hl.1 (Nat.le_of_ble_eq_true rfl) ⟨Nat.zero_le _, Nat.zero_le _⟩ dX6_weeks_68 (fun H locs hP hD hS => ?_)
        have hP : va_P G vwCl (wX6 q cI cZ cO A ((L * 6364136223846793005) + 1442695040888963407) rI rA tI tA dI dA wI wA uI z3.2 aI aS aT eI eA sS sT bI) H := hP
        have hD : va_D Z (wX6 q cI cZ cO A ((L * 6364136223846793005) + 1442695040888963407) rI rA tI tA dI dA wI wA uI z3.2 aI aS aT eI eA sS sT bI) := hD
        refine lv_pop hx hb dX6_weeks_71 rfl ?_
        refine lv_aload_n hx hb dX6_weeks_72 rfl (lv_at hl 1 rfl) ?_
        refine va_get (D := G) (ci := 6) (v := .ref (q 21)) (C := RX6) (T := TX6) (N := 15) hx hb hts inlX6 hown hE.1 hP 0 rfl rfl 4 (by decide) (hts _ (bg 1 2 rfl)) (fun _ h9 => h9) rfl dX6_weeks_73 ?_
        refine lv_aload_n hx hb dX6_weeks_76 rfl (lv_at hl 1 rfl) ?_
        refine va_get (D := G) (ci := 6) (v := .ref (q 3)) (C := RX6) (T := TX6) (N := 15) hx hb hts inlX6 hown hE.1 hP 0 rfl rfl 1 (by decide) (hts _ (bg 0 20 rfl)) (fun _ h9 => h9) rfl dX6_weeks_77 ?_
        obtain ⟨z4, hz4, hf⟩ := bnd hf
        refine x_wrV (C := RX4) (n := 1) (ci := 4) (ws1 := (wX6 q cI cZ cO A ((L * 6364136223846793005) + 1442695040888963407) rI rA tI tA dI dA wI wA z4.2.1 z4.2.2 aI aS aT eI eA sS sT bI)) hx hb hml hown hts hE (ct_X4_passDawn N l G cI cZ cO (sh q 21) uI z3.2 (sh q 3) tI tA z4.1 z4.2.1 z4.2.2 hz4) (bg 15 21 rfl) mb_X4_passDawn.1 mb_X4_passDawn.2.1 mb_X4_passDawn.2.2.1 mb_X4_passDawn.2.2.2 hd_X4_passDawn rfl (by decide) hP hD hS hA [21, 22, 23, 24, 3, 4, 5, 6, 7, 8, 9] [false, false, false, true, true, true, true, true, true, true, false, false, false, false, false, false, false, false, false, false, false, true, true, true, true, false, false, false, false, false, false, false, false, false, false, false, false, false, false, false, false, false, false, false, false, false, false, false, false, false, false, false, false, false, false, false, false, false, false, false, false, false, false, false, false, false, false, false, false, false, false, false, false, false, false, false, false, false, false, false, false, false, false, false, false, false, false, false, false, false, false, false, false, false, false, false, false, false, false, false, false, false, false] (by decide) (by decide +kernel) rfl rfl ⟨rfl, rfl, rfl, rfl, rfl, rfl, rfl, rfl, rfl, rfl, rfl, rfl, rfl, rfl, rfl, rfl, rfl, rfl, rfl, rfl, rfl, rfl, rfl, rfl, rfl, rfl, rfl, rfl, rfl, rfl, rfl, rfl, rfl, rfl, rfl, rfl, rfl, rfl, rfl, rfl, rfl, rfl, rfl, rfl, rfl, rfl, rfl, rfl, rfl, rfl, rfl, rfl, rfl, rfl, rfl, rfl, rfl, rfl, rfl, rfl, rfl, rfl, rfl, rfl, rfl, rfl, rfl, rfl, rfl, rfl, rfl, rfl, rfl, rfl, rfl, rfl, rfl, rfl, rfl, rfl, rfl, rfl, rfl, rfl, rfl, rfl, rfl, rfl, rfl, rfl, rfl, rfl, rfl, rfl, rfl, rfl, rfl, rfl, rfl, rfl, rfl, rfl, rfl, trivial⟩ rfl rfl rfl rfl hl.1 (Nat.le_of_ble_eq_true rfl) ⟨Nat.zero_le _, Nat.zero_le _⟩ dX6_weeks_80 (fun H locs hP hD hS => ?_)
        refine lv_pop hx hb dX6_weeks_83 rfl ?_
        refine lv_iinc (v := u2 + 1) (lv' := [(2, .int (u2 + 1)), (3, .int (rem (Int64.toInt32 (ushL ((L * 6364136223846793005) + 1442695040888963407) 33)) 60)), (0, .ref (q 0)), (1, .int u1)]) hx hb dX6_weeks_84 hl (k := 3) rfl rfl (by decide) rfl (fun ls hl => ?_)
        refine lv_goto (tgt := 26) hx hb dX6_weeks_87 (by decide) ?_
        exact hk_26 ((L * 6364136223846793005) + 1442695040888963407) z4.2.1 z4.2.2 u1 (u2 + 1) H locs hP hD hS ls (lv_sub hl [2, 3, 0] rfl) hf
  unfold fX6_weeks at hf
  have hS : va_S Z s.heap s.heap [] := va_S.rf
  obtain ⟨H, hH⟩ : ∃ H, H = s.heap := ⟨_, rfl⟩
  obtain ⟨locs, hlocs⟩ : ∃ locs : List Loc, locs = [] := ⟨_, rfl⟩
  rw [← hlocs]
  rw [← hlocs] at hS
  suffices hW : ∀ H : Heap, va_P G vwCl (wX6 q cI cZ cO A L rI rA tI tA dI dA wI wA uI uA aI aS aT eI eA sS sT bI) H → va_S Z s.heap H locs → W p l e rmX6_weeks s m [.ref (q 0), .int x1].toArray below meth cd H locs 0 0 Q (F0 m 0 ls []) from hW s.heap hP hS
  clear hP hS hH H
  intro H hP hS
  refine lv_iload_n hx hb dX6_weeks_0 rfl (lv_at hl 1 rfl) ?_
  refine lv_iconst (v := 1) hx hb dX6_weeks_1 (by decide) ?_
  refine lv_bipush (v := 20) hx hb dX6_weeks_2 (by decide) ?_
  obtain ⟨z1, hz1, hf⟩ := bnd hf
  refine x_rdS (n := 3) hx hb hml hown hts hE (ct_X6_isOutside N l G cI cZ cO x1 1 20 z1 hz1) (bg 4 17 rfl) mb_X6_isOutside.1 mb_X6_isOutside.2.1 mb_X6_isOutside.2.2 hd_X6_isOutside rfl (by decide) va_P_nil rfl hl.1 (Nat.le_of_ble_eq_true rfl) ⟨Nat.zero_le _, Nat.zero_le _⟩ dX6_weeks_4 ?_
  refine lv_if_eq (tgt := 13) hx hb dX6_weeks_7 (by decide) (fun c2 => ?_) (fun c2 => ?_)
  · rw [if_pos c2] at hf
    refine lv_aload_n hx hb dX6_weeks_13 rfl (lv_at hl 0 rfl) ?_
    refine va_get (D := G) (ci := 6) (v := .ref (q 21)) (C := RX6) (T := TX6) (N := 15) hx hb hts inlX6 hown hE.1 hP 0 rfl rfl 4 (by decide) (hts _ (bg 1 2 rfl)) (fun _ h9 => h9) rfl dX6_weeks_14 ?_
    refine lv_aload_n hx hb dX6_weeks_17 rfl (lv_at hl 0 rfl) ?_
    refine va_get (D := G) (ci := 6) (v := .ref (q 17)) (C := RX6) (T := TX6) (N := 15) hx hb hts inlX6 hown hE.1 hP 0 rfl rfl 3 (by decide) (hts _ (bg 1 1 rfl)) (fun _ h9 => h9) rfl dX6_weeks_18 ?_
    obtain ⟨z3, hz3, hf⟩ := bnd hf
    refine x_wrVv (C := RX4) (n := 1) (ci := 4) (ws1 := (wX6 q cI cZ cO A L rI rA tI tA dI dA wI wA z3.1 z3.2 aI aS aT eI eA sS sT bI)) hx hb hml hown hts hE (ct_X4_copyFrom N l G cI cZ cO (sh q 21) uI uA (sh q 17) wI wA z3.1 z3.2 hz3) (bg 28 6 rfl) mb_X4_copyFrom.1 mb_X4_copyFrom.2.1 mb_X4_copyFrom.2.2.1 mb_X4_copyFrom.2.2.2 hd_X4_copyFrom rfl (by decide) hP hD hS hA [21, 22, 23, 24, 17, 18, 19, 20] [false, false, false, false, false, false, false, false, false, false, false, false, false, false, false, false, false, true, true, true, true, true, true, true, true, false, false, false, false, false, false, false, false, false, false, false, false, false, false, false, false, false, false, false, false, false, false, false, false, false, false, false, false, false, false, false, false, false, false, false, false, false, false, false, false, false, false, false, false, false, false, false, false, false, false, false, false, false, false, false, false, false, false, false, false, false, false, false, false, false, false, false, false, false, false, false, false, false, false, false, false, false, false] (by decide) (by decide +kernel) rfl rfl ⟨rfl, rfl, rfl, rfl, rfl, rfl, rfl, rfl, rfl, rfl, rfl, rfl, rfl, rfl, rfl, rfl, rfl, rfl, rfl, rfl, rfl, rfl, rfl, rfl, rfl, rfl, rfl, rfl, rfl, rfl, rfl, rfl, rfl, rfl, rfl, rfl, rfl, rfl, rfl, rfl, rfl, rfl, rfl, rfl, rfl, rfl, rfl, rfl, rfl, rfl, rfl, rfl, rfl, rfl, rfl, rfl, rfl, rfl, rfl, rfl, rfl, rfl, rfl, rfl, rfl, rfl, rfl, rfl, rfl, rfl, rfl, rfl, rfl, rfl, rfl, rfl, rfl, rfl, rfl, rfl, rfl, rfl, rfl, rfl, rfl, rfl, rfl, rfl, rfl, rfl, rfl, rfl, rfl, rfl, rfl, rfl, rfl, rfl, rfl, rfl, rfl, rfl, rfl, trivial⟩ rfl rfl rfl rfl hl.1 (Nat.le_of_ble_eq_true rfl) ⟨Nat.zero_le _, Nat.zero_le _⟩ dX6_weeks_21 (fun H locs hP hD hS => ?_)
    refine lv_iconst (v := 0) hx hb dX6_weeks_24 (by decide) ?_
    refine lv_istore_n (lv' := [(2, .int 0), (0, .ref (q 0)), (1, .int x1)]) hx hb dX6_weeks_25 rfl hl (by decide) rfl (fun ls hl => ?_)
    exact b_26 N L z3.1 z3.2 x1 0 H locs hP hD hS ls (lv_sub hl [1, 2, 0] rfl) hf
  · rw [if_neg c2] at hf
    refine lv_bipush (v := (-2)) hx hb dX6_weeks_10 (by decide) ?_
    have e9 := Option.some.inj hf
    exact fin H locs 12 ls _ (Prod.mk.inj e9).1 (nar_i _) (by rw [← (Prod.mk.inj (Prod.mk.inj e9).2).1, ← (Prod.mk.inj (Prod.mk.inj (Prod.mk.inj e9).2).2).1, ← (Prod.mk.inj (Prod.mk.inj (Prod.mk.inj e9).2).2).2]; exact hP) hS dX6_weeks_12
def fX6_slotAt_34 (N : Nat) : Option (Int32) := some 1
def fX6_slotAt_34r1 (N : Nat) : Option (Int32) := some 2
def fX6_slotAt_34r2 (N : Nat) : Option (Int32) := some 0
def fX6_slotAt_33 (N : Nat) : Option (Int32) := fX6_slotAt_34r2 N
def fX6_slotAt (N : Nat) (x1 : Int32) : Option (Int32) := (fX6_isIndex N x1 2).bind fun z1 => if z1 = 0 then fX6_slotAt_33 N else (fX6_isIndex N x1 2).bind fun z3 => if z3 = 0 then fX6_slotAt_33 N else if x1 = 0 then fX6_slotAt_34 N else if x1 = 1 then fX6_slotAt_34r1 N else none
def rmX6_slotAt : Room := { frames := 1, cells := 0, slots := 0, locals := 21 }
theorem mb_X6_slotAt : Cond.instanceMethod yX6_slotAt ∈ wsL_law ∧ Cond.selects RX6 yX6_slotAt yX6_slotAt ∈ wsL_law ∧ Cond.initialized RX6 ∈ wsL_law ∧ Cond.code yX6_slotAt cX6_slotAt 2 (some (.object "DawnCoin$Standing")) ∈ wsL_law := ⟨(bg 36 12 rfl), (bg 36 13 rfl), (bg 0 2 rfl), (bg 36 14 rfl)⟩
theorem hd_X6_slotAt : yX6_slotAt.cls = RX6 ∧ yX6_slotAt.cls ≠ "java/lang/invoke/MethodHandle" ∧ yX6_slotAt.cls ≠ "java/lang/invoke/VarHandle" ∧ (parseMethodDescriptor yX6_slotAt.desc).map (fun d => d.parameters.length) = some 1 := by decide +kernel
def rfX6_slotAt (q : Nat → Nat) (r : Int32) : Option Nat := if r = 1 then some (q 89) else if r = 2 then some (q 93) else none
set_option maxRecDepth 100000 in
set_option maxHeartbeats 4000000 in
theorem ct_X6_slotAt (N : Nat) (l : Launch) (G : va_G) (cI cZ cO : ClassId) (q : Nat → Nat) (A : Nat → Nat → Int32) (L : Int64) (rI : Nat → Int32) (rA : Nat → Nat → Int32) (tI : Nat → Int32) (tA : Nat → Nat → Int32) (dI : Nat → Int32) (dA : Nat → Nat → Int32) (wI : Nat → Int32) (wA : Nat → Nat → Int32) (uI : Nat → Int32) (uA : Nat → Nat → Int32) (aI : Nat → Int32) (aS : Nat → Nat → Int32) (aT : Nat → Nat → Nat → Int32) (eI : Nat → Int32) (eA : Nat → Nat → Int32) (sS : Nat → Nat → Int32) (sT : Nat → Nat → Nat → Int32) (bI : Nat → Int32) (x1 : Int32) (r : Int32) (hf : fX6_slotAt N x1 = some r) : RtQ l yX6_slotAt cX6_slotAt 2 rmX6_slotAt G cI cZ cO [.ref (q 0), .int x1] (wX6 q cI cZ cO A L rI rA tI tA dI dA wI wA uI uA aI aS aT eI eA sS sT bI) (rfX6_slotAt q r) := by
  refine mkRQ (by decide) (Nat.le_of_ble_eq_true rfl) ?_
  intro p e s m below meth cd Q hC hP hE fin ls hl
  obtain ⟨hx, hb, hml, hown, hts⟩ := hC
  have hown : s.vm.findClass RX6 = some m.cls := hown
  have hl : lv_has ls 2 [(0, .ref (q 0)), (1, .int x1)] := hl
  have b_34 : ∀ ls : Array Slot, lv_has ls 2 [] → fX6_slotAt_34 N = some r → W p l e rmX6_slotAt s m [.ref (q 0), .int x1].toArray below meth cd s.heap [] 0 0 Q (F0 m 34 ls [.ref (q 89)]) := by
    intro ls hl hf
    unfold fX6_slotAt_34 at hf
    have e9 := Option.some.inj hf
    exact fin 34 ls (.ref (q 89)) (by rw [← e9]; rfl) dX6_slotAt_34
  have b_34r1 : ∀ ls : Array Slot, lv_has ls 2 [] → fX6_slotAt_34r1 N = some r → W p l e rmX6_slotAt s m [.ref (q 0), .int x1].toArray below meth cd s.heap [] 0 0 Q (F0 m 34 ls [.ref (q 93)]) := by
    intro ls hl hf
    unfold fX6_slotAt_34r1 at hf
    have e9 := Option.some.inj hf
    exact fin 34 ls (.ref (q 93)) (by rw [← e9]; rfl) dX6_slotAt_34
  have b_34r2 : ∀ ls : Array Slot, lv_has ls 2 [] → fX6_slotAt_34r2 N = some r → W p l e rmX6_slotAt s m [.ref (q 0), .int x1].toArray below meth cd s.heap [] 0 0 Q (F0 m 34 ls [.null]) := by
    intro ls hl hf
    unfold fX6_slotAt_34r2 at hf
    have e9 := Option.some.inj hf
    exact fin 34 ls (.null) (by rw [← e9]; rfl) dX6_slotAt_34
  have b_33 : ∀ ls : Array Slot, lv_has ls 2 [] → fX6_slotAt_33 N = some r → W p l e rmX6_slotAt s m [.ref (q 0), .int x1].toArray below meth cd s.heap [] 0 0 Q (F0 m 33 ls []) := by
    intro ls hl hf
    unfold fX6_slotAt_33 at hf
    refine lv_null hx hb dX6_slotAt_33 ?_
    exact b_34r2 ls (lv_sub hl [] rfl) hf
  unfold fX6_slotAt at hf
  refine lv_iload_n hx hb dX6_slotAt_0 rfl (lv_at hl 1 rfl) ?_
  refine lv_aload_n hx hb dX6_slotAt_1 rfl (lv_at hl 0 rfl) ?_
  refine va_get (D := G) (ci := 6) (v := .ref (q 88)) (C := RX6) (T := TX6) (N := 15) hx hb hts inlX6 hown hE.1 hP 0 rfl rfl 7 (by decide) (hts _ (bg 1 11 rfl)) (fun _ h9 => h9) rfl dX6_slotAt_2 ?_
  refine va_alen (v := 2) hx hb hE.1 hP 88 2 rfl rfl rfl dX6_slotAt_5 ?_
  obtain ⟨z1, hz1, hf⟩ := bnd hf
  refine x_rdS (n := 2) hx hb hml hown hts hE (ct_X6_isIndex N l G cI cZ cO x1 2 z1 hz1) (bg 36 15 rfl) mb_X6_isIndex.1 mb_X6_isIndex.2.1 mb_X6_isIndex.2.2 hd_X6_isIndex rfl (by decide) va_P_nil rfl hl.1 (Nat.le_of_ble_eq_true rfl) ⟨Nat.zero_le _, Nat.zero_le _⟩ dX6_slotAt_6 ?_
  refine lv_if_eq (tgt := 33) hx hb dX6_slotAt_9 (by decide) (fun c2 => ?_) (fun c2 => ?_)
  · rw [if_pos c2] at hf
    exact b_33 ls (lv_sub hl [] rfl) hf
  · rw [if_neg c2] at hf
    refine lv_iload_n hx hb dX6_slotAt_12 rfl (lv_at hl 1 rfl) ?_
    refine lv_aload_n hx hb dX6_slotAt_13 rfl (lv_at hl 0 rfl) ?_
    refine va_get (D := G) (ci := 6) (v := .ref (q 97)) (C := RX6) (T := TX6) (N := 15) hx hb hts inlX6 hown hE.1 hP 0 rfl rfl 8 (by decide) (hts _ (bg 1 13 rfl)) (fun _ h9 => h9) rfl dX6_slotAt_14 ?_
    refine va_alen (v := 2) hx hb hE.1 hP 97 1 rfl rfl rfl dX6_slotAt_17 ?_
    obtain ⟨z3, hz3, hf⟩ := bnd hf
    refine x_rdS (n := 2) hx hb hml hown hts hE (ct_X6_isIndex N l G cI cZ cO x1 2 z3 hz3) (bg 36 15 rfl) mb_X6_isIndex.1 mb_X6_isIndex.2.1 mb_X6_isIndex.2.2 hd_X6_isIndex rfl (by decide) va_P_nil rfl hl.1 (Nat.le_of_ble_eq_true rfl) ⟨Nat.zero_le _, Nat.zero_le _⟩ dX6_slotAt_18 ?_
    refine lv_if_eq (tgt := 33) hx hb dX6_slotAt_21 (by decide) (fun c4 => ?_) (fun c4 => ?_)
    · rw [if_pos c4] at hf
      exact b_33 ls (lv_sub hl [] rfl) hf
    · rw [if_neg c4] at hf
      refine lv_aload_n hx hb dX6_slotAt_24 rfl (lv_at hl 0 rfl) ?_
      refine va_get (D := G) (ci := 6) (v := .ref (q 88)) (C := RX6) (T := TX6) (N := 15) hx hb hts inlX6 hown hE.1 hP 0 rfl rfl 7 (by decide) (hts _ (bg 1 11 rfl)) (fun _ h9 => h9) rfl dX6_slotAt_25 ?_
      refine lv_iload_n hx hb dX6_slotAt_28 rfl (lv_at hl 1 rfl) ?_
      by_cases c5 : x1 = 0
      · rw [if_pos c5] at hf
        refine x_aldq hx hb hE.1 hP 88 2 rfl rfl c5 (by decide) rfl dX6_slotAt_29 ?_
        refine lv_goto (tgt := 34) hx hb dX6_slotAt_30 (by decide) ?_
        exact b_34 ls (lv_sub hl [] rfl) hf
      · rw [if_neg c5] at hf
        by_cases c6 : x1 = 1
        · rw [if_pos c6] at hf
          refine x_aldq hx hb hE.1 hP 88 2 rfl rfl c6 (by decide) rfl dX6_slotAt_29 ?_
          refine lv_goto (tgt := 34) hx hb dX6_slotAt_30 (by decide) ?_
          exact b_34r1 ls (lv_sub hl [] rfl) hf
        · rw [if_neg c6] at hf
          cases hf
