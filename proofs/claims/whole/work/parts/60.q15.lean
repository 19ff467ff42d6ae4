-- judge
theorem things (N : Nat) (hN : 40 ≤ N) (n f : Nat) (h1 : 1 ≤ n) (h4 : n ≤ 4) (hf : f < 2 ^ 63) (A6 : Nat → Nat → Int32) (tI : Nat → Int32) (tA : Nat → Nat → Int32) (wI : Nat → Int32) (wA : Nat → Nat → Int32) (uI : Nat → Int32) (uA : Nat → Nat → Int32) :
    ∃ g : Nat → Int32, (∀ i, i < n → g i = nI (f / 1000 ^ (n - 1 - i) % 1000)) ∧ fX6_judge_26 N N A6 tI tA wI wA uI uA (nI n) (lN f) (nI n - 1) = fX6_judge_69 N (va_up A6 2 g) tI tA wI wA uI uA (nI n) (lN (f / 1000 ^ n)) := by
  have H : ∀ c, c ≤ n → ∀ q, c < q → ∀ B : Nat → Nat → Int32, (∀ a, a ≠ 2 → B a = A6 a) → (∀ i, c ≤ i → i < n → B 2 i = nI (f / 1000 ^ (n - 1 - i) % 1000)) → ∃ g : Nat → Int32, (∀ i, i < n → g i = nI (f / 1000 ^ (n - 1 - i) % 1000)) ∧ fX6_judge_26 N q B tI tA wI wA uI uA (nI n) (lN (f / 1000 ^ (n - c))) (nI c - 1) = fX6_judge_69 N (va_up A6 2 g) tI tA wI wA uI uA (nI n) (lN (f / 1000 ^ n)) := by
    intro c
    induction c with
    | zero =>
      intro hc q hq B hB1 hB2
      obtain ⟨q, rfl⟩ : ∃ z, q = z + 1 := ⟨q - 1, by omega⟩
      refine ⟨B 2, fun i hi => hB2 i (by omega) hi, ?_⟩
      show fX6_judge_26s N _ B tI tA wI wA uI uA _ _ _ = _
      unfold fX6_judge_26s
      rw [if_pos (by decide), Nat.sub_zero]
      congr 1
      funext a
      by_cases e : a = 2
      · subst e; rw [va_up_self]
      · rw [va_up_ne _ _ e, hB1 a e]
    | succ c ih =>
      intro hc q hq B hB1 hB2
      obtain ⟨q, rfl⟩ : ∃ z, q = z + 1 := ⟨q - 1, by omega⟩
      show ∃ g : Nat → Int32, _ ∧ fX6_judge_26s N (fX6_judge_26 N q) B tI tA wI wA uI uA _ _ _ = _
      unfold fX6_judge_26s
      have hd : f / 1000 ^ (n - (c + 1)) < 2 ^ 63 := Nat.lt_of_le_of_lt (Nat.div_le_self _ _) hf
      rw [nI_pred, if_neg (nI_pos (by omega)), if_neg (show ¬ (4 : Int32) ≤ nI c from nI_ge (b := 4) (by omega) (by omega)), show (1000 : Int64) = lN 1000 from rfl, remL_n hd (by omega) (by omega), lN_i, wr_e _ _ rfl (by omega) (by omega), Option.bind_some, pk_lDiv hd (by omega) (by omega), Nat.div_div_eq_div_mul, ← Nat.pow_succ, show (n - (c + 1)).succ = n - c by omega, show nI c + (-1) = nI c - 1 from (Int32.sub_eq_add_neg _ _).symm]
      refine ih (by omega) q (by omega) _ (fun a ha => by rw [va_up_ne _ _ ha, hB1 a ha]) (fun i hi1 hi2 => ?_)
      rw [va_up_self]
      by_cases e : i = c
      · subst e; rw [upd_s, show n - (i + 1) = n - 1 - i by omega]
      · rw [upd_n _ _ e]; exact hB2 i (by omega) hi2
  obtain ⟨g, g1, g2⟩ := H n (Nat.le_refl n) N (by omega) A6 (fun _ _ => rfl) (fun i hi1 hi2 => by omega)
  rw [Nat.sub_self, Nat.pow_zero, Nat.div_one] at g2
  exact ⟨g, g1, g2⟩
theorem lg_0 (a : Nat) (h : a < 2 ^ 63) : lg_cmp (lN a) 0 = 0 ↔ a = 0 := by
  have h1 : (lg_cmp (lN a) 0 < 0) ↔ lN a < 0 := lg_cmp_lt _ _
  have h2 : (0 < lg_cmp (lN a) 0) ↔ 0 < lN a := lg_cmp_gt _ _
  have z : (0 : Int64) = lN 0 := rfl
  rw [z] at h1 h2 ⊢
  rw [pk_lLT h (by omega)] at h1
  rw [pk_lLT (by omega) h] at h2
  constructor
  · intro e
    rw [e] at h2
    by_cases h0 : a = 0
    · exact h0
    · exact absurd (h2.mpr (by omega)) (by decide)
  · rintro rfl
    have n1 : ¬ lg_cmp (lN 0) (lN 0) < 0 := fun h => by have := h1.mp h; omega
    have n2 : ¬ 0 < lg_cmp (lN 0) (lN 0) := fun h => by have := h2.mp h; omega
    exact Int32.le_antisymm (Int32.not_lt.mp n2) (Int32.not_lt.mp n1)
theorem lg_neg (x : Int64) : 0 ≤ lg_cmp x 0 ↔ ¬ x < 0 := by
  have h1 : (lg_cmp x 0 < 0) ↔ x < 0 := lg_cmp_lt _ _
  rw [← h1]
  exact Int32.not_lt.symm
theorem r_judge (N : Nat) {I : Nat → Int32} {A : Nat → Nat → Int32} {L : Int64} {A6 : Nat → Nat → Int32} {L6 : Int64} {rI : Nat → Int32} {rA : Nat → Nat → Int32} {tI : Nat → Int32} {tA : Nat → Nat → Int32} {wI : Nat → Int32} {wA : Nat → Nat → Int32} {aI : Nat → Int32} {aS : Nat → Nat → Int32} {aT : Nat → Nat → Nat → Int32} {eI : Nat → Int32} {eA : Nat → Nat → Int32} {sS : Nat → Nat → Int32} {sT : Nat → Nat → Nat → Int32} (hN : 10200 ≤ N) (hR : Rel I A L A6 L6 rI rA tI tA wI wA aI aS aT eI eA sS sT) (uI : Nat → Int32) (uA : Nat → Nat → Int32) (x : Int32) (y : Int64) : ∃ r A' A6' uI' uA', fX7_judge N I A x y = some (r, A') ∧ fX6_judge N A6 tI tA wI wA uI uA x y = some (r, A6', uI', uA') ∧ Rel I A' L A6' L6 rI rA tI tA wI wA aI aS aT eI eA sS sT := by
  obtain ⟨k, m, T, S, d, hB, hSB, hMT, hCT, hMS, hCS, hRT, hRA, hRH, hRK, hL⟩ := id hR
  have hk := hB.1
  have q1 := m_in1 N x 4 (by omega) 4 (by decide +kernel)
  have q2 : fX6_isOutside N x 1 4 = _ := out_1 N x 4 (by omega)
  unfold fX7_judge fX6_judge fX7_judge_28 fX6_judge_15
  rw [q1, q2, Option.bind_some, Option.bind_some]
  by_cases hx : x < 1 ∨ nI (4 + 1) ≤ x
  · rw [if_pos hx, if_pos hx]; exact ⟨-2, A, A6, uI, uA, rfl, rfl, hR⟩
  rw [if_neg hx, if_neg hx, n10, z00]
  obtain ⟨n, n1, n4, rfl⟩ := ix_1 (by omega) hx
  rw [show (3 : Int32) * nI n = nI (3 * n) from pk_mul 3 n, m_tenTo N (3 * n) (by omega) (by omega), Option.bind_some, p_X7_in, Option.bind_some]
  have p12 : 10 ^ (3 * n) ≤ 10 ^ 12 := Nat.pow_le_pow_right (by omega) (by omega)
  have p1 : 0 < 10 ^ (3 * n) := Nat.pow_pos (by omega)
  by_cases hy : y < 0
  · rw [if_pos hy, if_neg (fun h => (lg_neg y).mp h hy)]; exact ⟨-2, A, A6, uI, uA, rfl, rfl, hR⟩
  rw [if_neg hy, if_pos ((lg_neg y).mpr hy)]
  obtain ⟨f, hf, rfl⟩ := pk_lOf hy
  obtain ⟨g, g1, g2⟩ := things N (by omega) n f n1 n4 hf A6 tI tA wI wA uI uA
  rw [g2]
  have e3 : 1000 ^ n = 10 ^ (3 * n) := by rw [Nat.pow_mul]
  have hd : f / 1000 ^ n < 2 ^ 63 := Nat.lt_of_le_of_lt (Nat.div_le_self _ _) hf
  unfold fX6_judge_69
  have A60 : va_up A6 2 g 0 = A6 0 := va_up_ne _ _ (by omega)
  have hR6 : ∀ {A' : Nat → Nat → Int32}, FrL 1 A A' → Rel I A' L (va_up A6 2 g) L6 rI rA tI tA wI wA aI aS aT eI eA sS sT := by
    intro A' h
    obtain ⟨k, m, T, S, d, h1, h2, h3, h4, h5, h6, h7, h8, h9, h10, h11⟩ := R_scr hR h
    exact ⟨k, m, T, S, d, h1, h2, h3, h4, h5, h6, h7, h8, h9, by rw [A60]; exact h10, h11⟩
  rw [show (1 : Int64) = lN 1 from rfl, lN_sub (by omega)]
  by_cases ho : f < 10 ^ (3 * n)
  · rw [if_neg (show ¬ lN (10 ^ (3 * n) - 1) < lN f from fun h => by rw [pk_lLT (by omega) (by omega)] at h; omega), n10, if_pos ((lg_0 _ hd).mpr (by rw [e3]; exact Nat.div_eq_of_lt ho))]
    obtain ⟨A1, a1, a2, a3⟩ := m_layTrial N (by omega) hMS
    obtain ⟨uI1, uA1, c1, c2⟩ := CS_copy (I := uI) (A := uA) N hCS
    rw [a3, Option.bind_some, c1, Option.bind_some]
    have H := lpP (fun c i (s : (Nat → Nat → Int32) × (Nat → Int32) × (Nat → Nat → Int32)) => fX7_judge_38 N c I s.1 (nI n) (lN f) (nI i)) (fun c i (s : (Nat → Nat → Int32) × (Nat → Int32) × (Nat → Nat → Int32)) => fX6_judge_93 N c (va_up A6 2 g) tI tA wI wA s.2.1 s.2.2 (nI n) (nI i)) (fun i s => FrL 1 A s.1 ∧ ∃ S' d', MS s.1 1 S' d' ∧ CS s.2.1 s.2.2 S' d' ∧ SB k m S') (fun X Y => ∃ v A' uI' uA', X = some (v, A') ∧ Y = some (v, va_up A6 2 g, uI', uA') ∧ FrL 1 A A') n ?_ ?_ N N 0 (A1, uI1, uA1) (by omega) (by omega) (by omega) ⟨a2, S, d, a1, c2, hSB⟩
    · obtain ⟨v, A', uI', uA', v1, v2, v3⟩ := H
      exact ⟨v, A', _, uI', uA', v1, v2, hR6 v3⟩
    · rintro c c' ⟨s, s2, s3⟩ ⟨hf1, hs⟩
      show ∃ v A' uI' uA', fX7_judge_38s N _ I s _ _ _ = _ ∧ fX6_judge_93s N _ _ tI tA wI wA s2 s3 _ _ = _ ∧ _
      unfold fX7_judge_38s fX6_judge_93s fX6_judge_161
      rw [if_pos (nI_le (Nat.le_refl n) (by omega)), if_pos (nI_le (Nat.le_refl n) (by omega))]
      exact ⟨_, _, _, _, rfl, rfl, hf1⟩
    · rintro c c' i ⟨s, s2, s3⟩ hi ⟨hf1, S', d', b1, b2, b3⟩
      show (∃ v A' uI' uA', fX7_judge_38s N (fX7_judge_38 N c) I s _ _ _ = _ ∧ fX6_judge_93s N (fX6_judge_93 N c') _ tI tA wI wA s2 s3 _ _ = _ ∧ _) ∨ ∃ s' : (Nat → Nat → Int32) × (Nat → Int32) × (Nat → Nat → Int32), _ ∧ fX7_judge_38s N (fX7_judge_38 N c) I s _ _ _ = _ ∧ fX6_judge_93s N (fX6_judge_93 N c') _ tI tA wI wA s2 s3 _ _ = _
      dsimp only at hf1 b1 b2
      have ei : (3 : Int32) * (nI n - 1 - nI i) = nI (3 * (n - 1 - i)) := by
        rw [show nI n - 1 = nI (n - 1) from pk_sub (b := 1) n1, pk_sub (show i ≤ n - 1 by omega)]
        exact pk_mul 3 _
      have p9 : 10 ^ (3 * (n - 1 - i)) ≤ 10 ^ 12 := Nat.pow_le_pow_right (by omega) (by omega)
      have p8 : 0 < 10 ^ (3 * (n - 1 - i)) := Nat.pow_pos (by omega)
      have hd2 : f / 10 ^ (3 * (n - 1 - i)) < 2 ^ 63 := Nat.lt_of_le_of_lt (Nat.div_le_self _ _) hf
      have hz : nzL (lN (10 ^ (3 * (n - 1 - i)))) = some (lN (10 ^ (3 * (n - 1 - i)))) := by
        unfold nzL
        rw [if_neg]
        intro h
        have := (pk_lEQ (b := 0) (by omega) (by omega)).mp h
        omega
      obtain ⟨v, A', uI', uA', S2, d2, t1, t2, t3, t4, t5, t6⟩ := b_thing N (nI (f / 10 ^ (3 * (n - 1 - i)) % 1000)) (by omega) hB (FrL_MT hf1 hMT) hCT b1 b2 b3
      have hf2 := FrL_tr hf1 t3
      unfold fX7_judge_38s fX6_judge_93s fX7_judge_86 fX6_judge_152
      have hv2 : va_up A6 2 g 2 i = nI (f / 10 ^ (3 * (n - 1 - i)) % 1000) := by
        rw [va_up_self, g1 i hi, Nat.pow_mul]
      rw [if_neg (nI_ge hi (by omega)), if_neg (nI_ge hi (by omega)), if_neg (show ¬ (4 : Int32) ≤ nI i from nI_ge (b := 4) (by omega) (by omega)), m_allWorth N (by omega) hB (FrL_MT hf1 hMT) b1 b3, Option.bind_some, ei, m_tenTo N _ (by omega) (by omega), Option.bind_some, hz, Option.bind_some, pk_lDiv hf p8 (by omega), show (1000 : Int64) = lN 1000 from rfl, remL_n hd2 (by omega) (by omega), lN_i, t1, Option.bind_some, c_allWorth N (by omega) hB hCT b2 b3, Option.bind_some, rd_e rfl (by omega) (by omega) hv2, Option.bind_some, t2, Option.bind_some]
      dsimp only
      rw [m_allWorth N (by omega) hB (FrL_MT hf2 hMT) t4 t6, Option.bind_some, c_allWorth N (by omega) hB hCT t5 t6, Option.bind_some, nI_1]
      by_cases v0 : v = 0
      · rw [if_pos v0, if_pos v0]; exact Or.inl ⟨_, _, _, _, rfl, rfl, hf2⟩
      · rw [if_neg v0, if_neg v0]
        by_cases hle : nI (awN k T S' d') ≤ nI (awN k T S2 d2)
        · rw [if_pos hle, if_pos hle]
          exact Or.inr ⟨(A', uI', uA'), ⟨hf2, S2, d2, t4, t5, t6⟩, rfl, rfl⟩
        · rw [if_neg hle, if_neg hle]; exact Or.inl ⟨_, _, _, _, rfl, rfl, hf2⟩
  · rw [if_pos (show lN (10 ^ (3 * n) - 1) < lN f by rw [pk_lLT (by omega) (by omega)]; omega), z00, if_neg]
    · exact ⟨-2, A, _, uI, uA, rfl, rfl, hR6 (FrL_rfl 1 A)⟩
    · intro h
      have h2 := (lg_0 _ hd).mp h
      rw [e3] at h2
      have h3 : 1 ≤ f / 10 ^ (3 * n) := (Nat.le_div_iff_mul_le p1).mpr (by omega)
      omega
-- weeks
theorem ush33 (X : Int64) : ∃ v, v < 2 ^ 31 ∧ ushL X 33 = lN v := by
  unfold ushL
  refine ⟨(X.toUInt64 >>> ((33 : Int32).toInt64.toUInt64 &&& Int64.toUInt64 63)).toNat, ?_, ?_⟩
  · rw [UInt64.toNat_shiftRight, show ((33 : Int32).toInt64.toUInt64 &&& Int64.toUInt64 63).toNat % 64 = 33 by decide +kernel, Nat.shiftRight_eq_div_pow]
    have := X.toUInt64.toNat_lt
    omega
  · unfold lN
    rw [← UInt64.toInt64_ofNat', UInt64.ofNat_toNat]
def apN (k m : Nat) (T : Nat → Nat → Nat) (S : Nat → Nat) (d : Int32) : Nat := sm (fun p => prs k T S d p) m
theorem m_allPurses (N : Nat) {k m lv : Nat} {T : Nat → Nat → Nat} {I : Nat → Int32} {A : Nat → Nat → Int32} {S : Nat → Nat} {d : Int32} (hN : 40 ≤ N) (hB : TB k m T) (hT : MT k m T I A) (hS : MS A lv S d) (hSB : SB k m S) (hl : lv < 2) : fX7_allPurses N I A (nI lv) = some (nI (apN k m T S d)) := by
  have hm := hB.2.1
  unfold fX7_allPurses
  refine lpE (fun n i => fX7_allPurses_4 N n I A (nI lv) (nI (sm (fun p => prs k T S d p) i)) (nI i)) (fun _ => some (nI (apN k m T S d))) m ?_ ?_ N 0 (by omega) (by omega)
  · intro n
    show fX7_allPurses_4s N _ I A _ _ _ = _
    unfold fX7_allPurses_4s
    rw [hT.2.1, if_pos (nI_le (Nat.le_refl m) (by omega))]
    rfl
  · intro n i hi ih
    show fX7_allPurses_4s N _ I A _ _ _ = _
    unfold fX7_allPurses_4s
    rw [hT.2.1, if_neg (nI_ge hi (by omega)), m_purseOf N hN hB hT hS hSB hl hi, Option.bind_some, nI_add, nI_1]
    exact ih
theorem hv_31 {k : Nat} (T : Nat → Nat → Nat) (S : Nat → Nat) (d : Int32) (p : Nat) (hk : k ≤ 5) : hvN k T S d p 31 = prs k T S d p := by
  unfold hvN prs
  refine sm_eq _ _ k (fun r hr => ?_)
  have : ∀ r, r < 5 → Nat.testBit 31 r = true := by decide
  rw [if_pos (this r (by omega))]
theorem c_allPurses (N : Nat) {k m : Nat} {T : Nat → Nat → Nat} {I : Nat → Int32} {A : Nat → Nat → Int32} {I1 : Nat → Int32} {A1 : Nat → Nat → Int32} {S : Nat → Nat} {d : Int32} (hN : 40 ≤ N) (hB : TB k m T) (hT : CT k m T I1 A1) (hS : CS I A S d) (hSB : SB k m S) : fX4_valueOfPurses N I A I1 A1 = some (nI (apN k m T S d)) := by
  have hk := hB.1
  have hm := hB.2.1
  unfold fX4_valueOfPurses
  refine lpE (fun n i => fX4_valueOfPurses_4 N n I A I1 A1 (nI (sm (fun p => prs k T S d p) i)) (nI i)) (fun _ => some (nI (apN k m T S d))) m ?_ ?_ N 0 (by omega) (by omega)
  · intro n
    show fX4_valueOfPurses_4s N _ I A I1 A1 _ _ = _
    unfold fX4_valueOfPurses_4s
    rw [hT.2.1, if_pos (nI_le (Nat.le_refl m) (by omega))]
    rfl
  · intro n i hi ih
    show fX4_valueOfPurses_4s N _ I A I1 A1 _ _ = _
    unfold fX4_valueOfPurses_4s
    have hv : fX4_valueOfSet N I A I1 A1 (nI i) 31 = _ := c_valueOfSet N (set := 31) hN hB hT hS hSB hi (by omega)
    rw [hT.2.1, if_neg (nI_ge hi (by omega)), hv, hv_31 T S d i hk, Option.bind_some, nI_add, nI_1]
    exact ih
theorem rem_n60 {a : Nat} (ha : a < 2 ^ 31) : rem (nI a) 60 = nI (a % 60) := pk_rem (d := 60) ha (by omega) (by omega)
theorem r_weeks (N : Nat) {I : Nat → Int32} {A : Nat → Nat → Int32} {L : Int64} {A6 : Nat → Nat → Int32} {L6 : Int64} {rI : Nat → Int32} {rA : Nat → Nat → Int32} {tI : Nat → Int32} {tA : Nat → Nat → Int32} {wI : Nat → Int32} {wA : Nat → Nat → Int32} {aI : Nat → Int32} {aS : Nat → Nat → Int32} {aT : Nat → Nat → Nat → Int32} {eI : Nat → Int32} {eA : Nat → Nat → Int32} {sS : Nat → Nat → Int32} {sT : Nat → Nat → Nat → Int32} (hN : 10200 ≤ N) (hR : Rel I A L A6 L6 rI rA tI tA wI wA aI aS aT eI eA sS sT) (uI : Nat → Int32) (uA : Nat → Nat → Int32) (x : Int32) : ∃ r A' L' L6' uI' uA', fX7_weeks N I A L x = some (r, A', L') ∧ fX6_weeks N L6 tI tA wI wA uI uA x = some (r, L6', uI', uA') ∧ Rel I A' L' A6 L6' rI rA tI tA wI wA aI aS aT eI eA sS sT := by
  obtain ⟨k, m, T, S, d, hB, hSB, hMT, hCT, hMS, hCS, hRT, hRA, hRH, hRK, hL⟩ := id hR
  have hk := hB.1
  have q1 := m_in1 N x 20 (by omega) 20 (by decide +kernel)
  have q2 : fX6_isOutside N x 1 20 = _ := out_1 N x 20 (by omega)
  unfold fX7_weeks fX6_weeks
  rw [q1, q2, Option.bind_some, Option.bind_some]
  by_cases hx : x < 1 ∨ nI (20 + 1) ≤ x
  · rw [if_pos hx, if_pos hx]; exact ⟨-2, A, L, L6, uI, uA, rfl, rfl, hR⟩
  rw [if_neg hx, if_neg hx, n10, z00]
  obtain ⟨n, n1, n4, rfl⟩ := ix_1 (by omega) hx
  obtain ⟨A1, a1, a2, a3⟩ := m_layTrial N (by omega) hMS
  obtain ⟨uI1, uA1, c1, c2⟩ := CS_copy (I := uI) (A := uA) N hCS
  rw [a3, Option.bind_some, c1, Option.bind_some]
  have hR6 : ∀ {A' : Nat → Nat → Int32} (L' : Int64), FrL 1 A A' → Rel I A' L' A6 L' rI rA tI tA wI wA aI aS aT eI eA sS sT := by
    intro A' L' h
    obtain ⟨k, m, T, S, d, h1, h2, h3, h4, h5, h6, h7, h8, h9, h10, h11⟩ := R_scr hR h
    exact ⟨k, m, T, S, d, h1, h2, h3, h4, h5, h6, h7, h8, h9, h10, rfl⟩
  subst hL
  have H := lpP (fun c i (s : (Nat → Nat → Int32) × (Nat → Int32) × (Nat → Nat → Int32) × Int64) => fX7_weeks_21 N c I s.1 s.2.2.2 (nI n) (nI i)) (fun c i (s : (Nat → Nat → Int32) × (Nat → Int32) × (Nat → Nat → Int32) × Int64) => fX6_weeks_26 N c s.2.2.2 tI tA wI wA s.2.1 s.2.2.1 (nI n) (nI i)) (fun i s => FrL 1 A s.1 ∧ ∃ S' d', MS s.1 1 S' d' ∧ CS s.2.1 s.2.2.1 S' d' ∧ SB k m S') (fun X Y => ∃ v A' L' uI' uA', X = some (v, A', L') ∧ Y = some (v, L', uI', uA') ∧ FrL 1 A A') n ?_ ?_ N N 0 (A1, uI1, uA1, L) (by omega) (by omega) (by omega) ⟨a2, S, d, a1, c2, hSB⟩
  · obtain ⟨v, A', L', uI', uA', v1, v2, v3⟩ := H
    exact ⟨v, A', L', L', uI', uA', v1, v2, hR6 L' v3⟩
  · rintro c c' ⟨s, s2, s3, s4⟩ ⟨hf1, S', d', b1, b2, b3⟩
    show ∃ v A' L' uI' uA', fX7_weeks_21s N _ I s s4 _ _ = _ ∧ fX6_weeks_26s N _ s4 tI tA wI wA s2 s3 _ _ = _ ∧ _
    unfold fX7_weeks_21s fX6_weeks_26s
    dsimp only at hf1 b1 b2
    have hap : fX7_allPurses N I s 1 = _ := m_allPurses N (lv := 1) (by omega) hB (FrL_MT hf1 hMT) b1 b3 (by omega)
    rw [if_pos (nI_le (Nat.le_refl n) (by omega)), if_pos (nI_le (Nat.le_refl n) (by omega)), hap, Option.bind_some, c_allPurses N (by omega) hB hCT b2 b3, Option.bind_some]
    exact ⟨_, _, _, _, _, rfl, rfl, hf1⟩
  · rintro c c' i ⟨s, s2, s3, s4⟩ hi ⟨hf1, S', d', b1, b2, b3⟩
    refine Or.inr ?_
    show ∃ s' : (Nat → Nat → Int32) × (Nat → Int32) × (Nat → Nat → Int32) × Int64, _ ∧ fX7_weeks_21s N (fX7_weeks_21 N c) I s s4 _ _ = _ ∧ fX6_weeks_26s N (fX6_weeks_26 N c') s4 tI tA wI wA s2 s3 _ _ = _
    dsimp only at hf1 b1 b2
    unfold fX7_weeks_21s fX6_weeks_26s
    obtain ⟨v, hv, ev⟩ := ush33 (s4 * 6364136223846793005 + 1442695040888963407)
    have e1 : Int64.toInt32 (remL (lN v) 60) = nI (v % 60) := by
      rw [show (60 : Int64) = lN 60 from rfl, remL_n (by omega) (by omega) (by omega), lN_i]
    have e2 : rem (Int64.toInt32 (lN v)) 60 = nI (v % 60) := by
      rw [lN_i]; exact rem_n60 hv
    rw [ev, e1, e2, if_neg (nI_ge hi (by omega)), if_neg (nI_ge hi (by omega))]
    obtain ⟨w, A', uA', S2, t1, t2, t3, t4, t5, t6, t7⟩ := b_say N (nI (v % 60) / 10) (rem (nI (v % 60)) 10) hB (FrL_MT hf1 hMT) hCT b1 b2 b3
    have hf2 := FrL_tr hf1 t4
    obtain ⟨A2, g1, g2, g3⟩ := m_dawnOn1 N (by omega) hB (FrL_MT hf2 hMT) t5 t7
    obtain ⟨uI2, uA2, p1, p2⟩ := c_passDawn N (by omega) hB hCT t6 t7
    rw [t1, Option.bind_some, t2, Option.bind_some]
    dsimp only
    rw [g3, Option.bind_some, p2, Option.bind_some, nI_1]
    exact ⟨(A2, uI2, uA2, s4 * 6364136223846793005 + 1442695040888963407), ⟨FrL_tr hf2 g2, _, _, g1, p1, SB_dw d' hB t7⟩, rfl, rfl⟩
