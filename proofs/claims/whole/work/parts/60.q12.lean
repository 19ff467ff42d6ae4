-- factorials, the greatest common divisor, fractions
def facN : Nat → Nat
  | 0 => 1
  | n + 1 => (n + 1) * facN n
theorem fac_b : ∀ c, c < 7 → 0 < facN c ∧ facN c ≤ 720 := by decide
theorem m_fac (N : Nat) (hN : 40 ≤ N) : ∀ c, c < 7 → fX7_factorial N (nI c) = some (nI (facN c)) := by
  intro c hc
  obtain ⟨n, rfl⟩ : ∃ n, N = n + 10 := ⟨N - 10, by omega⟩
  have : c = 0 ∨ c = 1 ∨ c = 2 ∨ c = 3 ∨ c = 4 ∨ c = 5 ∨ c = 6 := by omega
  rcases this with rfl | rfl | rfl | rfl | rfl | rfl | rfl <;> rfl
theorem c_fac (N : Nat) (hN : 40 ≤ N) : ∀ c, c < 7 → fX6_factorial N (nI c) = some (nI (facN c)) := by
  intro c hc
  obtain ⟨n, rfl⟩ : ∃ n, N = n + 10 := ⟨N - 10, by omega⟩
  have : c = 0 ∨ c = 1 ∨ c = 2 ∨ c = 3 ∨ c = 4 ∨ c = 5 ∨ c = 6 := by omega
  rcases this with rfl | rfl | rfl | rfl | rfl | rfl | rfl <;> rfl
theorem nz_n {a : Nat} (h0 : 0 < a) (h : a < 2 ^ 31) : nz (nI a) = some (nI a) := by
  unfold nz
  rw [if_neg (nI_ne0 h0 h)]
theorem rem_n {a b : Nat} (ha : a < 2 ^ 31) (h0 : 0 < b) (hb : b < 2 ^ 31) : rem (nI a) (nI b) = nI (a % b) := pk_rem ha h0 hb
theorem half_mod {b c : Nat} (hc : 0 < c) (hcb : c < b) : 2 * (b % c) < b := by
  have h1 := Nat.div_add_mod b c
  have h2 := Nat.mod_lt b hc
  have h3 : 1 ≤ b / c := (Nat.le_div_iff_mul_le hc).mpr (by omega)
  have h4 : c * 1 ≤ c * (b / c) := Nat.mul_le_mul_left c h3
  omega
theorem gcd_st (a b : Nat) : Nat.gcd a b = Nat.gcd b (a % b) := by
  rw [Nat.gcd_comm a b, Nat.gcd_rec b a, Nat.gcd_comm (a % b) b]
theorem m_gcd (N : Nat) : ∀ j a b n, a < 2 ^ 31 → b < 2 ^ 31 → b < 2 ^ j → 2 * j + 1 ≤ n → fX7_common_13 N n (nI a) (nI b) = some (nI (Nat.gcd a b)) := by
  intro j
  induction j with
  | zero =>
    intro a b n ha hb hj hn
    obtain rfl : b = 0 := by omega
    obtain ⟨n, rfl⟩ : ∃ q, n = q + 1 := ⟨n - 1, by omega⟩
    show fX7_common_13s N _ _ _ = _
    unfold fX7_common_13s
    rw [if_pos (show nI 0 = 0 from rfl), Nat.gcd_zero_right]
  | succ j ih =>
    intro a b n ha hb hj hn
    obtain ⟨n, rfl⟩ : ∃ q, n = q + 1 := ⟨n - 1, by omega⟩
    show fX7_common_13s N _ _ _ = _
    unfold fX7_common_13s
    by_cases b0 : b = 0
    · subst b0; rw [if_pos (show nI 0 = 0 from rfl), Nat.gcd_zero_right]
    rw [if_neg (nI_ne0 (by omega) hb), nz_n (by omega) hb, Option.bind_some, rem_n ha (by omega) hb, gcd_st a b]
    obtain ⟨n, rfl⟩ : ∃ q, n = q + 1 := ⟨n - 1, by omega⟩
    show fX7_common_13s N _ _ _ = _
    have hc := Nat.mod_lt a (show b > 0 by omega)
    unfold fX7_common_13s
    by_cases c0 : a % b = 0
    · rw [c0, if_pos (show nI 0 = 0 from rfl), Nat.gcd_zero_right]
    rw [if_neg (nI_ne0 (by omega) (by omega)), nz_n (by omega) (by omega), Option.bind_some, rem_n hb (by omega) (by omega), gcd_st b (a % b)]
    have h2 := half_mod (show 0 < a % b by omega) hc
    rw [Nat.pow_succ] at hj
    exact ih (a % b) (b % (a % b)) n (by omega) (by omega) (by omega) (by omega)
theorem c_gcd (N : Nat) : ∀ j a b i n, a < 2 ^ 31 → b < 2 ^ 31 → b < 2 ^ j → i + 2 * j + 1 ≤ 64 → 2 * j + 1 ≤ n → fX6_commonDivisor_7 N n (nI a) (nI b) (nI i) = some (nI (Nat.gcd a b)) := by
  intro j
  induction j with
  | zero =>
    intro a b i n ha hb hj hi hn
    obtain rfl : b = 0 := by omega
    obtain ⟨n, rfl⟩ : ∃ q, n = q + 1 := ⟨n - 1, by omega⟩
    show fX6_commonDivisor_7s N _ _ _ _ = _
    unfold fX6_commonDivisor_7s fX6_commonDivisor_34
    rw [if_neg (show ¬ (64 : Int32) ≤ nI i from nI_ge (b := 64) (by omega) (by omega)), if_pos (show nI 0 = 0 from rfl), Nat.gcd_zero_right]
  | succ j ih =>
    intro a b i n ha hb hj hi hn
    obtain ⟨n, rfl⟩ : ∃ q, n = q + 1 := ⟨n - 1, by omega⟩
    show fX6_commonDivisor_7s N _ _ _ _ = _
    unfold fX6_commonDivisor_7s fX6_commonDivisor_34
    rw [if_neg (show ¬ (64 : Int32) ≤ nI i from nI_ge (b := 64) (by omega) (by omega))]
    by_cases b0 : b = 0
    · subst b0; rw [if_pos (show nI 0 = 0 from rfl), Nat.gcd_zero_right]
    rw [if_neg (nI_ne0 (by omega) hb), nz_n (by omega) hb, Option.bind_some, rem_n ha (by omega) hb, gcd_st a b, nI_1]
    obtain ⟨n, rfl⟩ : ∃ q, n = q + 1 := ⟨n - 1, by omega⟩
    show fX6_commonDivisor_7s N _ _ _ _ = _
    have hc := Nat.mod_lt a (show b > 0 by omega)
    unfold fX6_commonDivisor_7s fX6_commonDivisor_34
    rw [if_neg (show ¬ (64 : Int32) ≤ nI (i + 1) from nI_ge (b := 64) (by omega) (by omega))]
    by_cases c0 : a % b = 0
    · rw [c0, if_pos (show nI 0 = 0 from rfl), Nat.gcd_zero_right]
    rw [if_neg (nI_ne0 (by omega) (by omega)), nz_n (by omega) (by omega), Option.bind_some, rem_n hb (by omega) (by omega), gcd_st b (a % b), nI_1]
    have h2 := half_mod (show 0 < a % b by omega) hc
    rw [Nat.pow_succ] at hj
    exact ih (a % b) (b % (a % b)) (i + 1 + 1) n (by omega) (by omega) (by omega) (by omega) (by omega)
/-- a number with a sign, as a difference -/
theorem ab_dif (P Q : Nat) (hP : P < 2 ^ 30) (hQ : Q < 2 ^ 30) : ∃ a, a < 2 ^ 30 ∧ (if 0 ≤ nI P - nI Q then nI P - nI Q else neg (nI P - nI Q)) = nI a ∧ (if 0 ≤ nI P - nI Q then nI P - nI Q else 0 - (nI P - nI Q)) = nI a := by
  have e1 := pk_sub_toInt hP hQ
  by_cases h : Q ≤ P
  · refine ⟨P - Q, by omega, ?_⟩
    rw [pk_sub h, if_pos (nI_pos' (by omega))]
    exact ⟨rfl, if_pos (nI_pos' (by omega))⟩
  · have h3 := pk_sneg (a := P) (b := Q) hQ (by omega)
    have e2 : 0 - (nI P - nI Q) = nI (Q - P) := by
      rw [← pk_sub (show P ≤ Q by omega), Int32.zero_sub, Int32.neg_sub]
    refine ⟨Q - P, by omega, ?_⟩
    rw [if_neg (fun h4 => Int32.not_lt.mpr h4 h3)]
    refine ⟨?_, ?_⟩
    · unfold neg; rw [← e2, Int32.zero_sub]
    · rw [if_neg (fun h4 => Int32.not_lt.mpr h4 h3)]; exact e2
theorem b_frac (N : Nat) (hN : 100 ≤ N) (P Q b : Nat) (hP : P < 2 ^ 30) (hQ : Q < 2 ^ 30) (h0 : 0 < b) (hb : b < 2 ^ 20) (u : Int32) : ∃ g : Nat, 0 < g ∧ g < 2 ^ 31 ∧ fX7_common N (nI P - nI Q) (nI b) = some (nI g) ∧ fX6_fraction N (nI P - nI Q) (nI b) u = some (if u = 0 then nI b / nI g else (nI P - nI Q) / nI g) := by
  obtain ⟨a, ha, e1, e2⟩ := ab_dif P Q hP hQ
  have hg0 : 0 < Nat.gcd a b := Nat.gcd_pos_of_pos_right a h0
  have hgb : Nat.gcd a b ≤ b := Nat.gcd_le_right a h0
  refine ⟨Nat.gcd a b, hg0, by omega, ?_, ?_⟩
  · unfold fX7_common fX7_common_10
    have h1 := m_gcd N 20 a b N (by omega) (by omega) hb (by omega)
    by_cases h : 0 ≤ nI P - nI Q
    · rw [if_pos h] at e1 ⊢; rw [e1]; exact h1
    · rw [if_neg h] at e1 ⊢; rw [e1]; exact h1
  · unfold fX6_fraction fX6_fraction_37 fX6_fraction_23 fX6_commonDivisor
    rw [e2]
    have h2 : fX6_commonDivisor_7 N N (nI a) (nI b) 0 = _ := c_gcd N 20 a b 0 N (by omega) (by omega) hb (by omega) (by omega)
    rw [h2, Option.bind_some, if_pos (show (1 : Int32) ≤ nI _ from nI_le (a := 1) (by omega) (by omega)), nz_n hg0 (by omega), Option.bind_some, Option.bind_some]
    split <;> rfl
-- shares
theorem m_worthBy (N : Nat) {k m r set q : Nat} {T : Nat → Nat → Nat} {I : Nat → Int32} {A : Nat → Nat → Int32} {S : Nat → Nat} {d : Int32} (hN : 40 ≤ N) (hB : TB k m T) (hT : MT k m T I A) (hS : MS A 0 S d) (hSB : SB k m S) (hr : r < k) (hs : set < 64) (hq : q < 9) : ∃ A', fX7_worthBy N I A (nI r) (nI set) (nI q) = some (nI (wN T S d r set q), A') ∧ FrL 1 A A' := by
  have hk := hB.1
  obtain ⟨A1, a1, a2, a3⟩ := m_layTrial N (by omega) hS
  have w1 := MS_w a1 r set (by omega)
  have wf := FrL_wr (lv := 1) A1 (nI set) (j := r) (by omega)
  have wb := SB_said hSB r set hr hk hs
  obtain ⟨A2, b1, b2, b3⟩ := m_dawnTrial N (by omega) hB (FrL_MT (FrL_tr a2 wf) hT) w1 wb (q := q) (by omega)
  have fr := FrL_tr (FrL_tr a2 wf) b2
  have hw := m_worthOf N (lv := 1) (by omega) hB (FrL_MT fr hT) b1 (SB_dws d hB wb q) (by omega) hr
  rw [vR_dws T d _ r q hk hr] at hw
  refine ⟨A2, ?_, fr⟩
  unfold fX7_worthBy
  rw [a3, Option.bind_some, show (31 : Int32) + nI r = nI (31 * 1 + r) from nI_add 31 r, wr_e _ _ rfl (by omega) (by omega), Option.bind_some, b3, Option.bind_some, show fX7_worthOf N A2 1 (nI r) = _ from hw, Option.bind_some]
  unfold wN
  rw [s1_s, s1_n _ _ (by omega)]
theorem cn_off : ∀ s, s < 64 → ∀ t, t < 6 → s.testBit t = true → cn (s &&& (63 - 2 ^ t)) + 1 = cn s := by decide +kernel
theorem sub_off0 : ∀ x, x < 64 → ∀ s, s < 64 → ∀ t, t < 6 → s.testBit t = true → decide (x &&& (63 - (s &&& (63 - 2 ^ t))) = 0) = (decide (x &&& (63 - s) = 0) && !(x.testBit t)) := by decide +kernel
theorem sub_off (x : Nat) (hx : x < 64) (s : Nat) (hs : s < 64) (t : Nat) (ht : t < 6) (h : s.testBit t = true) : x &&& (63 - (s &&& (63 - 2 ^ t))) = 0 ↔ (x &&& (63 - s) = 0 ∧ x.testBit t = false) := by
  have h2 := sub_off0 x hx s hs t ht h
  rw [Bool.eq_iff_iff] at h2
  simpa using h2
theorem cn_sub : ∀ x, x < 64 → ∀ s, s < 64 → x &&& (63 - s) = 0 → cn x ≤ cn s := by decide +kernel
theorem r_share (N : Nat) {I : Nat → Int32} {A : Nat → Nat → Int32} {L : Int64} {A6 : Nat → Nat → Int32} {L6 : Int64} {rI : Nat → Int32} {rA : Nat → Nat → Int32} {tI : Nat → Int32} {tA : Nat → Nat → Int32} {wI : Nat → Int32} {wA : Nat → Nat → Int32} {aI : Nat → Int32} {aS : Nat → Nat → Int32} {aT : Nat → Nat → Nat → Int32} {eI : Nat → Int32} {eA : Nat → Nat → Int32} {sS : Nat → Nat → Int32} {sT : Nat → Nat → Nat → Int32} (hN : 10200 ≤ N) (hR : Rel I A L A6 L6 rI rA tI tA wI wA aI aS aT eI eA sS sT) (x y z u : Int32) : ∃ r A', fX7_share N I A x y z u = some (r, A') ∧ fX6_share N tI tA wI wA x y z u = some r ∧ Rel I A' L A6 L6 rI rA tI tA wI wA aI aS aT eI eA sS sT := by
  obtain ⟨k, m, T, S, d, hB, hSB, hMT, hCT, hMS, hCS, hRT, hRA, hRH, hRK, hL⟩ := id hR
  have hk := hB.1
  unfold fX7_share fX6_share fX7_share_29 fX6_share_30 fX7_share_59
  rw [m_isR N y hB hMT, c_isR N y hB hCT, m_isT, c_isT, m_far, c_far, Option.bind_some, Option.bind_some, Option.bind_some, Option.bind_some, Option.bind_some, Option.bind_some]
  by_cases hy : y < 0 ∨ nI k ≤ y
  · rw [if_pos hy]; exact ⟨-1, A, rfl, rfl, hR⟩
  rw [if_neg hy, n10, n10]
  by_cases hx : x < 0 ∨ nI 6 ≤ x
  · rw [if_pos hx]; exact ⟨-2, A, rfl, rfl, hR⟩
  rw [if_neg hx, n10, n10]
  by_cases hz : z < 0 ∨ nI 9 ≤ z
  · rw [if_pos hz, if_pos hz]; exact ⟨-2, A, rfl, rfl, hR⟩
  rw [if_neg hz, if_neg hz, n10, z00]
  obtain ⟨r, hr, rfl⟩ := ix_of (by omega) hy
  obtain ⟨t, ht, rfl⟩ := ix_of (by omega) hx
  obtain ⟨q, hq, rfl⟩ := ix_of (by omega) hz
  have hs := hSB.1 r (by omega)
  have m0 := hMS.1 r (by omega)
  rw [show 31 * 0 + r = r by omega] at m0
  rw [rd_e rfl (by omega) (by omega) m0, Option.bind_some, m_has N hs ht, Option.bind_some, c_saidOf N hCS (by omega), Option.bind_some, c_hasBit N hs ht, Option.bind_some]
  cases hb : (S r).testBit t with
  | false =>
    rw [if_neg Bool.false_ne_true, z00, z00]
    obtain ⟨g, g0, g1, g2, g3⟩ := b_frac N (by omega) 0 0 1 (by omega) (by omega) (by omega) (by omega) u
    obtain ⟨n, rfl⟩ : ∃ n, N = n + 10 := ⟨N - 10, by omega⟩
    by_cases hu : u = 0
    · refine ⟨1, A, by rw [if_pos hu], ?_, hR⟩
      subst hu; rfl
    · refine ⟨0, A, by rw [if_neg hu], ?_, hR⟩
      unfold fX6_fraction
      simp only [if_neg hu]
      rfl
  | true =>
    rw [if_pos rfl, n10, n10, ones_N N (by omega) hs, Option.bind_some, shl1 t ht, an_N _ hs _ (p2_64 ht)]
    have ho : S r &&& (63 - 2 ^ t) < 64 := and_lt hs
    rw [bc_N N ho, Option.bind_some]
    have hcn := cn_off (S r) hs t ht hb
    have c6 := cn_6 (S r)
    have H := lpP (fun n i (s : (Nat → Nat → Int32) × Nat × Nat) => fX7_share_73 N n I s.1 (nI t) (nI r) (nI q) u (nI (S r)) (nI (cn (S r))) (nI s.2.1 - nI s.2.2) (nI i)) (fun n i (s : (Nat → Nat → Int32) × Nat × Nat) => fX6_share_83 N n tI tA wI wA (nI t) (nI r) (nI q) u (nI (S r &&& (63 - 2 ^ t))) (nI (cn (S r &&& (63 - 2 ^ t)))) (nI s.2.1 - nI s.2.2) (nI i)) (fun i s => FrL 1 A s.1 ∧ s.2.1 ≤ i * 9331200 ∧ s.2.2 ≤ i * 9331200) (fun X Y => ∃ v A', X = some (v, A') ∧ Y = some v ∧ FrL 1 A A') 64 ?_ ?_ N N 0 (A, 0, 0) (by omega) (by omega) (by omega) ⟨FrL_rfl 1 A, Nat.zero_le _, Nat.zero_le _⟩
    · obtain ⟨v, A', v1, v2, v3⟩ := H
      have e00 : nI 0 - nI 0 = (0 : Int32) := by decide
      dsimp only at v1 v2
      rw [e00] at v1 v2
      exact ⟨v, A', v1, v2, R_scr hR v3⟩
    · rintro n n' ⟨s, P, Q⟩ ⟨hf, hP, hQ⟩
      show ∃ v A', fX7_share_73s N _ I s _ _ _ _ _ _ _ _ = _ ∧ fX6_share_83s N _ tI tA wI wA _ _ _ _ _ _ _ _ = _ ∧ _
      unfold fX7_share_73s fX6_share_83s fX7_share_191
      have h64 : (63 : Int32) < nI 64 := by decide +kernel
      dsimp only at hP hQ hf ⊢
      have fb := fac_b (cn (S r)) (by omega)
      obtain ⟨g, g0, g1, g2, g3⟩ := b_frac N (by omega) P Q (facN (cn (S r))) (by omega) (by omega) fb.1 (by omega) u
      rw [if_pos h64, if_pos h64, m_fac N (by omega) _ (by omega), Option.bind_some, g2, Option.bind_some, nz_n g0 g1, Option.bind_some, Option.bind_some, Option.bind_some, nI_1, hcn, c_fac N (by omega) _ (by omega), Option.bind_some, g3, Option.bind_some]
      by_cases hu : u = 0
      · rw [if_pos hu, if_pos hu]; exact ⟨_, _, rfl, rfl, hf⟩
      · rw [if_neg hu, if_neg hu]; exact ⟨_, _, rfl, rfl, hf⟩
    · rintro n n' i ⟨s, P, Q⟩ hi ⟨hf, hP, hQ⟩
      refine Or.inr ?_
      dsimp only at hP hQ hf
      show ∃ s' : (Nat → Nat → Int32) × Nat × Nat, _ ∧ fX7_share_73s N (fX7_share_73 N n) I s _ _ _ _ _ _ _ _ = _ ∧ fX6_share_83s N (fX6_share_83 N n') tI tA wI wA _ _ _ _ _ _ _ _ = _
      unfold fX7_share_73s fX6_share_83s fX7_share_152 fX6_share_152
      have h63 : ¬ (63 : Int32) < nI i := nI_nlt (a := 63) (by omega) (by omega)
      have hu1 : i ||| 2 ^ t < 64 := or_lt hi (p2_64 ht)
      obtain ⟨A1, w1, f1⟩ := m_worthBy N (set := i ||| 2 ^ t) (by omega) hB (FrL_MT hf hMT) (FrL_MS0 hf hMS) hSB hr hu1 hq
      have hf1 := FrL_tr hf f1
      obtain ⟨A2, w2, f2⟩ := m_worthBy N (set := i) (by omega) hB (FrL_MT hf1 hMT) (FrL_MS0 hf1 hMS) hSB hr hi hq
      rw [if_neg h63, if_neg h63, an_N _ hi _ hs, an_N _ hi _ ho, m_has N hi ht, Option.bind_some, nI_1]
      have l1 : i &&& (63 - S r) < 64 := and_lt hi
      have l2 : i &&& (63 - (S r &&& (63 - 2 ^ t))) < 64 := and_lt hi
      have so := sub_off i hi (S r) hs t ht hb
      by_cases c1 : i &&& (63 - (S r &&& (63 - 2 ^ t))) = 0
      · obtain ⟨c2, c3⟩ := so.mp c1
        have hle := cn_sub i hi _ ho c1
        have fb1 := fac_b (cn i) (by omega)
        have fb2 := fac_b (cn (S r &&& (63 - 2 ^ t)) - cn i) (by omega)
        rw [if_pos ((nI_e0 (by omega)).mpr c2), if_pos ((nI_e0 (by omega)).mpr c1), c3, if_neg Bool.false_ne_true, z00, ones_N N (by omega) hi, Option.bind_some, m_fac N (by omega) _ (by omega), Option.bind_some, Option.bind_some, show nI (cn (S r)) - 1 - nI (cn i) = nI (cn (S r &&& (63 - 2 ^ t)) - cn i) by rw [← hcn, nI_pred, pk_sub hle], m_fac N (by omega) _ (by omega), Option.bind_some, shl1 t ht, or_N _ hi _ (p2_64 ht), w1, Option.bind_some, w2, Option.bind_some,
          bc_N N hi, Option.bind_some, c_valueIn N (by omega) hB hCT hCS hSB hr hu1 hq, Option.bind_some, c_valueIn N (by omega) hB hCT hCS hSB hr hi hq, Option.bind_some, c_fac N (by omega) _ (by omega), Option.bind_some, pk_sub hle, c_fac N (by omega) _ (by omega), Option.bind_some, pk_mul]
        have v1 := wN_18 S d (i ||| 2 ^ t) q hB hr
        have v2 := wN_18 S d i q hB hr
        have ff : facN (cn i) * facN (cn (S r &&& (63 - 2 ^ t)) - cn i) ≤ 720 * 720 := Nat.mul_le_mul fb1.2 fb2.2
        have p1 : facN (cn i) * facN (cn (S r &&& (63 - 2 ^ t)) - cn i) * wN T S d r (i ||| 2 ^ t) q ≤ 720 * 720 * 18 := Nat.mul_le_mul ff v1
        have p2 : facN (cn i) * facN (cn (S r &&& (63 - 2 ^ t)) - cn i) * wN T S d r i q ≤ 720 * 720 * 18 := Nat.mul_le_mul ff v2
        refine ⟨(A2, P + facN (cn i) * facN (cn (S r &&& (63 - 2 ^ t)) - cn i) * wN T S d r (i ||| 2 ^ t) q, Q + facN (cn i) * facN (cn (S r &&& (63 - 2 ^ t)) - cn i) * wN T S d r i q), ⟨FrL_tr hf1 f2, by dsimp only; omega, by dsimp only; omega⟩, ?_⟩
        have es : nI P - nI Q + nI (facN (cn i) * facN (cn (S r &&& (63 - 2 ^ t)) - cn i)) * (nI (wN T S d r (i ||| 2 ^ t) q) - nI (wN T S d r i q)) = nI (P + facN (cn i) * facN (cn (S r &&& (63 - 2 ^ t)) - cn i) * wN T S d r (i ||| 2 ^ t) q) - nI (Q + facN (cn i) * facN (cn (S r &&& (63 - 2 ^ t)) - cn i) * wN T S d r i q) := by
          rw [Int32.mul_sub, pk_mul, pk_mul, ← nI_add, ← nI_add]
          simp only [Int32.sub_eq_add_neg, Int32.neg_add]
          ac_rfl
        dsimp only
        rw [es]
        exact ⟨rfl, rfl⟩
      · rw [if_neg (show ¬ nI (i &&& (63 - (S r &&& (63 - 2 ^ t)))) = 0 from fun h => c1 ((nI_e0 (by omega)).mp h))]
        refine ⟨(s, P, Q), ⟨hf, Nat.le_trans hP (Nat.mul_le_mul_right _ (Nat.le_succ i)), Nat.le_trans hQ (Nat.mul_le_mul_right _ (Nat.le_succ i))⟩, ?_, rfl⟩
        by_cases c2 : i &&& (63 - S r) = 0
        · have c3 : i.testBit t = true := by
            cases h : i.testBit t with
            | true => rfl
            | false => exact absurd (so.mpr ⟨c2, h⟩) c1
          rw [if_pos ((nI_e0 (by omega)).mpr c2), c3, if_pos rfl, n10]
        · rw [if_neg (fun h => c2 ((nI_e0 (by omega)).mp h))]
