theorem lpS {σ R : Type} (G : Nat → Nat → σ → Option R) (E : Nat → σ → Option R) (K : Nat) (he : ∀ n s, G (n + 1) K s = E K s) (hs : ∀ n i s, i < K → (∀ s', G n (i + 1) s' = E (i + 1) s') → G (n + 1) i s = E i s) : ∀ n i s, i ≤ K → K - i < n → G n i s = E i s
  | 0, i, s, h1, h2 => by omega
  | n + 1, i, s, h1, h2 => by
    by_cases e : i = K
    · subst e; exact he n s
    · exact hs n i s (by omega) (fun s' => lpS G E K he hs n (i + 1) s' (by omega) (by omega))
/-- some one from i on, of c -/
def anyF (f : Nat → Bool) : Nat → Nat → Bool
  | 0, _ => false
  | c + 1, i => f i || anyF f c (i + 1)
theorem anyF_iff (f : Nat → Bool) : ∀ c i, anyF f c i = true ↔ ∃ j, i ≤ j ∧ j < i + c ∧ f j = true
  | 0, i => by
    constructor
    · intro h; cases h
    · rintro ⟨j, h1, h2, h3⟩; omega
  | c + 1, i => by
    rw [anyF, Bool.or_eq_true, anyF_iff f c (i + 1)]
    constructor
    · rintro (h | ⟨j, h1, h2, h3⟩)
      · exact ⟨i, by omega, by omega, h⟩
      · exact ⟨j, by omega, by omega, h3⟩
    · rintro ⟨j, h1, h2, h3⟩
      by_cases e : j = i
      · subst e; exact Or.inl h3
      · exact Or.inr ⟨j, by omega, by omega, h3⟩
theorem anyF_s (f : Nat → Bool) {K i : Nat} (h : i < K) : anyF f (K - i) i = (f i || anyF f (K - (i + 1)) (i + 1)) := by
  rw [show K - i = (K - (i + 1)) + 1 by omega, anyF]
theorem anyF_cut (f : Nat → Bool) {k K : Nat} (hk : k ≤ K) (hz : ∀ j, k ≤ j → j < K → f j = false) : anyF f K 0 = anyF f k 0 := by
  rw [Bool.eq_iff_iff, anyF_iff, anyF_iff]
  constructor
  · rintro ⟨j, h1, h2, h3⟩
    by_cases e : j < k
    · exact ⟨j, h1, by omega, h3⟩
    · rw [hz j (by omega) (by omega)] at h3; cases h3
  · rintro ⟨j, h1, h2, h3⟩
    exact ⟨j, h1, by omega, h3⟩
def rvl (T : Nat → Nat → Nat) (S : Nat → Nat) (o r : Nat) (j : Nat) : Bool := (T 3 r).testBit j && decide (0 < S (10 + (5 * o + j)))
theorem tb_hi {x k j : Nat} (hx : x < 2 ^ k) (h : k ≤ j) : x.testBit j = false := Nat.testBit_lt_two_pow (Nat.lt_of_lt_of_le hx (Nat.pow_le_pow_right (by omega) h))
theorem pk_32 {x k : Nat} (hk : k ≤ 5) (hx : x < 2 ^ k) : x < 32 := Nat.lt_of_lt_of_le hx (Nat.pow_le_pow_right (n := 2) (by omega) hk)
theorem m_has (N : Nat) {s t : Nat} (hs : s < 64) (ht : t < 6) : fX7_has N (nI s) (nI t) = some (if s.testBit t = true then 1 else 0) := by
  rw [q_X7_has N s t _ rfl, bitN s hs t ht]
theorem nI_p {n : Nat} (h : n < 2 ^ 31) : (0 : Int32) < nI n ↔ 0 < n := nI_ltI (a := 0) (by omega) h
theorem nI_l1 {n : Nat} (h : n < 2 ^ 31) : nI n < (1 : Int32) ↔ n < 1 := nI_ltI (b := 1) h (by omega)
theorem nI_l0 {n : Nat} (h : n < 2 ^ 31) : nI n ≤ (0 : Int32) ↔ n ≤ 0 := nI_leI (b := 0) h (by omega)
theorem nI_e0 {n : Nat} (h : n < 2 ^ 31) : nI n = (0 : Int32) ↔ n = 0 := nI_eq (b := 0) h (by omega)
theorem m_takes31 (N : Nat) {k m o r : Nat} {T : Nat → Nat → Nat} {I : Nat → Int32} {A : Nat → Nat → Int32} {S : Nat → Nat} {d : Int32} (hN : 40 ≤ N) (hB : TB k m T) (hT : MT k m T I A) (hS : MS A 0 S d) (hSB : SB k m S) (ho : o < m) (hr : r < k) (b : Bool) : fX7_takes_31 N I A (nI o) (nI r) (if b = true then 1 else 0) = some (if (b && !(anyF (rvl T S o r) k 0)) = true then 1 else 0) := by
  have hk := hB.1
  have hm := hB.2.1
  have h3 := pk_32 hk (hB.2.2.1 r hr).2.2.2.2
  unfold fX7_takes_31
  refine lpS (fun n i (b : Bool) => fX7_takes_35 N n I A (nI o) (nI r) (if b = true then 1 else 0) (nI i)) (fun i b => some (if (b && !(anyF (rvl T S o r) (k - i) i)) = true then 1 else 0)) k ?_ ?_ N 0 b (by omega) (by omega)
  · intro n b
    show fX7_takes_35s N _ I A _ _ _ _ = _
    unfold fX7_takes_35s
    rw [hT.1, if_pos (nI_le (Nat.le_refl k) (by omega)), Nat.sub_self, anyF]
    cases b <;> rfl
  · intro n i b hi ih
    show fX7_takes_35s N _ I A _ _ _ _ = _
    unfold fX7_takes_35s fX7_takes_82 fX7_takes_78 fX7_takes_83 fX7_coinAt
    have hc := hSB.2.1 (5 * o + i) (by omega)
    have e0 : 31 * (0 : Int32) + 10 + 5 * nI o + nI i = nI (31 * 0 + (10 + (5 * o + i))) := ox3 0 o i
    rw [hT.1, if_neg (nI_ge hi (by omega)), nI_1, anyF_s _ hi, rd_e rfl (by omega) (by omega) (hT.2.2.1 r hr).2.2.2, Option.bind_some, m_has N (by omega) (by omega), Option.bind_some, Option.bind_some, e0, rd_e rfl (by omega) (by omega) (hS.1 _ (by omega)), Option.bind_some]
    have i0 := ih false
    have i1 := ih true
    simp only [Bool.false_and, Bool.true_and, Bool.false_eq_true, ↓reduceIte] at i0 i1
    cases b with
    | false => rw [if_neg Bool.false_ne_true, z00, i0]; rfl
    | true =>
      rw [if_pos rfl, n10]
      unfold rvl at i1 ⊢
      cases hb : (T 3 r).testBit i with
      | false => rw [if_neg Bool.false_ne_true, z00, i1]; simp
      | true =>
        rw [if_pos rfl, n10]
        by_cases hp : 0 < S (10 + (5 * o + i))
        · rw [if_pos ((nI_p (by omega)).mpr hp), i0]; simp [hp]
        · rw [if_neg (fun h => hp ((nI_p (by omega)).mp h)), i1]; simp [hp]
theorem c_hasRival (N : Nat) {k m o r : Nat} {T : Nat → Nat → Nat} {I : Nat → Int32} {A : Nat → Nat → Int32} {I1 : Nat → Int32} {A1 : Nat → Nat → Int32} {S : Nat → Nat} {d : Int32} (hN : 40 ≤ N) (hB : TB k m T) (hT : CT k m T I1 A1) (hS : CS I A S d) (hSB : SB k m S) (ho : o < m) (hr : r < k) : fX4_hasRivalCoin N A A1 (nI o) (nI r) = some (if anyF (rvl T S o r) k 0 = true then 1 else 0) := by
  have hk := hB.1
  have hm := hB.2.1
  have h5 := (hB.2.2.1 r hr).2.2.2.2
  have h3 := pk_32 hk h5
  unfold fX4_hasRivalCoin
  rw [← anyF_cut (rvl T S o r) hk (fun j h1 h2 => by simp [rvl, tb_hi h5 h1])]
  refine lpE (fun n i => fX4_hasRivalCoin_3 N n A A1 (nI o) (nI r) (nI i)) (fun i => some (if anyF (rvl T S o r) (5 - i) i = true then 1 else 0)) 5 ?_ ?_ N 0 (by omega) (by omega)
  · intro n
    rfl
  · intro n i hi ih
    show fX4_hasRivalCoin_3s N _ A A1 _ _ _ = _
    unfold fX4_hasRivalCoin_3s fX4_hasRivalCoin_37
    have hc := hSB.2.1 (5 * o + i) (by omega)
    rw [if_neg (show ¬ (5 : Int32) ≤ nI i from nI_ge (b := 5) hi (by omega)), p_X6_at N 5 r (by omega) (by omega), Option.bind_some, (hT.2.2.1 r hr).2.2.2, c_hasBit N (by omega) (by omega), Option.bind_some, c_coinsOf N hS (by omega) (by omega), Option.bind_some, nI_1, ih, anyF_s _ hi]
    unfold rvl
    cases hb : (T 3 r).testBit i with
    | false => rw [if_neg Bool.false_ne_true, z00]; simp
    | true =>
      rw [if_pos rfl, n10]
      by_cases hp : 0 < S (10 + (5 * o + i))
      · rw [if_neg (fun h => by have := (nI_l0 (by omega)).mp h; omega)]; simp [hp]
      · rw [if_pos ((nI_l0 (by omega)).mpr (by omega))]; simp [hp]
theorem c_valueOf (N : Nat) {k m r : Nat} {T : Nat → Nat → Nat} {I : Nat → Int32} {A : Nat → Nat → Int32} {I1 : Nat → Int32} {A1 : Nat → Nat → Int32} {S : Nat → Nat} {d : Int32} (hB : TB k m T) (hT : CT k m T I1 A1) (hS : CS I A S d) (hSB : SB k m S) (hr : r < k) : fX4_valueOf N I A I1 A1 (nI r) = some (nI (vR T S d r)) := by
  have hk := hB.1
  unfold fX4_valueOf
  rw [c_saidOf N hS (by omega), Option.bind_some, c_deniedOf N hS (by omega), Option.bind_some, hS.2.2.2, c_valueOn N d hB hT hr (hSB.1 r (by omega)) (hSB.1 (5 + r) (by omega)), Option.bind_some]
  rfl
def tkB (k : Nat) (T : Nat → Nat → Nat) (S : Nat → Nat) (d : Int32) (o r : Nat) : Bool := decide (0 < vR T S d r) && (decide (S (10 + (5 * o + r)) < 99) && !(anyF (rvl T S o r) k 0))
theorem vR_18 {k m : Nat} {T : Nat → Nat → Nat} (S : Nat → Nat) (d : Int32) {r : Nat} (hB : TB k m T) (hr : r < k) : vR T S d r ≤ 18 := vN_18 _ _ _ _ _ _ (hB.2.2.1 r hr).2.1
theorem m_takes (N : Nat) {k m o r : Nat} {T : Nat → Nat → Nat} {I : Nat → Int32} {A : Nat → Nat → Int32} {S : Nat → Nat} {d : Int32} (hN : 40 ≤ N) (hB : TB k m T) (hT : MT k m T I A) (hS : MS A 0 S d) (hSB : SB k m S) (ho : o < m) (hr : r < k) : fX7_takes N I A (nI o) (nI r) = some (if tkB k T S d o r = true then 1 else 0) := by
  have hk := hB.1
  have hm := hB.2.1
  have hv := vR_18 S d hB hr
  have hc := hSB.2.1 (5 * o + r) (by omega)
  have e0 : 31 * (0 : Int32) + 10 + 5 * nI o + nI r = nI (31 * 0 + (10 + (5 * o + r))) := ox3 0 o r
  have hw : fX7_worthOf N A 0 (nI r) = some (nI (vR T S d r)) := m_worthOf N (lv := 0) (by omega) hB hT hS hSB (by omega) hr
  have t0 := m_takes31 N hN hB hT hS hSB ho hr false
  have t1 := m_takes31 N hN hB hT hS hSB ho hr true
  simp only [Bool.false_and, Bool.true_and, Bool.false_eq_true, ↓reduceIte] at t0 t1
  unfold fX7_takes fX7_takes_30 fX7_coinAt
  rw [hw, Option.bind_some, Option.bind_some, e0, rd_e rfl (by omega) (by omega) (hS.1 _ (by omega)), Option.bind_some, t0, t1]
  unfold tkB
  by_cases h1 : 0 < vR T S d r
  · rw [if_neg (fun h => by have := (nI_l0 (by omega)).mp h; omega)]
    by_cases h9 : S (10 + (5 * o + r)) < 99
    · rw [if_neg (show ¬ (99 : Int32) ≤ nI _ from nI_ge (b := 99) h9 (by omega))]; simp [h1, h9]
    · rw [if_pos (show (99 : Int32) ≤ nI _ from nI_le (a := 99) (by omega) (by omega))]; simp [h9]
  · rw [if_pos ((nI_l0 (by omega)).mpr (by omega))]; simp [h1]
theorem c_takes (N : Nat) {k m o r : Nat} {T : Nat → Nat → Nat} {I : Nat → Int32} {A : Nat → Nat → Int32} {I1 : Nat → Int32} {A1 : Nat → Nat → Int32} {S : Nat → Nat} {d : Int32} (hN : 40 ≤ N) (hB : TB k m T) (hT : CT k m T I1 A1) (hS : CS I A S d) (hSB : SB k m S) (ho : o < m) (hr : r < k) : fX4_isTakenBy N I A I1 A1 (nI o) (nI r) = some (if tkB k T S d o r = true then 1 else 0) := by
  have hk := hB.1
  have hm := hB.2.1
  have hv := vR_18 S d hB hr
  have hc := hSB.2.1 (5 * o + r) (by omega)
  unfold fX4_isTakenBy fX4_isTakenBy_35 fX4_isTakenBy_36
  rw [c_valueOf N hB hT hS hSB hr, Option.bind_some, c_coinsOf N hS (by omega) (by omega), Option.bind_some, c_hasRival N hN hB hT hS hSB ho hr, Option.bind_some, bz_0, bz_1, Option.bind_some, Option.bind_some]
  unfold tkB
  by_cases h1 : 0 < vR T S d r
  · rw [if_neg (fun h => by have := (nI_l1 (by omega)).mp h; omega)]
    by_cases h9 : S (10 + (5 * o + r)) < 99
    · rw [if_neg (show ¬ (99 : Int32) ≤ nI _ from nI_ge (b := 99) h9 (by omega))]
      cases ha : anyF (rvl T S o r) k 0 with
      | true => rw [if_pos rfl, n10]; simp
      | false => rw [if_neg Bool.false_ne_true, z00]; simp [h1, h9]
    · rw [if_pos (show (99 : Int32) ≤ nI _ from nI_le (a := 99) (by omega) (by omega))]; simp [h9]
  · rw [if_pos ((nI_l1 (by omega)).mpr (by omega))]; simp [h1]
theorem r_pay (N : Nat) {I : Nat → Int32} {A : Nat → Nat → Int32} {L : Int64} {A6 : Nat → Nat → Int32} {L6 : Int64} {rI : Nat → Int32} {rA : Nat → Nat → Int32} {tI : Nat → Int32} {tA : Nat → Nat → Int32} {wI : Nat → Int32} {wA : Nat → Nat → Int32} {aI : Nat → Int32} {aS : Nat → Nat → Int32} {aT : Nat → Nat → Nat → Int32} {eI : Nat → Int32} {eA : Nat → Nat → Int32} {sS : Nat → Nat → Int32} {sT : Nat → Nat → Nat → Int32} (hN : 10200 ≤ N) (hR : Rel I A L A6 L6 rI rA tI tA wI wA aI aS aT eI eA sS sT) (x y z : Int32) : ∃ r I' A' wA' aI' aS' aT', fX7_pay N I A x y z = some (r, I', A') ∧ fX6_pay N tI tA wI wA aI aS aT x y z = some (r, wA', aI', aS', aT') ∧ Rel I' A' L A6 L6 rI rA tI tA wI wA' aI' aS' aT' eI eA sS sT := by
  obtain ⟨k, m, T, S, d, hB, hSB, hMT, hCT, hMS, hCS, hRT, hRA, hRH, hRK, hL⟩ := id hR
  have hk := hB.1
  have hm := hB.2.1
  unfold fX7_pay fX6_pay fX7_pay_24 fX6_pay_33 fX7_pay_58 fX6_pay_72
  rw [m_isP N x hB hMT, c_isP N x hB hCT, m_isP N y hB hMT, c_isP N y hB hCT, m_isR N z hB hMT, c_isR N z hB hCT, Option.bind_some, Option.bind_some, Option.bind_some, Option.bind_some, Option.bind_some, Option.bind_some]
  by_cases hx : x < 0 ∨ nI m ≤ x
  · rw [if_pos hx]; exact ⟨-1, I, A, wA, aI, aS, aT, rfl, rfl, hR⟩
  rw [if_neg hx, n10, n10]
  by_cases hy : y < 0 ∨ nI m ≤ y
  · rw [if_pos hy]; exact ⟨-1, I, A, wA, aI, aS, aT, rfl, rfl, hR⟩
  rw [if_neg hy, n10, n10]
  by_cases hz : z < 0 ∨ nI k ≤ z
  · rw [if_pos hz]; exact ⟨-1, I, A, wA, aI, aS, aT, rfl, rfl, hR⟩
  rw [if_neg hz, n10, n10]
  by_cases he : x = y
  · rw [if_pos he, if_pos he]; exact ⟨-2, I, A, wA, aI, aS, aT, rfl, rfl, hR⟩
  rw [if_neg he, if_neg he]
  obtain ⟨p, hp, rfl⟩ := ix_of (by omega) hx
  obtain ⟨o, ho, rfl⟩ := ix_of (by omega) hy
  obtain ⟨r, hr, rfl⟩ := ix_of (by omega) hz
  have hpo : p ≠ o := fun h => he (by rw [h])
  have hcp := hSB.2.1 (5 * p + r) (by omega)
  have hco := hSB.2.1 (5 * o + r) (by omega)
  have ep : 31 * (0 : Int32) + 10 + 5 * nI p + nI r = nI (31 * 0 + (10 + (5 * p + r))) := ox3 0 p r
  have eo : 31 * (0 : Int32) + 10 + 5 * nI o + nI r = nI (31 * 0 + (10 + (5 * o + r))) := ox3 0 o r
  unfold fX7_coinAt
  rw [Option.bind_some, ep, rd_e rfl (by omega) (by omega) (hMS.1 _ (by omega)), Option.bind_some, m_takes N (by omega) hB hMT hMS hSB ho hr, Option.bind_some, c_coinsOf N hCS (by omega) (by omega), Option.bind_some, c_takes N (by omega) hB hCT hCS hSB ho hr, Option.bind_some]
  by_cases hc0 : S (10 + (5 * p + r)) = 0
  · rw [if_pos ((nI_e0 (by omega)).mpr hc0), if_pos ((nI_l1 (by omega)).mpr (by omega))]; exact ⟨-3, I, A, wA, aI, aS, aT, rfl, rfl, hR⟩
  rw [if_neg (fun h => hc0 ((nI_e0 (by omega)).mp h)), if_neg (show ¬ nI (S (10 + (5 * p + r))) < 1 from fun h => by have := (nI_l1 (by omega)).mp h; omega)]
  cases ht : tkB k T S d o r with
  | false => rw [if_neg Bool.false_ne_true, z00, z00]; exact ⟨-3, I, A, wA, aI, aS, aT, rfl, rfl, hR⟩
  | true =>
    rw [if_pos rfl, n10, n10]
    have h9 : S (10 + (5 * o + r)) < 99 := by
      simp only [tkB, Bool.and_eq_true, decide_eq_true_eq] at ht
      exact ht.2.1
    obtain ⟨I', A1, aI', aS', aT', f1, f2, f3, f4, f5⟩ := b_keep N (by omega) hRA hMS hCS hSB
    have m1 := MS_13 f3 hMS
    have m2 := MS_w m1 (10 + (5 * p + r)) (S (10 + (5 * p + r)) - 1) (by omega)
    have m3 := MS_w m2 (10 + (5 * o + r)) (S (10 + (5 * o + r)) + 1) (by omega)
    have c2 := CS_coin (CS_coin hCS (5 * p + r) (S (10 + (5 * p + r)) - 1) (by omega)) (5 * o + r) (S (10 + (5 * o + r)) + 1) (by omega)
    have b2 := SB_coin (SB_coin hSB p r (S (10 + (5 * p + r)) - 1) hp hm hr hk (by omega)) o r (S (10 + (5 * o + r)) + 1) ho hm hr hk (by omega)
    have fr := FrL_tr (FrL_wr (lv := 0) A1 (nI (S (10 + (5 * p + r)) - 1)) (j := 10 + (5 * p + r)) (by omega)) (FrL_wr (lv := 0) _ (nI (S (10 + (5 * o + r)) + 1)) (j := 10 + (5 * o + r)) (by omega))
    have e1 : nI (S (10 + (5 * p + r))) - 1 = nI (S (10 + (5 * p + r)) - 1) := pk_sub (b := 1) (by omega)
    have e2 : nI (S (10 + (5 * p + r))) + (-1) = nI (S (10 + (5 * p + r)) - 1) := by
      have := pk_m1 (S (10 + (5 * p + r)) - 1)
      rwa [show S (10 + (5 * p + r)) - 1 + 1 = S (10 + (5 * p + r)) by omega] at this
    have hwo := m_worthOf N (lv := 0) (by omega) hB (FrL_MT fr (MT_13 f3 f4 hMT)) m3 b2 (by omega) hr
    have hvo := c_valueOf N hB hCT c2 b2 hr
    refine ⟨nI (vR T (s1 (s1 S (10 + (5 * p + r)) (S (10 + (5 * p + r)) - 1)) (10 + (5 * o + r)) (S (10 + (5 * o + r)) + 1)) d r), I', _, _, aI', aS', aT', ?_, ?_, R_act hB hMT hCT hRT hRH hRK hL f3 f4 f5 fr m3 c2 b2⟩
    · rw [f1, Option.bind_some, Option.bind_some, rd_e rfl (by omega) (by omega) (m1.1 _ (by omega)), Option.bind_some, e1, wr_e _ _ rfl (by omega) (by omega), Option.bind_some, Option.bind_some, eo, rd_e (v := nI (S (10 + (5 * o + r)))) rfl (by omega) (by omega) (by rw [upd_n _ _ (by omega)]; exact m1.1 _ (by omega)), Option.bind_some, nI_1, wr_e _ _ rfl (by omega) (by omega), Option.bind_some]
      rw [va_up_self] at hwo ⊢
      rw [show fX7_worthOf N _ 0 (nI r) = _ from hwo, Option.bind_some]
    · rw [f2, Option.bind_some, c_addCoins N wA (-1) (by omega) (by omega), Option.bind_some, c_addCoins N _ 1 (by omega) (by omega), Option.bind_some, hCS.2.2.1 _ (by omega), e2, va_up_self, upd_n _ _ (show 5 * o + r ≠ 5 * p + r by omega), hCS.2.2.1 _ (by omega), nI_1]
      rw [va_up_self] at hvo
      rw [hvo, Option.bind_some]
