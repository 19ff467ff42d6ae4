-- the text
def FrR (I : Nat → Int32) (A : Nat → Nat → Int32) (I' : Nat → Int32) (A' : Nat → Nat → Int32) : Prop := (∀ i, i ≠ 2 → i ≠ 3 → i ≠ 5 → i ≠ 6 → I' i = I i) ∧ (∀ a, (a < 6 ∨ 11 < a) → A' a = A a)
theorem has_N (N : Nat) : ∀ a, a < 1024 → ∀ f, f < 10 → fX7_has N (nI a) (nI f) = some (if a.testBit f = true then 1 else 0) := by
  intro a ha f hf
  rw [p_X7_has]
  have h : ∀ a, a < 1024 → ∀ f, f < 10 → decide ((shr (nI a) (nI f) &&& 1) = 1) = a.testBit f := by decide +kernel
  have h2 := h a ha f hf
  by_cases h3 : (shr (nI a) (nI f) &&& 1) = 1
  · rw [if_pos h3]; rw [decide_eq_true h3] at h2; rw [← h2, if_pos rfl]
  · rw [if_neg h3]; rw [decide_eq_false h3] at h2; rw [← h2, if_neg Bool.false_ne_true]
theorem in_09 (N : Nat) (x : Int32) : fX7_in N (Int32.toInt64 x) 0 9 = some (if x < 0 ∨ nI 10 ≤ x then 0 else 1) := by
  have h := p_X7_ix N x 10 (by omega)
  rw [show Int32.toInt64 (nI 10 - 1) = 9 by decide +kernel] at h
  exact h
theorem f_neg {c : Nat} (h : c < 48) : nI c - 48 < 0 := pk_sneg (b := 48) (by omega) h
theorem f_pos {c : Nat} (h : 48 ≤ c) : nI c - 48 = nI (c - 48) := pk_sub (b := 48) h
/-- a figure, read by the reference -/
theorem m_fig (N : Nat) {i len a : Nat} {I : Nat → Int32} {A : Nat → Nat → Int32} (hl : len ≤ 48) (ha : a < 1024) (h4 : I 4 = nI len) (h5 : I 5 = nI i) (h6 : I 6 = -9) (hi : i ≤ len) (ht : ∀ j, j < len → ∃ c, c < 256 ∧ A 12 j = nI c) : ∃ v I', fX7_figureOf N I A (nI a) = some (v, I') ∧ (∀ x, x ≠ 5 → x ≠ 6 → I' x = I x) ∧ ((∃ f, i < len ∧ f < 10 ∧ A 12 i = nI (48 + f) ∧ a.testBit f = true ∧ v = nI f ∧ I' 5 = nI (i + 1) ∧ I' 6 = -9) ∨ (v = 0 ∧ I' 5 = nI i ∧ I' 6 = nI i ∧ ∀ f, i < len → f < 10 → A 12 i = nI (48 + f) → a.testBit f = false)) := by
  have bad : fX7_figureOf_58 N I A = some (0, upd I 6 (nI i)) := by
    unfold fX7_figureOf_58 fX7_figureOf_79
    rw [if_pos h6, h5]
  have badp : (∀ x, x ≠ 5 → x ≠ 6 → upd I 6 (nI i) x = I x) := fun x _ h => upd_n _ _ h
  unfold fX7_figureOf fX7_figureOf_35
  rw [if_pos h6, h4, h5]
  by_cases hlt : i < len
  · obtain ⟨c, hc, et⟩ := ht i hlt
    rw [if_neg (nI_ge hlt (by omega)), rd_e rfl (by omega) (by omega) et, Option.bind_some]
    unfold fX7_figureOf_37
    rw [in_09, Option.bind_some]
    by_cases hr : 48 ≤ c ∧ c < 58
    · rw [f_pos hr.1, if_neg (in_no (k := 10) (by omega) (by omega)), n10, has_N N a ha (c - 48) (by omega), Option.bind_some]
      cases hb : a.testBit (c - 48) with
      | true =>
        rw [if_pos rfl, n10]
        refine ⟨_, _, rfl, fun x h1 h2 => upd_n _ _ h1, Or.inl ⟨c - 48, hlt, by omega, by rw [et]; congr 1; omega, hb, rfl, by rw [upd_s, h5, nI_1], by rw [upd_n _ _ (by omega)]; exact h6⟩⟩
      | false =>
        rw [if_neg Bool.false_ne_true, z00, bad]
        refine ⟨_, _, rfl, badp, Or.inr ⟨rfl, by rw [upd_n _ _ (by omega)]; exact h5, upd_s _ _ _, fun f _ h2 h3 => ?_⟩⟩
        have : f = c - 48 := by
          rw [et, nI_eq (by omega) (by omega)] at h3
          omega
        rw [this]; exact hb
    · have hx : nI c - 48 < 0 ∨ nI 10 ≤ nI c - 48 := by
        by_cases h48 : c < 48
        · exact Or.inl (f_neg h48)
        · rw [f_pos (by omega)]; exact Or.inr (nI_le (by omega) (by omega))
      rw [if_pos hx, z00, bad]
      refine ⟨_, _, rfl, badp, Or.inr ⟨rfl, by rw [upd_n _ _ (by omega)]; exact h5, upd_s _ _ _, fun f _ h2 h3 => ?_⟩⟩
      rw [et, nI_eq (by omega) (by omega)] at h3
      omega
  · rw [if_pos (nI_le (by omega) (by omega))]
    unfold fX7_figureOf_37
    rw [in_09, Option.bind_some, if_pos (by decide), bad]
    exact ⟨_, _, rfl, badp, Or.inr ⟨rfl, by rw [upd_n _ _ (by omega)]; exact h5, upd_s _ _ _, fun f h => absurd h hlt⟩⟩
theorem n9_ne {j : Nat} (hj : j < 1000) : ¬ nI j = -9 := by
  intro h
  have h2 : nI j < 0 := by rw [h]; decide
  exact nI_pos (by omega) h2
theorem m_figb (N : Nat) {j : Nat} {I : Nat → Int32} {A : Nat → Nat → Int32} (x : Int32) (hj : j < 1000) (h6 : I 6 = nI j) : ∃ I', fX7_figureOf N I A x = some (0, I') ∧ (∀ y, y ≠ 6 → I' y = I y) ∧ I' 6 = nI j := by
  have hn : ¬ I 6 = -9 := by rw [h6]; exact n9_ne hj
  refine ⟨upd I 6 (nI j), ?_, fun y h => upd_n _ _ h, upd_s _ _ _⟩
  unfold fX7_figureOf fX7_figureOf_35 fX7_figureOf_37 fX7_figureOf_58 fX7_figureOf_79
  rw [if_neg hn, in_09, Option.bind_some, if_pos (show ((-9 : Int32) < 0 ∨ nI 10 ≤ -9) from Or.inl (by decide)), z00, if_neg hn, h6]
-- pairs and tables left
def plN (k b i : Nat) : Nat := (2 ^ k - 2 * 2 ^ i) &&& (63 - b)
theorem pl_s : ∀ j, j < 5 → ∀ i, i < j → ∀ b, b < 64 → plN j b i ||| (if b.testBit j = true then 0 else 2 ^ j) = plN (j + 1) b i := by decide +kernel
theorem pl_0 : ∀ i, i < 6 → ∀ b, b < 64 → plN (i + 1) b i = 0 := by decide +kernel
theorem pl_64 (k b i : Nat) (hk : k ≤ 5) : plN k b i < 64 := by
  have : 2 ^ k ≤ 2 ^ 5 := Nat.pow_le_pow_right (by omega) hk
  exact and_lt (by omega)
theorem pl_c : ∀ k, k < 6 → ∀ i, i < k → ∀ b, b < 64 → (shl 1 (nI k) - shl 2 (nI i)) &&& (nI b ^^^ (-1)) = nI (plN k b i) := by decide +kernel
theorem pl_tb0 : ∀ k, k < 6 → ∀ i, i < k → ∀ b, b < 64 → ∀ j, j < 10 → (!((plN k b i).testBit j) || (decide (i < j) && decide (j < k))) = true := by decide +kernel
theorem pl_tb {k i b j : Nat} (hk : k < 6) (hi : i < k) (hb : b < 64) (hj : j < 10) (h : (plN k b i).testBit j = true) : i < j ∧ j < k := by
  have h2 := pl_tb0 k hk i hi b hb j hj
  rw [h] at h2
  simpa using h2
/-- the reading so far -/
def PB (k m : Nat) (T : Nat → Nat → Nat) (O : Nat → Nat) : Prop := TB k m T ∧ ∀ r, r < k → O r < 64
def MP (k m : Nat) (T : Nat → Nat → Nat) (O : Nat → Nat) (I : Nat → Int32) (A : Nat → Nat → Int32) : Prop := I 2 = nI k ∧ I 3 = nI m ∧ (∀ r, r < k → A 6 r = nI (T 0 r) ∧ A 7 r = nI (T 1 r) ∧ A 8 r = nI (T 2 r) ∧ A 9 r = nI (T 3 r) ∧ A 10 r = nI (O r)) ∧ (∀ r, k ≤ r → r < 5 → A 9 r = 0 ∧ A 10 r = 0) ∧ (∀ p, p < m → A 11 p = nI (T 4 p))
def CP (k m : Nat) (T : Nat → Nat → Nat) (O : Nat → Nat) (I : Nat → Int32) (A : Nat → Nat → Int32) : Prop := CT k m T I A ∧ ∀ r, r < k → A 4 r = nI (O r)
theorem m_pairsLeft (N : Nat) {k m i : Nat} {T : Nat → Nat → Nat} {O : Nat → Nat} {I : Nat → Int32} {A : Nat → Nat → Int32} (hN : 40 ≤ N) (hB : PB k m T O) (hM : MP k m T O I A) (hi : i < k) : fX7_pairsLeft N I A (nI i) = some (nI (plN k (T 3 i) i)) := by
  have hk := hB.1.1
  have b3 := pk_32 hk (hB.1.2.2.1 i hi).2.2.2.2
  unfold fX7_pairsLeft
  have H := lpX (fun n j (_ : Unit) => fX7_pairsLeft_6 N n I A (nI i) (nI (plN j (T 3 i) i)) (nI j)) (fun _ => some (nI (plN k (T 3 i) i))) (fun j _ => i < j) k ?_ ?_ N (i + 1) () (by omega) (by omega) (by omega)
  · obtain ⟨_, _, H⟩ := H
    rw [nI_1]
    have e : nI (plN (i + 1) (T 3 i) i) = 0 := by rw [pl_0 i (by omega) _ (by omega)]; rfl
    rw [e] at H
    exact H
  · intro n _ _
    show fX7_pairsLeft_6s N _ I A _ _ _ = _
    unfold fX7_pairsLeft_6s
    rw [hM.1, if_pos (nI_le (Nat.le_refl k) (by omega))]
  · intro n j _ hj hij
    refine ⟨(), by omega, ?_⟩
    show fX7_pairsLeft_6s N _ I A _ _ _ = _
    unfold fX7_pairsLeft_6s fX7_pairsLeft_35
    have h64 := pl_64 j (T 3 i) i (by omega)
    rw [hM.1, if_neg (nI_ge hj (by omega)), rd_e rfl (by omega) (by omega) (hM.2.2.1 i hi).2.2.2.1, Option.bind_some, m_has N (by omega) (by omega), Option.bind_some, nI_1, shl1 j (by omega), ← pl_s j (by omega) i hij (T 3 i) (by omega)]
    cases hb : (T 3 i).testBit j with
    | false => rw [if_neg Bool.false_ne_true, z00, or_N _ h64 _ (p2_64 (by omega)), if_neg Bool.false_ne_true]
    | true => rw [if_pos rfl, n10, show (0 : Int32) = nI 0 from rfl, or_N _ h64 0 (by omega), if_pos rfl]
/-- the bits of those that hold -/
def flN (f : Nat → Bool) : Nat → Nat
  | 0 => 0
  | i + 1 => flN f i ||| (if f i = true then 2 ^ i else 0)
theorem flN_tb (f : Nat → Bool) (j : Nat) : ∀ k, (flN f k).testBit j = (decide (j < k) && f j)
  | 0 => by rw [flN, Nat.zero_testBit, decide_eq_false (by omega), Bool.false_and]
  | k + 1 => by
    rw [flN, Nat.testBit_or, flN_tb f j k]
    by_cases e : j = k
    · subst e
      rw [decide_eq_false (show ¬ j < j by omega), Bool.false_and, Bool.false_or, decide_eq_true (show j < j + 1 by omega), Bool.true_and]
      cases f j with
      | true => rw [if_pos rfl, Nat.testBit_two_pow_self]
      | false => rw [if_neg Bool.false_ne_true, Nat.zero_testBit]
    · have h2 : (if f k = true then 2 ^ k else 0).testBit j = false := by
        split
        · rw [Nat.testBit_two_pow]; exact decide_eq_false (fun h => e h.symm)
        · exact Nat.zero_testBit _
      rw [h2, Bool.or_false]
      by_cases h : j < k
      · rw [decide_eq_true h, decide_eq_true (show j < k + 1 by omega)]
      · rw [decide_eq_false h, decide_eq_false (show ¬ j < k + 1 by omega)]
theorem flN_64 (f : Nat → Bool) : ∀ k, k < 6 → flN f k < 64
  | 0, _ => by show 0 < 64; omega
  | k + 1, h => by
    have := p2_64 (show k < 6 by omega)
    rw [flN]
    refine or_lt (flN_64 f k (by omega)) ?_
    split <;> omega
theorem flN_0 (f : Nat → Bool) (k : Nat) : flN f k = 0 ↔ anyF f k 0 = false := by
  constructor
  · intro h
    cases h2 : anyF f k 0 with
    | false => rfl
    | true =>
      obtain ⟨j, g1, g2, g3⟩ := (anyF_iff f k 0).mp h2
      have h3 := flN_tb f j k
      rw [h, Nat.zero_testBit, g3, decide_eq_true (show j < k by omega)] at h3
      cases h3
  · intro h
    refine Nat.eq_of_testBit_eq (fun j => ?_)
    rw [flN_tb, Nat.zero_testBit]
    by_cases hj : j < k
    · cases hf : f j with
      | false => rw [Bool.and_false]
      | true =>
        have := (anyF_iff f k 0).mpr ⟨j, by omega, by omega, hf⟩
        rw [h] at this; cases this
    · rw [decide_eq_false hj, Bool.false_and]
def fpB (k : Nat) (T : Nat → Nat → Nat) (i : Nat) : Bool := decide (¬ plN k (T 3 i) i = 0)
def ftB (O : Nat → Nat) (i : Nat) : Bool := decide (¬ O i = 63)
theorem m_firstsLeft (N : Nat) {k m : Nat} {T : Nat → Nat → Nat} {O : Nat → Nat} {I : Nat → Int32} {A : Nat → Nat → Int32} (hN : 40 ≤ N) (hB : PB k m T O) (hM : MP k m T O I A) : fX7_firstsLeft N I A = some (nI (flN (fpB k T) k)) := by
  have hk := hB.1.1
  unfold fX7_firstsLeft
  refine lpE (fun n i => fX7_firstsLeft_4 N n I A (nI (flN (fpB k T) i)) (nI i)) (fun _ => some (nI (flN (fpB k T) k))) k ?_ ?_ N 0 (by omega) (by omega)
  · intro n
    show fX7_firstsLeft_4s N _ I A _ _ = _
    unfold fX7_firstsLeft_4s
    rw [hM.1, if_pos (nI_le (Nat.le_refl k) (by omega))]
  · intro n i hi ih
    show fX7_firstsLeft_4s N _ I A _ _ = _
    unfold fX7_firstsLeft_4s fX7_firstsLeft_28
    have h64 := flN_64 (fpB k T) i (by omega)
    have hp := pl_64 k (T 3 i) i hk
    rw [hM.1, if_neg (nI_ge hi (by omega)), m_pairsLeft N hN hB hM hi, Option.bind_some, nI_1, shl1 i (by omega), ← ih, flN]
    by_cases h : plN k (T 3 i) i = 0
    · rw [if_pos ((nI_e0 (by omega)).mpr h), show (0 : Int32) = nI 0 from rfl, or_N _ h64 0 (by omega), show fpB k T i = false from decide_eq_false (fun h2 => h2 h), if_neg Bool.false_ne_true]
    · rw [if_neg (fun h2 => h ((nI_e0 (by omega)).mp h2)), or_N _ h64 _ (p2_64 (by omega)), show fpB k T i = true from decide_eq_true h, if_pos rfl]
theorem m_saidLeft (N : Nat) {k m : Nat} {T : Nat → Nat → Nat} {O : Nat → Nat} {I : Nat → Int32} {A : Nat → Nat → Int32} (hN : 40 ≤ N) (hB : PB k m T O) (hM : MP k m T O I A) : fX7_saidLeft N I A = some (nI (flN (ftB O) k)) := by
  have hk := hB.1.1
  unfold fX7_saidLeft
  refine lpE (fun n i => fX7_saidLeft_4 N n I A (nI (flN (ftB O) i)) (nI i)) (fun _ => some (nI (flN (ftB O) k))) k ?_ ?_ N 0 (by omega) (by omega)
  · intro n
    show fX7_saidLeft_4s N _ I A _ _ = _
    unfold fX7_saidLeft_4s
    rw [hM.1, if_pos (nI_le (Nat.le_refl k) (by omega))]
  · intro n i hi ih
    show fX7_saidLeft_4s N _ I A _ _ = _
    unfold fX7_saidLeft_4s fX7_saidLeft_31
    have h64 := flN_64 (ftB O) i (by omega)
    have ho := hB.2 i hi
    rw [hM.1, if_neg (nI_ge hi (by omega)), rd_e rfl (by omega) (by omega) (hM.2.2.1 i hi).2.2.2.2, Option.bind_some, nI_1, shl1 i (by omega), ← ih, flN]
    by_cases h : O i = 63
    · rw [if_pos (show nI (O i) = 63 by rw [h]; rfl), show (0 : Int32) = nI 0 from rfl, or_N _ h64 0 (by omega), show ftB O i = false from decide_eq_false (fun h2 => h2 h), if_neg Bool.false_ne_true]
    · rw [if_neg (show ¬ nI (O i) = 63 from fun h2 => h ((nI_eq (b := 63) (by omega) (by omega)).mp h2)), or_N _ h64 _ (p2_64 (by omega)), show ftB O i = true from decide_eq_true h, if_pos rfl]
-- the class
theorem c_freePartners (N : Nat) {k m i : Nat} {T : Nat → Nat → Nat} {O : Nat → Nat} {I : Nat → Int32} {A : Nat → Nat → Int32} (hB : PB k m T O) (hC : CP k m T O I A) (hi : i < k) : fX5_freePartners N I A (nI i) = some (nI (plN k (T 3 i) i)) := by
  have hk := hB.1.1
  have b3 := pk_32 hk (hB.1.2.2.1 i hi).2.2.2.2
  unfold fX5_freePartners
  rw [c_hasR N hB.1 hC.1 hi, Option.bind_some, n10, rd_e rfl (by omega) (by omega) (hC.1.2.2.1 i hi).2.2.2, Option.bind_some, hC.1.1, pl_c k (by omega) i hi _ (by omega)]
theorem an63 : ∀ b, b < 64 → 63 &&& (nI b ^^^ (-1)) = nI (63 - b) := by decide +kernel
theorem c_freeTables (N : Nat) {k m i : Nat} {T : Nat → Nat → Nat} {O : Nat → Nat} {I : Nat → Int32} {A : Nat → Nat → Int32} (hB : PB k m T O) (hC : CP k m T O I A) (hi : i < k) : fX5_freeTables N I A (nI i) = some (nI (63 - O i)) := by
  have hk := hB.1.1
  unfold fX5_freeTables fX5_freeTables_23
  rw [c_hasR N hB.1 hC.1 hi, Option.bind_some, n10, rd_e rfl (by omega) (by omega) (hC.2 i hi), Option.bind_some, an63 _ (hB.2 i hi)]
theorem c_hasFreePair (N : Nat) {k m : Nat} {T : Nat → Nat → Nat} {O : Nat → Nat} {I : Nat → Int32} {A : Nat → Nat → Int32} (hN : 40 ≤ N) (hB : PB k m T O) (hC : CP k m T O I A) : fX5_hasFreePair N I A = some (if anyF (fpB k T) k 0 = true then 1 else 0) := by
  have hk := hB.1.1
  unfold fX5_hasFreePair
  refine (lpS (fun n i (b : Bool) => fX5_hasFreePair_4 N n I A (if b = true then 1 else 0) (nI i)) (fun i b => some (if (b || anyF (fpB k T) (k - i) i) = true then 1 else 0)) k ?_ ?_ N 0 false (by omega) (by omega)).trans ?_
  · intro n b
    show fX5_hasFreePair_4s N _ I A _ _ = _
    unfold fX5_hasFreePair_4s
    rw [hC.1.1, if_pos (nI_le (Nat.le_refl k) (by omega)), Nat.sub_self, anyF]
    cases b <;> rfl
  · intro n i b hi ih
    show fX5_hasFreePair_4s N _ I A _ _ = _
    have i0 := ih false
    have i1 := ih true
    simp only [Bool.false_or, Bool.true_or, Bool.false_eq_true, ↓reduceIte] at i0 i1
    have hp := pl_64 k (T 3 i) i hk
    unfold fX5_hasFreePair_4s fX5_hasFreePair_24 fX5_hasFreePair_29
    rw [hC.1.1, if_neg (nI_ge hi (by omega)), c_freePartners N hB hC hi, Option.bind_some, nI_1, i0, i1, anyF_s _ hi]
    cases b with
    | true => rw [if_pos rfl, n10]; rfl
    | false =>
      rw [if_neg Bool.false_ne_true, z00, Bool.false_or]
      by_cases h : plN k (T 3 i) i = 0
      · rw [if_pos ((nI_e0 (by omega)).mpr h), show fpB k T i = false from decide_eq_false (fun h2 => h2 h), Bool.false_or]
      · rw [if_neg (fun h2 => h ((nI_e0 (by omega)).mp h2)), show fpB k T i = true from decide_eq_true h]; rfl
  · rw [Bool.false_or, Nat.sub_zero]
theorem c_hasFreeTable (N : Nat) {k m : Nat} {T : Nat → Nat → Nat} {O : Nat → Nat} {I : Nat → Int32} {A : Nat → Nat → Int32} (hN : 40 ≤ N) (hB : PB k m T O) (hC : CP k m T O I A) : fX5_hasFreeTable N I A = some (if anyF (ftB O) k 0 = true then 1 else 0) := by
  have hk := hB.1.1
  unfold fX5_hasFreeTable
  refine (lpS (fun n i (b : Bool) => fX5_hasFreeTable_4 N n I A (if b = true then 1 else 0) (nI i)) (fun i b => some (if (b || anyF (ftB O) (k - i) i) = true then 1 else 0)) k ?_ ?_ N 0 false (by omega) (by omega)).trans ?_
  · intro n b
    show fX5_hasFreeTable_4s N _ I A _ _ = _
    unfold fX5_hasFreeTable_4s
    rw [hC.1.1, if_pos (nI_le (Nat.le_refl k) (by omega)), Nat.sub_self, anyF]
    cases b <;> rfl
  · intro n i b hi ih
    show fX5_hasFreeTable_4s N _ I A _ _ = _
    have i0 := ih false
    have i1 := ih true
    simp only [Bool.false_or, Bool.true_or, Bool.false_eq_true, ↓reduceIte] at i0 i1
    have ho := hB.2 i hi
    unfold fX5_hasFreeTable_4s fX5_hasFreeTable_24 fX5_hasFreeTable_29
    rw [hC.1.1, if_neg (nI_ge hi (by omega)), c_freeTables N hB hC hi, Option.bind_some, nI_1, i0, i1, anyF_s _ hi]
    cases b with
    | true => rw [if_pos rfl, n10]; rfl
    | false =>
      rw [if_neg Bool.false_ne_true, z00, Bool.false_or]
      by_cases h : O i = 63
      · rw [if_pos ((nI_e0 (by omega)).mpr (by omega)), show ftB O i = false from decide_eq_false (fun h2 => h2 h), Bool.false_or]
      · rw [if_neg (fun h2 => h (by have := (nI_e0 (by omega)).mp h2; omega)), show ftB O i = true from decide_eq_true h]; rfl
  · rw [Bool.false_or, Nat.sub_zero]
