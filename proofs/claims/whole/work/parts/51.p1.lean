theorem rd_n {n i : Nat} (h : i < n) (hn : n < 2 ^ 31) (f : Nat → Int32) : rd n f (nI i) = some (f i) := by
  unfold rd
  have h1 := nI_in h hn
  rw [if_neg h1, nI_clamp (by omega)]
theorem wr_n {n i : Nat} (h : i < n) (hn : n < 2 ^ 31) (f : Nat → Int32) (x : Int32) : wr n f (nI i) x = some (upd f i x) := by
  unfold wr
  have h1 := nI_in h hn
  rw [if_neg h1, nI_clamp (by omega)]
theorem p_X7_has (N : Nat) (x k : Int32) : fX7_has N x k = some (if (shr x k &&& 1) = 1 then 1 else 0) := by
  unfold fX7_has fX7_has_14
  simp only [bz_0, bz_1, Option.bind_some]
  split <;> rfl
theorem p_X6_hasBit (N : Nat) (x k : Int32) (h0 : ¬ k < 0) (h1 : ¬ 30 < k) : fX6_hasBit N x k = some (if (shr x k &&& 1) = 0 then 0 else 1) := by
  unfold fX6_hasBit fX6_hasBit_22 fX6_hasBit_23
  rw [if_neg h0, if_neg h1]
  simp only [bz_0, bz_1, Option.bind_some]
  split <;> rfl
theorem p_X6_isOutside (N : Nat) (x a b : Int32) : fX6_isOutside N x a b = some (if x < a then 1 else if x ≤ b then 0 else 1) := by
  unfold fX6_isOutside fX6_isOutside_10 fX6_isOutside_15
  simp only [bz_0, bz_1, Option.bind_some]
  split
  · rfl
  · split <;> rfl
theorem p_X6_isIndex (N : Nat) (x n : Int32) : fX6_isIndex N x n = some (if x < 0 then 0 else if n ≤ x then 0 else 1) := by
  unfold fX6_isIndex fX6_isIndex_13 fX6_isIndex_14
  simp only [bz_0, bz_1, Option.bind_some]
  split
  · rfl
  · split <;> rfl
theorem p_X5_hasRumour (N : Nat) (I : Nat → Int32) (x : Int32) (k : Nat) (hk : k ≤ 5) (hI : I 0 = nI k) : fX5_hasRumour N I x = some (if x < 0 ∨ nI k ≤ x then 0 else 1) := by
  unfold fX5_hasRumour fX5_hasRumour_21 fX5_hasRumour_22
  simp only [bz_0, bz_1, Option.bind_some, hI]
  by_cases h0 : x < 0
  · rw [if_pos h0, if_pos (Or.inl h0)]
  · rw [if_neg h0]
    by_cases h1 : nI k ≤ x
    · rw [if_pos h1, if_pos (Or.inr h1)]
    · have h2 : ¬ (5 : Int32) ≤ x := fun h => h1 (Int32.le_trans (nI_le (b := 5) hk (by omega)) h)
      rw [if_neg h1, if_neg h2, if_neg (by simp [h0, h1])]
theorem p_X7_isRumour (N : Nat) (I : Nat → Int32) (x : Int32) (k : Nat) (hk : k ≤ 5) (hI : I 0 = nI k) : fX7_isRumour N I x = some (if x < 0 ∨ nI k ≤ x then 0 else 1) := by
  unfold fX7_isRumour
  rw [hI, p_X7_ix N x k (by omega)]
  simp only [Option.bind_some]
  split
  · rw [bz_0]; rfl
  · rw [bz_1]; rfl
theorem p_X7_isPerson (N : Nat) (I : Nat → Int32) (x : Int32) (k : Nat) (hk : k ≤ 4) (hI : I 1 = nI k) : fX7_isPerson N I x = some (if x < 0 ∨ nI k ≤ x then 0 else 1) := by
  unfold fX7_isPerson
  rw [hI, p_X7_ix N x k (by omega)]
  simp only [Option.bind_some]
  split
  · rw [bz_0]; rfl
  · rw [bz_1]; rfl
theorem p_X7_isTable (N : Nat) (x : Int32) : fX7_isTable N x = some (if x < 0 ∨ 6 ≤ x then 0 else 1) := by
  unfold fX7_isTable
  have h := p_X7_ix N x 6 (by omega)
  have e1 : Int32.toInt64 (nI 6 - 1) = 5 := by decide +kernel
  have e2 : nI 6 = 6 := by decide +kernel
  rw [e1, e2] at h
  rw [h]
  simp only [Option.bind_some]
  split
  · rw [bz_0]; rfl
  · rw [bz_1]; rfl
theorem p_X7_ones (N : Nat) (hN : 7 ≤ N) (x : Int32) : fX7_ones N x = some (0 + (shr x 0 &&& 1) + (shr x 1 &&& 1) + (shr x 2 &&& 1) + (shr x 3 &&& 1) + (shr x 4 &&& 1) + (shr x 5 &&& 1)) := by
  obtain ⟨n, rfl⟩ : ∃ n, N = n + 7 := ⟨N - 7, by omega⟩
  unfold fX7_ones
  show fX7_ones_4 (n + 7) (n + 7) x 0 0 = _
  iterate 6 (rw [fX7_ones_4, fX7_ones_4s, if_neg (by decide)])
  rw [fX7_ones_4, fX7_ones_4s, if_pos (by decide)]
  rfl
