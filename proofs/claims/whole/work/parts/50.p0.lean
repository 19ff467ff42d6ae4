-- pure rows: small functions of the reference and of the class
theorem bz_0 : bz 0 = some 0 := by decide
theorem bz_1 : bz 1 = some 1 := by decide
theorem p_X7_in (N : Nat) (v a b : Int64) : fX7_in N v a b = some (if v < a then 0 else if b < v then 0 else 1) := by
  unfold fX7_in fX7_in_17 fX7_in_18
  simp only [lg_cmp_lt, lg_cmp_gt, bz_0, bz_1, Option.bind_some]
  split
  · rfl
  · split <;> rfl
theorem i64_lt (x y : Int32) : (Int32.toInt64 x < Int32.toInt64 y) ↔ x < y := by
  rw [Int64.lt_iff_toInt_lt, Int32.lt_iff_toInt_lt, Int32.toInt_toInt64, Int32.toInt_toInt64]
theorem i64_lit (n : Nat) (h : n < 2 ^ 31) : (lN n) = Int32.toInt64 (nI n) := (nI_l h).symm
/-- a number within 0 .. k - 1, as both sides see it -/
theorem p_X7_ix (N : Nat) (x : Int32) (k : Nat) (hk : k < 1000) : fX7_in N (Int32.toInt64 x) 0 (Int32.toInt64 (nI k - 1)) = some (if x < 0 ∨ nI k ≤ x then 0 else 1) := by
  rw [p_X7_in]
  have h0 : (0 : Int64) = Int32.toInt64 0 := by decide +kernel
  rw [h0]
  simp only [i64_lt]
  have hk2 : (nI k).toInt = (k : Int) := nI_toInt (by omega)
  have hk1 : (nI k - 1).toInt = (k : Int) - 1 := by
    rw [Int32.toInt_sub, hk2]
    have h1 : (1 : Int32).toInt = 1 := by decide
    rw [h1]
    apply Int.bmod_eq_of_le <;> omega
  have e1 : (x < 0) ↔ x.toInt < 0 := by rw [Int32.lt_iff_toInt_lt]; rfl
  have e2 : (nI k - 1 < x) ↔ (k : Int) - 1 < x.toInt := by rw [Int32.lt_iff_toInt_lt, hk1]
  have e3 : (nI k ≤ x) ↔ (k : Int) ≤ x.toInt := by rw [Int32.le_iff_toInt_le, hk2]
  simp only [e1, e2, e3]
  congr 1
  split
  · rename_i h; rw [if_pos (Or.inl h)]
  · rename_i h
    split
    · rename_i h2; rw [if_pos (Or.inr (by omega))]
    · rename_i h2; rw [if_neg (by omega)]
