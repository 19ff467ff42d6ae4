/-- how many of the six bits are set -/
def cntB (x : Int32) : Int32 := 0 + (shr x 0 &&& 1) + (shr x 1 &&& 1) + (shr x 2 &&& 1) + (shr x 3 &&& 1) + (shr x 4 &&& 1) + (shr x 5 &&& 1)
theorem q_X7_ones (N : Nat) (hN : 7 ≤ N) (x : Int32) : fX7_ones N x = some (cntB x) := p_X7_ones N hN x
theorem bc_64 : ∀ s, s < 64 → fJ6_bitCount_0f7a4 0 (nI s) = some (cntB (nI s)) := by decide +kernel
theorem p_bitCount (N : Nat) (s : Nat) (hs : s < 64) : fJ6_bitCount_0f7a4 N (nI s) = some (cntB (nI s)) := bc_64 s hs
theorem p_X6_at (N n i : Nat) (h : i < n) (hn : n < 2 ^ 31) (f : Nat → Int32) : fX6_at N n f (nI i) = some (f i) := by
  unfold fX6_at fX6_at_16 fX6_at_17
  rw [if_neg (nI_pos (by omega)), if_neg (show ¬ Int32.ofNat n ≤ nI i from nI_ge h hn), rd_n h hn]
  rfl
theorem p_X4_saidOf (N i : Nat) (h : i < 5) (A : Nat → Nat → Int32) : fX4_saidOf N A (nI i) = some (A 0 i) := by
  unfold fX4_saidOf
  rw [p_X6_at N 5 i h (by omega)]
  rfl
theorem p_X4_deniedOf (N i : Nat) (h : i < 5) (A : Nat → Nat → Int32) : fX4_deniedOf N A (nI i) = some (A 1 i) := by
  unfold fX4_deniedOf
  rw [p_X6_at N 5 i h (by omega)]
  rfl
theorem p_X4_coinsOf (N p r : Nat) (hp : p < 4) (hr : r < 5) (A : Nat → Nat → Int32) : fX4_coinsOf N A (nI p) (nI r) = some (A 2 (p * 5 + r)) := by
  unfold fX4_coinsOf
  have e : nI p * 5 + nI r = nI (p * 5 + r) := by
    rw [show (5 : Int32) = nI 5 from rfl, pk_mul, nI_add]
  rw [e, p_X6_at N 20 (p * 5 + r) (by omega) (by omega)]
  rfl
theorem p_X5_seatOf (N i : Nat) (h : i < 4) (A : Nat → Nat → Int32) : fX5_seatOf N A (nI i) = some (A 5 i) := by
  unfold fX5_seatOf
  rw [p_X6_at N 4 i h (by omega)]
  rfl
/-- is it proved by that day -/
def prv (pf day : Int32) : Prop := ¬ pf ≤ 0 ∧ ¬ day < pf
theorem p_X5_isProved (N i : Nat) (h : i < 5) (A : Nat → Nat → Int32) (day : Int32) (h0 : ¬ A 2 i < 0) (hp : prv (A 2 i) day) : fX5_isProved N A (nI i) day = some 1 := by
  unfold fX5_isProved fX5_isProved_22 fX5_isProved_23
  rw [p_X6_at N 5 i h (by omega)]
  simp only [Option.bind_some]
  have hz : ¬ A 2 i = 0 := fun e => hp.1 (by rw [e]; decide)
  rw [if_neg hz, if_neg hp.2, bz_1]
  rfl
theorem p_X5_isProved' (N i : Nat) (h : i < 5) (A : Nat → Nat → Int32) (day : Int32) (h0 : ¬ A 2 i < 0) (hp : ¬ prv (A 2 i) day) : fX5_isProved N A (nI i) day = some 0 := by
  unfold fX5_isProved fX5_isProved_22 fX5_isProved_23
  rw [p_X6_at N 5 i h (by omega)]
  simp only [Option.bind_some, bz_0, bz_1]
  split
  · rfl
  · rename_i hz
    split
    · rfl
    · rename_i hd
      refine absurd ⟨?_, hd⟩ hp
      intro hle
      rw [Int32.le_iff_toInt_le] at hle
      rw [Int32.lt_iff_toInt_lt] at h0
      have e0 : (0 : Int32).toInt = 0 := by decide
      rw [e0] at hle h0
      exact hz (Int32.toInt_inj.mp (by rw [e0]; omega))
theorem p_X7_isProved (N lv i : Nat) (h : i < 5) (hl : lv < 2) (A : Nat → Nat → Int32) (hp : prv (A 2 i) (A 5 (31 * lv + 30))) : fX7_isProved N A (nI lv) (nI i) = some 1 := by
  unfold fX7_isProved fX7_isProved_34 fX7_isProved_35
  have e : 31 * nI lv + 30 = nI (31 * lv + 30) := by
    rw [show (31 : Int32) = nI 31 from rfl, show (30 : Int32) = nI 30 from rfl, pk_mul, nI_add]
  rw [rd_n h (by omega), e, rd_n (by omega) (by omega)]
  simp only [Option.bind_some]
  rw [if_neg hp.1, if_neg hp.2, bz_1]
  rfl
theorem p_X7_isProved' (N lv i : Nat) (h : i < 5) (hl : lv < 2) (A : Nat → Nat → Int32) (hp : ¬ prv (A 2 i) (A 5 (31 * lv + 30))) : fX7_isProved N A (nI lv) (nI i) = some 0 := by
  unfold fX7_isProved fX7_isProved_34 fX7_isProved_35
  have e : 31 * nI lv + 30 = nI (31 * lv + 30) := by
    rw [show (31 : Int32) = nI 31 from rfl, show (30 : Int32) = nI 30 from rfl, pk_mul, nI_add]
  rw [rd_n h (by omega), e, rd_n (by omega) (by omega)]
  simp only [Option.bind_some, bz_0, bz_1]
  split
  · rfl
  · rename_i h1
    split
    · rfl
    · rename_i h2
      exact absurd ⟨h1, h2⟩ hp
