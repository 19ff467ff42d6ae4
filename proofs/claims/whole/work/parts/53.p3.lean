def prvb (pf day : Int32) : Bool := decide (¬ pf ≤ 0) && decide (¬ day < pf)
theorem prvb_t {pf day : Int32} (h : prvb pf day = true) : prv pf day := by
  simp only [prvb, Bool.and_eq_true, decide_eq_true_eq] at h
  exact h
theorem prvb_f {pf day : Int32} (h : prvb pf day = false) : ¬ prv pf day := by
  intro hp
  have : prvb pf day = true := by
    simp only [prvb, Bool.and_eq_true, decide_eq_true_eq]
    exact hp
  rw [this] at h
  cases h
/-- what a rumour is worth: its word, a lie or not, its day of proof, the day, where it is said and denied -/
def valB (w li pf day sd dn : Int32) : Int32 := if prvb pf day = true then (if li = 1 then 0 else 2 * w) else (if 0 ≤ (w + cntB sd) - cntB dn then (w + cntB sd) - cntB dn else 0)
theorem max0 (x : Int32) : (if 0 < x then x else 0) = if 0 ≤ x then x else 0 := by
  by_cases h : 0 < x
  · rw [if_pos h, if_pos (Int32.le_of_lt h)]
  · rw [if_neg h]
    by_cases h2 : 0 ≤ x
    · rw [if_pos h2]
      have h3 : x ≤ 0 := Int32.not_lt.mp h
      exact Int32.le_antisymm h2 h3
    · rw [if_neg h2]
theorem p_X5_isLie (N r k : Nat) (I : Nat → Int32) (A : Nat → Nat → Int32) (hk : k ≤ 5) (hI : I 0 = nI k) (hr : r < k) (hz : A 1 r = 0 ∨ A 1 r = 1) : fX5_isLie N I A (nI r) = some (A 1 r) := by
  unfold fX5_isLie fX5_isLie_21 fX5_isLie_22
  rw [p_X5_hasRumour N I (nI r) k hk hI, if_neg (by
    rintro (h | h)
    · exact nI_pos (by omega) h
    · exact nI_ge hr (by omega) h)]
  simp only [Option.bind_some]
  rw [if_neg (by decide), rd_n (by omega) (by omega)]
  simp only [Option.bind_some, bz_0, bz_1]
  rcases hz with h | h
  · rw [h, if_pos rfl]
  · rw [h, if_neg (by decide)]
theorem p_X5_valueOn (N r k sd dn : Nat) (I : Nat → Int32) (A : Nat → Nat → Int32) (day : Int32) (hk : k ≤ 5) (hI : I 0 = nI k) (hr : r < k) (hz : A 1 r = 0 ∨ A 1 r = 1) (h2 : ¬ A 2 r < 0) (hs : sd < 64) (hd : dn < 64) : fX5_valueOn N I A day (nI r) (nI sd) (nI dn) = some (valB (A 0 r) (A 1 r) (A 2 r) day (nI sd) (nI dn)) := by
  unfold fX5_valueOn fX5_valueOn_35 valB
  rw [p_X6_at N 5 r (by omega) (by omega), Option.bind_some]
  cases hb : prvb (A 2 r) day with
  | true =>
    rw [p_X5_isProved N r (by omega) A day h2 (prvb_t hb), Option.bind_some, if_neg (by decide), p_X5_isLie N r k I A hk hI hr hz, Option.bind_some, if_pos (rfl : true = true)]
    rcases hz with h | h
    · rw [h, if_pos rfl, if_neg (by decide)]
    · rw [h, if_neg (by decide), if_pos rfl]
  | false =>
    rw [p_X5_isProved' N r (by omega) A day h2 (prvb_f hb), Option.bind_some, if_pos rfl, p_bitCount N sd hs, Option.bind_some, p_bitCount N dn hd, Option.bind_some, max0, if_neg Bool.false_ne_true]
theorem ixM (lv o i : Nat) : 31 * nI lv + nI o + nI i = nI (31 * lv + o + i) := by
  rw [show (31 : Int32) = nI 31 from rfl, pk_mul, nI_add, nI_add]
theorem p_X7_worthOf (N lv r : Nat) (hN : 7 ≤ N) (A : Nat → Nat → Int32) (hr : r < 5) (hl : lv < 2) : fX7_worthOf N A (nI lv) (nI r) = some (valB (A 0 r) (A 1 r) (A 2 r) (A 5 (31 * lv + 30)) (A 5 (31 * lv + r)) (A 5 (31 * lv + 5 + r))) := by
  unfold fX7_worthOf fX7_worthOf_31 fX7_worthOf_80 valB
  have e1 : 31 * nI lv + nI r = nI (31 * lv + r) := by
    rw [show (31 : Int32) = nI 31 from rfl, pk_mul, nI_add]
  have e2 : 31 * nI lv + 5 + nI r = nI (31 * lv + 5 + r) := ixM lv 5 r
  rw [e1, e2]
  cases hb : prvb (A 2 r) (A 5 (31 * lv + 30)) with
  | true =>
    rw [p_X7_isProved N lv r hr hl A (prvb_t hb)]
    simp only [Option.bind_some]
    rw [if_neg (by decide), rd_n (by omega) (by omega), rd_n (by omega) (by omega)]
    simp only [Option.bind_some, ↓reduceIte]
    split <;> rfl
  | false =>
    rw [p_X7_isProved' N lv r hr hl A (prvb_f hb)]
    simp only [Option.bind_some]
    rw [rd_n (f := A 0) (by omega) (by omega), rd_n (i := 31 * lv + r) (by omega) (by omega), rd_n (i := 31 * lv + 5 + r) (by omega) (by omega)]
    simp only [Option.bind_some, q_X7_ones N hN, ↓reduceIte, Bool.false_eq_true]
    split <;> rfl
