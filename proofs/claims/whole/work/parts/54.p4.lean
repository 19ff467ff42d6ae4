/-- where a rumour is said behind a dawn -/
def spr (sd dn : Int32) : Int32 := (((sd ||| (shl sd 1)) ||| (shr sd 1)) &&& 63) &&& (dn ^^^ (-1))
def dwnB (li pf day1 sd dn : Int32) : Int32 := if prvb pf day1 = true ∧ li = 1 then 0 else spr sd dn
theorem p_X5_saidAfterDawn (N r k : Nat) (I : Nat → Int32) (A : Nat → Nat → Int32) (sd dn day : Int32) (hk : k ≤ 5) (hI : I 0 = nI k) (hr : r < k) (hz : A 1 r = 0 ∨ A 1 r = 1) (h2 : ¬ A 2 r < 0) : fX5_saidAfterDawn N I A (nI r) sd dn day = some (dwnB (A 1 r) (A 2 r) (day + 1) sd dn) := by
  unfold fX5_saidAfterDawn fX5_saidAfterDawn_22 dwnB
  cases hb : prvb (A 2 r) (day + 1) with
  | true =>
    rw [p_X5_isProved N r (by omega) A (day + 1) h2 (prvb_t hb), Option.bind_some, if_neg (by decide), p_X5_isLie N r k I A hk hI hr hz, Option.bind_some]
    rcases hz with h | h
    · rw [h, if_pos rfl, if_neg (by decide)]
      rfl
    · rw [h, if_neg (by decide), if_pos ⟨rfl, rfl⟩]
  | false =>
    rw [p_X5_isProved' N r (by omega) A (day + 1) h2 (prvb_f hb), Option.bind_some, if_pos rfl, if_neg (fun h => Bool.false_ne_true h.1)]
    rfl
theorem spr_64 : ∀ s, s < 64 → ∀ d, d < 64 → ∃ t, t < 64 ∧ spr (nI s) (nI d) = nI t := by
  intro s hs d hd
  refine ⟨((s ||| (s * 2) ||| (s / 2)) % 64) &&& (63 - d), ?_, ?_⟩
  · exact Nat.lt_of_le_of_lt Nat.and_le_left (Nat.mod_lt _ (by omega))
  · have h : ∀ s, s < 64 → ∀ d, d < 64 → spr (nI s) (nI d) = nI (((s ||| (s * 2) ||| (s / 2)) % 64) &&& (63 - d)) := by decide +kernel
    exact h s hs d hd
