/-- bit t of a set of six, as a truth value -/
def bitB (x : Int32) (t : Nat) : Bool := decide ((shr x (nI t) &&& 1) = 1)
theorem bit_64 : ∀ s, s < 64 → ∀ t, t < 6 → ((shr (nI s) (nI t) &&& 1) = 0 ↔ ¬ (shr (nI s) (nI t) &&& 1) = 1) := by decide +kernel
theorem or_64 : ∀ s, s < 64 → ∀ d, d < 64 → ∃ u, u < 64 ∧ nI s ||| nI d = nI u ∧ ∀ t, t < 6 → bitB (nI u) t = (bitB (nI s) t || bitB (nI d) t) := by
  intro s hs d hd
  have h : ∀ s, s < 64 → ∀ d, d < 64 → (s ||| d) < 64 ∧ nI s ||| nI d = nI (s ||| d) ∧ ∀ t, t < 6 → bitB (nI (s ||| d)) t = (bitB (nI s) t || bitB (nI d) t) := by decide +kernel
  exact ⟨s ||| d, (h s hs d hd).1, (h s hs d hd).2.1, (h s hs d hd).2.2⟩
theorem q_X7_has (N s t : Nat) (x : Int32) (hx : x = nI s) : fX7_has N x (nI t) = some (if bitB x t = true then 1 else 0) := by
  rw [p_X7_has]
  simp only [bitB, decide_eq_true_eq]
theorem q_X6_hasBit (N s t : Nat) (hs : s < 64) (ht : t < 6) : fX6_hasBit N (nI s) (nI t) = some (if bitB (nI s) t = true then 1 else 0) := by
  rw [p_X6_hasBit N (nI s) (nI t) (nI_pos (by omega)) (nI_nlt (a := 30) (b := t) (by omega) (by omega))]
  simp only [bitB, decide_eq_true_eq]
  have h := bit_64 s hs t ht
  by_cases h1 : (shr (nI s) (nI t) &&& 1) = 1
  · rw [if_pos h1, if_neg (fun h0 => h.mp h0 h1)]
  · rw [if_neg h1, if_pos (h.mpr h1)]
theorem p_X6_isTable (N : Nat) (x : Int32) : fX6_isTable N x = some (if x < 0 ∨ 6 ≤ x then 0 else 1) := by
  unfold fX6_isTable fX6_isTable_14 fX6_isTable_15
  rw [bz_0, bz_1, Option.bind_some, Option.bind_some]
  by_cases h0 : x < 0
  · rw [if_pos h0, if_pos (Or.inl h0)]
  · by_cases h1 : (6 : Int32) ≤ x
    · rw [if_neg h0, if_pos h1, if_pos (Or.inr h1)]
    · rw [if_neg h0, if_neg h1, if_neg (fun h => h.elim h0 h1)]
/-- may it be said there -/
def csB (pf day sd dn : Int32) (t : Nat) : Bool := !(prvb pf day) && (!(bitB sd t) && !(bitB dn t))
theorem p_X7_canSay (N lv r t sd dn : Nat) (A : Nat → Nat → Int32) (hr : r < 5) (hl : lv < 2) (hs : A 5 (31 * lv + r) = nI sd) (hd : A 5 (31 * lv + 5 + r) = nI dn) : fX7_canSay N A (nI lv) (nI r) (nI t) = some (if csB (A 2 r) (A 5 (31 * lv + 30)) (nI sd) (nI dn) t = true then 1 else 0) := by
  unfold fX7_canSay fX7_canSay_53 fX7_canSay_54 csB
  have e1 : 31 * nI lv + nI r = nI (31 * lv + r) := by
    rw [show (31 : Int32) = nI 31 from rfl, pk_mul, nI_add]
  have e2 : 31 * nI lv + 5 + nI r = nI (31 * lv + 5 + r) := ixM lv 5 r
  rw [e1, e2, bz_0, bz_1, Option.bind_some, Option.bind_some]
  cases hb : prvb (A 2 r) (A 5 (31 * lv + 30)) with
  | true => rw [p_X7_isProved N lv r hr hl A (prvb_t hb), Option.bind_some, if_neg (by decide)]; rfl
  | false =>
    rw [p_X7_isProved' N lv r hr hl A (prvb_f hb), Option.bind_some, if_pos rfl, rd_n (i := 31 * lv + r) (by omega) (by omega), Option.bind_some, hs, q_X7_has N sd t _ rfl, Option.bind_some]
    cases h1 : bitB (nI sd) t with
    | true => rw [if_pos rfl, if_neg (by decide)]; rfl
    | false =>
      rw [if_neg Bool.false_ne_true, if_pos rfl, rd_n (i := 31 * lv + 5 + r) (by omega) (by omega), Option.bind_some, hd, q_X7_has N dn t _ rfl, Option.bind_some]
      cases h2 : bitB (nI dn) t with
      | true => rw [if_pos rfl, if_neg (by decide)]; rfl
      | false => rw [if_neg Bool.false_ne_true, if_pos rfl]; rfl
