theorem p_X4_canBeSaid (N r k t sd dn : Nat) (I : Nat → Int32) (A : Nat → Nat → Int32) (I1 : Nat → Int32) (A1 : Nat → Nat → Int32) (hk : k ≤ 5) (hI : I1 0 = nI k) (hr : r < k) (ht : t < 6) (h2 : ¬ A1 2 r < 0) (hs : A 0 r = nI sd) (hd : A 1 r = nI dn) (hs6 : sd < 64) (hd6 : dn < 64) : fX4_canBeSaid N I A I1 A1 (nI r) (nI t) = some (if csB (A1 2 r) (I 0) (nI sd) (nI dn) t = true then 1 else 0) := by
  unfold fX4_canBeSaid fX4_canBeSaid_49 fX4_canBeSaid_50 csB
  rw [bz_0, bz_1, Option.bind_some, Option.bind_some, p_X5_hasRumour N I1 (nI r) k hk hI, if_neg (by
    rintro (h | h)
    · exact nI_pos (by omega) h
    · exact nI_ge hr (by omega) h), Option.bind_some, if_neg (by decide), p_X6_isTable, if_neg (by
    rintro (h | h)
    · exact nI_pos (by omega) h
    · exact nI_ge (b := 6) ht (by omega) h), Option.bind_some, if_neg (by decide)]
  cases hb : prvb (A1 2 r) (I 0) with
  | true => rw [p_X5_isProved N r (by omega) A1 (I 0) h2 (prvb_t hb), Option.bind_some, if_neg (by decide)]; rfl
  | false =>
    rw [p_X5_isProved' N r (by omega) A1 (I 0) h2 (prvb_f hb), Option.bind_some, if_pos rfl, p_X4_saidOf N r (by omega), Option.bind_some, p_X4_deniedOf N r (by omega), Option.bind_some, hs, hd]
    obtain ⟨u, hu, e, hb2⟩ := or_64 sd hs6 dn hd6
    rw [e, q_X6_hasBit N u t hu ht, Option.bind_some, hb2 t ht]
    cases h1 : bitB (nI sd) t with
    | true => rw [Bool.true_or, if_pos rfl, if_neg (by decide)]; rfl
    | false =>
      rw [Bool.false_or]
      cases h3 : bitB (nI dn) t with
      | true => rw [if_pos rfl, if_neg (by decide)]; rfl
      | false => rw [if_neg Bool.false_ne_true, if_pos rfl]; rfl
