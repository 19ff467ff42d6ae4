/-- may it be denied there -/
def cdB (li pf day dn : Int32) (t : Nat) : Bool := !(prvb pf day && decide (li = 0)) && !(bitB dn t)
theorem p_X7_canDeny (N lv r t dn : Nat) (A : Nat → Nat → Int32) (hr : r < 5) (hl : lv < 2) (hd : A 5 (31 * lv + 5 + r) = nI dn) : fX7_canDeny N A (nI lv) (nI r) (nI t) = some (if cdB (A 1 r) (A 2 r) (A 5 (31 * lv + 30)) (nI dn) t = true then 1 else 0) := by
  unfold fX7_canDeny fX7_canDeny_18 fX7_canDeny_42 fX7_canDeny_43 cdB
  have e2 : 31 * nI lv + 5 + nI r = nI (31 * lv + 5 + r) := ixM lv 5 r
  have tail : ((fX7_has N (nI dn) (nI t)).bind fun z2 => if z2 = 0 then (some 1 : Option Int32) else some 0) = some (if (!(bitB (nI dn) t)) = true then 1 else 0) := by
    rw [q_X7_has N dn t _ rfl, Option.bind_some]
    cases h2 : bitB (nI dn) t with
    | true => rw [if_pos rfl, if_neg (by decide)]; rfl
    | false => rw [if_neg Bool.false_ne_true, if_pos rfl]; rfl
  rw [e2, bz_0, bz_1, Option.bind_some, Option.bind_some, rd_n (i := 31 * lv + 5 + r) (by omega) (by omega), Option.bind_some, hd, tail]
  cases hb : prvb (A 2 r) (A 5 (31 * lv + 30)) with
  | true =>
    rw [p_X7_isProved N lv r hr hl A (prvb_t hb), Option.bind_some, if_neg (by decide), rd_n hr (by omega), Option.bind_some]
    by_cases h0 : A 1 r = 0
    · rw [if_pos h0, decide_eq_true h0]; rfl
    · rw [if_neg h0, decide_eq_false h0]; rfl
  | false =>
    rw [p_X7_isProved' N lv r hr hl A (prvb_f hb), Option.bind_some, if_pos rfl]; rfl
