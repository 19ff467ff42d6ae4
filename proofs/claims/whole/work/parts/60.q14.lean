-- trials on both sides
theorem c_cbs_no (N : Nat) {k m : Nat} {x y : Int32} {T : Nat → Nat → Nat} {I : Nat → Int32} {A : Nat → Nat → Int32} {I1 : Nat → Int32} {A1 : Nat → Nat → Int32} (hB : TB k m T) (hT : CT k m T I1 A1) (h : (x < 0 ∨ nI k ≤ x) ∨ (y < 0 ∨ nI 6 ≤ y)) : fX4_canBeSaid N I A I1 A1 x y = some 0 := by
  unfold fX4_canBeSaid fX4_canBeSaid_49 fX4_canBeSaid_50
  rw [c_isR N x hB hT, Option.bind_some, c_isT, Option.bind_some, bz_0, Option.bind_some]
  by_cases hx : x < 0 ∨ nI k ≤ x
  · rw [if_pos hx, z00]
  · rw [if_neg hx, n10]
    rcases h with h | h
    · exact absurd h hx
    · rw [if_pos h, z00]
theorem c_cbd_no (N : Nat) {k m : Nat} {x y : Int32} {T : Nat → Nat → Nat} {I : Nat → Int32} {A : Nat → Nat → Int32} {I1 : Nat → Int32} {A1 : Nat → Nat → Int32} (hB : TB k m T) (hT : CT k m T I1 A1) (h : (x < 0 ∨ nI k ≤ x) ∨ (y < 0 ∨ nI 6 ≤ y)) : fX4_canBeDenied N I A I1 A1 x y = some 0 := by
  unfold fX4_canBeDenied fX4_canBeDenied_43 fX4_canBeDenied_44
  rw [c_isR N x hB hT, Option.bind_some, c_isT, Option.bind_some, bz_0, Option.bind_some]
  by_cases hx : x < 0 ∨ nI k ≤ x
  · rw [if_pos hx, z00]
  · rw [if_neg hx, n10]
    rcases h with h | h
    · exact absurd h hx
    · rw [if_pos h, z00]
/-- what is said at a trial -/
def sayS (T : Nat → Nat → Nat) (S : Nat → Nat) (d : Int32) (r t : Nat) : Nat → Nat := if csN (T 2 r) d (S r) (S (5 + r)) t = true then s1 S r (S r ||| 2 ^ t) else S
theorem sayS_SB {k m : Nat} {T : Nat → Nat → Nat} {S : Nat → Nat} {d : Int32} {r t : Nat} (hB : TB k m T) (hSB : SB k m S) (hr : r < k) (ht : t < 6) : SB k m (sayS T S d r t) := by
  have hk := hB.1
  unfold sayS
  split
  · exact SB_said hSB r _ hr hk (or_lt (hSB.1 r (by omega)) (p2_64 ht))
  · exact hSB
theorem m_sayTrial (N : Nat) {k m r t : Nat} {T : Nat → Nat → Nat} {I : Nat → Int32} {A : Nat → Nat → Int32} {S : Nat → Nat} {d : Int32} (hB : TB k m T) (hT : MT k m T I A) (hS : MS A 1 S d) (hSB : SB k m S) (hr : r < k) (ht : t < 6) : ∃ A', fX7_sayTrial N I A (nI r) (nI t) = some ((if csN (T 2 r) d (S r) (S (5 + r)) t = true then 1 else 0), A') ∧ FrL 1 A A' ∧ MS A' 1 (sayS T S d r t) d := by
  have hk := hB.1
  have hs := hSB.1 r (by omega)
  have hcs : fX7_canSay N A 1 (nI r) (nI t) = _ := m_canSay N (lv := 1) hB hT hS hSB (by omega) hr ht
  unfold fX7_sayTrial fX7_sayTrial_29 fX7_sayTrial_30 fX7_sayTrial_50 sayS
  rw [m_isR N _ hB hT, if_neg (in_no hr (by omega)), Option.bind_some, n10, m_isT, if_neg (in_no ht (by omega)), Option.bind_some, n10, hcs, Option.bind_some, bz_0, bz_1, Option.bind_some, Option.bind_some]
  cases hc : csN (T 2 r) d (S r) (S (5 + r)) t with
  | false =>
    refine ⟨A, ?_, FrL_rfl 1 A, hS⟩
    rw [if_neg Bool.false_ne_true, z00, z00]
  | true =>
    refine ⟨_, ?_, FrL_wr (lv := 1) A (nI (S r ||| 2 ^ t)) (j := r) (by omega), MS_w hS r (S r ||| 2 ^ t) (by omega)⟩
    rw [if_pos rfl, n10, n10, show (31 : Int32) + nI r = nI (31 * 1 + r) from nI_add 31 r, rd_e rfl (by omega) (by omega) (hS.1 r (by omega)), Option.bind_some, shl1 t ht, or_N _ hs _ (p2_64 ht), wr_e _ _ rfl (by omega) (by omega), Option.bind_some, Option.bind_some]
theorem m_st_no (N : Nat) {k m : Nat} {x y : Int32} {T : Nat → Nat → Nat} {I : Nat → Int32} {A : Nat → Nat → Int32} (hB : TB k m T) (hT : MT k m T I A) (h : (x < 0 ∨ nI k ≤ x) ∨ (y < 0 ∨ nI 6 ≤ y)) : fX7_sayTrial N I A x y = some (0, A) := by
  unfold fX7_sayTrial fX7_sayTrial_29 fX7_sayTrial_30 fX7_sayTrial_50
  rw [m_isR N x hB hT, Option.bind_some, m_isT, Option.bind_some, bz_0, Option.bind_some, z00]
  by_cases hx : x < 0 ∨ nI k ≤ x
  · rw [if_pos hx, z00]
  · rw [if_neg hx, n10]
    rcases h with h | h
    · exact absurd h hx
    · rw [if_pos h, z00]
theorem c_putSaid (N : Nat) {k m r t : Nat} {I : Nat → Int32} {A : Nat → Nat → Int32} {S : Nat → Nat} {d : Int32} (hS : CS I A S d) (hSB : SB k m S) (hr : r < 5) (ht : t < 6) : fX4_putSaid N A (nI r) (nI t) = some (va_up A 0 (upd (A 0) r (nI (S r ||| 2 ^ t)))) := by
  have hs := hSB.1 r (by omega)
  unfold fX4_putSaid fX4_putSaid_27
  rw [p_X6_isIndex, if_neg (nI_pos (by omega)), if_neg (show ¬ (5 : Int32) ≤ nI r from nI_ge (b := 5) (by omega) (by omega)), Option.bind_some, if_neg (by decide), c_isTable N ht, Option.bind_some, if_neg (by decide), rd_e rfl (by omega) (by omega) (hS.1 r (by omega)), Option.bind_some, shl1 t ht, or_N _ hs _ (p2_64 ht), wr_e _ _ rfl (by omega) (by omega), Option.bind_some]
theorem b_say (N : Nat) {k m : Nat} (x y : Int32) {T : Nat → Nat → Nat} {I : Nat → Int32} {A : Nat → Nat → Int32} {I1 : Nat → Int32} {A1 : Nat → Nat → Int32} {uI : Nat → Int32} {uA : Nat → Nat → Int32} {S : Nat → Nat} {d : Int32} (hB : TB k m T) (hT : MT k m T I A) (hC : CT k m T I1 A1) (hS : MS A 1 S d) (hU : CS uI uA S d) (hSB : SB k m S) :
    ∃ v A' uA' S', fX7_sayTrial N I A x y = some (v, A') ∧ fX6_trySaying N I1 A1 uI uA x y = some (v, uA') ∧ (v = 0 ∨ v = 1) ∧ FrL 1 A A' ∧ MS A' 1 S' d ∧ CS uI uA' S' d ∧ SB k m S' := by
  have hk := hB.1
  by_cases h : (x < 0 ∨ nI k ≤ x) ∨ (y < 0 ∨ nI 6 ≤ y)
  · refine ⟨0, A, uA, S, m_st_no N hB hT h, ?_, Or.inl rfl, FrL_rfl 1 A, hS, hU, hSB⟩
    unfold fX6_trySaying
    rw [c_cbs_no N hB hC h, Option.bind_some, z00]
  · obtain ⟨r, hr, rfl⟩ := ix_of (k := k) (by omega) (fun h1 => h (Or.inl h1))
    obtain ⟨t, ht, rfl⟩ := ix_of (k := 6) (by omega) (fun h1 => h (Or.inr h1))
    obtain ⟨A', a1, a2, a3⟩ := m_sayTrial N hB hT hS hSB hr ht
    have hsb := sayS_SB (d := d) hB hSB hr ht
    unfold fX6_trySaying
    rw [c_canBeSaid N hB hC hU hSB hr ht, Option.bind_some, c_putSaid N hU hSB (by omega) ht, Option.bind_some]
    unfold sayS at a3 hsb
    cases hc : csN (T 2 r) d (S r) (S (5 + r)) t with
    | false =>
      rw [hc, if_neg Bool.false_ne_true] at a1 a3 hsb
      exact ⟨0, A', uA, S, a1, by rw [if_neg Bool.false_ne_true, z00], Or.inl rfl, a2, a3, hU, hSB⟩
    | true =>
      rw [hc, if_pos rfl] at a1 a3 hsb
      exact ⟨1, A', _, _, a1, by rw [if_pos rfl, n10], Or.inr rfl, a2, a3, CS_said hU r _ (by omega), hsb⟩
theorem b_thing (N : Nat) {k m : Nat} (x : Int32) {T : Nat → Nat → Nat} {I : Nat → Int32} {A : Nat → Nat → Int32} {I1 : Nat → Int32} {A1 : Nat → Nat → Int32} {uI : Nat → Int32} {uA : Nat → Nat → Int32} {S : Nat → Nat} {d : Int32} (hN : 40 ≤ N) (hB : TB k m T) (hT : MT k m T I A) (hC : CT k m T I1 A1) (hS : MS A 1 S d) (hU : CS uI uA S d) (hSB : SB k m S) :
    ∃ v A' uI' uA' S' d', fX7_tryThing N I A x = some (v, A') ∧ fX6_tryThing N I1 A1 uI uA x = some (v, uI', uA') ∧ FrL 1 A A' ∧ MS A' 1 S' d' ∧ CS uI' uA' S' d' ∧ SB k m S' := by
  have hk := hB.1
  unfold fX7_tryThing fX6_tryThing
  by_cases h0 : x / 100 = 0
  · have e2 : ¬ x / 100 = 2 := by rw [h0]; decide
    rw [if_neg e2, if_pos h0, if_pos h0]
    obtain ⟨v, A', uA', S', q1, q2, q3, q4, q5, q6, q7⟩ := b_say N (rem (x / 10) 10) (rem x 10) hB hT hC hS hU hSB
    rw [q1, q2, Option.bind_some, Option.bind_some]
    have hb : bz v = some v := by rcases q3 with rfl | rfl <;> decide
    dsimp only
    rw [hb, Option.bind_some, Option.bind_some]
    exact ⟨v, A', uI, uA', S', d, rfl, rfl, q4, q5, q6, q7⟩
  rw [if_neg h0, if_neg h0]
  by_cases h1 : x / 100 = 1
  · have e2 : ¬ x / 100 = 2 := by rw [h1]; decide
    rw [if_neg e2, if_pos h1, if_pos h1]
    unfold fX7_tryThing_80 fX7_tryThing_81 fX7_tryThing_95 fX6_tryDenying
    rw [m_isR N _ hB hT, Option.bind_some, m_isT, Option.bind_some, bz_0, bz_1, Option.bind_some, z00, n10]
    by_cases h : (rem (x / 10) 10 < 0 ∨ nI k ≤ rem (x / 10) 10) ∨ (rem x 10 < 0 ∨ nI 6 ≤ rem x 10)
    · rw [c_cbd_no N hB hC h, Option.bind_some, z00, Option.bind_some, bz_0, Option.bind_some]
      refine ⟨0, A, uI, uA, S, d, ?_, rfl, FrL_rfl 1 A, hS, hU, hSB⟩
      by_cases hx : rem (x / 10) 10 < 0 ∨ nI k ≤ rem (x / 10) 10
      · rw [if_pos hx, z00]
      · rw [if_neg hx, n10]
        rcases h with h | h
        · exact absurd h hx
        · rw [if_pos h, z00]
    · obtain ⟨r, hr, er⟩ := ix_of (k := k) (by omega) (fun h1 => h (Or.inl h1))
      obtain ⟨t, ht, et⟩ := ix_of (k := 6) (by omega) (fun h1 => h (Or.inr h1))
      have hcd : fX7_canDeny N A 1 (nI r) (nI t) = _ := m_canDeny N (lv := 1) hB hT hS hSB (by omega) hr ht
      obtain ⟨A', a1, a2, a3⟩ := m_denyOn N (lv := 1) hS hSB (by omega) (r := r) (by omega) ht
      rw [er, et, if_neg (in_no hr (by omega)), n10, if_neg (in_no ht (by omega)), n10, hcd, Option.bind_some, c_canBeDenied N hB hC hU hSB hr ht, Option.bind_some, c_putDenied N hU hSB (by omega) ht, Option.bind_some, show fX7_denyOn N A 1 (nI r) (nI t) = _ from a3, Option.bind_some, Option.bind_some]
      cases hc : cdN (T 1 r) (T 2 r) d (S (5 + r)) t with
      | false =>
        rw [if_neg Bool.false_ne_true, z00, z00, Option.bind_some, bz_0, Option.bind_some]
        exact ⟨0, A, uI, uA, S, d, rfl, rfl, FrL_rfl 1 A, hS, hU, hSB⟩
      | true =>
        rw [if_pos rfl, n10, n10, Option.bind_some, bz_1, Option.bind_some]
        have c2 := CS_said (CS_den hU r (S (5 + r) ||| 2 ^ t) (by omega)) r (S r &&& (63 - 2 ^ t)) (by omega)
        rw [va_up_ne _ _ (by omega)] at c2
        exact ⟨1, A', uI, _, _, d, rfl, rfl, a2, a1, c2, SB_said (SB_den hSB r _ (by omega) (or_lt (hSB.1 (5 + r) (by omega)) (p2_64 ht))) r _ hr hk (and_lt (hSB.1 r (by omega)))⟩
  rw [if_neg h1, if_neg h1]
  by_cases h2 : x / 100 = 2
  · rw [if_pos h2, if_pos h2]
    obtain ⟨A', g1, g2, g3⟩ := m_dawnOn1 N (by omega) hB hT hS hSB
    obtain ⟨uI', uA', q1, q2⟩ := c_passDawn N (by omega) hB hC hU hSB
    rw [g3, q2, Option.bind_some, Option.bind_some]
    exact ⟨1, A', uI', uA', _, _, rfl, rfl, g2, g1, q1, SB_dw d hB hSB⟩
  · rw [if_neg h2, if_neg h2]
    unfold fX7_tryThing_80 fX7_tryThing_81 fX7_tryThing_95
    rw [z00, bz_0, Option.bind_some]
    exact ⟨0, A, uI, uA, S, d, rfl, rfl, FrL_rfl 1 A, hS, hU, hSB⟩
def awN (k : Nat) (T : Nat → Nat → Nat) (S : Nat → Nat) (d : Int32) : Nat := sm (fun r => vR T S d r) k
theorem m_allWorth (N : Nat) {k m : Nat} {T : Nat → Nat → Nat} {I : Nat → Int32} {A : Nat → Nat → Int32} {S : Nat → Nat} {d : Int32} (hN : 40 ≤ N) (hB : TB k m T) (hT : MT k m T I A) (hS : MS A 1 S d) (hSB : SB k m S) : fX7_allWorth N I A 1 = some (nI (awN k T S d)) := by
  have hk := hB.1
  unfold fX7_allWorth
  refine lpE (fun n i => fX7_allWorth_4 N n I A 1 (nI (sm (fun r => vR T S d r) i)) (nI i)) (fun _ => some (nI (awN k T S d))) k ?_ ?_ N 0 (by omega) (by omega)
  · intro n
    show fX7_allWorth_4s N _ I A _ _ _ = _
    unfold fX7_allWorth_4s
    rw [hT.1, if_pos (nI_le (Nat.le_refl k) (by omega))]
    rfl
  · intro n i hi ih
    show fX7_allWorth_4s N _ I A _ _ _ = _
    have hw : fX7_worthOf N A 1 (nI i) = _ := m_worthOf N (lv := 1) (by omega) hB hT hS hSB (by omega) hi
    unfold fX7_allWorth_4s
    rw [hT.1, if_neg (nI_ge hi (by omega)), hw, Option.bind_some, nI_add, nI_1]
    exact ih
theorem c_allWorth (N : Nat) {k m : Nat} {T : Nat → Nat → Nat} {I : Nat → Int32} {A : Nat → Nat → Int32} {I1 : Nat → Int32} {A1 : Nat → Nat → Int32} {S : Nat → Nat} {d : Int32} (hN : 40 ≤ N) (hB : TB k m T) (hT : CT k m T I1 A1) (hS : CS I A S d) (hSB : SB k m S) : fX4_valueOfAll N I A I1 A1 = some (nI (awN k T S d)) := by
  have hk := hB.1
  unfold fX4_valueOfAll
  refine lpE (fun n i => fX4_valueOfAll_4 N n I A I1 A1 (nI (sm (fun r => vR T S d r) i)) (nI i)) (fun _ => some (nI (awN k T S d))) k ?_ ?_ N 0 (by omega) (by omega)
  · intro n
    show fX4_valueOfAll_4s N _ I A I1 A1 _ _ = _
    unfold fX4_valueOfAll_4s
    rw [hT.1, if_pos (nI_le (Nat.le_refl k) (by omega))]
    rfl
  · intro n i hi ih
    show fX4_valueOfAll_4s N _ I A I1 A1 _ _ = _
    unfold fX4_valueOfAll_4s
    rw [hT.1, if_neg (nI_ge hi (by omega)), c_valueOf N hB hT hS hSB hi, Option.bind_some, nI_add, nI_1]
    exact ih
theorem m_in1 (N : Nat) (x : Int32) (M : Nat) (hM : M < 1000) (L : Int64) (hL : L = Int32.toInt64 (nI M)) : fX7_in N (Int32.toInt64 x) 1 L = some (if x < 1 ∨ nI (M + 1) ≤ x then 0 else 1) := by
  rw [p_X7_in, hL, show (1 : Int64) = Int32.toInt64 1 by decide +kernel]
  simp only [i64_lt]
  congr 1
  by_cases h1 : x < 1
  · rw [if_pos h1, if_pos (Or.inl h1)]
  · rw [if_neg h1]
    obtain ⟨j, hj, rfl⟩ := nI_of (x := x) (fun h => h1 (Int32.lt_trans h (by decide)))
    by_cases h2 : nI M < nI j
    · rw [if_pos h2, if_pos]
      refine Or.inr ?_
      rw [nI_leI (by omega) (by omega)]; rw [nI_ltI (by omega) (by omega)] at h2; omega
    · rw [if_neg h2, if_neg]
      rintro (h | h)
      · exact h1 h
      · rw [nI_leI (by omega) (by omega)] at h; rw [nI_ltI (by omega) (by omega)] at h2; omega
theorem out_1 (N : Nat) (x : Int32) (M : Nat) (hM : M < 1000) : fX6_isOutside N x 1 (nI M) = some (if x < 1 ∨ nI (M + 1) ≤ x then 1 else 0) := by
  rw [p_X6_isOutside]
  congr 1
  by_cases h1 : x < 1
  · rw [if_pos h1, if_pos (Or.inl h1)]
  · rw [if_neg h1]
    obtain ⟨j, hj, rfl⟩ := nI_of (x := x) (fun h => h1 (Int32.lt_trans h (by decide)))
    by_cases h2 : nI j ≤ nI M
    · rw [if_pos h2, if_neg]
      rintro (h | h)
      · exact h1 h
      · rw [nI_leI (by omega) (by omega)] at h h2; omega
    · rw [if_neg h2, if_pos]
      refine Or.inr ?_
      rw [nI_leI (by omega) (by omega)] at h2 ⊢; omega
theorem ix_1 {x : Int32} {M : Nat} (hM : M < 1000) (h : ¬ (x < 1 ∨ nI (M + 1) ≤ x)) : ∃ j, 1 ≤ j ∧ j ≤ M ∧ x = nI j := by
  obtain ⟨j, hj, rfl⟩ := ix_of (x := x) (k := M + 1) (by omega) (fun h1 => h (h1.elim (fun h2 => Or.inl (Int32.lt_trans h2 (by decide))) Or.inr))
  refine ⟨j, ?_, by omega, rfl⟩
  by_cases h0 : j = 0
  · subst h0; exact absurd (Or.inl (by decide)) h
  · omega
theorem m_tenTo (N e : Nat) (hN : 40 ≤ N) (he : e < 13) : fX7_tenTo N (nI e) = some (lN (10 ^ e)) := by
  unfold fX7_tenTo
  refine lpE (fun n i => fX7_tenTo_4 N n (nI e) (lN (10 ^ i)) (nI i)) (fun _ => some (lN (10 ^ e))) e ?_ ?_ N 0 (by omega) (by omega)
  · intro n
    show fX7_tenTo_4s N _ _ _ _ = _
    unfold fX7_tenTo_4s
    rw [if_pos (nI_le (Nat.le_refl e) (by omega))]
  · intro n i hi ih
    show fX7_tenTo_4s N _ _ _ _ = _
    unfold fX7_tenTo_4s
    rw [if_neg (nI_ge hi (by omega)), show (10 : Int64) = lN 10 from rfl, lN_mul, nI_1, ← Nat.pow_succ]
    exact ih
theorem remL_n {a b : Nat} (ha : a < 2 ^ 63) (h0 : 0 < b) (hb : b < 2 ^ 63) : remL (lN a) (lN b) = lN (a % b) := pk_lRem ha h0 hb
