theorem al1_no {k m : Nat} {T : Nat → Nat → Nat} {S : Nat → Nat} {d : Int32} {r t : Nat} (hB : TB k m T) (h : 6 ≤ t ∨ 5 ≤ r) : al1 k T S d r t = false := by
  have hk := hB.1
  unfold al1
  rcases h with h | h
  · rw [decide_eq_false (show ¬ t < 6 by omega), Bool.false_and, Bool.and_false]
  · rw [decide_eq_false (show ¬ r < k by omega), Bool.false_and]
theorem m_say10 (N : Nat) {k m r t : Nat} {T : Nat → Nat → Nat} {I : Nat → Int32} {A : Nat → Nat → Int32} {S : Nat → Nat} {d : Int32} (hB : TB k m T) (hT : MT k m T I A) (hS : MS A 1 S d) (hSB : SB k m S) (hr : r < 1000) (ht : t < 1000) : ∃ A', fX7_sayTrial N I A (nI r) (nI t) = some ((if al1 k T S d r t = true then 1 else 0), A') ∧ FrL 1 A A' ∧ MS A' 1 (if al1 k T S d r t = true then s1 S r (S r ||| 2 ^ t) else S) d ∧ SB k m (if al1 k T S d r t = true then s1 S r (S r ||| 2 ^ t) else S) := by
  have hk := hB.1
  by_cases h : r < k ∧ t < 6
  · obtain ⟨A', a1, a2, a3⟩ := m_sayTrial N hB hT hS hSB h.1 h.2
    have hb := sayS_SB (d := d) hB hSB h.1 h.2
    have e : al1 k T S d r t = csN (T 2 r) d (S r) (S (5 + r)) t := by
      unfold al1; rw [decide_eq_true h.1, decide_eq_true h.2, Bool.true_and, Bool.true_and]
    rw [e]
    exact ⟨A', a1, a2, a3, hb⟩
  · have e : al1 k T S d r t = false := by
      unfold al1
      by_cases h1 : r < k
      · rw [decide_eq_false (show ¬ t < 6 from fun h2 => h ⟨h1, h2⟩), Bool.false_and, Bool.and_false]
      · rw [decide_eq_false h1, Bool.false_and]
    rw [e, if_neg Bool.false_ne_true, if_neg Bool.false_ne_true]
    refine ⟨A, m_st_no N hB hT ?_, FrL_rfl 1 A, hS, hSB⟩
    by_cases h1 : r < k
    · refine Or.inr (Or.inr (nI_le (a := 6) ?_ (by omega)))
      by_cases h2 : t < 6
      · exact absurd ⟨h1, h2⟩ h
      · omega
    · exact Or.inl (Or.inr (nI_le (by omega) (by omega)))
theorem pu_1 {k m : Nat} {T : Nat → Nat → Nat} {S : Nat → Nat} (d : Int32) (p q r t : Nat) (hB : TB k m T) (hr : r < k) : puN k T (s1 S r (S r ||| 2 ^ t)) d p q = pl1 k T S d p q r t := by
  have hk := hB.1
  unfold puN pl1
  refine sm_eq _ _ k (fun i hi => ?_)
  rw [cvN_eq T (S := s1 S r (S r ||| 2 ^ t)) (S' := S) d p i _ q (s1_n _ _ (by omega)) (s1_n _ _ (by omega))]
  by_cases e : i = r
  · subst e; rw [s1_s, if_pos rfl]
  · rw [s1_n _ _ e, if_neg e, Nat.or_zero]
theorem pu_2 {k m : Nat} {T : Nat → Nat → Nat} {S : Nat → Nat} (d : Int32) (p q r1 t1 r2 t2 : Nat) (hB : TB k m T) (h1 : r1 < k) (h2 : r2 < k) : puN k T (s1 (s1 S r1 (S r1 ||| 2 ^ t1)) r2 (s1 S r1 (S r1 ||| 2 ^ t1) r2 ||| 2 ^ t2)) d p q = pl2 k T S d p q r1 t1 r2 t2 := by
  have hk := hB.1
  rw [pu_1 d p q r2 t2 hB h2]
  unfold pl1 pl2
  refine sm_eq _ _ k (fun i hi => ?_)
  rw [cvN_eq T (S := s1 S r1 (S r1 ||| 2 ^ t1)) (S' := S) d p i _ q (s1_n _ _ (by omega)) (s1_n _ _ (by omega))]
  by_cases e : i = r1
  · subst e; rw [s1_s, if_pos (rfl : i = i)]
  · rw [s1_n _ _ e, if_neg e, Nat.or_zero]
theorem al1_2 {k m : Nat} {T : Nat → Nat → Nat} {S : Nat → Nat} {d : Int32} (r1 t1 r2 t2 : Nat) (hB : TB k m T) (h1 : r1 < k) : al1 k T (s1 S r1 (S r1 ||| 2 ^ t1)) d r2 t2 = (al1 k T S d r2 t2 && !(decide (r1 = r2) && decide (t1 = t2))) := by
  have hk := hB.1
  unfold al1 csN
  by_cases h2 : r2 < k
  · rw [s1_n _ _ (show 5 + r2 ≠ r1 by omega)]
    by_cases e : r2 = r1
    · subst e
      rw [s1_s, Nat.testBit_or, Nat.testBit_two_pow]
      by_cases e2 : t1 = t2
      · subst e2; simp
      · simp [e2]
    · rw [s1_n _ _ e, decide_eq_false (show ¬ r1 = r2 from fun h => e h.symm), Bool.false_and, Bool.not_false, Bool.and_true]
  · rw [decide_eq_false h2, Bool.false_and, Bool.false_and, Bool.false_and]
theorem m_pl_end (N : Nat) {k m p q : Nat} {T : Nat → Nat → Nat} {I : Nat → Int32} {A : Nat → Nat → Int32} {S : Nat → Nat} {d : Int32} (hN : 40 ≤ N) (hB : TB k m T) (hT : MT k m T I A) (hS : MS A 1 S d) (hSB : SB k m S) (hp : p < m) (hq : q < 9) (y : Int32) : ∃ A', fX7_planned_74 N I A (nI p) (nI q) y = some ((if y = 0 then -9 else nI (puN k T S d p q)), A') ∧ FrL 1 A A' := by
  have hk := hB.1
  obtain ⟨C, b1, b2, b3⟩ := m_dawnTrial N (by omega) hB hT hS hSB (q := q) (by omega)
  have w1 := m_purse1 N (by omega) hB (FrL_MT b2 hT) b1 (SB_dws d hB hSB q) hp
  rw [prs_dws T d _ p q hk hp] at w1
  refine ⟨C, ?_, b2⟩
  unfold fX7_planned_74 fX7_planned_97
  rw [b3, Option.bind_some, w1, Option.bind_some]
  by_cases y0 : y = 0
  · rw [if_pos y0, if_pos y0]
  · rw [if_neg y0, if_neg y0]
theorem m_pl0 (N : Nat) {k m p q : Nat} {T : Nat → Nat → Nat} {I : Nat → Int32} {A : Nat → Nat → Int32} {S : Nat → Nat} {d : Int32} (hN : 40 ≤ N) (hB : TB k m T) (hT : MT k m T I A) (hS : MS A 0 S d) (hSB : SB k m S) (hp : p < m) (hq : q < 9) : ∃ A', fX7_planned N I A (nI p) (nI q) 1 = some (nI (puN k T S d p q), A') ∧ FrL 1 A A' := by
  obtain ⟨A1, a1, a2, a3⟩ := m_layTrial N (by omega) hS
  obtain ⟨C, c1, c2⟩ := m_pl_end N hN hB (FrL_MT a2 hT) a1 hSB hp hq 1
  refine ⟨C, ?_, FrL_tr a2 c2⟩
  unfold fX7_planned fX7_planned_33 fX7_planned_38 fX7_planned_69
  rw [a3, Option.bind_some, if_pos (by decide +kernel), n10, if_pos (by decide +kernel), c1, n10]
theorem m_pl1 (N : Nat) {k m p q j : Nat} {T : Nat → Nat → Nat} {I : Nat → Int32} {A : Nat → Nat → Int32} {S : Nat → Nat} {d : Int32} (hN : 40 ≤ N) (hB : TB k m T) (hT : MT k m T I A) (hS : MS A 0 S d) (hSB : SB k m S) (hp : p < m) (hq : q < 9) (hj : j < 100) : ∃ A', fX7_planned N I A (nI p) (nI q) (nI (100 + j)) = some ((if al1 k T S d (j / 10) (j % 10) = true then nI (pl1 k T S d p q (j / 10) (j % 10)) else -9), A') ∧ FrL 1 A A' := by
  have hk := hB.1
  obtain ⟨A1, a1, a2, a3⟩ := m_layTrial N (by omega) hS
  obtain ⟨B, b1, b2, b3, b4⟩ := m_say10 N (r := j / 10) (t := j % 10) hB (FrL_MT a2 hT) a1 hSB (by omega) (by omega)
  have hTB := FrL_MT (FrL_tr a2 b2) hT
  have e1 : rem (nI (100 + j) / 10) 10 = nI (j / 10) := by
    rw [show nI (100 + j) / 10 = nI ((100 + j) / 10) from div_n (b := 10) (by omega) (by omega) (by omega), show rem (nI ((100 + j) / 10)) 10 = nI ((100 + j) / 10 % 10) from pk_rem (d := 10) (by omega) (by omega) (by omega)]
    congr 1; omega
  have e2 : rem (nI (100 + j)) 10 = nI (j % 10) := by
    rw [show rem (nI (100 + j)) 10 = nI ((100 + j) % 10) from pk_rem (d := 10) (by omega) (by omega) (by omega)]
    congr 1; omega
  unfold fX7_planned fX7_planned_33 fX7_planned_38 fX7_planned_69 fX7_planned_73
  rw [a3, Option.bind_some, if_pos (show nI (100 + j) < 10000 from nI_lt (b := 10000) (by omega) (by omega)), n10, if_neg (show ¬ nI (100 + j) < 100 from nI_nlt (b := 100) (by omega) (by omega)), e1, e2, b1, Option.bind_some]
  cases ha : al1 k T S d (j / 10) (j % 10) with
  | false =>
    rw [ha, if_neg Bool.false_ne_true] at b3 b4
    obtain ⟨C, c1, c2⟩ := m_pl_end N hN hB hTB b3 b4 hp hq 0
    rw [if_neg Bool.false_ne_true, if_neg Bool.false_ne_true, z00]
    refine ⟨C, ?_, FrL_tr (FrL_tr a2 b2) c2⟩
    rw [c1, z00]
  | true =>
    rw [ha, if_pos rfl] at b3 b4
    have hr : j / 10 < k := by
      simp only [al1, Bool.and_eq_true, decide_eq_true_eq] at ha
      exact ha.1
    obtain ⟨C, c1, c2⟩ := m_pl_end N hN hB hTB b3 b4 hp hq 1
    rw [if_pos rfl, if_pos rfl, n10]
    refine ⟨C, ?_, FrL_tr (FrL_tr a2 b2) c2⟩
    rw [c1, n10, pu_1 d p q _ _ hB hr]
theorem m_pl2 (N : Nat) {k m p q j : Nat} {T : Nat → Nat → Nat} {I : Nat → Int32} {A : Nat → Nat → Int32} {S : Nat → Nat} {d : Int32} (hN : 40 ≤ N) (hB : TB k m T) (hT : MT k m T I A) (hS : MS A 0 S d) (hSB : SB k m S) (hp : p < m) (hq : q < 9) (hj : j < 10000) : ∃ A', fX7_planned N I A (nI p) (nI q) (nI (10000 + j)) = some ((if al2 k T S d (j / 1000) (j / 100 % 10) (j / 10 % 10) (j % 10) = true then nI (pl2 k T S d p q (j / 1000) (j / 100 % 10) (j / 10 % 10) (j % 10)) else -9), A') ∧ FrL 1 A A' := by
  have hk := hB.1
  obtain ⟨A1, a1, a2, a3⟩ := m_layTrial N (by omega) hS
  obtain ⟨B, b1, b2, b3, b4⟩ := m_say10 N (r := j / 1000) (t := j / 100 % 10) hB (FrL_MT a2 hT) a1 hSB (by omega) (by omega)
  have hTB := FrL_MT (FrL_tr a2 b2) hT
  have e1 : rem (nI (10000 + j) / 1000) 10 = nI (j / 1000) := by
    rw [show nI (10000 + j) / 1000 = nI ((10000 + j) / 1000) from div_n (b := 1000) (by omega) (by omega) (by omega), show rem (nI ((10000 + j) / 1000)) 10 = nI ((10000 + j) / 1000 % 10) from pk_rem (d := 10) (by omega) (by omega) (by omega)]
    congr 1; omega
  have e2 : rem (nI (10000 + j) / 100) 10 = nI (j / 100 % 10) := by
    rw [show nI (10000 + j) / 100 = nI ((10000 + j) / 100) from div_n (b := 100) (by omega) (by omega) (by omega), show rem (nI ((10000 + j) / 100)) 10 = nI ((10000 + j) / 100 % 10) from pk_rem (d := 10) (by omega) (by omega) (by omega)]
    congr 1; omega
  have e3 : rem (nI (10000 + j) / 10) 10 = nI (j / 10 % 10) := by
    rw [show nI (10000 + j) / 10 = nI ((10000 + j) / 10) from div_n (b := 10) (by omega) (by omega) (by omega), show rem (nI ((10000 + j) / 10)) 10 = nI ((10000 + j) / 10 % 10) from pk_rem (d := 10) (by omega) (by omega) (by omega)]
    congr 1; omega
  have e4 : rem (nI (10000 + j)) 10 = nI (j % 10) := by
    rw [show rem (nI (10000 + j)) 10 = nI ((10000 + j) % 10) from pk_rem (d := 10) (by omega) (by omega) (by omega)]
    congr 1; omega
  unfold fX7_planned fX7_planned_33 fX7_planned_38 fX7_planned_69 fX7_planned_73
  rw [a3, Option.bind_some, if_neg (show ¬ nI (10000 + j) < 10000 from nI_nlt (b := 10000) (by omega) (by omega)), e1, e2, e3, e4, b1, Option.bind_some]
  dsimp only
  cases ha : al1 k T S d (j / 1000) (j / 100 % 10) with
  | false =>
    have h2 : al2 k T S d (j / 1000) (j / 100 % 10) (j / 10 % 10) (j % 10) = false := by unfold al2; rw [ha, Bool.false_and]
    rw [ha, if_neg Bool.false_ne_true] at b3 b4
    obtain ⟨C, c1, c2⟩ := m_pl_end N hN hB hTB b3 b4 hp hq 0
    rw [if_neg Bool.false_ne_true, z00, z00, h2, if_neg Bool.false_ne_true]
    refine ⟨C, ?_, FrL_tr (FrL_tr a2 b2) c2⟩
    rw [c1, z00]
  | true =>
    rw [ha, if_pos rfl] at b3 b4
    have hr : j / 1000 < k := by
      simp only [al1, Bool.and_eq_true, decide_eq_true_eq] at ha
      exact ha.1
    have h2 : al2 k T S d (j / 1000) (j / 100 % 10) (j / 10 % 10) (j % 10) = al1 k T (s1 S (j / 1000) (S (j / 1000) ||| 2 ^ (j / 100 % 10))) d (j / 10 % 10) (j % 10) := by
      rw [al1_2 _ _ _ _ hB hr]; unfold al2; rw [ha, Bool.true_and]
    obtain ⟨C, c1, c2, c3, c4⟩ := m_say10 N (r := j / 10 % 10) (t := j % 10) hB hTB b3 b4 (by omega) (by omega)
    have hTC := FrL_MT (FrL_tr (FrL_tr a2 b2) c2) hT
    rw [if_pos rfl, n10, n10, if_neg (show ¬ nI (10000 + j) < 100 from nI_nlt (b := 100) (by omega) (by omega)), c1, Option.bind_some, h2]
    cases hb : al1 k T (s1 S (j / 1000) (S (j / 1000) ||| 2 ^ (j / 100 % 10))) d (j / 10 % 10) (j % 10) with
    | false =>
      rw [hb, if_neg Bool.false_ne_true] at c3 c4
      obtain ⟨D, d1, d2⟩ := m_pl_end N hN hB hTC c3 c4 hp hq 0
      rw [if_neg Bool.false_ne_true, if_neg Bool.false_ne_true, z00]
      refine ⟨D, ?_, FrL_tr (FrL_tr (FrL_tr a2 b2) c2) d2⟩
      rw [d1, z00]
    | true =>
      rw [hb, if_pos rfl] at c3 c4
      have hr2 : j / 10 % 10 < k := by
        simp only [al1, Bool.and_eq_true, decide_eq_true_eq] at hb
        exact hb.1
      obtain ⟨D, d1, d2⟩ := m_pl_end N hN hB hTC c3 c4 hp hq 1
      rw [if_pos rfl, if_pos rfl, n10]
      refine ⟨D, ?_, FrL_tr (FrL_tr (FrL_tr a2 b2) c2) d2⟩
      rw [d1, n10, pu_2 d p q _ _ _ _ hB hr hr2]
/-- the reference's road -/
def gM (k : Nat) (T : Nat → Nat → Nat) (S : Nat → Nat) (d : Int32) (p q j : Nat) (s : Nat × Nat) : Nat × Nat := ofr (al1 k T S d (j / 10) (j % 10)) (pl1 k T S d p q (j / 10) (j % 10)) (100 + j) s
def gD (k : Nat) (T : Nat → Nat → Nat) (S : Nat → Nat) (d : Int32) (p q j : Nat) (s : Nat × Nat) : Nat × Nat := ofr (al2 k T S d (j / 1000) (j / 100 % 10) (j / 10 % 10) (j % 10)) (pl2 k T S d p q (j / 1000) (j / 100 % 10) (j / 10 % 10) (j % 10)) (10000 + j) s
def gS (k : Nat) (T : Nat → Nat → Nat) (S : Nat → Nat) (d : Int32) (p q i : Nat) : Nat × Nat := if i ≤ 100 then fz (gM k T S d p q) i 0 (1, puN k T S d p q) else fz (gD k T S d p q) (i - 100) 0 (fz (gM k T S d p q) 100 0 (1, puN k T S d p q))
theorem gS_s (k : Nat) (T : Nat → Nat → Nat) (S : Nat → Nat) (d : Int32) (p q i : Nat) : gS k T S d p q (i + 1) = if i < 100 then gM k T S d p q i (gS k T S d p q i) else gD k T S d p q (i - 100) (gS k T S d p q i) := by
  unfold gS
  by_cases h : i < 100
  · rw [if_pos (show i + 1 ≤ 100 by omega), if_pos h, if_pos (show i ≤ 100 by omega), fz_r, Nat.zero_add]
  · rw [if_neg (show ¬ i + 1 ≤ 100 by omega), if_neg h, show i + 1 - 100 = (i - 100) + 1 by omega, fz_r _ (i - 100) 0, Nat.zero_add]
    by_cases h2 : i = 100
    · subst h2; rw [if_pos (by omega)]; rfl
    · rw [if_neg (by omega)]
theorem gS_b {k m : Nat} {T : Nat → Nat → Nat} {S : Nat → Nat} (d : Int32) (p q : Nat) (hB : TB k m T) (hSB : SB k m S) (hp : p < 4) : ∀ i, (gS k T S d p q i).2 ≤ 8910
  | 0 => puN_le d q hB hSB hp
  | i + 1 => by
    have h := gS_b d p q hB hSB hp i
    rw [gS_s]
    split
    · exact ofr_b _ _ _ _ _ (pl1_le d p q _ _ hB hSB hp) h
    · exact ofr_b _ _ _ _ _ (pl2_le d p q _ _ _ _ hB hSB hp) h
theorem m_plan_l (N : Nat) {k m p q : Nat} {T : Nat → Nat → Nat} {I : Nat → Int32} {A B : Nat → Nat → Int32} {S : Nat → Nat} {d : Int32} (hN : 10200 ≤ N) (hB : TB k m T) (hT : MT k m T I A) (hS : MS A 0 S d) (hSB : SB k m S) (hp : p < m) (hq : q < 9) (x3 : Int32) (hf : FrL 1 A B) : ∃ A', fX7_plan_40 N N I B (nI p) (nI q) x3 1 (nI (puN k T S d p q)) 0 = some ((if x3 = 0 then nI (gS k T S d p q 10100).2 else nI (gS k T S d p q 10100).1), A') ∧ FrL 1 A A' := by
  have hm := hB.2.1
  have hbd := gS_b d p q hB hSB (show p < 4 by omega)
  have H := lpX (fun n i (s : Nat → Nat → Int32) => fX7_plan_40 N n I s (nI p) (nI q) x3 (nI (gS k T S d p q i).1) (nI (gS k T S d p q i).2) (nI i)) (fun s => some ((if x3 = 0 then nI (gS k T S d p q 10100).2 else nI (gS k T S d p q 10100).1), s)) (fun i s => FrL 1 A s) 10100 ?_ ?_ N 0 B (by omega) (by omega) hf
  · obtain ⟨s, h1, h3⟩ := H
    exact ⟨s, h3, h1⟩
  · intro n s h
    show fX7_plan_40s N _ I s _ _ _ _ _ _ = _
    unfold fX7_plan_40s fX7_plan_133
    rw [if_pos (by decide +kernel)]
    split <;> rfl
  · intro n i s hi h1
    show ∃ s', _ ∧ fX7_plan_40s N (fX7_plan_40 N n) I s _ _ _ _ _ _ = _
    have key : ∀ (al : Bool) (v code : Nat) (A' : Nat → Nat → Int32), v ≤ 8910 → fX7_planned N I s (nI p) (nI q) (nI code) = some ((if al = true then nI v else -9), A') → FrL 1 s A' → gS k T S d p q (i + 1) = ofr al v code (gS k T S d p q i) → ∃ s', FrL 1 A s' ∧ fX7_plan_72 N (fX7_plan_40 N n) I s (nI p) (nI q) x3 (nI (gS k T S d p q i).1) (nI (gS k T S d p q i).2) (nI i) (nI code) = fX7_plan_40 N n I s' (nI p) (nI q) x3 (nI (gS k T S d p q (i + 1)).1) (nI (gS k T S d p q (i + 1)).2) (nI (i + 1)) := by
      intro al v code A' hv e1 e2 e3
      refine ⟨A', FrL_tr h1 e2, ?_⟩
      have hb := hbd i
      rw [e3]
      unfold fX7_plan_72 fX7_plan_98 fX7_plan_114 ofr
      rw [e1, Option.bind_some, nI_1]
      dsimp only
      cases al with
      | false =>
        have h9 : (-9 : Int32) ≤ nI (gS k T S d p q i).2 := Int32.le_trans (by decide) (nI_pos' (n := (gS k T S d p q i).2) (by omega))
        rw [if_neg Bool.false_ne_true, if_pos h9, if_pos h9, Bool.false_and, if_neg Bool.false_ne_true]
      | true =>
        rw [if_pos rfl, Bool.true_and]
        by_cases hl : (gS k T S d p q i).2 < v
        · have hn : ¬ nI v ≤ nI (gS k T S d p q i).2 := nI_ge hl (by omega)
          rw [if_neg hn, if_neg hn, decide_eq_true hl, if_pos rfl]
        · have hn : nI v ≤ nI (gS k T S d p q i).2 := nI_le (by omega) (by omega)
          rw [if_pos hn, if_pos hn, decide_eq_false hl, if_neg Bool.false_ne_true]
    unfold fX7_plan_40s
    rw [if_neg (show ¬ (10100 : Int32) ≤ nI i from nI_ge (b := 10100) hi (by omega))]
    by_cases h : i < 100
    · rw [if_neg (show ¬ (100 : Int32) ≤ nI i from nI_ge (b := 100) h (by omega)), show (100 : Int32) + nI i = nI (100 + i) from nI_add 100 i]
      obtain ⟨A', q1, q2⟩ := m_pl1 N (j := i) (by omega) hB (FrL_MT h1 hT) (FrL_MS0 h1 hS) hSB hp hq h
      refine key _ _ _ A' (pl1_le d p q _ _ hB hSB (by omega)) q1 q2 ?_
      rw [gS_s, if_pos h]; rfl
    · rw [if_pos (show (100 : Int32) ≤ nI i from nI_le (a := 100) (by omega) (by omega)), show (10000 : Int32) + nI i - 100 = nI (10000 + (i - 100)) by
        rw [show (10000 : Int32) + nI i = nI (10000 + i) from nI_add 10000 i, show nI (10000 + i) - 100 = nI (10000 + i - 100) from pk_sub (b := 100) (by omega)]; congr 1; omega]
      obtain ⟨A', q1, q2⟩ := m_pl2 N (j := i - 100) (by omega) hB (FrL_MT h1 hT) (FrL_MS0 h1 hS) hSB hp hq (by omega)
      refine key _ _ _ A' (pl2_le d p q _ _ _ _ hB hSB (by omega)) q1 q2 ?_
      rw [gS_s, if_neg h]; rfl
