-- where it was said first
/-- what is heard at j speaks against it behind n dawns -/
def bdH (f0 f1 f2 f3 : Nat → Int32) (T : Nat → Nat → Nat) (d : Int32) (r set dn n j : Nat) : Bool := decide (f0 j = nI r) && (decide (f2 j = nI n) && decide (¬ (if (sdN T d r set dn n).testBit (f1 j).toNatClampNeg = true then (1 : Int32) else 0) = f3 j))
def bdC (f0 f1 f2 f3 : Nat → Int32) (T : Nat → Nat → Nat) (d : Int32) (r set dn j : Nat) : Bool := decide (f0 j = nI r) && decide (¬ (if (sdN T d r set dn (f2 j).toNatClampNeg).testBit (f1 j).toNatClampNeg = true then (1 : Int32) else 0) = f3 j)
theorem bd_eq (f0 f1 f2 f3 : Nat → Int32) (T : Nat → Nat → Nat) (d : Int32) (r set dn h : Nat) (hn : ∀ j, j < h → ∃ n, n < 9 ∧ f2 j = nI n) : anyF (fun n => anyF (bdH f0 f1 f2 f3 T d r set dn n) h 0) 9 0 = anyF (bdC f0 f1 f2 f3 T d r set dn) h 0 := by
  rw [Bool.eq_iff_iff, anyF_iff, anyF_iff]
  constructor
  · rintro ⟨n, h1, h2, h3⟩
    rw [anyF_iff] at h3
    obtain ⟨j, g1, g2, g3⟩ := h3
    simp only [bdH, Bool.and_eq_true, decide_eq_true_eq] at g3
    refine ⟨j, g1, g2, ?_⟩
    simp only [bdC, Bool.and_eq_true, decide_eq_true_eq]
    refine ⟨g3.1, ?_⟩
    rw [g3.2.1, nI_clamp (by omega)]
    exact g3.2.2
  · rintro ⟨j, h1, h2, h3⟩
    obtain ⟨n, n1, n2⟩ := hn j (by omega)
    refine ⟨n, by omega, by omega, ?_⟩
    rw [anyF_iff]
    refine ⟨j, h1, h2, ?_⟩
    simp only [bdC, Bool.and_eq_true, decide_eq_true_eq] at h3
    simp only [bdH, Bool.and_eq_true, decide_eq_true_eq]
    refine ⟨h3.1, n2, ?_⟩
    have := h3.2
    rwa [n2, nI_clamp (by omega)] at this
theorem m_heard_in (N : Nat) {h r n set dn : Nat} {T : Nat → Nat → Nat} {d : Int32} {I : Nat → Int32} {A : Nat → Nat → Int32} {eI : Nat → Int32} {eA : Nat → Nat → Int32} (hN : 40 ≤ N) (hr : r < 5) (hn : n < 9) (hsd : A 5 (31 + r) = nI (sdN T d r set dn n)) (hlt : sdN T d r set dn n < 64) (hh : h ≤ 6) (h9 : I 9 = nI h) (hH : ∀ j, j < h → ∃ r t n s, r < 5 ∧ t < 6 ∧ n < 9 ∧ s < 2 ∧ A 14 j = nI r ∧ eA 0 j = nI r ∧ A 15 j = nI t ∧ eA 1 j = nI t ∧ A 16 j = nI n ∧ eA 2 j = nI n ∧ A 17 j = nI s ∧ eA 3 j = nI s)
    (k19 : (Nat → Int32) → (Nat → Nat → Int32) → Int32 → Int32 → Int32 → Option (Int32 × (Nat → Nat → Int32))) (b : Bool) : fX7_isHeard_29 N k19 N I A (nI r) (if b = true then 1 else 0) (nI n) 0 = (fX7_dawnOn N I A 1).bind fun z2 => k19 I z2.2 (nI r) (if (b && !(anyF (bdH (A 14) (A 15) (A 16) (A 17) T d r set dn n) h 0)) = true then 1 else 0) (nI (n + 1)) := by
  refine lpS (fun c i (b : Bool) => fX7_isHeard_29 N k19 c I A (nI r) (if b = true then 1 else 0) (nI n) (nI i)) (fun i b => (fX7_dawnOn N I A 1).bind fun z2 => k19 I z2.2 (nI r) (if (b && !(anyF (bdH (A 14) (A 15) (A 16) (A 17) T d r set dn n) (h - i) i)) = true then 1 else 0) (nI (n + 1))) h ?_ ?_ N 0 b (by omega) (by omega)
  · intro c b
    show fX7_isHeard_29s N _ _ I A _ _ _ _ = _
    unfold fX7_isHeard_29s
    rw [h9, if_pos (nI_le (Nat.le_refl h) (by omega)), Nat.sub_self, anyF, nI_1, Bool.not_false, Bool.and_true]
  · intro c i b hi ih
    show fX7_isHeard_29s N _ _ I A _ _ _ _ = _
    obtain ⟨r1, t1, n1, s1, q1, q2, q3, q4, e1, e2, e3, e4, e5, e6, e7, e8⟩ := hH i hi
    have i0 := ih false
    have i1 := ih true
    simp only [Bool.false_and, Bool.true_and, Bool.false_eq_true, ↓reduceIte] at i0 i1
    unfold fX7_isHeard_29s fX7_isHeard_65 fX7_isHeard_66 fX7_isHeard_110 fX7_isHeard_106 fX7_isHeard_111
    rw [h9, if_neg (nI_ge hi (by omega)), rd_e rfl (by omega) (by omega) e1, Option.bind_some, rd_e rfl (by omega) (by omega) e5, Option.bind_some, show (31 : Int32) + nI r = nI (31 + r) from nI_add 31 r, rd_e rfl (by omega) (by omega) hsd, Option.bind_some, rd_e rfl (by omega) (by omega) e3, Option.bind_some, m_has N hlt q2, Option.bind_some, rd_e rfl (by omega) (by omega) e7, Option.bind_some, nI_1, anyF_s _ hi]
    have hx : bdH (A 14) (A 15) (A 16) (A 17) T d r set dn n i = (decide (nI r1 = nI r) && (decide (nI n1 = nI n) && decide (¬ (if (sdN T d r set dn n).testBit t1 = true then (1 : Int32) else 0) = nI s1))) := by
      unfold bdH
      rw [e1, e3, e5, e7, nI_clamp (by omega)]
    rw [hx]
    cases b with
    | false =>
      simp only [Bool.false_and, Bool.false_eq_true, ↓reduceIte, i0]
      split
      · split <;> rfl
      · rfl
    | true =>
      rw [if_pos rfl]
      by_cases c1 : nI r1 = nI r
      · rw [if_pos c1, decide_eq_true c1, Bool.true_and]
        by_cases c2 : nI n1 = nI n
        · rw [if_pos c2, n10, n10, decide_eq_true c2, Bool.true_and]
          by_cases c3 : (if (sdN T d r set dn n).testBit t1 = true then (1 : Int32) else 0) = nI s1
          · rw [if_pos c3, i1, decide_eq_false (by simpa using c3)]; simp
          · rw [if_neg c3, i0, decide_eq_true c3]; simp
        · rw [if_neg c2, n10, z00, i1, decide_eq_false c2]; simp
      · rw [if_neg c1, n10, z00, i1, decide_eq_false c1]; simp
theorem m_isHeard (N : Nat) {k m r set h : Nat} {T : Nat → Nat → Nat} {I : Nat → Int32} {A : Nat → Nat → Int32} {S : Nat → Nat} {d : Int32} {eI : Nat → Int32} {eA : Nat → Nat → Int32} (hN : 40 ≤ N) (hB : TB k m T) (hT : MT k m T I A) (hS : MS A 0 S d) (hSB : SB k m S) (hr : r < k) (hs : set < 64) (hh : h ≤ 6) (h9 : I 9 = nI h) (hH : ∀ j, j < h → ∃ r t n s, r < 5 ∧ t < 6 ∧ n < 9 ∧ s < 2 ∧ A 14 j = nI r ∧ eA 0 j = nI r ∧ A 15 j = nI t ∧ eA 1 j = nI t ∧ A 16 j = nI n ∧ eA 2 j = nI n ∧ A 17 j = nI s ∧ eA 3 j = nI s) :
    ∃ A', fX7_isHeard N I A (nI r) (nI set) = some ((if anyF (bdC (A 14) (A 15) (A 16) (A 17) T d r set (S (5 + r))) h 0 = true then 0 else 1), A') ∧ FrL 1 A A' := by
  have hk := hB.1
  obtain ⟨A1, a1, a2, a3⟩ := m_layTrial N (by omega) hS
  have w1 := MS_w a1 r set (by omega)
  have wf := FrL_wr (lv := 1) A1 (nI set) (j := r) (by omega)
  have wb := SB_said hSB r set hr hk hs
  have d0 : d = d + nI 0 := by rw [show nI 0 = 0 from rfl, Int32.add_zero]
  have g5 : s1 S r set (5 + r) = S (5 + r) := s1_n _ _ (by omega)
  rw [← bd_eq _ _ _ _ _ _ _ _ _ _ (fun j hj => by obtain ⟨r1, t1, n1, s1, q1, q2, q3, q4, e1, e2, e3, e4, e5, e6, e7, e8⟩ := hH j hj; exact ⟨n1, q3, e5⟩)]
  have H : ∀ c i n (s : Nat → Nat → Int32) (b : Bool), i + c = 9 → c < n → MS s 1 (dws k m T d (s1 S r set) i) (d + nI i) → FrL 1 A s → ∃ A', fX7_isHeard_19 N n I s (nI r) (if b = true then 1 else 0) (nI i) = some ((if (b && !(anyF (fun n => anyF (bdH (A 14) (A 15) (A 16) (A 17) T d r set (S (5 + r)) n) h 0) c i)) = true then 1 else 0), A') ∧ FrL 1 A A' := by
    intro c
    induction c with
    | zero =>
      intro i n s b hi hn h1 h2
      obtain rfl : i = 9 := by omega
      obtain ⟨n, rfl⟩ : ∃ q, n = q + 1 := ⟨n - 1, by omega⟩
      refine ⟨s, ?_, h2⟩
      show fX7_isHeard_19s N _ I s _ _ _ = _
      unfold fX7_isHeard_19s
      rw [if_pos (by decide +kernel), anyF]
      cases b <;> rfl
    | succ c ih =>
      intro i n s b hi hn h1 h2
      obtain ⟨n, rfl⟩ : ∃ q, n = q + 1 := ⟨n - 1, by omega⟩
      obtain ⟨A', g1, g2, g3⟩ := m_dawnOn1 N (by omega) hB (FrL_MT h2 hT) h1 (SB_dws d hB wb i)
      rw [dd] at g1
      have e1 := h1.1 r (by omega)
      rw [dws_said T d _ r hk hr i, s1_s, g5, show 31 * 1 + r = 31 + r by omega] at e1
      obtain ⟨A2, v1, v2⟩ := ih (i + 1) n A' (b && !(anyF (bdH (A 14) (A 15) (A 16) (A 17) T d r set (S (5 + r)) i) h 0)) (by omega) (by omega) g1 (FrL_tr h2 g2)
      refine ⟨A2, ?_, v2⟩
      show fX7_isHeard_19s N (fX7_isHeard_19 N n) I s _ _ _ = _
      unfold fX7_isHeard_19s
      have f14 := FrL_a h2 (show 14 ≠ 5 by omega)
      have f15 := FrL_a h2 (show 15 ≠ 5 by omega)
      have f16 := FrL_a h2 (show 16 ≠ 5 by omega)
      have f17 := FrL_a h2 (show 17 ≠ 5 by omega)
      rw [if_neg (show ¬ (8 : Int32) < nI i from nI_nlt (a := 8) (by omega) (by omega)), m_heard_in N hN (by omega) (by omega) e1 (sdN_64 T d r set _ hs i) hh h9 (eI := eI) (eA := eA) (by rw [f14, f15, f16, f17]; exact hH), g3, Option.bind_some, f14, f15, f16, f17, v1, anyF]
      congr 3
      rw [Bool.not_or, Bool.and_assoc]
  obtain ⟨A', v1, v2⟩ := H 9 0 N _ true (by omega) (by omega) (by rw [← d0]; exact w1) (FrL_tr a2 wf)
  refine ⟨A', ?_, v2⟩
  unfold fX7_isHeard
  rw [a3, Option.bind_some, show (31 : Int32) + nI r = nI (31 * 1 + r) from nI_add 31 r, wr_e _ _ rfl (by omega) (by omega), Option.bind_some]
  rw [show fX7_isHeard_19 N N I _ (nI r) 1 0 = _ from v1]
  cases anyF (fun n => anyF (bdH (A 14) (A 15) (A 16) (A 17) T d r set (S (5 + r)) n) h 0) 9 0 <;> rfl
theorem c_agrees (N : Nat) {k m r set h : Nat} {T : Nat → Nat → Nat} {I1 : Nat → Int32} {A1 : Nat → Nat → Int32} {I : Nat → Int32} {A : Nat → Nat → Int32} {S : Nat → Nat} {d : Int32} {eI : Nat → Int32} {f0 f1 f2 f3 : Nat → Int32} {eA : Nat → Nat → Int32} (hN : 40 ≤ N) (hB : TB k m T) (hT : CT k m T I1 A1) (hS : CS I A S d) (hSB : SB k m S) (hr : r < k) (hs : set < 64) (hh : h ≤ 6) (h9 : eI 0 = nI h) (hH : ∀ j, j < h → ∃ r t n s, r < 5 ∧ t < 6 ∧ n < 9 ∧ s < 2 ∧ f0 j = nI r ∧ eA 0 j = nI r ∧ f1 j = nI t ∧ eA 1 j = nI t ∧ f2 j = nI n ∧ eA 2 j = nI n ∧ f3 j = nI s ∧ eA 3 j = nI s) :
    fX6_agreesWithHeard N I1 A1 I A eI eA (nI r) (nI set) = some (if anyF (bdC f0 f1 f2 f3 T d r set (S (5 + r))) h 0 = true then 0 else 1) := by
  have hk := hB.1
  unfold fX6_agreesWithHeard
  refine lpE (fun n i => fX6_agreesWithHeard_2 N n I1 A1 I A eI eA (nI r) (nI set) (nI i)) (fun i => some (if anyF (bdC f0 f1 f2 f3 T d r set (S (5 + r))) (h - i) i = true then 0 else 1)) h ?_ ?_ N 0 (by omega) (by omega)
  · intro n
    show fX6_agreesWithHeard_2s N _ I1 A1 I A eI eA _ _ _ = _
    unfold fX6_agreesWithHeard_2s fX6_agreesWithHeard_83
    rw [h9, if_pos (nI_le (Nat.le_refl h) (by omega)), Nat.sub_self]
    rfl
  · intro n i hi ih
    show fX6_agreesWithHeard_2s N _ I1 A1 I A eI eA _ _ _ = _
    obtain ⟨r1, t1, n1, s1, q1, q2, q3, q4, e1, e2, e3, e4, e5, e6, e7, e8⟩ := hH i hi
    unfold fX6_agreesWithHeard_2s fX6_agreesWithHeard_77
    rw [h9, if_neg (nI_ge hi (by omega)), if_neg (show ¬ (6 : Int32) ≤ nI i from nI_ge (b := 6) (by omega) (by omega)), rd_e rfl (by omega) (by omega) e2, Option.bind_some, rd_e rfl (by omega) (by omega) e6, Option.bind_some, c_saidIn N hN hB hT hS hSB hr hs q3, Option.bind_some, rd_e rfl (by omega) (by omega) e4, Option.bind_some, c_hasBit N (sdN_64 T d r set _ hs n1) q2, Option.bind_some, rd_e rfl (by omega) (by omega) e8, Option.bind_some, nI_1, ih, anyF_s _ hi]
    have hx : bdC f0 f1 f2 f3 T d r set (S (5 + r)) i = (decide (nI r1 = nI r) && decide (¬ (if (sdN T d r set (S (5 + r)) n1).testBit t1 = true then (1 : Int32) else 0) = nI s1)) := by
      unfold bdC
      rw [e1, e3, e5, e7, nI_clamp (by omega), nI_clamp (by omega)]
    rw [hx]
    by_cases c1 : nI r1 = nI r
    · rw [if_pos c1, decide_eq_true c1, Bool.true_and]
      by_cases c3 : (if (sdN T d r set (S (5 + r)) n1).testBit t1 = true then (1 : Int32) else 0) = nI s1
      · rw [if_pos c3, decide_eq_false (by simpa using c3)]; simp
      · rw [if_neg c3, decide_eq_true c3]; simp
    · rw [if_neg c1, decide_eq_false c1]; simp
theorem r_where (N : Nat) {I : Nat → Int32} {A : Nat → Nat → Int32} {L : Int64} {A6 : Nat → Nat → Int32} {L6 : Int64} {rI : Nat → Int32} {rA : Nat → Nat → Int32} {tI : Nat → Int32} {tA : Nat → Nat → Int32} {wI : Nat → Int32} {wA : Nat → Nat → Int32} {aI : Nat → Int32} {aS : Nat → Nat → Int32} {aT : Nat → Nat → Nat → Int32} {eI : Nat → Int32} {eA : Nat → Nat → Int32} {sS : Nat → Nat → Int32} {sT : Nat → Nat → Nat → Int32} (hN : 10200 ≤ N) (hR : Rel I A L A6 L6 rI rA tI tA wI wA aI aS aT eI eA sS sT) (x y : Int32) : ∃ r A', fX7_where N I A x y = some (r, A') ∧ fX6_where N tI tA wI wA eI eA x y = some r ∧ Rel I A' L A6 L6 rI rA tI tA wI wA aI aS aT eI eA sS sT := by
  obtain ⟨k, m, T, S, d, hB, hSB, hMT, hCT, hMS, hCS, hRT, hRA, hRH, hRK, hL⟩ := id hR
  have hk := hB.1
  have h1 := p_X7_ix N y 3 (by omega)
  rw [show Int32.toInt64 (nI 3 - 1) = 2 by decide +kernel] at h1
  have h2 : fX6_isOutside N y 0 2 = _ := out_n N y 2 (by omega)
  unfold fX7_where fX6_where
  rw [m_isR N x hB hMT, c_isR N x hB hCT, h1, h2, Option.bind_some, Option.bind_some, Option.bind_some, Option.bind_some]
  by_cases hx : x < 0 ∨ nI k ≤ x
  · rw [if_pos hx]; exact ⟨-1, A, rfl, rfl, hR⟩
  rw [if_neg hx, n10, n10]
  by_cases hy : y < 0 ∨ nI 3 ≤ y
  · rw [if_pos hy, if_pos (show y < 0 ∨ nI (2 + 1) ≤ y from hy)]; exact ⟨-2, A, rfl, rfl, hR⟩
  rw [if_neg hy, if_neg (show ¬ (y < 0 ∨ nI (2 + 1) ≤ y) from hy), n10, z00]
  obtain ⟨r, hr, rfl⟩ := ix_of (by omega) hx
  obtain ⟨h, hh, e1, e2, e3⟩ := hRH
  have H := lpP (fun n i (s : (Nat → Nat → Int32) × Int32 × Int32 × Int32) => fX7_where_37 N n I s.1 (nI r) y s.2.1 s.2.2.1 s.2.2.2 (nI i)) (fun n i (s : (Nat → Nat → Int32) × Int32 × Int32 × Int32) => fX6_where_37 N n tI tA wI wA eI eA (nI r) y s.2.1 s.2.2.1 s.2.2.2 (nI i)) (fun i s => FrL 1 A s.1) (fun X Y => ∃ v A', X = some (v, A') ∧ Y = some v ∧ FrL 1 A A') 64 ?_ ?_ N N 0 (A, 0, 63, 0) (by omega) (by omega) (by omega) (FrL_rfl 1 A)
  · obtain ⟨v, A', v1, v2, v3⟩ := H
    exact ⟨v, A', v1, v2, R_scr hR v3⟩
  · rintro n n' ⟨s, a, b, c⟩ hf
    show ∃ v A', fX7_where_37s N _ I s _ _ _ _ _ _ = _ ∧ fX6_where_37s N _ tI tA wI wA eI eA _ _ _ _ _ _ = _ ∧ _
    unfold fX7_where_37s fX6_where_37s fX7_where_125 fX6_where_121
    have h64 : (63 : Int32) < nI 64 := by decide +kernel
    rw [if_pos h64, if_pos h64]
    dsimp only
    by_cases y0 : y = 0
    · rw [if_pos y0, if_pos y0]; exact ⟨_, _, rfl, rfl, hf⟩
    rw [if_neg y0, if_neg y0]
    by_cases a0 : a = 0
    · rw [if_pos a0, if_pos a0]; exact ⟨_, _, rfl, rfl, hf⟩
    rw [if_neg a0, if_neg a0]
    by_cases y1 : y = 1
    · rw [if_pos y1, if_pos y1]; exact ⟨_, _, rfl, rfl, hf⟩
    rw [if_neg y1, if_neg y1]; exact ⟨_, _, rfl, rfl, hf⟩
  · rintro n n' i ⟨s, a, b, c⟩ hi hf
    refine Or.inr ?_
    show ∃ s' : (Nat → Nat → Int32) × Int32 × Int32 × Int32, _ ∧ fX7_where_37s N (fX7_where_37 N n) I s _ _ _ _ _ _ = _ ∧ fX6_where_37s N (fX6_where_37 N n') tI tA wI wA eI eA _ _ _ _ _ _ = _
    have hf' : FrL 1 A s := hf
    have hms := FrL_MS0 hf' hMS
    have m5 := hms.1 (5 + r) (by omega)
    rw [show 31 * 0 + (5 + r) = 5 + r by omega] at m5
    have f14 := FrL_a hf' (show 14 ≠ 5 by omega)
    have f15 := FrL_a hf' (show 15 ≠ 5 by omega)
    have f16 := FrL_a hf' (show 16 ≠ 5 by omega)
    have f17 := FrL_a hf' (show 17 ≠ 5 by omega)
    obtain ⟨A', g1, g2⟩ := m_isHeard N (set := i) (by omega) hB (FrL_MT hf' hMT) hms hSB hr hi hh e1 (eI := eI) (eA := eA) (by rw [f14, f15, f16, f17]; exact e3)
    have g3 := c_agrees N (set := i) (by omega) hB hCT hCS hSB hr hi hh e2 e3
    rw [f14, f15, f16, f17] at g1
    unfold fX7_where_37s fX6_where_37s fX7_where_85 fX6_where_85
    have h63 : ¬ (63 : Int32) < nI i := nI_nlt (a := 63) (by omega) (by omega)
    rw [if_neg h63, if_neg h63, show (5 : Int32) + nI r = nI (5 + r) from nI_add 5 r, rd_e rfl (by omega) (by omega) m5, Option.bind_some, c_deniedOf N hCS (by omega), Option.bind_some, g1, Option.bind_some, g3, Option.bind_some, nI_1]
    dsimp only
    by_cases c1 : nI i &&& nI (S (5 + r)) = 0
    · rw [if_pos c1, if_pos c1]
      cases anyF (bdC (A 14) (A 15) (A 16) (A 17) T d r i (S (5 + r))) h 0 with
      | true => rw [if_pos rfl, z00, z00]; exact ⟨(A', a, b, c), FrL_tr hf' g2, rfl, rfl⟩
      | false => rw [if_neg Bool.false_ne_true, n10, n10]; exact ⟨(A', a + 1, b &&& nI i, c ||| nI i), FrL_tr hf' g2, rfl, rfl⟩
    · rw [if_neg c1, if_neg c1]
      exact ⟨(s, a, b, c), hf', rfl, rfl⟩
