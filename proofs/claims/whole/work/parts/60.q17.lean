theorem div_n {a b : Nat} (ha : a < 2 ^ 31) (h0 : 0 < b) (hb : b < 2 ^ 31) : nI a / nI b = nI (a / b) := pk_div ha h0 hb
theorem d6 {i : Nat} (hi : i < 1000) : nI i / 6 = nI (i / 6) := div_n (b := 6) (by omega) (by omega) (by omega)
theorem r6 {i : Nat} (hi : i < 1000) : rem (nI i) 6 = nI (i % 6) := pk_rem (d := 6) (by omega) (by omega) (by omega)
theorem cvN_eq (T : Nat → Nat → Nat) {S S' : Nat → Nat} (d : Int32) (p r sd q : Nat) (h1 : S (5 + r) = S' (5 + r)) (h2 : S (10 + (5 * p + r)) = S' (10 + (5 * p + r))) : cvN T S d p r sd q = cvN T S' d p r sd q := by
  unfold cvN wN
  rw [h1, h2]
/-- the purse of x behind q dawns with both choices laid -/
theorem pu_ch {k m : Nat} (T : Nat → Nat → Nat) (S : Nat → Nat) (d : Int32) (q p o a b x : Nat) (hB : TB k m T) (ha : a ≤ k) (hb : b ≤ k) : puN k T (chS T (chS T S p a) o b) d x q = pwN k T S d q p o a b x := by
  have hk := hB.1
  unfold puN pwN
  refine sm_eq _ _ k (fun r hr => ?_)
  have e1 : chS T (chS T S p a) o b r = sab T S p o a b r := by
    unfold chS sab
    by_cases h1 : a = r + 1 <;> by_cases h2 : b = r + 1 <;> simp [h1, h2]
  have e2 : chS T (chS T S p a) o b (5 + r) = S (5 + r) := by
    unfold chS
    rw [if_neg (by omega), if_neg (by omega)]
  have e3 : chS T (chS T S p a) o b (10 + (5 * x + r)) = S (10 + (5 * x + r)) := by
    unfold chS
    rw [if_neg (by omega), if_neg (by omega)]
  rw [cvN_eq T d x r _ q e2 e3, e1]
theorem chS_0 (T : Nat → Nat → Nat) (S : Nat → Nat) (p : Nat) : chS T S p 0 = S := by
  funext j
  unfold chS
  rw [if_neg (by omega)]
theorem chS_d (T : Nat → Nat → Nat) (S : Nat → Nat) (p c r : Nat) (hc : c < 6) : chS T S p c (5 + r) = S (5 + r) := by
  unfold chS
  rw [if_neg (by omega)]
theorem ch_k {k : Nat} {T : Nat → Nat → Nat} {S : Nat → Nat} {d : Int32} {p c : Nat} (h : chB k T S d p c = true) : c ≤ k := by
  simp only [chB, Bool.or_eq_true, Bool.and_eq_true, decide_eq_true_eq] at h
  omega
theorem m_pairs (N : Nat) {k m p o q : Nat} {T : Nat → Nat → Nat} {I : Nat → Int32} {A : Nat → Nat → Int32} {S : Nat → Nat} {d : Int32} (hN : 100 ≤ N) (hB : TB k m T) (hT : MT k m T I A) (hS : MS A 0 S d) (hSB : SB k m S) (hp : p < m) (ho : o < m) (hq : q < 9) :
    ∃ A', fX7_layPairs N I A (nI p) (nI o) (nI q) = some A' ∧ FrP A A' ∧ ∀ j, j < 36 → chB k T S d p (j / 6) = true → chB k T S d o (j % 6) = true → A' 18 j = nI (pwN k T S d q p o (j / 6) (j % 6) p) ∧ A' 19 j = nI (pwN k T S d q p o (j / 6) (j % 6) o) := by
  have hk := hB.1
  have hm := hB.2.1
  unfold fX7_layPairs
  have H := lpX (fun n i (s : Nat → Nat → Int32) => fX7_layPairs_3 N n I s (nI p) (nI o) (nI q) (nI i)) (fun s => some s)
    (fun i s => FrP A s ∧ ∀ j, j < i → chB k T S d p (j / 6) = true → chB k T S d o (j % 6) = true → s 18 j = nI (pwN k T S d q p o (j / 6) (j % 6) p) ∧ s 19 j = nI (pwN k T S d q p o (j / 6) (j % 6) o)) 36 ?_ ?_ N 0 A (by omega) (by omega) ⟨FrP_rfl A, fun j hj => by omega⟩
  · obtain ⟨s, ⟨h1, h2⟩, h3⟩ := H
    exact ⟨s, h3, h1, h2⟩
  · intro n s h
    show fX7_layPairs_3s N _ I s _ _ _ _ = _
    unfold fX7_layPairs_3s
    rw [if_pos (by decide +kernel)]
  · rintro n i s hi ⟨h1, h2⟩
    show ∃ s', _ ∧ fX7_layPairs_3s N (fX7_layPairs_3 N n) I s _ _ _ _ = _
    have hTs := FrP_MT h1 hT
    have hSs := FrP_MS h1 hS
    unfold fX7_layPairs_3s fX7_layPairs_123
    rw [if_neg (show ¬ (36 : Int32) ≤ nI i from nI_ge (b := 36) hi (by omega)), d6 (by omega), m_isChoice N hB hTs hSs hSB hp (show i / 6 < 6 by omega), Option.bind_some]
    cases ca : chB k T S d p (i / 6) with
    | false =>
      rw [if_neg Bool.false_ne_true, z00, nI_1]
      refine ⟨s, ⟨h1, fun j hj c1 c2 => ?_⟩, rfl⟩
      by_cases e : j = i
      · subst e; rw [ca] at c1; cases c1
      · exact h2 j (by omega) c1 c2
    | true =>
      rw [if_pos rfl, n10, r6 (by omega), m_isChoice N hB hTs hSs hSB ho (show i % 6 < 6 by omega), Option.bind_some]
      cases cb : chB k T S d o (i % 6) with
      | false =>
        rw [if_neg Bool.false_ne_true, z00, nI_1]
        refine ⟨s, ⟨h1, fun j hj c1 c2 => ?_⟩, rfl⟩
        by_cases e : j = i
        · subst e; rw [cb] at c2; cases c2
        · exact h2 j (by omega) c1 c2
      | true =>
        rw [if_pos rfl, n10]
        obtain ⟨A1, a1, a2, a3⟩ := m_layTrial N (by omega) hSs
        rw [a3, Option.bind_some]
        have ka := ch_k ca
        have kb := ch_k cb
        -- behind both choices
        have tail : ∀ B, FrL 1 s B → MS B 1 (chS T (chS T S p (i / 6)) o (i % 6)) d → ∃ s', (FrP A s' ∧ ∀ j, j < i + 1 → chB k T S d p (j / 6) = true → chB k T S d o (j % 6) = true → s' 18 j = nI (pwN k T S d q p o (j / 6) (j % 6) p) ∧ s' 19 j = nI (pwN k T S d q p o (j / 6) (j % 6) o)) ∧ fX7_layPairs_92 N (fX7_layPairs_3 N n) I B (nI p) (nI o) (nI q) (nI i) = fX7_layPairs_3 N n I s' (nI p) (nI o) (nI q) (nI (i + 1)) := by
          intro B fB mB
          have sb2 : SB k m (chS T (chS T S p (i / 6)) o (i % 6)) := chS_SB hB (chS_SB hB hSB hp ka) ho kb
          obtain ⟨C, b1, b2, b3⟩ := m_dawnTrial N (by omega) hB (FrL_MT fB hTs) mB sb2 (q := q) (by omega)
          have fC := FrL_tr fB b2
          have hTC := FrL_MT fC hTs
          have w1 := m_purse1 N (by omega) hB hTC b1 (SB_dws d hB sb2 q) hp
          rw [prs_dws T d _ p q hk hp, pu_ch T S d q p o (i / 6) (i % 6) p hB ka kb] at w1
          have w2 := m_purse1 N (A := va_up C 18 (upd (C 18) i (nI (pwN k T S d q p o (i / 6) (i % 6) p)))) (by omega) hB (MT_up _ (by omega) hTC) (MS_up _ (by omega) b1) (SB_dws d hB sb2 q) ho
          rw [prs_dws T d _ o q hk ho, pu_ch T S d q p o (i / 6) (i % 6) o hB ka kb] at w2
          refine ⟨va_up (va_up C 18 (upd (C 18) i (nI (pwN k T S d q p o (i / 6) (i % 6) p)))) 19 (upd (C 19) i (nI (pwN k T S d q p o (i / 6) (i % 6) o))), ⟨?_, ?_⟩, ?_⟩
          · refine FrP_tr (FrP_tr h1 (FrP_L fC)) ?_
            intro a j g1 g2 g3
            rw [va_up_ne _ _ g2, va_up_ne _ _ g1]
          · intro j hj c1 c2
            have e18 : va_up (va_up C 18 (upd (C 18) i (nI (pwN k T S d q p o (i / 6) (i % 6) p)))) 19 (upd (C 19) i (nI (pwN k T S d q p o (i / 6) (i % 6) o))) 18 = upd (C 18) i (nI (pwN k T S d q p o (i / 6) (i % 6) p)) := by
              rw [va_up_ne _ _ (by omega), va_up_self]
            rw [e18, va_up_self]
            by_cases e : j = i
            · subst e; rw [upd_s, upd_s]; exact ⟨rfl, rfl⟩
            · rw [upd_n _ _ e, upd_n _ _ e, FrL_a fC (by omega), FrL_a fC (by omega)]
              exact h2 j (by omega) c1 c2
          · unfold fX7_layPairs_92 fX7_layPairs_123
            rw [b3, Option.bind_some, w1, Option.bind_some, wr_e _ _ rfl (by omega) (by omega), Option.bind_some, w2, Option.bind_some, wr_e _ _ rfl (by omega) (by omega), Option.bind_some, nI_1]
        have mid : ∀ B, FrL 1 s B → MS B 1 (chS T S p (i / 6)) d → ∃ s', (FrP A s' ∧ ∀ j, j < i + 1 → chB k T S d p (j / 6) = true → chB k T S d o (j % 6) = true → s' 18 j = nI (pwN k T S d q p o (j / 6) (j % 6) p) ∧ s' 19 j = nI (pwN k T S d q p o (j / 6) (j % 6) o)) ∧ fX7_layPairs_66 N (fX7_layPairs_3 N n) I B (nI p) (nI o) (nI q) (nI i) = fX7_layPairs_3 N n I s' (nI p) (nI o) (nI q) (nI (i + 1)) := by
          intro B fB mB
          unfold fX7_layPairs_66
          rw [r6 (by omega)]
          by_cases b0 : i % 6 = 0
          · rw [if_pos ((nI_l0 (by omega)).mpr (by omega))]
            refine tail B fB ?_
            rw [b0, chS_0]; exact mB
          · obtain ⟨v, C, c1, c2, c3, c4⟩ := m_lay N (S0 := S) hB (FrL_MT fB hTs) mB (chS_SB hB hSB hp ka) ho (by omega) (by omega) cb (fun r hr => chS_d T S p (i / 6) r (by omega))
            rw [if_neg (fun h => by have := (nI_l0 (by omega)).mp h; omega), rd_e rfl (by omega) (by omega) ((FrL_MT fB hTs).2.2.2 o ho), Option.bind_some, c1, Option.bind_some]
            exact tail C (FrL_tr fB c2) c3
        by_cases a0 : i / 6 = 0
        · rw [if_pos ((nI_l0 (by omega)).mpr (by omega))]
          refine mid A1 a2 ?_
          rw [a0, chS_0]; exact a1
        · obtain ⟨v, C, c1, c2, c3, c4⟩ := m_lay N (S0 := S) hB (FrL_MT a2 hTs) a1 hSB hp (by omega) (by omega) ca (fun r hr => rfl)
          rw [if_neg (fun h => by have := (nI_l0 (by omega)).mp h; omega), rd_e rfl (by omega) (by omega) ((FrL_MT a2 hTs).2.2.2 p hp), Option.bind_some, c1, Option.bind_some]
          exact mid C (FrL_tr a2 c2) c3
theorem c_pairs (N : Nat) {k m p o q : Nat} {T : Nat → Nat → Nat} {tI : Nat → Int32} {tA : Nat → Nat → Int32} {wI : Nat → Int32} {wA : Nat → Nat → Int32} {A : Nat → Nat → Int32} {S : Nat → Nat} {d : Int32} (hN : 100 ≤ N) (hB : TB k m T) (hT : CT k m T tI tA) (hS : CS wI wA S d) (hSB : SB k m S) (hp : p < m) (ho : o < m) (hq : q < 9) :
    ∃ A', fX6_weighChoices N A tI tA wI wA (nI p) (nI o) (nI q) = some A' ∧ (∀ a, a ≠ 3 → a ≠ 4 → A' a = A a) ∧ ∀ j, j < 36 → A' 3 j = nI (pwN k T S d q p o (j / 6) (j % 6) p) ∧ A' 4 j = nI (pwN k T S d q p o (j / 6) (j % 6) o) := by
  have hk := hB.1
  have hm := hB.2.1
  unfold fX6_weighChoices
  have H := lpX (fun n i (s : Nat → Nat → Int32) => fX6_weighChoices_3 N n s tI tA wI wA (nI p) (nI o) (nI q) (nI i)) (fun s => some s)
    (fun i s => (∀ a, a ≠ 3 → a ≠ 4 → s a = A a) ∧ ∀ j, j < i → s 3 j = nI (pwN k T S d q p o (j / 6) (j % 6) p) ∧ s 4 j = nI (pwN k T S d q p o (j / 6) (j % 6) o)) 36 ?_ ?_ N 0 A (by omega) (by omega) ⟨fun _ _ _ => rfl, fun j hj => by omega⟩
  · obtain ⟨s, ⟨h1, h2⟩, h3⟩ := H
    exact ⟨s, h3, h1, h2⟩
  · intro n s h
    show fX6_weighChoices_3s N _ s tI tA wI wA _ _ _ _ = _
    unfold fX6_weighChoices_3s
    rw [if_pos (by decide +kernel)]
  · rintro n i s hi ⟨h1, h2⟩
    show ∃ s', _ ∧ fX6_weighChoices_3s N (fX6_weighChoices_3 N n) s tI tA wI wA _ _ _ _ = _
    have HI := lpX (fun c r (s : Nat → Nat → Int32) => fX6_weighChoices_29 N (fX6_weighChoices_3 N n) c s tI tA wI wA (nI p) (nI o) (nI q) (nI i) (nI r)) (fun s => fX6_weighChoices_3 N n s tI tA wI wA (nI p) (nI o) (nI q) (nI (i + 1)))
      (fun r s => ((∀ a, a ≠ 3 → a ≠ 4 → s a = A a) ∧ ∀ j, j < i → s 3 j = nI (pwN k T S d q p o (j / 6) (j % 6) p) ∧ s 4 j = nI (pwN k T S d q p o (j / 6) (j % 6) o)) ∧ s 3 i = nI (sm (fun r => cvN T S d p r (sab T S p o (i / 6) (i % 6) r) q) r) ∧ s 4 i = nI (sm (fun r => cvN T S d o r (sab T S p o (i / 6) (i % 6) r) q) r)) k ?_ ?_ N 0 (va_up (va_up s 3 (upd (s 3) i 0)) 4 (upd (s 4) i 0)) (by omega) (by omega) ?_
    · obtain ⟨s', ⟨⟨g1, g2⟩, g3, g4⟩, g5⟩ := HI
      refine ⟨s', ⟨g1, fun j hj => ?_⟩, ?_⟩
      · by_cases e : j = i
        · subst e; exact ⟨g3, g4⟩
        · exact g2 j (by omega)
      · unfold fX6_weighChoices_3s
        rw [if_neg (show ¬ (36 : Int32) ≤ nI i from nI_ge (b := 36) hi (by omega)), wr_e _ _ rfl (by omega) (by omega), Option.bind_some, wr_e _ _ rfl (by omega) (by omega), Option.bind_some]
        exact g5
    · rintro c s ⟨⟨g1, g2⟩, g3, g4⟩
      show fX6_weighChoices_29s N _ _ s tI tA wI wA _ _ _ _ _ = _
      unfold fX6_weighChoices_29s
      rw [hT.1, if_pos (nI_le (Nat.le_refl k) (by omega)), nI_1]
    · rintro c r s hr ⟨⟨g1, g2⟩, g3, g4⟩
      show ∃ s', _ ∧ fX6_weighChoices_29s N _ (fX6_weighChoices_29 N (fX6_weighChoices_3 N n) c) s tI tA wI wA _ _ _ _ _ = _
      have hs5 := hSB.1 r (by omega)
      have t1 := p2_64 (hB.2.2.2 p hp)
      have t2 := p2_64 (hB.2.2.2 o ho)
      have s64 := sab_64 (a := i / 6) (b := i % 6) hB hSB hp ho (show r < 5 by omega)
      have key : ∃ s', (((∀ a, a ≠ 3 → a ≠ 4 → s' a = A a) ∧ ∀ j, j < i → s' 3 j = nI (pwN k T S d q p o (j / 6) (j % 6) p) ∧ s' 4 j = nI (pwN k T S d q p o (j / 6) (j % 6) o)) ∧ s' 3 i = nI (sm (fun r => cvN T S d p r (sab T S p o (i / 6) (i % 6) r) q) (r + 1)) ∧ s' 4 i = nI (sm (fun r => cvN T S d o r (sab T S p o (i / 6) (i % 6) r) q) (r + 1))) ∧ ((rd 36 (s 3) (nI i)).bind fun v1 => (fX6_coinValueIn N tI tA wI wA (nI p) (nI r) (nI (sab T S p o (i / 6) (i % 6) r)) (nI q)).bind fun z2 => (wr 36 (s 3) (nI i) (v1 + z2)).bind fun g3 => (rd 36 (s 4) (nI i)).bind fun v4 => (fX6_coinValueIn N tI tA wI wA (nI o) (nI r) (nI (sab T S p o (i / 6) (i % 6) r)) (nI q)).bind fun z5 => (wr 36 (s 4) (nI i) (v4 + z5)).bind fun g6 => fX6_weighChoices_29 N (fX6_weighChoices_3 N n) c (va_up (va_up s 3 g3) 4 g6) tI tA wI wA (nI p) (nI o) (nI q) (nI i) (nI r + 1)) = fX6_weighChoices_29 N (fX6_weighChoices_3 N n) c s' tI tA wI wA (nI p) (nI o) (nI q) (nI i) (nI (r + 1)) := by
        rw [rd_e rfl (by omega) (by omega) g3, Option.bind_some, c_coinValueIn N (by omega) hB hT hS hSB hp hr s64 hq, Option.bind_some, wr_e _ _ rfl (by omega) (by omega), Option.bind_some, rd_e rfl (by omega) (by omega) g4, Option.bind_some, c_coinValueIn N (by omega) hB hT hS hSB ho hr s64 hq, Option.bind_some, wr_e _ _ rfl (by omega) (by omega), Option.bind_some, nI_1, nI_add, nI_add]
        refine ⟨_, ⟨⟨fun a ha1 ha2 => ?_, fun j hj => ?_⟩, ?_, ?_⟩, rfl⟩
        · rw [va_up_ne _ _ ha2, va_up_ne _ _ ha1]; exact g1 a ha1 ha2
        · rw [va_up_ne (k := 4) (j := 3) _ _ (by omega), va_up_self, va_up_self, upd_n _ _ (by omega), upd_n _ _ (by omega)]; exact g2 j hj
        · rw [va_up_ne (k := 4) (j := 3) _ _ (by omega), va_up_self, upd_s]; rfl
        · rw [va_up_self, upd_s]; rfl
      have seat1 := c_seatOf N hB hT hp
      have seat2 := c_seatOf N hB hT ho
      unfold fX6_weighChoices_29s fX6_weighChoices_80 fX6_weighChoices_111
      rw [hT.1, if_neg (nI_ge hr (by omega)), c_saidOf N hS (by omega), Option.bind_some, d6 (by omega), r6 (by omega), seat1, Option.bind_some, seat2, Option.bind_some, Option.bind_some, nI_1, shl1 _ (hB.2.2.2 p hp), shl1 _ (hB.2.2.2 o ho)]
      rw [nI_1] at key
      have b1 := or_lt hs5 t1
      by_cases ea : i / 6 = r + 1
      · rw [if_pos (show nI (i / 6) = nI (r + 1) by rw [ea]), or_N _ hs5 _ t1]
        by_cases eb : i % 6 = r + 1
        · rw [if_pos (show nI (i % 6) = nI (r + 1) by rw [eb]), or_N _ b1 _ t2]
          have es : sab T S p o (i / 6) (i % 6) r = (S r ||| 2 ^ T 4 p) ||| 2 ^ T 4 o := by unfold sab; rw [if_pos ea, if_pos eb]
          rw [es] at key; exact key
        · rw [if_neg (show ¬ nI (i % 6) = nI (r + 1) from fun h => eb ((nI_eq (by omega) (by omega)).mp h)), show (0 : Int32) = nI 0 from rfl, or_N _ b1 0 (by omega)]
          have es : sab T S p o (i / 6) (i % 6) r = (S r ||| 2 ^ T 4 p) ||| 0 := by unfold sab; rw [if_pos ea, if_neg eb]
          rw [es] at key; exact key
      · rw [if_neg (show ¬ nI (i / 6) = nI (r + 1) from fun h => ea ((nI_eq (by omega) (by omega)).mp h)), show (0 : Int32) = nI 0 from rfl, or_N _ hs5 0 (by omega)]
        by_cases eb : i % 6 = r + 1
        · rw [if_pos (show nI (i % 6) = nI (r + 1) by rw [eb]), or_N _ (or_lt hs5 (by omega)) _ t2]
          have es : sab T S p o (i / 6) (i % 6) r = (S r ||| 0) ||| 2 ^ T 4 o := by unfold sab; rw [if_neg ea, if_pos eb]
          rw [es] at key; exact key
        · rw [if_neg (show ¬ nI (i % 6) = nI (r + 1) from fun h => eb ((nI_eq (by omega) (by omega)).mp h)), or_N _ (or_lt hs5 (by omega)) 0 (by omega)]
          have es : sab T S p o (i / 6) (i % 6) r = (S r ||| 0) ||| 0 := by unfold sab; rw [if_neg ea, if_neg eb]
          rw [es] at key; exact key
    · refine ⟨⟨fun a ha1 ha2 => ?_, fun j hj => ?_⟩, ?_, ?_⟩
      · rw [va_up_ne _ _ ha2, va_up_ne _ _ ha1]; exact h1 a ha1 ha2
      · rw [va_up_ne (k := 4) (j := 3) _ _ (by omega), va_up_self, va_up_self, upd_n _ _ (by omega), upd_n _ _ (by omega)]; exact h2 j hj
      · rw [va_up_ne (k := 4) (j := 3) _ _ (by omega), va_up_self, upd_s]; rfl
      · rw [va_up_self, upd_s]; rfl
