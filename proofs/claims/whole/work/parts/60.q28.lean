/-- how all stands at a town's beginning -/
def sO (k : Nat) (O : Nat → Nat) : Nat → Nat := fun j => if j < k then O j else 0
theorem sO_SB {k m : Nat} {T : Nat → Nat → Nat} {O : Nat → Nat} (hB : PB k m T O) : SB k m (sO k O) := by
  have hk := hB.1.1
  refine ⟨fun j hj => ?_, fun j hj => ?_, fun r h1 h2 => ?_, fun p r hp hr h => ?_⟩
  · unfold sO
    split
    · rename_i h; exact hB.2 j h
    · omega
  · unfold sO; rw [if_neg (by omega)]; omega
  · unfold sO; rw [if_neg (by omega)]
  · unfold sO; rw [if_neg (by omega)]
theorem c_opens (N : Nat) {k m : Nat} {T : Nat → Nat → Nat} {O : Nat → Nat} {tI : Nat → Int32} {tA : Nat → Nat → Int32} (wI : Nat → Int32) (wA : Nat → Nat → Int32) (hN : 40 ≤ N) (hB : PB k m T O) (hC : CP k m T O tI tA) : ∃ wI' wA', fX4_open N wI wA tI tA = some (wI', wA') ∧ CS wI' wA' (sO k O) 0 := by
  have hk := hB.1.1
  have H := lpX (fun n i (s : Nat → Nat → Int32) => fX4_open_7 N n (upd wI 0 0) s tI tA (nI i)) (fun s => fX4_open_51 N N (upd wI 0 0) s tI tA 0) (fun i s => ∀ j, j < i → s 0 j = nI (sO k O j) ∧ s 1 j = nI 0) 5 ?_ ?_ N 0 wA (by omega) (by omega) (fun j hj => by omega)
  · obtain ⟨B, b1, b2⟩ := H
    have H2 := lpX (fun n i (s : Nat → Nat → Int32) => fX4_open_51 N n (upd wI 0 0) s tI tA (nI i)) (fun s => some (upd wI 0 0, s)) (fun i s => (∀ a, a ≠ 2 → s a = B a) ∧ ∀ j, j < i → s 2 j = nI 0) 20 ?_ ?_ N 0 B (by omega) (by omega) ⟨fun _ _ => rfl, fun j hj => by omega⟩
    · obtain ⟨D, ⟨d1, d2⟩, d3⟩ := H2
      refine ⟨_, D, by unfold fX4_open; exact b2.trans d3, fun j hj => ?_, fun j hj => ?_, fun j hj => ?_, upd_s _ _ _⟩
      · rw [d1 0 (by omega)]; exact (b1 j hj).1
      · rw [d1 1 (by omega)]
        rw [(b1 j hj).2]; unfold sO; rw [if_neg (by omega)]
      · rw [d2 j hj]; unfold sO; rw [if_neg (by omega)]
    · intro n s h
      show fX4_open_51s N _ _ s tI tA _ = _
      unfold fX4_open_51s
      rw [if_pos (by decide +kernel)]
    · rintro n i s hi ⟨g1, g2⟩
      show ∃ s', _ ∧ fX4_open_51s N (fX4_open_51 N n) _ s tI tA _ = _
      refine ⟨va_up s 2 (upd (s 2) i 0), ⟨fun a ha => by rw [va_up_ne _ _ ha]; exact g1 a ha, fun j hj => ?_⟩, ?_⟩
      · rw [va_up_self]
        by_cases e : j = i
        · subst e; rw [upd_s]; rfl
        · rw [upd_n _ _ e]; exact g2 j (by omega)
      · unfold fX4_open_51s
        rw [if_neg (show ¬ (20 : Int32) ≤ nI i from nI_ge (b := 20) hi (by omega)), wr_e _ _ rfl (by omega) (by omega), Option.bind_some, nI_1]
  · intro n s h
    show fX4_open_7s N _ _ s tI tA _ = _
    unfold fX4_open_7s
    rw [if_pos (by decide +kernel)]
  · intro n i s hi g
    show ∃ s', _ ∧ fX4_open_7s N (fX4_open_7 N n) _ s tI tA _ = _
    have key : fX4_open_35 N (fX4_open_7 N n) (upd wI 0 0) s tI tA (nI i) (nI i) (nI (sO k O i)) = fX4_open_7 N n (upd wI 0 0) (va_up (va_up s 0 (upd (s 0) i (nI (sO k O i)))) 1 (upd (s 1) i 0)) tI tA (nI (i + 1)) := by
      unfold fX4_open_35
      rw [wr_e _ _ rfl (by omega) (by omega), Option.bind_some, wr_e _ _ rfl (by omega) (by omega), Option.bind_some, nI_1]
    refine ⟨_, fun j hj => ?_, Eq.trans ?_ key⟩
    · rw [va_up_self, va_up_ne _ _ (show 0 ≠ 1 by omega), va_up_self]
      by_cases e : j = i
      · subst e; rw [upd_s, upd_s]; exact ⟨rfl, rfl⟩
      · rw [upd_n _ _ e, upd_n _ _ e]; exact g j (by omega)
    · unfold fX4_open_7s
      rw [if_neg (show ¬ (5 : Int32) ≤ nI i from nI_ge (b := 5) hi (by omega)), c_isR N _ hB.1 hC.1, Option.bind_some]
      by_cases h : i < k
      · rw [if_neg (in_no h (by omega)), n10, rd_e rfl (by omega) (by omega) (hC.2 i h), Option.bind_some]
        unfold sO; rw [if_pos h]
      · rw [if_pos (Or.inr (nI_le (by omega) (by omega))), z00]
        unfold sO; rw [if_neg h]; rfl
theorem m_towns (N : Nat) {k m : Nat} {T : Nat → Nat → Nat} {O : Nat → Nat} {I : Nat → Int32} {A : Nat → Nat → Int32} (hN : 40 ≤ N) (hB : PB k m T O) (hM : MP k m T O I A) (h0 : I 0 = nI k) (h1 : I 1 = nI m) : ∃ A', fX7_town_30 N N I A 0 = some (nI (10 * k + m), upd I 7 0, A') ∧ MT k m T (upd I 7 0) A' ∧ MS A' 0 (sO k O) 0 ∧ (∀ j, j < 2 → A' 20 j = 0) ∧ (∀ a, 11 < a → a ≠ 20 → A' a = A a) := by
  have hk := hB.1.1
  have hm := hB.1.2.1
  have H := lpX (fun n i (s : Nat → Nat → Int32) => fX7_town_30 N n I s (nI i)) (fun s => fX7_town_51 N N I s 0) (fun i s => (∀ a, a ≠ 5 → s a = A a) ∧ ∀ j, j < i → s 5 j = nI 0) 31 ?_ ?_ N 0 A (by omega) (by omega) ⟨fun _ _ => rfl, fun j hj => by omega⟩
  · obtain ⟨B, ⟨b1, b2⟩, b3⟩ := H
    have H2 := lpX (fun n i (s : Nat → Nat → Int32) => fX7_town_51 N n I s (nI i)) (fun s => fX7_town_136 N N I s 0) (fun i s => (∀ a, 3 < a → a ≠ 5 → s a = A a) ∧ (∀ j, j < i → j < k → s 0 j = nI (T 0 j) ∧ s 1 j = nI (T 1 j) ∧ s 2 j = nI (T 2 j) ∧ s 3 j = nI (T 3 j)) ∧ (∀ j, j < i → s 5 j = nI (sO k O j)) ∧ (∀ j, i ≤ j → j < 31 → s 5 j = nI 0)) 5 ?_ ?_ N 0 B (by omega) (by omega) ⟨fun a h h5 => b1 a h5, fun j hj => by omega, fun j hj => by omega, fun j _ h => b2 j h⟩
    · obtain ⟨D, ⟨d1, d2, d3, d4⟩, d5⟩ := H2
      have H3 := lpX (fun n i (s : Nat → Nat → Int32) => fX7_town_136 N n I s (nI i)) (fun s => some (nI (10 * k + m), upd I 7 0, va_up (va_up s 20 (upd (s 20) 0 0)) 20 (upd (upd (s 20) 0 0) 1 0))) (fun i s => (∀ a, a ≠ 4 → s a = D a) ∧ ∀ j, j < i → j < m → s 4 j = nI (T 4 j)) 4 ?_ ?_ N 0 D (by omega) (by omega) ⟨fun _ _ => rfl, fun j hj => by omega⟩
      · obtain ⟨E, ⟨e1, e2⟩, e3⟩ := H3
        refine ⟨_, b3.trans (d5.trans e3), ⟨by rw [upd_n _ _ (by omega)]; exact h0, by rw [upd_n _ _ (by omega)]; exact h1, fun r hr => ?_, fun p hp => ?_⟩, ⟨fun j hj => ?_, ?_⟩, fun j hj => ?_, fun a ha h20 => ?_⟩
        · rw [va_up_ne _ _ (by omega), va_up_ne _ _ (by omega), va_up_ne _ _ (by omega), va_up_ne _ _ (by omega), va_up_ne _ _ (by omega), va_up_ne _ _ (by omega), va_up_ne _ _ (by omega), va_up_ne _ _ (by omega), e1 0 (by omega), e1 1 (by omega), e1 2 (by omega), e1 3 (by omega)]
          exact d2 r (by omega) hr
        · rw [va_up_ne _ _ (by omega), va_up_ne _ _ (by omega)]; exact e2 p (by omega) hp
        · rw [va_up_ne _ _ (by omega), va_up_ne _ _ (by omega), e1 5 (by omega), show 31 * 0 + j = j by omega]
          by_cases h : j < 5
          · exact d3 j h
          · rw [d4 j (by omega) (by omega)]; unfold sO; rw [if_neg (by omega)]
        · rw [va_up_ne _ _ (by omega), va_up_ne _ _ (by omega), e1 5 (by omega), d4 _ (by omega) (by omega)]; rfl
        · rw [va_up_self]
          have : j = 0 ∨ j = 1 := by omega
          rcases this with rfl | rfl
          · rw [upd_n _ _ (by omega), upd_s]
          · rw [upd_s]
        · rw [va_up_ne _ _ h20, va_up_ne _ _ h20, e1 a (by omega), d1 a (by omega) (by omega)]
      · rintro n s ⟨g1, g2⟩
        show fX7_town_136s N _ I s _ = _
        unfold fX7_town_136s
        have z1 : wrZ 2 (s 20) 0 0 = some (upd (s 20) 0 0) := wrZ_e' (x := 0) (Or.inl rfl) (by omega) (by omega)
        have z2 : wrZ 2 (upd (s 20) 0 0) 1 0 = some (upd (upd (s 20) 0 0) 1 0) := wrZ_e' (x := 1) (Or.inl rfl) (by omega) (by omega)
        rw [if_pos (by decide +kernel), z1, Option.bind_some, z2, Option.bind_some, h0, h1, show (10 : Int32) * nI k = nI (10 * k) from pk_mul 10 k, nI_add]
      · rintro n i s hi ⟨g1, g2⟩
        show ∃ s', _ ∧ fX7_town_136s N (fX7_town_136 N n) I s _ = _
        refine ⟨va_up s 4 (upd (s 4) i (s 11 i)), ⟨fun a ha => by rw [va_up_ne _ _ ha]; exact g1 a ha, fun j hj hjm => ?_⟩, ?_⟩
        · rw [va_up_self]
          by_cases e : j = i
          · subst e; rw [upd_s, g1 11 (by omega), d1 11 (by omega) (by omega)]; exact hM.2.2.2.2 j hjm
          · rw [upd_n _ _ e]; exact g2 j (by omega) hjm
        · unfold fX7_town_136s
          rw [if_neg (show ¬ (4 : Int32) ≤ nI i from nI_ge (b := 4) hi (by omega)), rd_e rfl (by omega) (by omega) rfl, Option.bind_some, wr_e _ _ rfl (by omega) (by omega), Option.bind_some, nI_1]
    · intro n s h
      show fX7_town_51s N _ I s _ = _
      unfold fX7_town_51s
      rw [if_pos (by decide +kernel)]
    · rintro n i s hi ⟨g1, g2, g3, g4⟩
      show ∃ s', _ ∧ fX7_town_51s N (fX7_town_51 N n) I s _ = _
      have e0 : ∀ v, (va_up (va_up (va_up (va_up (va_up s 0 (upd (s 0) i (s 6 i))) 1 (upd (s 1) i (s 7 i))) 2 (upd (s 2) i (s 8 i))) 3 (upd (s 3) i (s 9 i))) 5 (upd (s 5) i v)) 0 = upd (s 0) i (s 6 i) := fun _ => rfl
      have e1 : ∀ v, (va_up (va_up (va_up (va_up (va_up s 0 (upd (s 0) i (s 6 i))) 1 (upd (s 1) i (s 7 i))) 2 (upd (s 2) i (s 8 i))) 3 (upd (s 3) i (s 9 i))) 5 (upd (s 5) i v)) 1 = upd (s 1) i (s 7 i) := fun _ => rfl
      have e2 : ∀ v, (va_up (va_up (va_up (va_up (va_up s 0 (upd (s 0) i (s 6 i))) 1 (upd (s 1) i (s 7 i))) 2 (upd (s 2) i (s 8 i))) 3 (upd (s 3) i (s 9 i))) 5 (upd (s 5) i v)) 2 = upd (s 2) i (s 8 i) := fun _ => rfl
      have e3 : ∀ v, (va_up (va_up (va_up (va_up (va_up s 0 (upd (s 0) i (s 6 i))) 1 (upd (s 1) i (s 7 i))) 2 (upd (s 2) i (s 8 i))) 3 (upd (s 3) i (s 9 i))) 5 (upd (s 5) i v)) 3 = upd (s 3) i (s 9 i) := fun _ => rfl
      have e5 : ∀ v, (va_up (va_up (va_up (va_up (va_up s 0 (upd (s 0) i (s 6 i))) 1 (upd (s 1) i (s 7 i))) 2 (upd (s 2) i (s 8 i))) 3 (upd (s 3) i (s 9 i))) 5 (upd (s 5) i v)) 5 = upd (s 5) i v := fun _ => rfl
      have p5 : (va_up (va_up (va_up (va_up s 0 (upd (s 0) i (s 6 i))) 1 (upd (s 1) i (s 7 i))) 2 (upd (s 2) i (s 8 i))) 3 (upd (s 3) i (s 9 i))) 5 = s 5 := rfl
      have key : fX7_town_127 N (fX7_town_51 N n) I (va_up (va_up (va_up (va_up s 0 (upd (s 0) i (s 6 i))) 1 (upd (s 1) i (s 7 i))) 2 (upd (s 2) i (s 8 i))) 3 (upd (s 3) i (s 9 i))) (nI i) (nI i) (nI (sO k O i)) = fX7_town_51 N n I (va_up (va_up (va_up (va_up (va_up s 0 (upd (s 0) i (s 6 i))) 1 (upd (s 1) i (s 7 i))) 2 (upd (s 2) i (s 8 i))) 3 (upd (s 3) i (s 9 i))) 5 (upd (s 5) i (nI (sO k O i)))) (nI (i + 1)) := by
        unfold fX7_town_127
        rw [wr_e _ _ rfl (by omega) (by omega), Option.bind_some, nI_1, p5]
      refine ⟨_, ⟨fun a ha h5 => ?_, fun j hj hjk => ?_, fun j hj => ?_, fun j h1 h2 => ?_⟩, Eq.trans ?_ key⟩
      · rw [va_up_ne _ _ h5, va_up_ne _ _ (by omega), va_up_ne _ _ (by omega), va_up_ne _ _ (by omega), va_up_ne _ _ (by omega)]; exact g1 a ha h5
      · rw [e0, e1, e2, e3]
        by_cases e : j = i
        · subst e
          rw [upd_s, upd_s, upd_s, upd_s, g1 6 (by omega) (by omega), g1 7 (by omega) (by omega), g1 8 (by omega) (by omega), g1 9 (by omega) (by omega)]
          obtain ⟨z1, z2, z3, z4, z5⟩ := hM.2.2.1 j hjk
          exact ⟨z1, z2, z3, z4⟩
        · rw [upd_n _ _ e, upd_n _ _ e, upd_n _ _ e, upd_n _ _ e]; exact g2 j (by omega) hjk
      · rw [e5]
        by_cases e : j = i
        · subst e; rw [upd_s]
        · rw [upd_n _ _ e]; exact g3 j (by omega)
      · rw [e5, upd_n _ _ (by omega)]; exact g4 j (by omega) h2
      · unfold fX7_town_51s
        rw [if_neg (show ¬ (5 : Int32) ≤ nI i from nI_ge (b := 5) hi (by omega)), rd_e rfl (by omega) (by omega) rfl, Option.bind_some, wr_e _ _ rfl (by omega) (by omega), Option.bind_some, rd_e rfl (by omega) (by omega) rfl, Option.bind_some, wr_e _ _ rfl (by omega) (by omega), Option.bind_some, rd_e rfl (by omega) (by omega) rfl, Option.bind_some, wr_e _ _ rfl (by omega) (by omega), Option.bind_some, rd_e rfl (by omega) (by omega) rfl, Option.bind_some, wr_e _ _ rfl (by omega) (by omega), Option.bind_some, h0]
        by_cases h : i < k
        · have z5 := (hM.2.2.1 i h).2.2.2.2
          rw [if_neg (nI_ge h (by omega)), rd_e (v := nI (O i)) rfl (by omega) (by omega) (by rw [g1 10 (by omega) (by omega)]; exact z5), Option.bind_some]
          unfold sO; rw [if_pos h]
        · rw [if_pos (nI_le (by omega) (by omega))]
          unfold sO; rw [if_neg h]; rfl
  · intro n s h
    show fX7_town_30s N _ I s _ = _
    unfold fX7_town_30s
    rw [if_pos (by decide +kernel)]
  · rintro n i s hi ⟨g1, g2⟩
    show ∃ s', _ ∧ fX7_town_30s N (fX7_town_30 N n) I s _ = _
    refine ⟨va_up s 5 (upd (s 5) i 0), ⟨fun a ha => by rw [va_up_ne _ _ ha]; exact g1 a ha, fun j hj => ?_⟩, ?_⟩
    · rw [va_up_self]
      by_cases e : j = i
      · subst e; rw [upd_s]; rfl
      · rw [upd_n _ _ e]; exact g2 j (by omega)
    · unfold fX7_town_30s
      rw [if_neg (show ¬ (31 : Int32) ≤ nI i from nI_ge (b := 31) hi (by omega)), wr_e _ _ rfl (by omega) (by omega), Option.bind_some, nI_1]
theorem r_town (N : Nat) {I : Nat → Int32} {A : Nat → Nat → Int32} {L : Int64} {A6 : Nat → Nat → Int32} {L6 : Int64} {rI : Nat → Int32} {rA : Nat → Nat → Int32} {tI : Nat → Int32} {tA : Nat → Nat → Int32} {wI : Nat → Int32} {wA : Nat → Nat → Int32} {aI : Nat → Int32} {aS : Nat → Nat → Int32} {aT : Nat → Nat → Nat → Int32} {eI : Nat → Int32} {eA : Nat → Nat → Int32} {sS : Nat → Nat → Int32} {sT : Nat → Nat → Nat → Int32} (hN : 10200 ≤ N) (hR : Rel I A L A6 L6 rI rA tI tA wI wA aI aS aT eI eA sS sT) (dI : Nat → Int32) (dA : Nat → Nat → Int32) : ∃ v I' A' A6' rI' tI' tA' dI' dA' wI' wA' aI', fX7_town N I A = some (v, I', A') ∧ fX6_town N A6 rI rA tI tA dI dA wI wA aI = some (v, A6', rI', tI', tA', dI', dA', wI', wA', aI') ∧ Rel I' A' L A6' L6 rI' rA tI' tA' wI' wA' aI' aS aT eI eA sS sT := by
  obtain ⟨k, m, T, S, d, hB, hSB, hMT, hCT, hMS, hCS, hRT, hRA, hRH, hRK, hL⟩ := id hR
  obtain ⟨len, l1, l2, l3, l4⟩ := id hRT
  obtain ⟨v, I1, A1, rI1, dI1, dA1, y1, y2, y3, y4, y5⟩ := b_read N dI dA (by omega) l1 l2 l3 l4
  unfold fX7_town fX6_town
  rw [y1, Option.bind_some, y2, Option.bind_some]
  dsimp only
  by_cases hv : v = -9
  · obtain ⟨v2, I2, A2, rI2, tI2, tA2, z1, z2, z3, z4, z5⟩ := b_read N tI tA (by omega) l1 l2 (rI := rI1) (by rw [y4]; exact l3) l4
    rw [y1] at z1
    have e1 := Option.some.inj z1
    have ev : v2 = v := (congrArg Prod.fst e1).symm
    have eI : I2 = I1 := (congrArg (fun x => x.2.1) e1).symm
    have eA : A2 = A1 := (congrArg (fun x => x.2.2) e1).symm
    subst ev eI eA
    obtain ⟨k', m', T', O', hPB, hMP, hCP⟩ := z5 hv
    obtain ⟨wI', wA', w1, w2⟩ := c_opens N wI wA (by omega) hPB hCP
    have i0 : upd (upd I2 0 (I2 2)) 1 (I2 3) 0 = nI k' := by rw [upd_n _ _ (by omega), upd_s]; exact hMP.1
    have i1 : upd (upd I2 0 (I2 2)) 1 (I2 3) 1 = nI m' := by rw [upd_s]; exact hMP.2.1
    have hMP2 : MP k' m' T' O' (upd (upd I2 0 (I2 2)) 1 (I2 3)) A2 := by
      obtain ⟨q1, q2, q3, q4, q5⟩ := hMP
      exact ⟨by rw [upd_n _ _ (by omega), upd_n _ _ (by omega)]; exact q1, by rw [upd_n _ _ (by omega), upd_n _ _ (by omega)]; exact q2, q3, q4, q5⟩
    obtain ⟨A', a1, a2, a3, a4, a5⟩ := m_towns N (by omega) hPB hMP2 i0 i1
    have H := lpX (fun n i (s : Nat → Nat → Int32) => fX6_town_52 N n s rI2 rA tI2 tA2 dI1 dA1 wI' wA' (upd aI 1 0) (nI i)) (fun s => some (nI (10 * k' + m'), s, rI2, tI2, tA2, dI1, dA1, wI', wA', upd aI 1 0)) (fun i s => ∀ j, j < i → s 0 j = 0) 2 ?_ ?_ N 0 A6 (by omega) (by omega) (fun j hj => by omega)
    · obtain ⟨B, b1, b2⟩ := H
      rw [if_pos hv, if_pos hv, z2, Option.bind_some]
      dsimp only
      rw [w1, Option.bind_some]
      dsimp only
      have ii : ∀ x, x ≠ 0 → x ≠ 1 → x ≠ 2 → x ≠ 3 → x ≠ 5 → x ≠ 6 → x ≠ 7 → upd (upd (upd I2 0 (I2 2)) 1 (I2 3)) 7 0 x = I x := fun x h0 h1 h2 h3 h5 h6 h7 => by rw [upd_n _ _ h7, upd_n _ _ h1, upd_n _ _ h0, y3.1 x h2 h3 h5 h6]
      have aa : ∀ a, 11 < a → a ≠ 20 → A' a = A a := fun a h1 h2 => by rw [a5 a h1 h2, y3.2 a (Or.inr h1)]
      refine ⟨nI (10 * k' + m'), _, A', B, rI2, tI2, tA2, dI1, dA1, wI', wA', upd aI 1 0, a1, b2, k', m', T', sO k' O', 0, hPB.1, sO_SB hPB, a2, hCP.1, a3, w2, ?_, ?_, ?_, ?_, hL⟩
      · rw [ii 4 (by omega) (by omega) (by omega) (by omega) (by omega) (by omega) (by omega), aa 12 (by omega) (by omega), z4, y4]; exact hRT
      · obtain ⟨h, x, Q, D, hh, hx, e1, e2, e3, e4, hQ, hS⟩ := hRA
        rw [aa 13 (by omega) (by omega), ii 8 (by omega) (by omega) (by omega) (by omega) (by omega) (by omega) (by omega)]
        exact ⟨0, x, Q, D, by omega, hx, upd_s _ _ _, e2, by rw [upd_n _ _ (by omega)]; exact e3, upd_s _ _ _, hQ, fun j hj => by omega⟩
      · rw [ii 9 (by omega) (by omega) (by omega) (by omega) (by omega) (by omega) (by omega), aa 14 (by omega) (by omega), aa 15 (by omega) (by omega), aa 16 (by omega) (by omega), aa 17 (by omega) (by omega)]; exact hRH
      · intro j hj
        refine ⟨by rw [a4 j hj, b1 j hj], Or.inl (a4 j hj), fun h => ?_⟩
        rw [a4 j hj] at h
        exact absurd h (by decide)
    · intro n s h
      show fX6_town_52s N _ s rI2 rA tI2 tA2 dI1 dA1 wI' wA' (upd aI 1 0) _ = _
      unfold fX6_town_52s
      rw [if_pos (by decide +kernel), hCP.1.1, hCP.1.2.1, show (10 : Int32) * nI k' = nI (10 * k') from pk_mul 10 k', nI_add]
    · intro n i s hi g
      show ∃ s', _ ∧ fX6_town_52s N (fX6_town_52 N n) s rI2 rA tI2 tA2 dI1 dA1 wI' wA' (upd aI 1 0) _ = _
      refine ⟨va_up s 0 (upd (s 0) i 0), fun j hj => ?_, ?_⟩
      · rw [va_up_self]
        by_cases e : j = i
        · subst e; rw [upd_s]
        · rw [upd_n _ _ e]; exact g j (by omega)
      · unfold fX6_town_52s
        rw [if_neg (show ¬ (2 : Int32) ≤ nI i from nI_ge (b := 2) hi (by omega)), wrZ_e' (Or.inl rfl) hi (by omega), Option.bind_some, nI_1]
  · rw [if_neg hv, if_neg hv]
    exact ⟨-3, I1, A1, A6, rI1, tI, tA, dI1, dA1, wI, wA, aI, rfl, rfl, R_read hR y3 y4⟩
