-- undo, keep, again and the small methods
theorem c_tb_e (N x h : Nat) (hx : x < 14) (hh : 0 < h) (hh2 : h ≤ 14) (I : Nat → Int32) (S : Nat → Nat → Int32) (T : Nat → Nat → Nat → Int32) (I1 : Nat → Int32) (A1 : Nat → Nat → Int32) (hI : rem (I 0 + 14 - 1) 14 = nI x) (h1 : I 1 = nI h) : fX0_takeBack N I S T I1 A1 = (fX4_copyFrom N I1 A1 (S x) (T x)).bind fun z2 => some (1, upd (upd I 0 (nI x)) 1 (nI h - 1), z2.1, z2.2) := by
  have h0 : x = 0 ∨ x = 1 ∨ x = 2 ∨ x = 3 ∨ x = 4 ∨ x = 5 ∨ x = 6 ∨ x = 7 ∨ x = 8 ∨ x = 9 ∨ x = 10 ∨ x = 11 ∨ x = 12 ∨ x = 13 := by omega
  have hn : ¬ nI h < (1 : Int32) := fun h => by have := (nI_l1 (by omega)).mp h; omega
  unfold fX0_takeBack fX0_takeBack_35r1 fX0_takeBack_35r2 fX0_takeBack_35r3 fX0_takeBack_35r4 fX0_takeBack_35r5 fX0_takeBack_35r6 fX0_takeBack_35r7 fX0_takeBack_35r8 fX0_takeBack_35r9 fX0_takeBack_35r10 fX0_takeBack_35r11 fX0_takeBack_35r12 fX0_takeBack_35r13 fX0_takeBack_35r14
  rw [hI, h1]
  simp only [if_neg hn]
  rcases h0 with rfl | rfl | rfl | rfl | rfl | rfl | rfl | rfl | rfl | rfl | rfl | rfl | rfl | rfl <;> rfl
theorem c_tb_0 (N x : Nat) (hx : x < 14) (I : Nat → Int32) (S : Nat → Nat → Int32) (T : Nat → Nat → Nat → Int32) (I1 : Nat → Int32) (A1 : Nat → Nat → Int32) (hI : rem (I 0 + 14 - 1) 14 = nI x) (h1 : I 1 = nI 0) : fX0_takeBack N I S T I1 A1 = some (0, I, I1, A1) := by
  have h0 : x = 0 ∨ x = 1 ∨ x = 2 ∨ x = 3 ∨ x = 4 ∨ x = 5 ∨ x = 6 ∨ x = 7 ∨ x = 8 ∨ x = 9 ∨ x = 10 ∨ x = 11 ∨ x = 12 ∨ x = 13 := by omega
  have hn : nI 0 < (1 : Int32) := by decide
  unfold fX0_takeBack fX0_takeBack_35r1 fX0_takeBack_35r2 fX0_takeBack_35r3 fX0_takeBack_35r4 fX0_takeBack_35r5 fX0_takeBack_35r6 fX0_takeBack_35r7 fX0_takeBack_35r8 fX0_takeBack_35r9 fX0_takeBack_35r10 fX0_takeBack_35r11 fX0_takeBack_35r12 fX0_takeBack_35r13 fX0_takeBack_35r14
  rw [hI, h1]
  simp only [if_pos hn]
  rcases h0 with rfl | rfl | rfl | rfl | rfl | rfl | rfl | rfl | rfl | rfl | rfl | rfl | rfl | rfl <;> rfl
theorem m_undo_l (N : Nat) {x : Nat} {I : Nat → Int32} {A : Nat → Nat → Int32} (hN : 40 ≤ N) (hx : x < 14) (h8 : I 8 = nI x) :
    ∃ A', fX7_undo_36 N N I A 0 = some (I 7, I, A') ∧ FrL 0 A A' ∧ (∀ j, j < 31 → A' 5 j = A 13 (31 * x + j)) := by
  have H := lpX (fun n i (s : Nat → Nat → Int32) => fX7_undo_36 N n I s (nI i)) (fun s => some (I 7, I, s))
    (fun i s => FrL 0 A s ∧ (∀ j, j < i → s 5 j = A 13 (31 * x + j))) 31 ?_ ?_ N 0 A (by omega) (by omega) ⟨FrL_rfl 0 A, fun j hj => by omega⟩
  · obtain ⟨s, h1, h3⟩ := H
    exact ⟨s, h3, h1⟩
  · intro n s hs
    show fX7_undo_36s N _ I s _ = _
    unfold fX7_undo_36s
    rw [if_pos (by decide +kernel)]
  · rintro n i s hi ⟨g1, g2⟩
    show ∃ s', _ ∧ fX7_undo_36s N (fX7_undo_36 N n) I s _ = _
    have fr := FrL_wr (lv := 0) s (A 13 (31 * x + i)) (j := i) (by omega)
    rw [show 31 * 0 + i = i by omega] at fr
    refine ⟨va_up s 5 (upd (s 5) i (A 13 (31 * x + i))), ⟨FrL_tr g1 fr, fun j hj => ?_⟩, ?_⟩
    · rw [va_up_self]
      by_cases e : j = i
      · subst e; rw [upd_s]
      · rw [upd_n _ _ e]; exact g2 j (by omega)
    · unfold fX7_undo_36s
      rw [if_neg (show ¬ (31 : Int32) ≤ nI i from nI_ge (b := 31) hi (by omega)), h8, ox1, rd_e rfl (by omega) (by omega) (g1 13 _ (Or.inl (by omega))), Option.bind_some, wr_e _ _ rfl (by omega) (by omega), Option.bind_some, nI_1]
theorem r_undo (N : Nat) {I : Nat → Int32} {A : Nat → Nat → Int32} {L : Int64} {A6 : Nat → Nat → Int32} {L6 : Int64} {rI : Nat → Int32} {rA : Nat → Nat → Int32} {tI : Nat → Int32} {tA : Nat → Nat → Int32} {wI : Nat → Int32} {wA : Nat → Nat → Int32} {aI : Nat → Int32} {aS : Nat → Nat → Int32} {aT : Nat → Nat → Nat → Int32} {eI : Nat → Int32} {eA : Nat → Nat → Int32} {sS : Nat → Nat → Int32} {sT : Nat → Nat → Nat → Int32} (hN : 10200 ≤ N) (hR : Rel I A L A6 L6 rI rA tI tA wI wA aI aS aT eI eA sS sT) : ∃ r I' A' wI' wA' aI', fX7_undo N I A = some (r, I', A') ∧ fX6_undo N wI wA aI aS aT = some (r, wI', wA', aI') ∧ Rel I' A' L A6 L6 rI rA tI tA wI' wA' aI' aS aT eI eA sS sT := by
  obtain ⟨k, m, T, S, d, hB, hSB, hMT, hCT, hMS, hCS, hRT, hRA, hRH, hRK, hL⟩ := id hR
  obtain ⟨h, x, Q, D, hh, hx, e1, e2, e3, e4, hQ, hS⟩ := id hRA
  have er : rem (aI 0 + 14 - 1) 14 = nI ((x + 13) % 14) := by
    rw [e3, show nI x + 14 = nI (x + 14) from nI_add x 14, show nI (x + 14) - 1 = nI (x + 13) from nI_pred (x + 13)]
    exact pk_rem (a := x + 13) (d := 14) (by omega) (by omega) (by omega)
  unfold fX7_undo fX6_undo
  by_cases h0 : h = 0
  · subst h0
    rw [c_tb_0 N ((x + 13) % 14) (by omega) aI aS aT wI wA er e4, Option.bind_some, e1, if_pos (show nI 0 = 0 from rfl), z00]
    exact ⟨-3, I, A, wI, wA, aI, rfl, rfl, hR⟩
  · rw [c_tb_e N ((x + 13) % 14) h (by omega) (by omega) hh aI aS aT wI wA er e4, e1, if_neg (fun h2 => h0 ((nI_e0 (by omega)).mp h2)), e2, show nI x + 13 = nI (x + 13) from nI_add x 13]
    have er2 : rem (nI (x + 13)) 14 = nI ((x + 13) % 14) := pk_rem (a := x + 13) (d := 14) (by omega) (by omega) (by omega)
    have em : nI h - 1 = nI (h - 1) := pk_sub (b := 1) (by omega)
    rw [er2, em]
    obtain ⟨q1, q2, q3⟩ := hQ ((x + 13) % 14) (by omega)
    have hsb := hS 0 (by omega)
    rw [show x + 13 - 0 = x + 13 by omega] at hsb
    obtain ⟨wI', wA', c1, c2⟩ := CS_copy (I := wI) (A := wA) N q1
    obtain ⟨A', m1, m2, m3⟩ := m_undo_l N (I := upd (upd I 7 (nI (h - 1))) 8 (nI ((x + 13) % 14))) (A := A) (by omega) (show (x + 13) % 14 < 14 by omega) (upd_s _ _ _)
    have gi : ∀ i, i ≠ 7 → i ≠ 8 → upd (upd I 7 (nI (h - 1))) 8 (nI ((x + 13) % 14)) i = I i := fun i a b => by rw [upd_n _ _ b, upd_n _ _ a]
    have i7 : upd (upd I 7 (nI (h - 1))) 8 (nI ((x + 13) % 14)) 7 = nI (h - 1) := by rw [upd_n _ _ (by omega), upd_s]
    refine ⟨nI (h - 1), _, A', wI', wA', upd (upd aI 0 (nI ((x + 13) % 14))) 1 (nI (h - 1)), by rw [m1, i7], ?_, R_act (A1 := A) hB hMT hCT hRT hRH hRK hL (fun _ _ => rfl) gi ?_ m2 ⟨fun j hj => ?_, ?_⟩ c2 hsb⟩
    · rw [c1, Option.bind_some, Option.bind_some]
      unfold fX6_undo_26
      rw [n10]
      simp only [upd_s]
    · rw [i7, upd_s]
      refine ⟨h - 1, (x + 13) % 14, Q, D, by omega, by omega, rfl, rfl, ?_, upd_s _ _ _, hQ, fun j hj => ?_⟩
      · rw [upd_n _ _ (by omega), upd_s]
      · have := hS (j + 1) (by omega)
        rwa [show (x + 13 - (j + 1)) % 14 = ((x + 13) % 14 + 13 - j) % 14 by omega] at this
    · rw [show 31 * 0 + j = j by omega, m3 j (by omega)]; exact q2 j hj
    · rw [show 31 * 0 + 30 = 30 by omega, m3 30 (by omega)]; exact q3
theorem slot_e (N : Nat) (x : Int32) : fX6_slotAt N x = some (if x < 0 ∨ nI 2 ≤ x then 0 else if x = 0 then 1 else 2) := by
  unfold fX6_slotAt fX6_slotAt_33 fX6_slotAt_34 fX6_slotAt_34r1 fX6_slotAt_34r2
  rw [p_X6_isIndex, Option.bind_some]
  by_cases h0 : x < 0
  · rw [if_pos h0, if_pos (show (x < 0 ∨ nI 2 ≤ x) from Or.inl h0), z00]
  rw [if_neg h0]
  by_cases h1 : (2 : Int32) ≤ x
  · rw [if_pos h1, if_pos (show (x < 0 ∨ nI 2 ≤ x) from Or.inr h1), z00]
  rw [if_neg h1, n10, Option.bind_some, n10, if_neg (show ¬ (x < 0 ∨ nI 2 ≤ x) from fun h => h.elim h0 h1)]
  obtain ⟨j, hj, rfl⟩ := ix_of (x := x) (k := 2) (by omega) (fun h => h.elim h0 h1)
  have : j = 0 ∨ j = 1 := by omega
  rcases this with rfl | rfl <;> rfl
theorem m_in01 (N : Nat) (x : Int32) : fX7_in N (Int32.toInt64 x) 0 1 = some (if x < 0 ∨ nI 2 ≤ x then 0 else 1) := by
  have h := p_X7_ix N x 2 (by omega)
  rw [show Int32.toInt64 (nI 2 - 1) = 1 by decide +kernel] at h
  exact h
theorem m_keep_l (N : Nat) {x : Nat} {A : Nat → Nat → Int32} (hN : 40 ≤ N) (hx : x < 2) :
    ∃ A', fX7_keep_21 N N A (nI x) 0 = some (A 5 30, A') ∧ (∀ a, a ≠ 21 → A' a = A a) ∧ (∀ j, j < 31 → A' 21 (31 * x + j) = A 5 j) ∧ (∀ j, (j < 31 * x ∨ 31 * x + 31 ≤ j) → A' 21 j = A 21 j) := by
  have H := lpX (fun n i (s : Nat → Nat → Int32) => fX7_keep_21 N n s (nI x) (nI i)) (fun s => some (A 5 30, s))
    (fun i s => (∀ a, a ≠ 21 → s a = A a) ∧ (∀ j, j < i → s 21 (31 * x + j) = A 5 j) ∧ (∀ j, (j < 31 * x ∨ 31 * x + 31 ≤ j) → s 21 j = A 21 j)) 31 ?_ ?_ N 0 A (by omega) (by omega) ⟨fun a _ => rfl, fun j hj => by omega, fun j _ => rfl⟩
  · obtain ⟨s, h1, h3⟩ := H
    exact ⟨s, h3, h1⟩
  · rintro n s ⟨g1, g2, g3⟩
    show fX7_keep_21s N _ s _ _ = _
    unfold fX7_keep_21s
    rw [if_pos (by decide +kernel), rd_e (x := 30) (i := 30) rfl (by omega) (by omega) (by rw [g1 5 (by omega)]), Option.bind_some]
  · rintro n i s hi ⟨g1, g2, g3⟩
    show ∃ s', _ ∧ fX7_keep_21s N (fX7_keep_21 N n) s _ _ = _
    refine ⟨va_up s 21 (upd (s 21) (31 * x + i) (A 5 i)), ⟨fun a ha => ?_, fun j hj => ?_, fun j hj => ?_⟩, ?_⟩
    · rw [va_up_ne _ _ ha]; exact g1 a ha
    · rw [va_up_self]
      by_cases e : j = i
      · subst e; rw [upd_s]
      · rw [upd_n _ _ (by omega)]; exact g2 j (by omega)
    · rw [va_up_self, upd_n _ _ (by omega)]; exact g3 j hj
    · unfold fX7_keep_21s
      rw [if_neg (show ¬ (31 : Int32) ≤ nI i from nI_ge (b := 31) hi (by omega)), rd_e rfl (by omega) (by omega) (by rw [g1 5 (by omega)]), Option.bind_some, ox1, wr_e _ _ rfl (by omega) (by omega), Option.bind_some, nI_1]
theorem wrZ_1 {x : Nat} (hx : x < 2) (f : Nat → Int32) : wrZ 2 f (nI x) 1 = some (upd f x 1) := by
  unfold wrZ
  rw [if_pos (Or.inr rfl), wr_n hx (by omega)]
theorem r_keep (N : Nat) {I : Nat → Int32} {A : Nat → Nat → Int32} {L : Int64} {A6 : Nat → Nat → Int32} {L6 : Int64} {rI : Nat → Int32} {rA : Nat → Nat → Int32} {tI : Nat → Int32} {tA : Nat → Nat → Int32} {wI : Nat → Int32} {wA : Nat → Nat → Int32} {aI : Nat → Int32} {aS : Nat → Nat → Int32} {aT : Nat → Nat → Nat → Int32} {eI : Nat → Int32} {eA : Nat → Nat → Int32} {sS : Nat → Nat → Int32} {sT : Nat → Nat → Nat → Int32} (hN : 10200 ≤ N) (hR : Rel I A L A6 L6 rI rA tI tA wI wA aI aS aT eI eA sS sT) (y : Int32) : ∃ r A' A6' sS' sT', fX7_keep N A y = some (r, A') ∧ fX6_keep N A6 wI wA sS sT y = some (r, A6', sS', sT') ∧ Rel I A' L A6' L6 rI rA tI tA wI wA aI aS aT eI eA sS' sT' := by
  obtain ⟨k, m, T, S, d, hB, hSB, hMT, hCT, hMS, hCS, hRT, hRA, hRH, hRK, hL⟩ := id hR
  unfold fX7_keep fX6_keep
  rw [m_in01, slot_e, Option.bind_some, Option.bind_some]
  by_cases hy : y < 0 ∨ nI 2 ≤ y
  · rw [if_pos hy, if_pos hy]; exact ⟨-1, A, A6, sS, sT, rfl, rfl, hR⟩
  rw [if_neg hy, if_neg hy, n10]
  obtain ⟨x, hx, rfl⟩ := ix_of (by omega) hy
  obtain ⟨c1, c2, g1, g2⟩ := CS_copy (I := sS x) (A := sT x) N hCS
  obtain ⟨A', m1, m2, m3, m4⟩ := m_keep_l N (x := x) (A := va_up A 20 (upd (A 20) x 1)) (by omega) hx
  have ec : (if (if nI x = 0 then (1 : Int32) else 2) = 1 then (fX4_copyFrom N (sS 0) (sT 0) wI wA).bind fun z3 => (wrZ 2 (A6 0) (nI x) 1).bind fun g4 => some ((wI 0), va_up A6 0 g4, va_up sS 0 z3.1, va_up sT 0 z3.2) else if (if nI x = 0 then (1 : Int32) else 2) = 2 then (fX4_copyFrom N (sS 1) (sT 1) wI wA).bind fun z6 => (wrZ 2 (A6 0) (nI x) 1).bind fun g7 => some ((wI 0), va_up A6 0 g7, va_up sS 1 z6.1, va_up sT 1 z6.2) else some ((-1), A6, sS, sT)) = (fX4_copyFrom N (sS x) (sT x) wI wA).bind fun z3 => (wrZ 2 (A6 0) (nI x) 1).bind fun g4 => some ((wI 0), va_up A6 0 g4, va_up sS x z3.1, va_up sT x z3.2) := by
    have : x = 0 ∨ x = 1 := by omega
    rcases this with rfl | rfl <;> rfl
  rw [ec, g1, Option.bind_some, wrZ_1 hx, wrZ_1 hx, Option.bind_some, Option.bind_some]
  have ea : ∀ a, a ≠ 21 → a ≠ 20 → A' a = A a := fun a h1 h2 => by rw [m2 a h1, va_up_ne _ _ h2]
  have e30 : A 5 30 = d := by have := hMS.2; rwa [show 31 * 0 + 30 = 30 by omega] at this
  refine ⟨d, A', _, _, _, by rw [show fX7_keep_21 N N _ (nI x) 0 = _ from m1, va_up_ne _ _ (by omega), e30], by rw [hCS.2.2.2], k, m, T, S, d, hB, hSB, ?_, hCT, ?_, hCS, ?_, ?_, ?_, ?_, hL⟩
  · unfold MT
    rw [ea 0 (by omega) (by omega), ea 1 (by omega) (by omega), ea 2 (by omega) (by omega), ea 3 (by omega) (by omega), ea 4 (by omega) (by omega)]; exact hMT
  · unfold MS
    rw [ea 5 (by omega) (by omega)]; exact hMS
  · rw [ea 12 (by omega) (by omega)]; exact hRT
  · rw [ea 13 (by omega) (by omega)]; exact hRA
  · rw [ea 14 (by omega) (by omega), ea 15 (by omega) (by omega), ea 16 (by omega) (by omega), ea 17 (by omega) (by omega)]; exact hRH
  · rw [m2 20 (by omega), va_up_self, va_up_self]
    intro i hi
    by_cases e : i = x
    · subst e
      rw [upd_s, upd_s, va_up_self, va_up_self]
      refine ⟨rfl, Or.inr rfl, fun _ => ⟨S, d, hSB, g2, fun j hj => ?_, ?_⟩⟩
      · rw [m3 j (by omega), va_up_ne _ _ (by omega)]
        have := hMS.1 j hj
        rwa [show 31 * 0 + j = j by omega] at this
      · rw [m3 30 (by omega), va_up_ne _ _ (by omega)]; exact e30
    · rw [upd_n _ _ e, upd_n _ _ e, va_up_ne _ _ e, va_up_ne _ _ e]
      obtain ⟨k1, k2, k3⟩ := hRK i hi
      refine ⟨k1, k2, fun h => ?_⟩
      obtain ⟨S', d', n1, n2, n3, n4⟩ := k3 h
      refine ⟨S', d', n1, n2, fun j hj => ?_, ?_⟩
      · rw [m4 _ (by omega), va_up_ne _ _ (by omega)]; exact n3 j hj
      · rw [m4 _ (by omega), va_up_ne _ _ (by omega)]; exact n4
theorem m_again_l (N : Nat) {x : Nat} {I : Nat → Int32} {A : Nat → Nat → Int32} (hN : 40 ≤ N) (hx : x < 2) :
    ∃ A', fX7_again_26 N N I A (nI x) 0 = some (A' 5 30, upd I 7 0, A') ∧ FrL 0 A A' ∧ (∀ j, j < 31 → A' 5 j = A 21 (31 * x + j)) := by
  have H := lpX (fun n i (s : Nat → Nat → Int32) => fX7_again_26 N n I s (nI x) (nI i)) (fun s => some (s 5 30, upd I 7 0, s))
    (fun i s => FrL 0 A s ∧ (∀ j, j < i → s 5 j = A 21 (31 * x + j))) 31 ?_ ?_ N 0 A (by omega) (by omega) ⟨FrL_rfl 0 A, fun j hj => by omega⟩
  · obtain ⟨s, h1, h3⟩ := H
    exact ⟨s, h3, h1⟩
  · rintro n s ⟨g1, g2⟩
    show fX7_again_26s N _ I s _ _ = _
    unfold fX7_again_26s
    rw [if_pos (by decide +kernel), rd_e (x := 30) (i := 30) rfl (by omega) (by omega) rfl, Option.bind_some]
  · rintro n i s hi ⟨g1, g2⟩
    show ∃ s', _ ∧ fX7_again_26s N (fX7_again_26 N n) I s _ _ = _
    have fr := FrL_wr (lv := 0) s (A 21 (31 * x + i)) (j := i) (by omega)
    rw [show 31 * 0 + i = i by omega] at fr
    refine ⟨va_up s 5 (upd (s 5) i (A 21 (31 * x + i))), ⟨FrL_tr g1 fr, fun j hj => ?_⟩, ?_⟩
    · rw [va_up_self]
      by_cases e : j = i
      · subst e; rw [upd_s]
      · rw [upd_n _ _ e]; exact g2 j (by omega)
    · unfold fX7_again_26s
      rw [if_neg (show ¬ (31 : Int32) ≤ nI i from nI_ge (b := 31) hi (by omega)), ox1, rd_e rfl (by omega) (by omega) (g1 21 _ (Or.inl (by omega))), Option.bind_some, wr_e _ _ rfl (by omega) (by omega), Option.bind_some, nI_1]
theorem r_again (N : Nat) {I : Nat → Int32} {A : Nat → Nat → Int32} {L : Int64} {A6 : Nat → Nat → Int32} {L6 : Int64} {rI : Nat → Int32} {rA : Nat → Nat → Int32} {tI : Nat → Int32} {tA : Nat → Nat → Int32} {wI : Nat → Int32} {wA : Nat → Nat → Int32} {aI : Nat → Int32} {aS : Nat → Nat → Int32} {aT : Nat → Nat → Nat → Int32} {eI : Nat → Int32} {eA : Nat → Nat → Int32} {sS : Nat → Nat → Int32} {sT : Nat → Nat → Nat → Int32} (hN : 10200 ≤ N) (hR : Rel I A L A6 L6 rI rA tI tA wI wA aI aS aT eI eA sS sT) (y : Int32) : ∃ r I' A' wI' wA' aI', fX7_again N I A y = some (r, I', A') ∧ fX6_again N A6 wI wA aI sS sT y = some (r, wI', wA', aI') ∧ Rel I' A' L A6 L6 rI rA tI tA wI' wA' aI' aS aT eI eA sS sT := by
  obtain ⟨k, m, T, S, d, hB, hSB, hMT, hCT, hMS, hCS, hRT, hRA, hRH, hRK, hL⟩ := id hR
  unfold fX7_again fX6_again
  rw [m_in01, slot_e, Option.bind_some, Option.bind_some]
  by_cases hy : y < 0 ∨ nI 2 ≤ y
  · rw [if_pos hy, if_pos hy]; exact ⟨-1, I, A, wI, wA, aI, rfl, rfl, hR⟩
  rw [if_neg hy, if_neg hy, n10]
  obtain ⟨x, hx, rfl⟩ := ix_of (by omega) hy
  obtain ⟨k1, k2, k3⟩ := hRK x hx
  have ec : (if (if nI x = 0 then (1 : Int32) else 2) = 1 then (rd 2 (A6 0) (nI x)).bind fun v3 => if v3 = 0 then some ((-3), wI, wA, aI) else (fX4_copyFrom N wI wA (sS 0) (sT 0)).bind fun z5 => some ((z5.1 0), z5.1, z5.2, upd aI 1 0) else if (if nI x = 0 then (1 : Int32) else 2) = 2 then (rd 2 (A6 0) (nI x)).bind fun v7 => if v7 = 0 then some ((-3), wI, wA, aI) else (fX4_copyFrom N wI wA (sS 1) (sT 1)).bind fun z9 => some ((z9.1 0), z9.1, z9.2, upd aI 1 0) else some ((-1), wI, wA, aI)) = (rd 2 (A6 0) (nI x)).bind fun v3 => if v3 = 0 then some ((-3), wI, wA, aI) else (fX4_copyFrom N wI wA (sS x) (sT x)).bind fun z5 => some ((z5.1 0), z5.1, z5.2, upd aI 1 0) := by
    have : x = 0 ∨ x = 1 := by omega
    rcases this with rfl | rfl <;> rfl
  rw [ec, rd_e rfl hx (by omega) k1, rd_e rfl hx (by omega) rfl, Option.bind_some, Option.bind_some, ← k1]
  rcases k2 with k2 | k2
  · rw [k2, z00, z00]; exact ⟨-3, I, A, wI, wA, aI, rfl, rfl, hR⟩
  · obtain ⟨S', d', n1, n2, n3, n4⟩ := k3 k2
    obtain ⟨c1, c2, g1, g2⟩ := CS_copy (I := wI) (A := wA) N n2
    obtain ⟨A', m1, m2, m3⟩ := m_again_l N (x := x) (I := I) (A := A) (by omega) hx
    rw [k2, n10, n10, g1, Option.bind_some]
    have e30 : A' 5 30 = d' := by rw [m3 30 (by omega)]; exact n4
    refine ⟨d', upd I 7 0, A', c1, c2, upd aI 1 0, by rw [show fX7_again_26 N N I A (nI x) 0 = _ from m1, e30], by show some (c1 0, c1, c2, upd aI 1 0) = _; rw [g2.2.2.2], R_act (A1 := A) hB hMT hCT hRT hRH hRK hL (fun _ _ => rfl) (fun i h1 h2 => upd_n _ _ h1) ?_ m2 ⟨fun j hj => ?_, ?_⟩ g2 n1⟩
    · obtain ⟨h, x, Q, D, hh, hx, e1, e2, e3, e4, hQ, hS⟩ := hRA
      refine ⟨0, x, Q, D, by omega, hx, upd_s _ _ _, by rw [upd_n _ _ (by omega)]; exact e2, by rw [upd_n _ _ (by omega)]; exact e3, upd_s _ _ _, hQ, fun j hj => by omega⟩
    · rw [show 31 * 0 + j = j by omega, m3 j (by omega)]; exact n3 j hj
    · rw [show 31 * 0 + 30 = 30 by omega]; exact e30
