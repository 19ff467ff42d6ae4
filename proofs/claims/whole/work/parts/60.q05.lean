-- methods, both sides
theorem n10 {α : Type} (a b : α) : (if (1 : Int32) = 0 then a else b) = b := if_neg (by decide)
theorem z00 {α : Type} (a b : α) : (if (0 : Int32) = 0 then a else b) = a := if_pos rfl
theorem R_scr {I : Nat → Int32} {A : Nat → Nat → Int32} {L : Int64} {A6 : Nat → Nat → Int32} {L6 : Int64} {rI : Nat → Int32} {rA : Nat → Nat → Int32} {tI : Nat → Int32} {tA : Nat → Nat → Int32} {wI : Nat → Int32} {wA : Nat → Nat → Int32} {aI : Nat → Int32} {aS : Nat → Nat → Int32} {aT : Nat → Nat → Nat → Int32} {eI : Nat → Int32} {eA : Nat → Nat → Int32} {sS : Nat → Nat → Int32} {sT : Nat → Nat → Nat → Int32} {A' : Nat → Nat → Int32} (hR : Rel I A L A6 L6 rI rA tI tA wI wA aI aS aT eI eA sS sT) (h : FrL 1 A A') : Rel I A' L A6 L6 rI rA tI tA wI wA aI aS aT eI eA sS sT := by
  obtain ⟨k, m, T, S, d, hB, hSB, hMT, hCT, hMS, hCS, hRT, hRA, hRH, hRK, hL⟩ := hR
  refine ⟨k, m, T, S, d, hB, hSB, FrL_MT h hMT, hCT, FrL_MS0 h hMS, hCS, ?_, ?_, ?_, ?_, hL⟩
  · rw [FrL_a h (by omega)]; exact hRT
  · rw [FrL_a h (by omega)]; exact hRA
  · rw [FrL_a h (by omega), FrL_a h (by omega), FrL_a h (by omega), FrL_a h (by omega)]; exact hRH
  · rw [FrL_a h (by omega), FrL_a h (by omega)]; exact hRK
/-- an act was kept, then the standing changed -/
theorem R_act {I : Nat → Int32} {A : Nat → Nat → Int32} {L : Int64} {A6 : Nat → Nat → Int32} {L6 : Int64} {rI : Nat → Int32} {rA : Nat → Nat → Int32} {tI : Nat → Int32} {tA : Nat → Nat → Int32} {eI : Nat → Int32} {eA : Nat → Nat → Int32} {sS : Nat → Nat → Int32} {sT : Nat → Nat → Nat → Int32} {k m : Nat} {T : Nat → Nat → Nat} {S' : Nat → Nat} {d' : Int32} {I' : Nat → Int32} {A1 A' : Nat → Nat → Int32} {wI' : Nat → Int32} {wA' : Nat → Nat → Int32} {aI' : Nat → Int32} {aS' : Nat → Nat → Int32} {aT' : Nat → Nat → Nat → Int32} (hB : TB k m T) (hMT : MT k m T I A) (hCT : CT k m T tI tA) (hRT : RT (I 4) (A 12) (rI 4) (rA 0)) (hRH : RH (I 9) (A 14) (A 15) (A 16) (A 17) eI eA) (hRK : RK k m (A 20) (A 21) (A6 0) sS sT) (hL : L = L6)
    (g1 : ∀ a, a ≠ 13 → A1 a = A a) (g2 : ∀ i, i ≠ 7 → i ≠ 8 → I' i = I i) (g3 : RA k m (I' 7) (I' 8) (A1 13) aI' aS' aT') (g4 : FrL 0 A1 A') (g5 : MS A' 0 S' d') (g6 : CS wI' wA' S' d') (g7 : SB k m S') : Rel I' A' L A6 L6 rI rA tI tA wI' wA' aI' aS' aT' eI eA sS sT := by
  have e : ∀ a, a ≠ 13 → a ≠ 5 → A' a = A a := fun a h1 h2 => by rw [FrL_a g4 h2, g1 a h1]
  refine ⟨k, m, T, S', d', hB, g7, ?_, hCT, g5, g6, ?_, ?_, ?_, ?_, hL⟩
  · obtain ⟨h1, h2, h3, h4⟩ := hMT
    refine ⟨by rw [g2 0 (by omega) (by omega)]; exact h1, by rw [g2 1 (by omega) (by omega)]; exact h2, ?_, ?_⟩
    · rw [e 0 (by omega) (by omega), e 1 (by omega) (by omega), e 2 (by omega) (by omega), e 3 (by omega) (by omega)]; exact h3
    · rw [e 4 (by omega) (by omega)]; exact h4
  · rw [e 12 (by omega) (by omega), g2 4 (by omega) (by omega)]; exact hRT
  · rw [FrL_a g4 (by omega)]; exact g3
  · rw [e 14 (by omega) (by omega), e 15 (by omega) (by omega), e 16 (by omega) (by omega), e 17 (by omega) (by omega), g2 9 (by omega) (by omega)]; exact hRH
  · rw [e 20 (by omega) (by omega), e 21 (by omega) (by omega)]; exact hRK
theorem MS_13 {A A1 : Nat → Nat → Int32} {lv : Nat} {S : Nat → Nat} {d : Int32} (g : ∀ a, a ≠ 13 → A1 a = A a) (h : MS A lv S d) : MS A1 lv S d := by
  unfold MS
  rw [g 5 (by omega)]; exact h
theorem MT_13 {A A1 : Nat → Nat → Int32} {I I' : Nat → Int32} {k m : Nat} {T : Nat → Nat → Nat} (g : ∀ a, a ≠ 13 → A1 a = A a) (g2 : ∀ i, i ≠ 7 → i ≠ 8 → I' i = I i) (h : MT k m T I A) : MT k m T I' A1 := by
  unfold MT
  rw [g 0 (by omega), g 1 (by omega), g 2 (by omega), g 3 (by omega), g 4 (by omega), g2 0 (by omega) (by omega), g2 1 (by omega) (by omega)]; exact h
theorem m_denyOn (N : Nat) {k m lv r t : Nat} {A : Nat → Nat → Int32} {S : Nat → Nat} {d : Int32} (hS : MS A lv S d) (hSB : SB k m S) (hl : lv < 2) (hr : r < 5) (ht : t < 6) : ∃ A', MS A' lv (s1 (s1 S (5 + r) (S (5 + r) ||| 2 ^ t)) r (S r &&& (63 - 2 ^ t))) d ∧ FrL lv A A' ∧ fX7_denyOn N A (nI lv) (nI r) (nI t) = some A' := by
  have hs := hSB.1 r (by omega)
  have hdn := hSB.1 (5 + r) (by omega)
  have m1 := MS_w hS (5 + r) (S (5 + r) ||| 2 ^ t) (by omega)
  have m2 := MS_w m1 r (S r &&& (63 - 2 ^ t)) (by omega)
  refine ⟨_, m2, FrL_tr (FrL_wr A _ (by omega)) (FrL_wr _ _ (by omega)), ?_⟩
  unfold fX7_denyOn
  rw [ox2, ox1, rd_e rfl (by omega) (by omega) (hS.1 (5 + r) (by omega)), Option.bind_some, shl1 t ht, or_N _ hdn _ (p2_64 ht), wr_e _ _ rfl (by omega) (by omega), Option.bind_some, rd_e (v := nI (S r)) rfl (by omega) (by omega) (by rw [upd_n _ _ (by omega)]; exact hS.1 r (by omega)), Option.bind_some, an_N _ hs _ (p2_64 ht), wr_e _ _ rfl (by omega) (by omega), Option.bind_some, va_up_self]
theorem c_putDenied (N : Nat) {k m r t : Nat} {I : Nat → Int32} {A : Nat → Nat → Int32} {S : Nat → Nat} {d : Int32} (hS : CS I A S d) (hSB : SB k m S) (hr : r < 5) (ht : t < 6) : fX4_putDenied N A (nI r) (nI t) = some (va_up (va_up A 1 (upd (A 1) r (nI (S (5 + r) ||| 2 ^ t)))) 0 (upd (A 0) r (nI (S r &&& (63 - 2 ^ t))))) := by
  have hs := hSB.1 r (by omega)
  have hdn := hSB.1 (5 + r) (by omega)
  unfold fX4_putDenied fX4_putDenied_41
  rw [p_X6_isIndex, if_neg (nI_pos (by omega)), if_neg (show ¬ (5 : Int32) ≤ nI r from nI_ge (b := 5) (by omega) (by omega)), Option.bind_some, if_neg (by decide), c_isTable N ht, Option.bind_some, if_neg (by decide), rd_e rfl (by omega) (by omega) (hS.2.1 r (by omega)), Option.bind_some, shl1 t ht, or_N _ hdn _ (p2_64 ht), wr_e _ _ rfl (by omega) (by omega), Option.bind_some, rd_e rfl (by omega) (by omega) (hS.1 r (by omega)), Option.bind_some, an_N _ hs _ (p2_64 ht), wr_e _ _ rfl (by omega) (by omega), Option.bind_some]
theorem r_dawn (N : Nat) {I : Nat → Int32} {A : Nat → Nat → Int32} {L : Int64} {A6 : Nat → Nat → Int32} {L6 : Int64} {rI : Nat → Int32} {rA : Nat → Nat → Int32} {tI : Nat → Int32} {tA : Nat → Nat → Int32} {wI : Nat → Int32} {wA : Nat → Nat → Int32} {aI : Nat → Int32} {aS : Nat → Nat → Int32} {aT : Nat → Nat → Nat → Int32} {eI : Nat → Int32} {eA : Nat → Nat → Int32} {sS : Nat → Nat → Int32} {sT : Nat → Nat → Nat → Int32} (hN : 10200 ≤ N) (hR : Rel I A L A6 L6 rI rA tI tA wI wA aI aS aT eI eA sS sT) : ∃ r I' A' wI' wA' aI' aS' aT', fX7_dawn N I A = some (r, I', A') ∧ fX6_dawn N tI tA wI wA aI aS aT = some (r, wI', wA', aI', aS', aT') ∧ Rel I' A' L A6 L6 rI rA tI tA wI' wA' aI' aS' aT' eI eA sS sT := by
  obtain ⟨k, m, T, S, d, hB, hSB, hMT, hCT, hMS, hCS, hRT, hRA, hRH, hRK, hL⟩ := hR
  obtain ⟨I', A1, aI', aS', aT', f1, f2, f3, f4, f5⟩ := b_keep N (by omega) hRA hMS hCS hSB
  obtain ⟨A', g1, g2, g3⟩ := m_dawnOn N (by omega) hB (MT_13 f3 f4 hMT) (MS_13 f3 hMS) hSB (by omega)
  obtain ⟨wI', wA', q1, q2⟩ := c_passDawn N (by omega) hB hCT hCS hSB
  refine ⟨nI (stk k m T S), I', A', wI', wA', aI', aS', aT', ?_, ?_, R_act hB hMT hCT hRT hRH hRK hL f3 f4 f5 g2 g1 q1 (SB_dw d hB hSB)⟩
  · unfold fX7_dawn
    rw [f1, Option.bind_some, show fX7_dawnOn N I' A1 0 = _ from g3, Option.bind_some]
  · unfold fX6_dawn
    rw [f2, Option.bind_some, q2, Option.bind_some]
theorem r_say (N : Nat) {I : Nat → Int32} {A : Nat → Nat → Int32} {L : Int64} {A6 : Nat → Nat → Int32} {L6 : Int64} {rI : Nat → Int32} {rA : Nat → Nat → Int32} {tI : Nat → Int32} {tA : Nat → Nat → Int32} {wI : Nat → Int32} {wA : Nat → Nat → Int32} {aI : Nat → Int32} {aS : Nat → Nat → Int32} {aT : Nat → Nat → Nat → Int32} {eI : Nat → Int32} {eA : Nat → Nat → Int32} {sS : Nat → Nat → Int32} {sT : Nat → Nat → Nat → Int32} (hN : 10200 ≤ N) (hR : Rel I A L A6 L6 rI rA tI tA wI wA aI aS aT eI eA sS sT) (x y : Int32) : ∃ r I' A' wA' aI' aS' aT', fX7_say N I A x y = some (r, I', A') ∧ fX6_say N tI tA wI wA aI aS aT x y = some (r, wA', aI', aS', aT') ∧ Rel I' A' L A6 L6 rI rA tI tA wI wA' aI' aS' aT' eI eA sS sT := by
  obtain ⟨k, m, T, S, d, hB, hSB, hMT, hCT, hMS, hCS, hRT, hRA, hRH, hRK, hL⟩ := id hR
  have hk := hB.1
  unfold fX7_say fX6_say
  rw [m_isR N x hB hMT, c_isR N x hB hCT, m_isT, c_isT, Option.bind_some, Option.bind_some, Option.bind_some, Option.bind_some]
  by_cases hx : x < 0 ∨ nI k ≤ x
  · rw [if_pos hx]; exact ⟨-1, I, A, wA, aI, aS, aT, rfl, rfl, hR⟩
  rw [if_neg hx, n10, n10]
  by_cases hy : y < 0 ∨ nI 6 ≤ y
  · rw [if_pos hy]; exact ⟨-2, I, A, wA, aI, aS, aT, rfl, rfl, hR⟩
  rw [if_neg hy, n10, n10]
  obtain ⟨r, hr, rfl⟩ := ix_of (by omega) hx
  obtain ⟨t, ht, rfl⟩ := ix_of (by omega) hy
  have hs := hSB.1 r (by omega)
  have hcs : fX7_canSay N A 0 (nI r) (nI t) = _ := m_canSay N (lv := 0) hB hMT hMS hSB (by omega) hr ht
  rw [hcs, c_canBeSaid N hB hCT hCS hSB hr ht, Option.bind_some, Option.bind_some]
  cases hc : csN (T 2 r) d (S r) (S (5 + r)) t with
  | false => rw [if_neg Bool.false_ne_true]; exact ⟨-3, I, A, wA, aI, aS, aT, rfl, rfl, hR⟩
  | true =>
    rw [if_pos rfl, n10, n10]
    obtain ⟨I', A1, aI', aS', aT', f1, f2, f3, f4, f5⟩ := b_keep N (by omega) hRA hMS hCS hSB
    have hu := or_lt hs (p2_64 ht)
    have m1 := MS_13 f3 hMS
    have m2 := MS_w m1 r (S r ||| 2 ^ t) (by omega)
    rw [show 31 * 0 + r = r by omega] at m2
    have e1 : A1 5 r = nI (S r) := by have := m1.1 r (by omega); rwa [show 31 * 0 + r = r by omega] at this
    have fr : FrL 0 A1 (va_up A1 5 (upd (A1 5) r (nI (S r ||| 2 ^ t)))) := by
      have := FrL_wr (lv := 0) A1 (nI (S r ||| 2 ^ t)) (j := r) (by omega)
      rwa [show 31 * 0 + r = r by omega] at this
    refine ⟨nI (cn (S r ||| 2 ^ t)), I', _, va_up wA 0 (upd (wA 0) r (nI (S r ||| 2 ^ t))), aI', aS', aT', ?_, ?_, R_act hB hMT hCT hRT hRH hRK hL f3 f4 f5 fr m2 (CS_said hCS r _ (by omega)) (SB_said hSB r _ hr hk hu)⟩
    · rw [f1, Option.bind_some, rd_e rfl (by omega) (by omega) e1, Option.bind_some, shl1 t ht, or_N _ hs _ (p2_64 ht), wr_e _ _ rfl (by omega) (by omega), Option.bind_some, rd_e rfl (by omega) (by omega) (upd_s _ _ _), Option.bind_some, ones_N N (by omega) hu, Option.bind_some]
    · rw [f2, Option.bind_some]
      unfold fX4_putSaid fX4_putSaid_27
      rw [p_X6_isIndex, if_neg (nI_pos (by omega)), if_neg (show ¬ (5 : Int32) ≤ nI r from nI_ge (b := 5) (by omega) (by omega)), Option.bind_some, if_neg (by decide), c_isTable N ht, Option.bind_some, if_neg (by decide), rd_e rfl (by omega) (by omega) (hCS.1 r (by omega)), Option.bind_some, shl1 t ht, or_N _ hs _ (p2_64 ht), wr_e _ _ rfl (by omega) (by omega), Option.bind_some, Option.bind_some, p_X4_saidOf N r (by omega), Option.bind_some, va_up_self, upd_s, bc_N N hu, Option.bind_some]
theorem r_deny (N : Nat) {I : Nat → Int32} {A : Nat → Nat → Int32} {L : Int64} {A6 : Nat → Nat → Int32} {L6 : Int64} {rI : Nat → Int32} {rA : Nat → Nat → Int32} {tI : Nat → Int32} {tA : Nat → Nat → Int32} {wI : Nat → Int32} {wA : Nat → Nat → Int32} {aI : Nat → Int32} {aS : Nat → Nat → Int32} {aT : Nat → Nat → Nat → Int32} {eI : Nat → Int32} {eA : Nat → Nat → Int32} {sS : Nat → Nat → Int32} {sT : Nat → Nat → Nat → Int32} (hN : 10200 ≤ N) (hR : Rel I A L A6 L6 rI rA tI tA wI wA aI aS aT eI eA sS sT) (x y : Int32) : ∃ r I' A' wA' aI' aS' aT', fX7_deny N I A x y = some (r, I', A') ∧ fX6_deny N tI tA wI wA aI aS aT x y = some (r, wA', aI', aS', aT') ∧ Rel I' A' L A6 L6 rI rA tI tA wI wA' aI' aS' aT' eI eA sS sT := by
  obtain ⟨k, m, T, S, d, hB, hSB, hMT, hCT, hMS, hCS, hRT, hRA, hRH, hRK, hL⟩ := id hR
  have hk := hB.1
  unfold fX7_deny fX6_deny
  rw [m_isR N x hB hMT, c_isR N x hB hCT, m_isT, c_isT, Option.bind_some, Option.bind_some, Option.bind_some, Option.bind_some]
  by_cases hx : x < 0 ∨ nI k ≤ x
  · rw [if_pos hx]; exact ⟨-1, I, A, wA, aI, aS, aT, rfl, rfl, hR⟩
  rw [if_neg hx, n10, n10]
  by_cases hy : y < 0 ∨ nI 6 ≤ y
  · rw [if_pos hy]; exact ⟨-2, I, A, wA, aI, aS, aT, rfl, rfl, hR⟩
  rw [if_neg hy, n10, n10]
  obtain ⟨r, hr, rfl⟩ := ix_of (by omega) hx
  obtain ⟨t, ht, rfl⟩ := ix_of (by omega) hy
  have hs := hSB.1 r (by omega)
  have hdn := hSB.1 (5 + r) (by omega)
  have hcs : fX7_canDeny N A 0 (nI r) (nI t) = _ := m_canDeny N (lv := 0) hB hMT hMS hSB (by omega) hr ht
  rw [hcs, c_canBeDenied N hB hCT hCS hSB hr ht, Option.bind_some, Option.bind_some]
  cases hc : cdN (T 1 r) (T 2 r) d (S (5 + r)) t with
  | false => rw [if_neg Bool.false_ne_true]; exact ⟨-3, I, A, wA, aI, aS, aT, rfl, rfl, hR⟩
  | true =>
    rw [if_pos rfl, n10, n10]
    obtain ⟨I', A1, aI', aS', aT', f1, f2, f3, f4, f5⟩ := b_keep N (by omega) hRA hMS hCS hSB
    have hu := or_lt hdn (p2_64 ht)
    have hv : S r &&& (63 - 2 ^ t) < 64 := and_lt hs
    obtain ⟨A', q1, q2, q3⟩ := m_denyOn N (lv := 0) (MS_13 f3 hMS) hSB (by omega) (r := r) (by omega) ht
    have c2 : CS wI (va_up (va_up wA 1 (upd (wA 1) r (nI (S (5 + r) ||| 2 ^ t)))) 0 (upd (wA 0) r (nI (S r &&& (63 - 2 ^ t))))) (s1 (s1 S (5 + r) (S (5 + r) ||| 2 ^ t)) r (S r &&& (63 - 2 ^ t))) d := by
      have := CS_said (CS_den hCS r (S (5 + r) ||| 2 ^ t) (by omega)) r (S r &&& (63 - 2 ^ t)) (by omega)
      rwa [va_up_ne _ _ (by omega)] at this
    have e3 : A' 5 r = nI (S r &&& (63 - 2 ^ t)) := by
      have := q1.1 r (by omega)
      rwa [show 31 * 0 + r = r by omega, s1_s] at this
    refine ⟨nI (cn (S r &&& (63 - 2 ^ t))), I', A', _, aI', aS', aT', ?_, ?_, R_act hB hMT hCT hRT hRH hRK hL f3 f4 f5 q2 q1 c2 (SB_said (SB_den hSB r _ (by omega) hu) r _ hr hk hv)⟩
    · rw [f1, Option.bind_some, show fX7_denyOn N A1 0 (nI r) (nI t) = _ from q3, Option.bind_some, rd_e rfl (by omega) (by omega) e3, Option.bind_some, ones_N N (by omega) hv, Option.bind_some]
    · rw [f2, Option.bind_some, c_putDenied N hCS hSB (by omega) ht, Option.bind_some, p_X4_saidOf N r (by omega), Option.bind_some, va_up_self, upd_s, bc_N N hv, Option.bind_some]
