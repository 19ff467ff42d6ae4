-- small methods
theorem r_write (N : Nat) {I : Nat → Int32} {A : Nat → Nat → Int32} {L : Int64} {A6 : Nat → Nat → Int32} {L6 : Int64} {rI : Nat → Int32} {rA : Nat → Nat → Int32} {tI : Nat → Int32} {tA : Nat → Nat → Int32} {wI : Nat → Int32} {wA : Nat → Nat → Int32} {aI : Nat → Int32} {aS : Nat → Nat → Int32} {aT : Nat → Nat → Nat → Int32} {eI : Nat → Int32} {eA : Nat → Nat → Int32} {sS : Nat → Nat → Int32} {sT : Nat → Nat → Nat → Int32} (hN : 10200 ≤ N) (hR : Rel I A L A6 L6 rI rA tI tA wI wA aI aS aT eI eA sS sT) (x : Int32) : ∃ r I' A' rI' rA', fX7_write N I A x = some (r, I', A') ∧ fX6_write N rI rA x = some (r, rI', rA') ∧ Rel I' A' L A6 L6 rI' rA' tI tA wI wA aI aS aT eI eA sS sT := by
  obtain ⟨k, m, T, S, d, hB, hSB, hMT, hCT, hMS, hCS, hRT, hRA, hRH, hRK, hL⟩ := id hR
  have h1 := p_X7_ix N x 256 (by omega)
  rw [show Int32.toInt64 (nI 256 - 1) = 255 by decide +kernel] at h1
  have h2 : fX6_isOutside N x 0 255 = _ := out_n N x 255 (by omega)
  unfold fX7_write fX6_write fX3_append
  rw [h1, h2, Option.bind_some, Option.bind_some]
  by_cases hx : x < 0 ∨ nI 256 ≤ x
  · rw [if_pos hx, if_pos (show x < 0 ∨ nI (255 + 1) ≤ x from hx)]; exact ⟨-2, I, A, rI, rA, rfl, rfl, hR⟩
  rw [if_neg hx, if_neg (show ¬ (x < 0 ∨ nI (255 + 1) ≤ x) from hx), n10, z00]
  obtain ⟨c, hc, rfl⟩ := ix_of (by omega) hx
  obtain ⟨len, hl, e1, e2, e3⟩ := hRT
  rw [e1, e2, p_X6_isIndex, if_neg (nI_pos (by omega)), Option.bind_some]
  by_cases h48 : len = 48
  · rw [if_pos (show nI len = 48 by rw [h48]; rfl), if_pos (show (48 : Int32) ≤ nI len by rw [h48]; decide)]
    exact ⟨-4, I, A, rI, rA, rfl, rfl, hR⟩
  rw [if_neg (show ¬ nI len = 48 from fun h => h48 ((nI_eq (b := 48) (by omega) (by omega)).mp h)), if_neg (show ¬ (48 : Int32) ≤ nI len from nI_ge (b := 48) (by omega) (by omega)), n10, wr_e _ _ rfl (by omega) (by omega), wr_e _ _ rfl (by omega) (by omega), Option.bind_some, Option.bind_some, nI_1, Option.bind_some]
  have gi : ∀ i, i ≠ 4 → upd I 4 (nI (len + 1)) i = I i := fun i h => upd_n _ _ h
  have ga : ∀ a, a ≠ 12 → va_up A 12 (upd (A 12) len (nI c)) a = A a := fun a h => va_up_ne _ _ h
  refine ⟨nI (len + 1), upd I 4 (nI (len + 1)), va_up A 12 (upd (A 12) len (nI c)), upd rI 4 (nI (len + 1)), va_up rA 0 (upd (rA 0) len (nI c)), rfl, rfl, k, m, T, S, d, hB, hSB, ?_, hCT, ?_, hCS, ?_, ?_, ?_, ?_, hL⟩
  · unfold MT
    rw [gi 0 (by omega), gi 1 (by omega), ga 0 (by omega), ga 1 (by omega), ga 2 (by omega), ga 3 (by omega), ga 4 (by omega)]; exact hMT
  · unfold MS
    rw [ga 5 (by omega)]; exact hMS
  · refine ⟨len + 1, by omega, upd_s _ _ _, upd_s _ _ _, fun j hj => ?_⟩
    rw [va_up_self, va_up_self]
    by_cases e : j = len
    · subst e; rw [upd_s, upd_s]; exact ⟨c, hc, rfl, rfl⟩
    · rw [upd_n _ _ e, upd_n _ _ e]; exact e3 j (by omega)
  · rw [gi 7 (by omega), gi 8 (by omega), ga 13 (by omega)]; exact hRA
  · rw [gi 9 (by omega), ga 14 (by omega), ga 15 (by omega), ga 16 (by omega), ga 17 (by omega)]; exact hRH
  · rw [ga 20 (by omega), ga 21 (by omega)]; exact hRK
theorem r_wipe (N : Nat) {I : Nat → Int32} {A : Nat → Nat → Int32} {L : Int64} {A6 : Nat → Nat → Int32} {L6 : Int64} {rI : Nat → Int32} {rA : Nat → Nat → Int32} {tI : Nat → Int32} {tA : Nat → Nat → Int32} {wI : Nat → Int32} {wA : Nat → Nat → Int32} {aI : Nat → Int32} {aS : Nat → Nat → Int32} {aT : Nat → Nat → Nat → Int32} {eI : Nat → Int32} {eA : Nat → Nat → Int32} {sS : Nat → Nat → Int32} {sT : Nat → Nat → Nat → Int32} (hN : 10200 ≤ N) (hR : Rel I A L A6 L6 rI rA tI tA wI wA aI aS aT eI eA sS sT) : ∃ r I' rI', fX7_wipe N I = some (r, I') ∧ fX6_wipe N rI = some (r, rI') ∧ Rel I' A L A6 L6 rI' rA tI tA wI wA aI aS aT eI eA sS sT := by
  obtain ⟨k, m, T, S, d, hB, hSB, hMT, hCT, hMS, hCS, hRT, hRA, hRH, hRK, hL⟩ := id hR
  obtain ⟨len, hl, e1, e2, e3⟩ := hRT
  unfold fX7_wipe fX6_wipe
  rw [e1, e2]
  have gi : ∀ i, i ≠ 4 → upd I 4 0 i = I i := fun i h => upd_n _ _ h
  refine ⟨_, _, _, rfl, rfl, k, m, T, S, d, hB, hSB, ?_, hCT, hMS, hCS, ⟨0, by omega, upd_s _ _ _, upd_s _ _ _, fun j hj => by omega⟩, ?_, ?_, hRK, hL⟩
  · unfold MT
    rw [gi 0 (by omega), gi 1 (by omega)]; exact hMT
  · rw [gi 7 (by omega), gi 8 (by omega)]; exact hRA
  · rw [gi 9 (by omega)]; exact hRH
theorem r_seed (N : Nat) {I : Nat → Int32} {A : Nat → Nat → Int32} {L : Int64} {A6 : Nat → Nat → Int32} {L6 : Int64} {rI : Nat → Int32} {rA : Nat → Nat → Int32} {tI : Nat → Int32} {tA : Nat → Nat → Int32} {wI : Nat → Int32} {wA : Nat → Nat → Int32} {aI : Nat → Int32} {aS : Nat → Nat → Int32} {aT : Nat → Nat → Nat → Int32} {eI : Nat → Int32} {eA : Nat → Nat → Int32} {sS : Nat → Nat → Int32} {sT : Nat → Nat → Nat → Int32} (hN : 10200 ≤ N) (hR : Rel I A L A6 L6 rI rA tI tA wI wA aI aS aT eI eA sS sT) (v : Int64) : ∃ r L' L6', fX7_seed N L v = some (r, L') ∧ fX6_seed N L6 v = some (r, L6') ∧ Rel I A L' A6 L6' rI rA tI tA wI wA aI aS aT eI eA sS sT := by
  obtain ⟨k, m, T, S, d, hB, hSB, hMT, hCT, hMS, hCS, hRT, hRA, hRH, hRK, hL⟩ := hR
  subst hL
  exact ⟨_, _, _, rfl, rfl, k, m, T, S, d, hB, hSB, hMT, hCT, hMS, hCS, hRT, hRA, hRH, hRK, rfl⟩
theorem r_table (N : Nat) {I : Nat → Int32} {A : Nat → Nat → Int32} {L : Int64} {A6 : Nat → Nat → Int32} {L6 : Int64} {rI : Nat → Int32} {rA : Nat → Nat → Int32} {tI : Nat → Int32} {tA : Nat → Nat → Int32} {wI : Nat → Int32} {wA : Nat → Nat → Int32} {aI : Nat → Int32} {aS : Nat → Nat → Int32} {aT : Nat → Nat → Nat → Int32} {eI : Nat → Int32} {eA : Nat → Nat → Int32} {sS : Nat → Nat → Int32} {sT : Nat → Nat → Nat → Int32} (hN : 10200 ≤ N) (hR : Rel I A L A6 L6 rI rA tI tA wI wA aI aS aT eI eA sS sT) (x : Int32) : ∃ r, fX7_table N I A x = some r ∧ fX6_table N tI tA x = some r := by
  obtain ⟨k, m, T, S, d, hB, hSB, hMT, hCT, hMS, hCS, hRT, hRA, hRH, hRK, hL⟩ := hR
  have hm := hB.2.1
  unfold fX7_table fX6_table fX7_table_18 fX6_table_24
  rw [m_isP N x hB hMT, c_isP N x hB hCT, Option.bind_some, Option.bind_some]
  by_cases hx : x < 0 ∨ nI m ≤ x
  · rw [if_pos hx]; exact ⟨-1, rfl, rfl⟩
  rw [if_neg hx, n10, n10]
  obtain ⟨p, hp, rfl⟩ := ix_of (by omega) hx
  rw [rd_e rfl (by omega) (by omega) (hMT.2.2.2 p hp), rd_e rfl (by omega) (by omega) (hCT.2.2.2 p hp)]
  exact ⟨_, rfl, rfl⟩
theorem r_coins (N : Nat) {I : Nat → Int32} {A : Nat → Nat → Int32} {L : Int64} {A6 : Nat → Nat → Int32} {L6 : Int64} {rI : Nat → Int32} {rA : Nat → Nat → Int32} {tI : Nat → Int32} {tA : Nat → Nat → Int32} {wI : Nat → Int32} {wA : Nat → Nat → Int32} {aI : Nat → Int32} {aS : Nat → Nat → Int32} {aT : Nat → Nat → Nat → Int32} {eI : Nat → Int32} {eA : Nat → Nat → Int32} {sS : Nat → Nat → Int32} {sT : Nat → Nat → Nat → Int32} (hN : 10200 ≤ N) (hR : Rel I A L A6 L6 rI rA tI tA wI wA aI aS aT eI eA sS sT) (x y : Int32) : ∃ r, fX7_coins N I A x y = some r ∧ fX6_coins N tI wA x y = some r := by
  obtain ⟨k, m, T, S, d, hB, hSB, hMT, hCT, hMS, hCS, hRT, hRA, hRH, hRK, hL⟩ := hR
  have hk := hB.1
  have hm := hB.2.1
  unfold fX7_coins fX6_coins fX7_coins_31 fX7_coins_32 fX6_coins_22
  rw [m_isP N x hB hMT, c_isP N x hB hCT, m_isR N y hB hMT, c_isR N y hB hCT, Option.bind_some, Option.bind_some, Option.bind_some, Option.bind_some]
  by_cases hx : x < 0 ∨ nI m ≤ x
  · rw [if_pos hx]; exact ⟨-1, rfl, rfl⟩
  rw [if_neg hx, n10, n10]
  by_cases hy : y < 0 ∨ nI k ≤ y
  · rw [if_pos hy]; exact ⟨-1, rfl, rfl⟩
  rw [if_neg hy, n10, n10]
  obtain ⟨p, hp, rfl⟩ := ix_of (by omega) hx
  obtain ⟨r, hr, rfl⟩ := ix_of (by omega) hy
  unfold fX7_coinAt
  rw [Option.bind_some, show 31 * (0 : Int32) + 10 + 5 * nI p + nI r = nI (31 * 0 + (10 + (5 * p + r))) from ox3 0 p r, rd_e rfl (by omega) (by omega) (hMS.1 _ (by omega)), c_coinsOf N hCS (by omega) (by omega)]
  exact ⟨_, rfl, rfl⟩
theorem r_rumour (N : Nat) {I : Nat → Int32} {A : Nat → Nat → Int32} {L : Int64} {A6 : Nat → Nat → Int32} {L6 : Int64} {rI : Nat → Int32} {rA : Nat → Nat → Int32} {tI : Nat → Int32} {tA : Nat → Nat → Int32} {wI : Nat → Int32} {wA : Nat → Nat → Int32} {aI : Nat → Int32} {aS : Nat → Nat → Int32} {aT : Nat → Nat → Nat → Int32} {eI : Nat → Int32} {eA : Nat → Nat → Int32} {sS : Nat → Nat → Int32} {sT : Nat → Nat → Nat → Int32} (hN : 10200 ≤ N) (hR : Rel I A L A6 L6 rI rA tI tA wI wA aI aS aT eI eA sS sT) (x y : Int32) : ∃ r, fX7_rumour N I A x y = some r ∧ fX6_rumour N tI tA wI wA x y = some r := by
  obtain ⟨k, m, T, S, d, hB, hSB, hMT, hCT, hMS, hCS, hRT, hRA, hRH, hRK, hL⟩ := hR
  have hk := hB.1
  unfold fX7_rumour fX6_rumour fX7_rumour_110 fX6_rumour_144 fX6_rumour_82
  rw [m_isR N x hB hMT, c_isR N x hB hCT, Option.bind_some, Option.bind_some]
  by_cases hx : x < 0 ∨ nI k ≤ x
  · rw [if_pos hx]; exact ⟨-1, rfl, rfl⟩
  rw [if_neg hx, n10, n10]
  obtain ⟨r, hr, rfl⟩ := ix_of (by omega) hx
  obtain ⟨e1, e2, e3, e4⟩ := hMT.2.2.1 r hr
  obtain ⟨b1, b2, b3, b4⟩ := hCT.2.2.1 r hr
  have l1 := (hB.2.2.1 r hr).2.2.1
  have m0 := hMS.1 r (by omega)
  have m5 := hMS.1 (5 + r) (by omega)
  rw [show 31 * 0 + r = r by omega] at m0
  rw [show 31 * 0 + (5 + r) = 5 + r by omega] at m5
  have hp7 : fX7_isProved N A 0 (nI r) = _ := m_isProved N (lv := 0) hB hMT hMS (by omega) hr
  rw [rd_e rfl (by omega) (by omega) e1, rd_e rfl (by omega) (by omega) e2, rd_e rfl (by omega) (by omega) e3, rd_e rfl (by omega) (by omega) m0, show (5 : Int32) + nI r = nI (5 + r) from nI_add 5 r, rd_e rfl (by omega) (by omega) m5, rd_e rfl (by omega) (by omega) e4, hp7,
    rd_e rfl (by omega) (by omega) b1, c_isLie N hB hCT hr, rd_e rfl (by omega) (by omega) b3, c_saidOf N hCS (by omega), c_deniedOf N hCS (by omega), rd_e rfl (by omega) (by omega) b4, hCS.2.2.2, c_isProved N d hB hCT hr]
  simp only [Option.bind_some]
  by_cases y0 : y = 0
  · rw [if_pos y0, if_pos y0]; exact ⟨_, rfl, rfl⟩
  rw [if_neg y0, if_neg y0]
  by_cases y1 : y = 1
  · rw [if_pos y1, if_pos y1]
    have : T 1 r = 0 ∨ T 1 r = 1 := by omega
    rcases this with h | h <;> rw [h]
    · exact ⟨0, rfl, rfl⟩
    · exact ⟨1, rfl, rfl⟩
  rw [if_neg y1, if_neg y1]
  by_cases y2 : y = 2
  · rw [if_pos y2]; exact ⟨_, rfl, rfl⟩
  rw [if_neg y2]
  by_cases y3 : y = 3
  · rw [if_pos y3]; exact ⟨_, rfl, rfl⟩
  rw [if_neg y3]
  by_cases y4 : y = 4
  · rw [if_pos y4]; exact ⟨_, rfl, rfl⟩
  rw [if_neg y4]
  by_cases y5 : y = 5
  · rw [if_pos y5]; exact ⟨_, rfl, rfl⟩
  rw [if_neg y5]
  by_cases y6 : y = 6
  · rw [if_pos y6]; cases pv (T 2 r) d <;> exact ⟨_, rfl, rfl⟩
  rw [if_neg y6]; exact ⟨_, rfl, rfl⟩
theorem wrZ_e {n x : Nat} {y : Int32} (hy : y = 0 ∨ y = 1) (hx : x < n) (hn : n < 2 ^ 31) (f : Nat → Int32) : wrZ n f (nI x) y = some (upd f x y) := by
  unfold wrZ
  rw [if_pos hy, wr_n hx hn]
theorem r_hear (N : Nat) {I : Nat → Int32} {A : Nat → Nat → Int32} {L : Int64} {A6 : Nat → Nat → Int32} {L6 : Int64} {rI : Nat → Int32} {rA : Nat → Nat → Int32} {tI : Nat → Int32} {tA : Nat → Nat → Int32} {wI : Nat → Int32} {wA : Nat → Nat → Int32} {aI : Nat → Int32} {aS : Nat → Nat → Int32} {aT : Nat → Nat → Nat → Int32} {eI : Nat → Int32} {eA : Nat → Nat → Int32} {sS : Nat → Nat → Int32} {sT : Nat → Nat → Nat → Int32} (hN : 10200 ≤ N) (hR : Rel I A L A6 L6 rI rA tI tA wI wA aI aS aT eI eA sS sT) (x y z w : Int32) (hw : w = 0 ∨ w = 1) : ∃ r I' A' eI' eA', fX7_hear N I A x y z w = some (r, I', A') ∧ fX6_hear N tI eI eA x y z w = some (r, eI', eA') ∧ Rel I' A' L A6 L6 rI rA tI tA wI wA aI aS aT eI' eA' sS sT := by
  obtain ⟨k, m, T, S, d, hB, hSB, hMT, hCT, hMS, hCS, hRT, hRA, hRH, hRK, hL⟩ := id hR
  have hk := hB.1
  unfold fX7_hear fX6_hear fX7_hear_29 fX6_hear_30 fX2_append
  rw [m_isR N x hB hMT, c_isR N x hB hCT, m_isT, c_isT, m_far, c_far, Option.bind_some, Option.bind_some, Option.bind_some, Option.bind_some, Option.bind_some, Option.bind_some]
  by_cases hx : x < 0 ∨ nI k ≤ x
  · rw [if_pos hx]; exact ⟨-1, I, A, eI, eA, rfl, rfl, hR⟩
  rw [if_neg hx, n10, n10]
  by_cases hy : y < 0 ∨ nI 6 ≤ y
  · rw [if_pos hy]; exact ⟨-2, I, A, eI, eA, rfl, rfl, hR⟩
  rw [if_neg hy, n10, n10]
  by_cases hz : z < 0 ∨ nI 9 ≤ z
  · rw [if_pos hz, if_pos hz]; exact ⟨-2, I, A, eI, eA, rfl, rfl, hR⟩
  rw [if_neg hz, if_neg hz, n10, z00]
  obtain ⟨r, hr, rfl⟩ := ix_of (by omega) hx
  obtain ⟨t, ht, rfl⟩ := ix_of (by omega) hy
  obtain ⟨q, hq, rfl⟩ := ix_of (by omega) hz
  obtain ⟨h, hh, e1, e2, e3⟩ := hRH
  rw [e1, e2, p_X6_isIndex, if_neg (nI_pos (by omega)), Option.bind_some]
  by_cases h6 : h = 6
  · rw [if_pos (show nI h = 6 by rw [h6]; rfl), if_pos (show (6 : Int32) ≤ nI h by rw [h6]; decide)]
    exact ⟨-4, I, A, eI, eA, rfl, rfl, hR⟩
  rw [if_neg (show ¬ nI h = 6 from fun h0 => h6 ((nI_eq (b := 6) (by omega) (by omega)).mp h0)), if_neg (show ¬ (6 : Int32) ≤ nI h from nI_ge (b := 6) (by omega) (by omega)), n10]
  rw [wr_e (A 14) _ rfl (by omega) (by omega), Option.bind_some, wr_e (A 15) _ rfl (by omega) (by omega), Option.bind_some, wr_e (A 16) _ rfl (by omega) (by omega), Option.bind_some, wrZ_e hw (by omega) (by omega), Option.bind_some, wr_e (eA 0) _ rfl (by omega) (by omega), Option.bind_some, wr_e (eA 1) _ rfl (by omega) (by omega), Option.bind_some, wr_e (eA 2) _ rfl (by omega) (by omega), Option.bind_some, wrZ_e hw (by omega) (by omega), Option.bind_some, Option.bind_some, nI_1]
  obtain ⟨s, hs, rfl⟩ : ∃ s, s < 2 ∧ w = nI s := by
    rcases hw with rfl | rfl
    · exact ⟨0, by omega, rfl⟩
    · exact ⟨1, by omega, rfl⟩
  have gi : ∀ i, i ≠ 9 → upd I 9 (nI (h + 1)) i = I i := fun i h => upd_n _ _ h
  have ga : ∀ a, a ≠ 14 → a ≠ 15 → a ≠ 16 → a ≠ 17 → va_up (va_up (va_up (va_up A 14 (upd (A 14) h (nI r))) 15 (upd (A 15) h (nI t))) 16 (upd (A 16) h (nI q))) 17 (upd (A 17) h (nI s)) a = A a := fun a h1 h2 h3 h4 => by rw [va_up_ne _ _ h4, va_up_ne _ _ h3, va_up_ne _ _ h2, va_up_ne _ _ h1]
  have g14 : va_up (va_up (va_up (va_up A 14 (upd (A 14) h (nI r))) 15 (upd (A 15) h (nI t))) 16 (upd (A 16) h (nI q))) 17 (upd (A 17) h (nI s)) 14 = upd (A 14) h (nI r) := rfl
  have g15 : va_up (va_up (va_up (va_up A 14 (upd (A 14) h (nI r))) 15 (upd (A 15) h (nI t))) 16 (upd (A 16) h (nI q))) 17 (upd (A 17) h (nI s)) 15 = upd (A 15) h (nI t) := rfl
  have g16 : va_up (va_up (va_up (va_up A 14 (upd (A 14) h (nI r))) 15 (upd (A 15) h (nI t))) 16 (upd (A 16) h (nI q))) 17 (upd (A 17) h (nI s)) 16 = upd (A 16) h (nI q) := rfl
  have g17 : va_up (va_up (va_up (va_up A 14 (upd (A 14) h (nI r))) 15 (upd (A 15) h (nI t))) 16 (upd (A 16) h (nI q))) 17 (upd (A 17) h (nI s)) 17 = upd (A 17) h (nI s) := rfl
  refine ⟨nI (h + 1), upd I 9 (nI (h + 1)), va_up (va_up (va_up (va_up A 14 (upd (A 14) h (nI r))) 15 (upd (A 15) h (nI t))) 16 (upd (A 16) h (nI q))) 17 (upd (A 17) h (nI s)), upd eI 0 (nI (h + 1)), va_up (va_up (va_up (va_up eA 0 (upd (eA 0) h (nI r))) 1 (upd (eA 1) h (nI t))) 2 (upd (eA 2) h (nI q))) 3 (upd (eA 3) h (nI s)), rfl, rfl, k, m, T, S, d, hB, hSB, ?_, hCT, ?_, hCS, ?_, ?_, ?_, ?_, hL⟩
  · unfold MT
    rw [gi 0 (by omega), gi 1 (by omega), ga 0 (by omega) (by omega) (by omega) (by omega), ga 1 (by omega) (by omega) (by omega) (by omega), ga 2 (by omega) (by omega) (by omega) (by omega), ga 3 (by omega) (by omega) (by omega) (by omega), ga 4 (by omega) (by omega) (by omega) (by omega)]; exact hMT
  · unfold MS
    rw [ga 5 (by omega) (by omega) (by omega) (by omega)]; exact hMS
  · rw [gi 4 (by omega), ga 12 (by omega) (by omega) (by omega) (by omega)]; exact hRT
  · rw [gi 7 (by omega), gi 8 (by omega), ga 13 (by omega) (by omega) (by omega) (by omega)]; exact hRA
  · rw [g14, g15, g16, g17]
    refine ⟨h + 1, by omega, upd_s _ _ _, upd_s _ _ _, fun j hj => ?_⟩
    have f0 : va_up (va_up (va_up (va_up eA 0 (upd (eA 0) h (nI r))) 1 (upd (eA 1) h (nI t))) 2 (upd (eA 2) h (nI q))) 3 (upd (eA 3) h (nI s)) 0 = upd (eA 0) h (nI r) := rfl
    have f1 : va_up (va_up (va_up (va_up eA 0 (upd (eA 0) h (nI r))) 1 (upd (eA 1) h (nI t))) 2 (upd (eA 2) h (nI q))) 3 (upd (eA 3) h (nI s)) 1 = upd (eA 1) h (nI t) := rfl
    have f2 : va_up (va_up (va_up (va_up eA 0 (upd (eA 0) h (nI r))) 1 (upd (eA 1) h (nI t))) 2 (upd (eA 2) h (nI q))) 3 (upd (eA 3) h (nI s)) 2 = upd (eA 2) h (nI q) := rfl
    have f3 : va_up (va_up (va_up (va_up eA 0 (upd (eA 0) h (nI r))) 1 (upd (eA 1) h (nI t))) 2 (upd (eA 2) h (nI q))) 3 (upd (eA 3) h (nI s)) 3 = upd (eA 3) h (nI s) := rfl
    rw [f0, f1, f2, f3]
    by_cases e : j = h
    · subst e
      rw [upd_s, upd_s, upd_s, upd_s, upd_s, upd_s, upd_s, upd_s]
      exact ⟨r, t, q, s, by omega, ht, hq, hs, rfl, rfl, rfl, rfl, rfl, rfl, rfl, rfl⟩
    · rw [upd_n _ _ e, upd_n _ _ e, upd_n _ _ e, upd_n _ _ e, upd_n _ _ e, upd_n _ _ e, upd_n _ _ e, upd_n _ _ e]
      exact e3 j (by omega)
  · rw [ga 20 (by omega) (by omega) (by omega) (by omega), ga 21 (by omega) (by omega) (by omega) (by omega)]; exact hRK
theorem r_unhear (N : Nat) {I : Nat → Int32} {A : Nat → Nat → Int32} {L : Int64} {A6 : Nat → Nat → Int32} {L6 : Int64} {rI : Nat → Int32} {rA : Nat → Nat → Int32} {tI : Nat → Int32} {tA : Nat → Nat → Int32} {wI : Nat → Int32} {wA : Nat → Nat → Int32} {aI : Nat → Int32} {aS : Nat → Nat → Int32} {aT : Nat → Nat → Nat → Int32} {eI : Nat → Int32} {eA : Nat → Nat → Int32} {sS : Nat → Nat → Int32} {sT : Nat → Nat → Nat → Int32} (hN : 10200 ≤ N) (hR : Rel I A L A6 L6 rI rA tI tA wI wA aI aS aT eI eA sS sT) : ∃ r I' eI', fX7_unhear N I = some (r, I') ∧ fX6_unhear N eI = some (r, eI') ∧ Rel I' A L A6 L6 rI rA tI tA wI wA aI aS aT eI' eA sS sT := by
  obtain ⟨k, m, T, S, d, hB, hSB, hMT, hCT, hMS, hCS, hRT, hRA, hRH, hRK, hL⟩ := id hR
  obtain ⟨len, hl, e1, e2, e3⟩ := hRH
  unfold fX7_unhear fX6_unhear
  rw [e1, e2]
  have gi : ∀ i, i ≠ 9 → upd I 9 0 i = I i := fun i h => upd_n _ _ h
  refine ⟨_, _, _, rfl, rfl, k, m, T, S, d, hB, hSB, ?_, hCT, hMS, hCS, ?_, ?_, ⟨0, by omega, upd_s _ _ _, upd_s _ _ _, fun j hj => by omega⟩, hRK, hL⟩
  · unfold MT
    rw [gi 0 (by omega), gi 1 (by omega)]; exact hMT
  · rw [gi 4 (by omega)]; exact hRT
  · rw [gi 7 (by omega), gi 8 (by omega)]; exact hRA
