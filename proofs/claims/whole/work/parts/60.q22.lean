theorem r_plan (N : Nat) {I : Nat → Int32} {A : Nat → Nat → Int32} {L : Int64} {A6 : Nat → Nat → Int32} {L6 : Int64} {rI : Nat → Int32} {rA : Nat → Nat → Int32} {tI : Nat → Int32} {tA : Nat → Nat → Int32} {wI : Nat → Int32} {wA : Nat → Nat → Int32} {aI : Nat → Int32} {aS : Nat → Nat → Int32} {aT : Nat → Nat → Nat → Int32} {eI : Nat → Int32} {eA : Nat → Nat → Int32} {sS : Nat → Nat → Int32} {sT : Nat → Nat → Nat → Int32} (hN : 10200 ≤ N) (hR : Rel I A L A6 L6 rI rA tI tA wI wA aI aS aT eI eA sS sT) (bI : Nat → Int32) (x y z : Int32) : ∃ r A' A6' bI', fX7_plan N I A x y z = some (r, A') ∧ fX6_plan N A6 tI tA wI wA bI x y z = some (r, A6', bI') ∧ Rel I A' L A6' L6 rI rA tI tA wI wA aI aS aT eI eA sS sT := by
  obtain ⟨k, m, T, S, d, hB, hSB, hMT, hCT, hMS, hCS, hRT, hRA, hRH, hRK, hL⟩ := id hR
  have hk := hB.1
  have hm := hB.2.1
  unfold fX7_plan fX6_plan
  rw [m_isP N x hB hMT, c_isP N x hB hCT, m_far, c_far, Option.bind_some, Option.bind_some, Option.bind_some, Option.bind_some]
  by_cases hx : x < 0 ∨ nI m ≤ x
  · rw [if_pos hx]; exact ⟨-1, A, A6, bI, rfl, rfl, hR⟩
  rw [if_neg hx, n10, n10]
  by_cases hy : y < 0 ∨ nI 9 ≤ y
  · rw [if_pos hy, if_pos hy]; exact ⟨-2, A, A6, bI, rfl, rfl, hR⟩
  rw [if_neg hy, if_neg hy, n10, z00]
  obtain ⟨p, hp, rfl⟩ := ix_of (by omega) hx
  obtain ⟨q, hq, rfl⟩ := ix_of (by omega) hy
  obtain ⟨A1, a1, a2⟩ := m_pl0 N (by omega) hB hMT hMS hSB hp hq
  obtain ⟨A', a3, a4⟩ := m_plan_l N hN hB hMT hMS hSB hp hq z a2
  rw [a1, Option.bind_some]
  have hP := puN_le d q hB hSB (show p < 4 by omega)
  have H := lpX (fun n i (s : Nat → Nat → Int32) => fX6_plan_29 N n s tI tA wI wA bI (nI p) (nI q) z (nI i)) (fun s => (fX1_start N bI 0 1).bind fun z2 => (fX6_offerOneThing N s tI tA wI wA z2).bind fun z3 => (fX6_offerTwoThings N s tI tA wI wA z3 (nI p) (nI q)).bind fun z4 => if z = 0 then (fX6_purseIn N tI tA wI wA (nI p) (nI q)).bind fun z6 => fX6_plan_128 N s tI tA wI wA z4 (z6 + (z4 0)) else fX6_plan_128 N s tI tA wI wA z4 (z4 1))
    (fun i s => (∀ a, a ≠ 1 → s a = A6 a) ∧ ∀ j, j < i → al1 k T S d (j / 6) (j % 6) = true → s 1 j = nI (pl1 k T S d p q (j / 6) (j % 6)) - nI (puN k T S d p q)) 30 ?_ ?_ N 0 A6 (by omega) (by omega) ⟨fun _ _ => rfl, fun j hj => by omega⟩
  · obtain ⟨B, ⟨b1, b2⟩, b3⟩ := H
    obtain ⟨c1, d1, d2, d3⟩ := c_one N (A := B) (b := upd (upd bI 0 0) 1 1) (q := q) (by omega) hB hCT hCS hSB hp b2 (by rw [upd_n _ _ (by omega), upd_s]) (upd_s _ _ _)
    obtain ⟨c2, f1, f2, f3⟩ := c_two N (A := B) (by omega) hB hCT hCS hSB hp hq b2 (gC1_b d p q hB hSB (by omega) 30) d2 d3
    rw [← roads d p q hB] at f2 f3
    have hR6 : Rel I A' L B L6 rI rA tI tA wI wA aI aS aT eI eA sS sT := by
      obtain ⟨k, m, T, S, d, h1, h2, h3, h4, h5, h6, h7, h8, h9, h10, h11⟩ := R_scr hR a4
      exact ⟨k, m, T, S, d, h1, h2, h3, h4, h5, h6, h7, h8, h9, by rw [b1 0 (by omega)]; exact h10, h11⟩
    refine ⟨_, A', B, c2, a3, ?_, hR6⟩
    rw [show fX6_plan_29 N N A6 tI tA wI wA bI (nI p) (nI q) z 0 = _ from b3]
    unfold fX1_start fX6_plan_128
    rw [Option.bind_some, d1, Option.bind_some, f1, Option.bind_some, c_purseIn N (by omega) hB hCT hCS hSB hp hq, Option.bind_some, f2, f3]
    by_cases z0 : z = 0
    · rw [if_pos z0, if_pos z0]
      have e : nI (puN k T S d p q) + (nI (gS k T S d p q 10100).2 - nI (puN k T S d p q)) = nI (gS k T S d p q 10100).2 := by
        rw [Int32.add_comm, Int32.sub_add_cancel]
      rw [e]
    · rw [if_neg z0, if_neg z0]
  · intro n s h
    show fX6_plan_29s N _ s tI tA wI wA bI _ _ _ _ = _
    unfold fX6_plan_29s
    rw [if_pos (by decide +kernel)]
  · rintro n i s hi ⟨g1, g2⟩
    show ∃ s', _ ∧ fX6_plan_29s N (fX6_plan_29 N n) s tI tA wI wA bI _ _ _ _ = _
    unfold fX6_plan_29s fX6_plan_74 fX6_thingBit
    rw [if_neg (show ¬ (30 : Int32) ≤ nI i from nI_ge (b := 30) hi (by omega)), c_thing N hB hCT hCS hSB hi, Option.bind_some, Option.bind_some, wr_e _ _ rfl (by omega) (by omega), Option.bind_some, nI_1]
    have nx : ∀ v : Int32, (al1 k T S d (i / 6) (i % 6) = true → v = nI (pl1 k T S d p q (i / 6) (i % 6)) - nI (puN k T S d p q)) → (∀ a, a ≠ 1 → va_up s 1 (upd (s 1) i v) a = A6 a) ∧ ∀ j, j < i + 1 → al1 k T S d (j / 6) (j % 6) = true → va_up s 1 (upd (s 1) i v) 1 j = nI (pl1 k T S d p q (j / 6) (j % 6)) - nI (puN k T S d p q) := by
      intro v hv
      refine ⟨fun a ha => by rw [va_up_ne _ _ ha]; exact g1 a ha, fun j hj ha => ?_⟩
      rw [va_up_self]
      by_cases e : j = i
      · subst e; rw [upd_s]; exact hv ha
      · rw [upd_n _ _ e]; exact g2 j (by omega) ha
    cases ha : al1 k T S d (i / 6) (i % 6) with
    | false =>
      rw [if_neg Bool.false_ne_true, z00]
      exact ⟨_, nx 0 (fun h => by rw [ha] at h; cases h), rfl⟩
    | true =>
      obtain ⟨ra, ta⟩ := al1_r ha
      have gg : nI (cvN T S d p (i / 6) (S (i / 6) ||| 2 ^ (i % 6)) q) - nI (cvN T S d p (i / 6) (S (i / 6)) q) = nI (pl1 k T S d p q (i / 6) (i % 6)) - nI (puN k T S d p q) := df_eq (gain1 k T S d p q (i / 6) (i % 6) ra)
      rw [if_pos rfl, n10, d6 (by omega), r6 (by omega), shl1 _ ta, c_gain N (by omega) hB hCT hCS hSB hp hq ra (p2_64 ta), Option.bind_some, wr_e _ _ rfl (by omega) (by omega), Option.bind_some, gg]
      exact ⟨_, nx _ (fun _ => rfl), rfl⟩
-- count
def rsN (S : Nat → Nat) : Nat → Nat
  | 0 => 0
  | i + 1 => rsN S i ||| (if S i = 0 then 0 else 2 ^ i)
theorem rsN_64 (S : Nat → Nat) : ∀ i, i < 6 → rsN S i < 64
  | 0, _ => by show 0 < 64; omega
  | i + 1, h => by
    have := p2_64 (show i < 6 by omega)
    rw [rsN]
    refine or_lt (rsN_64 S i (by omega)) ?_
    split <;> omega
theorem rsN_k {k m : Nat} {S : Nat → Nat} (hSB : SB k m S) : ∀ i, k ≤ i → i ≤ 5 → rsN S i = rsN S k
  | 0, h, _ => by rw [show k = 0 by omega]
  | i + 1, h, h5 => by
    by_cases e : k = i + 1
    · rw [e]
    · rw [rsN, hSB.2.2.1 i (by omega) (by omega), if_pos rfl, Nat.or_zero, rsN_k hSB i (by omega) (by omega)]
theorem m_count_l (N : Nat) {k m : Nat} {T : Nat → Nat → Nat} {I : Nat → Int32} {A : Nat → Nat → Int32} {S : Nat → Nat} {d : Int32} (hN : 40 ≤ N) (hB : TB k m T) (hT : MT k m T I A) (hS : MS A 0 S d) (hSB : SB k m S) (x : Int32) : fX7_count N I A x = (if x = 0 then some (I 4) else if x = 1 then some (I 0) else if x = 2 then some (I 1) else if x = 3 then some d else if x = 4 then some (nI (sm (fun r => sm (fun p => S (10 + (5 * p + r))) m) k)) else if x = 5 then some (nI (apN k m T S d)) else if x = 6 then some (nI (rsN S k)) else if x = 7 then some (I 7) else if x = 8 then some (I 9) else some (-2)) := by
  have hk := hB.1
  have hm := hB.2.1
  unfold fX7_count
  refine lpE (fun n i => fX7_count_7 N n I A x (nI (sm (fun r => sm (fun p => S (10 + (5 * p + r))) m) i)) (nI (rsN S i)) (nI i)) (fun _ => _) k ?_ ?_ N 0 (by omega) (by omega)
  · intro n
    show fX7_count_7s N _ I A _ _ _ _ = _
    unfold fX7_count_7s
    have hap : fX7_allPurses N I A 0 = _ := m_allPurses N (lv := 0) hN hB hT hS hSB (by omega)
    have e30 : A 5 30 = d := by have := hS.2; rwa [show 31 * 0 + 30 = 30 by omega] at this
    rw [hT.1, if_pos (nI_le (Nat.le_refl k) (by omega)), rd_e (x := 30) (i := 30) rfl (by omega) (by omega) e30, Option.bind_some, hap, Option.bind_some]
  · intro n i hi ih
    show fX7_count_7s N _ I A _ _ _ _ = _
    unfold fX7_count_7s fX7_count_35
    have m0 := hS.1 i (by omega)
    rw [show 31 * 0 + i = i by omega] at m0
    have hsi := hSB.1 i (by omega)
    have inn : ∀ u3 : Int32, fX7_count_40 N (fX7_count_7 N n) N I A x (nI (sm (fun r => sm (fun p => S (10 + (5 * p + r))) m) i)) u3 (nI i) 0 = fX7_count_7 N n I A x (nI (sm (fun r => sm (fun p => S (10 + (5 * p + r))) m) (i + 1))) u3 (nI (i + 1)) := by
      intro u3
      refine lpE (fun c p => fX7_count_40 N (fX7_count_7 N n) c I A x (nI (sm (fun r => sm (fun p => S (10 + (5 * p + r))) m) i + sm (fun p => S (10 + (5 * p + i))) p)) u3 (nI i) (nI p)) (fun _ => fX7_count_7 N n I A x (nI (sm (fun r => sm (fun p => S (10 + (5 * p + r))) m) (i + 1))) u3 (nI (i + 1))) m ?_ ?_ N 0 (by omega) (by omega)
      · intro c
        show fX7_count_40s N _ _ I A _ _ _ _ _ = _
        unfold fX7_count_40s
        rw [hT.2.1, if_pos (nI_le (Nat.le_refl m) (by omega)), nI_1]
        rfl
      · intro c p hp ih2
        show fX7_count_40s N _ _ I A _ _ _ _ _ = _
        unfold fX7_count_40s fX7_coinAt
        rw [hT.2.1, if_neg (nI_ge hp (by omega)), Option.bind_some, show 31 * (0 : Int32) + 10 + 5 * nI p + nI i = nI (31 * 0 + (10 + (5 * p + i))) from ox3 0 p i, rd_e rfl (by omega) (by omega) (hS.1 _ (by omega)), Option.bind_some, nI_add, nI_1, Nat.add_assoc]
        exact ih2
    rw [← ih, hT.1, if_neg (nI_ge hi (by omega)), rd_e rfl (by omega) (by omega) m0, Option.bind_some, inn, inn, shl1 i (by omega)]
    have hr := rsN_64 S i (by omega)
    rw [rsN]
    by_cases h0 : S i = 0
    · rw [if_pos ((nI_e0 (by omega)).mpr h0), if_pos h0, show (0 : Int32) = nI 0 from rfl, or_N _ hr 0 (by omega)]
    · rw [if_neg (fun h => h0 ((nI_e0 (by omega)).mp h)), if_neg h0, or_N _ hr _ (p2_64 (by omega))]
theorem coins_eq {k m : Nat} {S : Nat → Nat} (hk : k ≤ 5) (hm : m ≤ 4) (hSB : SB k m S) : sm (fun r => sm (fun p => S (10 + (5 * p + r))) m) k = sm (fun j => S (10 + j)) 20 := by
  have e1 : sm (fun r => sm (fun p => S (10 + (5 * p + r))) m) k = sm (fun r => sm (fun p => S (10 + (5 * p + r))) 4) 5 := by
    rw [sm_z (fun r => sm (fun p => S (10 + (5 * p + r))) 4) k 5 hk]
    · refine sm_eq _ _ k (fun r hr => ?_)
      rw [sm_z (fun p => S (10 + (5 * p + r))) m 4 hm (fun p h1 h2 => hSB.2.2.2 p r h2 (by omega) (Or.inr h1))]
    · intro r h1 h2
      rw [sm_eq _ (fun _ => 0) 4 (fun p hp => hSB.2.2.2 p r hp h2 (Or.inl h1)), sm_0]
  rw [e1]
  simp only [sm, Nat.reduceMul, Nat.reduceAdd]
  omega
theorem r_count (N : Nat) {I : Nat → Int32} {A : Nat → Nat → Int32} {L : Int64} {A6 : Nat → Nat → Int32} {L6 : Int64} {rI : Nat → Int32} {rA : Nat → Nat → Int32} {tI : Nat → Int32} {tA : Nat → Nat → Int32} {wI : Nat → Int32} {wA : Nat → Nat → Int32} {aI : Nat → Int32} {aS : Nat → Nat → Int32} {aT : Nat → Nat → Nat → Int32} {eI : Nat → Int32} {eA : Nat → Nat → Int32} {sS : Nat → Nat → Int32} {sT : Nat → Nat → Nat → Int32} (hN : 10200 ≤ N) (hR : Rel I A L A6 L6 rI rA tI tA wI wA aI aS aT eI eA sS sT) (x : Int32) : ∃ r, fX7_count N I A x = some r ∧ fX6_count N rI tI tA wI wA aI eI x = some r := by
  obtain ⟨k, m, T, S, d, hB, hSB, hMT, hCT, hMS, hCS, hRT, hRA, hRH, hRK, hL⟩ := hR
  have hk := hB.1
  have hm := hB.2.1
  obtain ⟨len, l1, l2, l3, l4⟩ := hRT
  obtain ⟨h, xx, Q, D, hh, hx, e1, e2, e3, e4, hQ, hS⟩ := hRA
  obtain ⟨h9, k1, k2, k3, k4⟩ := hRH
  have cc : fX4_allCoins N wA = some (nI (sm (fun j => S (10 + j)) 20)) := by
    unfold fX4_allCoins
    refine lpE (fun n i => fX4_allCoins_4 N n wA (nI (sm (fun j => S (10 + j)) i)) (nI i)) (fun _ => _) 20 ?_ ?_ N 0 (by omega) (by omega)
    · intro n
      show fX4_allCoins_4s N _ wA _ _ = _
      unfold fX4_allCoins_4s
      rw [if_pos (by decide +kernel)]
    · intro n i hi ih
      show fX4_allCoins_4s N _ wA _ _ = _
      unfold fX4_allCoins_4s
      rw [if_neg (show ¬ (20 : Int32) ≤ nI i from nI_ge (b := 20) hi (by omega)), rd_e rfl hi (by omega) (hCS.2.2.1 i hi), Option.bind_some, nI_add, nI_1]
      exact ih
  have cr : fX4_rumoursSaid N wA = some (nI (rsN S 5)) := by
    unfold fX4_rumoursSaid
    refine lpE (fun n i => fX4_rumoursSaid_4 N n wA (nI (rsN S i)) (nI i)) (fun _ => _) 5 ?_ ?_ N 0 (by omega) (by omega)
    · intro n
      show fX4_rumoursSaid_4s N _ wA _ _ = _
      unfold fX4_rumoursSaid_4s
      rw [if_pos (by decide +kernel)]
    · intro n i hi ih
      show fX4_rumoursSaid_4s N _ wA _ _ = _
      unfold fX4_rumoursSaid_4s fX4_rumoursSaid_26
      have hr := rsN_64 S i (by omega)
      have hsi := hSB.1 i (by omega)
      rw [if_neg (show ¬ (5 : Int32) ≤ nI i from nI_ge (b := 5) hi (by omega)), rd_e rfl hi (by omega) (hCS.1 i hi), Option.bind_some, nI_1, shl1 i (by omega), ← ih, rsN]
      by_cases h0 : S i = 0
      · rw [if_pos ((nI_e0 (by omega)).mpr h0), if_pos h0, show (0 : Int32) = nI 0 from rfl, or_N _ hr 0 (by omega)]
      · rw [if_neg (fun h => h0 ((nI_e0 (by omega)).mp h)), if_neg h0, or_N _ hr _ (p2_64 (by omega))]
  unfold fX6_count
  rw [m_count_l N (by omega) hB hMT hMS hSB x, cc, cr, c_allPurses N (by omega) hB hCT hCS hSB, l2, l3, hMT.1, hCT.1, hMT.2.1, hCT.2.1, hCS.2.2.2, e1, e4, k2, k3, coins_eq hk hm hSB, rsN_k hSB 5 hk (by omega), Option.bind_some, Option.bind_some, Option.bind_some]
  by_cases x0 : x = 0
  · rw [if_pos x0]; exact ⟨_, rfl, rfl⟩
  rw [if_neg x0]
  by_cases x1 : x = 1
  · rw [if_pos x1]; exact ⟨_, rfl, rfl⟩
  rw [if_neg x1]
  by_cases x2 : x = 2
  · rw [if_pos x2]; exact ⟨_, rfl, rfl⟩
  rw [if_neg x2]
  by_cases x3 : x = 3
  · rw [if_pos x3]; exact ⟨_, rfl, rfl⟩
  rw [if_neg x3]
  by_cases x4 : x = 4
  · rw [if_pos x4]; exact ⟨_, rfl, rfl⟩
  rw [if_neg x4]
  by_cases x5 : x = 5
  · rw [if_pos x5]; exact ⟨_, rfl, rfl⟩
  rw [if_neg x5]
  by_cases x6 : x = 6
  · rw [if_pos x6]; exact ⟨_, rfl, rfl⟩
  rw [if_neg x6]
  by_cases x7 : x = 7
  · rw [if_pos x7]; exact ⟨_, rfl, rfl⟩
  rw [if_neg x7]
  by_cases x8 : x = 8
  · rw [if_pos x8]; exact ⟨_, rfl, rfl⟩
  rw [if_neg x8]; exact ⟨_, rfl, rfl⟩
