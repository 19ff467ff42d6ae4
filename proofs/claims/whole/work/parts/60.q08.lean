-- dawns ahead, each rumour by itself
def sdN (T : Nat → Nat → Nat) (d : Int32) (r sd dn : Nat) : Nat → Nat
  | 0 => sd
  | n + 1 => dwnN (T 1 r) (T 2 r) (d + nI n + 1) (sdN T d r sd dn n) dn
def ccN (T : Nat → Nat → Nat) (d : Int32) (r sd dn st c : Nat) : Nat → Nat
  | 0 => c
  | n + 1 => if ((sdN T d r sd dn n).testBit st && decide (ccN T d r sd dn st c n < 99)) = true then ccN T d r sd dn st c n + 1 else ccN T d r sd dn st c n
theorem sdN_64 (T : Nat → Nat → Nat) (d : Int32) (r sd dn : Nat) (hs : sd < 64) : ∀ n, sdN T d r sd dn n < 64
  | 0 => hs
  | n + 1 => dwn_64 _ _ _ _ _
theorem ccN_99 (T : Nat → Nat → Nat) (d : Int32) (r sd dn st c : Nat) (hc : c ≤ 99) : ∀ n, ccN T d r sd dn st c n ≤ 99
  | 0 => hc
  | n + 1 => by
    have := ccN_99 T d r sd dn st c hc n
    rw [ccN]
    split
    · rename_i h
      simp only [Bool.and_eq_true, decide_eq_true_eq] at h
      omega
    · omega
theorem dws_den {k m : Nat} (T : Nat → Nat → Nat) (d : Int32) (S : Nat → Nat) (r : Nat) (hk : k ≤ 5) (hr : r < 5) : ∀ n, dws k m T d S n (5 + r) = S (5 + r)
  | 0 => rfl
  | n + 1 => by
    rw [dws, dw, if_neg (by omega), if_pos (by omega)]
    exact dws_den T d S r hk hr n
theorem dws_said {k m : Nat} (T : Nat → Nat → Nat) (d : Int32) (S : Nat → Nat) (r : Nat) (hk : k ≤ 5) (hr : r < k) : ∀ n, dws k m T d S n r = sdN T d r (S r) (S (5 + r)) n
  | 0 => rfl
  | n + 1 => by
    rw [dws, dw, if_pos hr, dws_said T d S r hk hr n, dws_den T d S r hk (by omega) n]
    rfl
theorem dws_coin {k m : Nat} (T : Nat → Nat → Nat) (d : Int32) (S : Nat → Nat) (p r : Nat) (hk : k ≤ 5) (hr : r < k) (hp : p < m) : ∀ n, dws k m T d S n (10 + (5 * p + r)) = ccN T d r (S r) (S (5 + r)) (T 4 p) (S (10 + (5 * p + r))) n
  | 0 => rfl
  | n + 1 => by
    rw [dws, dw_coin k m T _ _ p r hk (by omega), gt, dws_said T d S r hk hr n, dws_coin T d S p r hk hr hp n, decide_eq_true hp, decide_eq_true hr, Bool.true_and, Bool.true_and]
    rfl
/-- what a rumour is worth behind n dawns, if it is said there now -/
def wN (T : Nat → Nat → Nat) (S : Nat → Nat) (d : Int32) (r sd n : Nat) : Nat := vN (T 0 r) (T 1 r) (T 2 r) (d + nI n) (sdN T d r sd (S (5 + r)) n) (S (5 + r))
/-- what a person's coins of it are worth then -/
def cvN (T : Nat → Nat → Nat) (S : Nat → Nat) (d : Int32) (p r sd n : Nat) : Nat := ccN T d r sd (S (5 + r)) (T 4 p) (S (10 + (5 * p + r))) n * wN T S d r sd n
def puN (k : Nat) (T : Nat → Nat → Nat) (S : Nat → Nat) (d : Int32) (p n : Nat) : Nat := sm (fun r => cvN T S d p r (S r) n) k
theorem vR_dws {k m : Nat} (T : Nat → Nat → Nat) (d : Int32) (S : Nat → Nat) (r n : Nat) (hk : k ≤ 5) (hr : r < k) : vR T (dws k m T d S n) (d + nI n) r = wN T S d r (S r) n := by
  unfold vR wN
  rw [dws_said T d S r hk hr n, dws_den T d S r hk (by omega) n]
theorem prs_dws {k m : Nat} (T : Nat → Nat → Nat) (d : Int32) (S : Nat → Nat) (p n : Nat) (hk : k ≤ 5) (hp : p < m) : prs k T (dws k m T d S n) (d + nI n) p = puN k T S d p n := by
  unfold prs puN
  refine sm_eq _ _ k (fun r hr => ?_)
  rw [vR_dws T d S r n hk hr, dws_coin T d S p r hk hr hp n]
  rfl
theorem wN_18 {k m : Nat} {T : Nat → Nat → Nat} (S : Nat → Nat) (d : Int32) {r : Nat} (sd n : Nat) (hB : TB k m T) (hr : r < k) : wN T S d r sd n ≤ 18 := vN_18 _ _ _ _ _ _ (hB.2.2.1 r hr).2.1
theorem cvN_le {k m : Nat} {T : Nat → Nat → Nat} {S : Nat → Nat} (d : Int32) {p r : Nat} (sd n : Nat) (hB : TB k m T) (hSB : SB k m S) (hp : p < 4) (hr : r < k) : cvN T S d p r sd n ≤ 1782 := by
  have hk := hB.1
  have h1 := ccN_99 T d r sd (S (5 + r)) (T 4 p) (S (10 + (5 * p + r))) (hSB.2.1 _ (by omega)) n
  have h2 := wN_18 S d sd n hB hr
  exact Nat.mul_le_mul h1 h2
theorem puN_le {k m : Nat} {T : Nat → Nat → Nat} {S : Nat → Nat} (d : Int32) {p : Nat} (n : Nat) (hB : TB k m T) (hSB : SB k m S) (hp : p < 4) : puN k T S d p n ≤ 8910 := by
  have hk := hB.1
  have h := sm_le (fun r => cvN T S d p r (S r) n) 1782 k (fun r hr => cvN_le d _ n hB hSB hp hr)
  unfold puN
  omega
-- the class
theorem c_saidIn (N : Nat) {k m r sd q : Nat} {T : Nat → Nat → Nat} {I : Nat → Int32} {A : Nat → Nat → Int32} {I1 : Nat → Int32} {A1 : Nat → Nat → Int32} {S : Nat → Nat} {d : Int32} (hN : 40 ≤ N) (hB : TB k m T) (hT : CT k m T I1 A1) (hS : CS I A S d) (hSB : SB k m S) (hr : r < k) (hs : sd < 64) (hq : q < 9) : fX6_saidIn N I1 A1 I A (nI r) (nI sd) (nI q) = some (nI (sdN T d r sd (S (5 + r)) q)) := by
  have hk := hB.1
  unfold fX6_saidIn
  refine lpE (fun n i => fX6_saidIn_6 N n I1 A1 I A (nI r) (nI q) (nI (sdN T d r sd (S (5 + r)) i)) (nI i)) (fun i => some (nI (sdN T d r sd (S (5 + r)) q))) q ?_ ?_ N 0 (by omega) (by omega)
  · intro n
    show fX6_saidIn_6s N _ I1 A1 I A _ _ _ _ = _
    unfold fX6_saidIn_6s fX6_saidIn_55
    rw [if_pos (nI_le (Nat.le_refl q) (by omega))]
  · intro n i hi ih
    show fX6_saidIn_6s N _ I1 A1 I A _ _ _ _ = _
    unfold fX6_saidIn_6s
    rw [if_neg (nI_ge hi (by omega)), if_neg (show ¬ (8 : Int32) ≤ nI i from nI_ge (b := 8) (by omega) (by omega)), c_deniedOf N hS (by omega), Option.bind_some, hS.2.2.2, c_after N (d + nI i) hB hT hr (sdN_64 T d r sd _ hs i) (hSB.1 (5 + r) (by omega)), Option.bind_some, nI_1]
    exact ih
theorem c_valueIn (N : Nat) {k m r sd q : Nat} {T : Nat → Nat → Nat} {I : Nat → Int32} {A : Nat → Nat → Int32} {I1 : Nat → Int32} {A1 : Nat → Nat → Int32} {S : Nat → Nat} {d : Int32} (hN : 40 ≤ N) (hB : TB k m T) (hT : CT k m T I1 A1) (hS : CS I A S d) (hSB : SB k m S) (hr : r < k) (hs : sd < 64) (hq : q < 9) : fX6_valueIn N I1 A1 I A (nI r) (nI sd) (nI q) = some (nI (wN T S d r sd q)) := by
  have hk := hB.1
  unfold fX6_valueIn
  rw [c_saidIn N hN hB hT hS hSB hr hs hq, Option.bind_some, c_deniedOf N hS (by omega), Option.bind_some, hS.2.2.2, c_valueOn N (d + nI q) hB hT hr (sdN_64 T d r sd _ hs q) (hSB.1 (5 + r) (by omega)), Option.bind_some]
  rfl
theorem c_coinValueIn (N : Nat) {k m p r sd q : Nat} {T : Nat → Nat → Nat} {I : Nat → Int32} {A : Nat → Nat → Int32} {I1 : Nat → Int32} {A1 : Nat → Nat → Int32} {S : Nat → Nat} {d : Int32} (hN : 40 ≤ N) (hB : TB k m T) (hT : CT k m T I1 A1) (hS : CS I A S d) (hSB : SB k m S) (hp : p < m) (hr : r < k) (hs : sd < 64) (hq : q < 9) : fX6_coinValueIn N I1 A1 I A (nI p) (nI r) (nI sd) (nI q) = some (nI (cvN T S d p r sd q)) := by
  have hk := hB.1
  have hm := hB.2.1
  have hd := hSB.1 (5 + r) (by omega)
  unfold fX6_coinValueIn
  rw [c_deniedOf N hS (by omega), Option.bind_some, c_seatOf N hB hT hp, Option.bind_some, c_coinsOf N hS (by omega) (by omega), Option.bind_some]
  refine lpE (fun n i => fX6_coinValueIn_37 N n I1 A1 I A (nI r) (nI q) (nI (S (5 + r))) (nI (T 4 p)) (nI (ccN T d r sd (S (5 + r)) (T 4 p) (S (10 + (5 * p + r))) i)) (nI (sdN T d r sd (S (5 + r)) i)) (nI i)) (fun i => some (nI (cvN T S d p r sd q))) q ?_ ?_ N 0 (by omega) (by omega)
  · intro n
    show fX6_coinValueIn_37s N _ I1 A1 I A _ _ _ _ _ _ _ = _
    unfold fX6_coinValueIn_37s fX6_coinValueIn_101
    rw [if_pos (nI_le (Nat.le_refl q) (by omega)), hS.2.2.2, c_valueOn N (d + nI q) hB hT hr (sdN_64 T d r sd _ hs q) hd, Option.bind_some, pk_mul]
    rfl
  · intro n i hi ih
    show fX6_coinValueIn_37s N _ I1 A1 I A _ _ _ _ _ _ _ = _
    have hc := ccN_99 T d r sd (S (5 + r)) (T 4 p) (S (10 + (5 * p + r))) (hSB.2.1 _ (by omega)) i
    unfold fX6_coinValueIn_37s fX6_coinValueIn_71
    rw [if_neg (nI_ge hi (by omega)), if_neg (show ¬ (8 : Int32) ≤ nI i from nI_ge (b := 8) (by omega) (by omega)), c_hasBit N (sdN_64 T d r sd _ hs i) (hB.2.2.2 p hp), Option.bind_some, hS.2.2.2, c_after N (d + nI i) hB hT hr (sdN_64 T d r sd _ hs i) hd, Option.bind_some, nI_1, nI_1, Option.bind_some]
    have ih' := ih
    simp only [ccN] at ih'
    rw [← ih']
    cases hb : (sdN T d r sd (S (5 + r)) i).testBit (T 4 p) with
    | false => rw [if_neg Bool.false_ne_true, z00, Bool.false_and, if_neg Bool.false_ne_true]; rfl
    | true =>
      rw [if_pos rfl, n10, Bool.true_and]
      by_cases h9 : ccN T d r sd (S (5 + r)) (T 4 p) (S (10 + (5 * p + r))) i < 99
      · rw [if_neg (show ¬ (99 : Int32) ≤ nI _ from nI_ge (b := 99) h9 (by omega)), decide_eq_true h9, if_pos rfl]; rfl
      · rw [if_pos (show (99 : Int32) ≤ nI _ from nI_le (a := 99) (by omega) (by omega)), decide_eq_false h9, if_neg Bool.false_ne_true]; rfl
theorem c_purseIn (N : Nat) {k m p q : Nat} {T : Nat → Nat → Nat} {I : Nat → Int32} {A : Nat → Nat → Int32} {I1 : Nat → Int32} {A1 : Nat → Nat → Int32} {S : Nat → Nat} {d : Int32} (hN : 40 ≤ N) (hB : TB k m T) (hT : CT k m T I1 A1) (hS : CS I A S d) (hSB : SB k m S) (hp : p < m) (hq : q < 9) : fX6_purseIn N I1 A1 I A (nI p) (nI q) = some (nI (puN k T S d p q)) := by
  have hk := hB.1
  have hm := hB.2.1
  unfold fX6_purseIn
  refine lpE (fun n i => fX6_purseIn_5 N n I1 A1 I A (nI p) (nI q) (nI (sm (fun r => cvN T S d p r (S r) q) i)) (nI i)) (fun i => some (nI (puN k T S d p q))) k ?_ ?_ N 0 (by omega) (by omega)
  · intro n
    show fX6_purseIn_5s N _ I1 A1 I A _ _ _ _ = _
    unfold fX6_purseIn_5s
    rw [hT.1, if_pos (nI_le (Nat.le_refl k) (by omega))]
    rfl
  · intro n i hi ih
    show fX6_purseIn_5s N _ I1 A1 I A _ _ _ _ = _
    unfold fX6_purseIn_5s
    rw [hT.1, if_neg (nI_ge hi (by omega)), c_saidOf N hS (by omega), Option.bind_some, c_coinValueIn N hN hB hT hS hSB hp hi (hSB.1 i (by omega)) hq, Option.bind_some, nI_add, nI_1]
    exact ih
theorem r_worth (N : Nat) {I : Nat → Int32} {A : Nat → Nat → Int32} {L : Int64} {A6 : Nat → Nat → Int32} {L6 : Int64} {rI : Nat → Int32} {rA : Nat → Nat → Int32} {tI : Nat → Int32} {tA : Nat → Nat → Int32} {wI : Nat → Int32} {wA : Nat → Nat → Int32} {aI : Nat → Int32} {aS : Nat → Nat → Int32} {aT : Nat → Nat → Nat → Int32} {eI : Nat → Int32} {eA : Nat → Nat → Int32} {sS : Nat → Nat → Int32} {sT : Nat → Nat → Nat → Int32} (hN : 10200 ≤ N) (hR : Rel I A L A6 L6 rI rA tI tA wI wA aI aS aT eI eA sS sT) (x y : Int32) : ∃ r A', fX7_worth N I A x y = some (r, A') ∧ fX6_worth N tI tA wI wA x y = some r ∧ Rel I A' L A6 L6 rI rA tI tA wI wA aI aS aT eI eA sS sT := by
  obtain ⟨k, m, T, S, d, hB, hSB, hMT, hCT, hMS, hCS, hRT, hRA, hRH, hRK, hL⟩ := id hR
  have hk := hB.1
  unfold fX7_worth fX6_worth
  rw [m_isR N x hB hMT, c_isR N x hB hCT, m_far, c_far, Option.bind_some, Option.bind_some, Option.bind_some, Option.bind_some]
  by_cases hx : x < 0 ∨ nI k ≤ x
  · rw [if_pos hx]; exact ⟨-1, A, rfl, rfl, hR⟩
  rw [if_neg hx, n10, n10]
  by_cases hy : y < 0 ∨ nI 9 ≤ y
  · rw [if_pos hy, if_pos hy]; exact ⟨-2, A, rfl, rfl, hR⟩
  rw [if_neg hy, if_neg hy, n10, z00]
  obtain ⟨r, hr, rfl⟩ := ix_of (by omega) hx
  obtain ⟨q, hq, rfl⟩ := ix_of (by omega) hy
  obtain ⟨A1, a1, a2, a3⟩ := m_layTrial N (by omega) hMS
  obtain ⟨A2, b1, b2, b3⟩ := m_dawnTrial N (by omega) hB (FrL_MT a2 hMT) a1 hSB (q := q) (by omega)
  have fr := FrL_tr a2 b2
  have hw := m_worthOf N (lv := 1) (by omega) hB (FrL_MT fr hMT) b1 (SB_dws d hB hSB q) (by omega) hr
  rw [vR_dws T d S r q hk hr] at hw
  refine ⟨nI (wN T S d r (S r) q), A2, ?_, ?_, R_scr hR fr⟩
  · rw [a3, Option.bind_some, b3, Option.bind_some, show fX7_worthOf N A2 1 (nI r) = _ from hw, Option.bind_some]
  · rw [c_saidOf N hCS (by omega), Option.bind_some, c_valueIn N (by omega) hB hCT hCS hSB hr (hSB.1 r (by omega)) hq, Option.bind_some]
theorem m_purse1 (N : Nat) {k m p : Nat} {T : Nat → Nat → Nat} {I : Nat → Int32} {A : Nat → Nat → Int32} {S : Nat → Nat} {d : Int32} (hN : 40 ≤ N) (hB : TB k m T) (hT : MT k m T I A) (hS : MS A 1 S d) (hSB : SB k m S) (hp : p < m) : fX7_purseOf N I A 1 (nI p) = some (nI (prs k T S d p)) := m_purseOf N (lv := 1) hN hB hT hS hSB (by omega) hp
theorem r_purse (N : Nat) {I : Nat → Int32} {A : Nat → Nat → Int32} {L : Int64} {A6 : Nat → Nat → Int32} {L6 : Int64} {rI : Nat → Int32} {rA : Nat → Nat → Int32} {tI : Nat → Int32} {tA : Nat → Nat → Int32} {wI : Nat → Int32} {wA : Nat → Nat → Int32} {aI : Nat → Int32} {aS : Nat → Nat → Int32} {aT : Nat → Nat → Nat → Int32} {eI : Nat → Int32} {eA : Nat → Nat → Int32} {sS : Nat → Nat → Int32} {sT : Nat → Nat → Nat → Int32} (hN : 10200 ≤ N) (hR : Rel I A L A6 L6 rI rA tI tA wI wA aI aS aT eI eA sS sT) (x y : Int32) : ∃ r A', fX7_purse N I A x y = some (r, A') ∧ fX6_purse N tI tA wI wA x y = some r ∧ Rel I A' L A6 L6 rI rA tI tA wI wA aI aS aT eI eA sS sT := by
  obtain ⟨k, m, T, S, d, hB, hSB, hMT, hCT, hMS, hCS, hRT, hRA, hRH, hRK, hL⟩ := id hR
  have hk := hB.1
  have hm := hB.2.1
  unfold fX7_purse fX6_purse
  rw [m_isP N x hB hMT, c_isP N x hB hCT, m_far, c_far, Option.bind_some, Option.bind_some, Option.bind_some, Option.bind_some]
  by_cases hx : x < 0 ∨ nI m ≤ x
  · rw [if_pos hx]; exact ⟨-1, A, rfl, rfl, hR⟩
  rw [if_neg hx, n10, n10]
  by_cases hy : y < 0 ∨ nI 9 ≤ y
  · rw [if_pos hy, if_pos hy]; exact ⟨-2, A, rfl, rfl, hR⟩
  rw [if_neg hy, if_neg hy, n10, z00]
  obtain ⟨p, hp, rfl⟩ := ix_of (by omega) hx
  obtain ⟨q, hq, rfl⟩ := ix_of (by omega) hy
  obtain ⟨A1, a1, a2, a3⟩ := m_layTrial N (by omega) hMS
  obtain ⟨A2, b1, b2, b3⟩ := m_dawnTrial N (by omega) hB (FrL_MT a2 hMT) a1 hSB (q := q) (by omega)
  have fr := FrL_tr a2 b2
  have hw := m_purse1 N (by omega) hB (FrL_MT fr hMT) b1 (SB_dws d hB hSB q) hp
  rw [prs_dws T d S p q hk hp] at hw
  refine ⟨nI (puN k T S d p q), A2, ?_, ?_, R_scr hR fr⟩
  · rw [a3, Option.bind_some, b3, Option.bind_some, hw, Option.bind_some]
  · rw [c_purseIn N (by omega) hB hCT hCS hSB hp hq, Option.bind_some]
theorem upd4 (f : Nat → Int32) (a b c e : Int32) : upd (upd (upd (upd f 0 a) 1 b) 0 c) 1 e = upd (upd f 0 c) 1 e := by
  funext j
  simp only [upd]
  by_cases e1 : j = 1 <;> by_cases e0 : j = 0 <;> simp [e1, e0]
/-- the best day so far: the most, and its day -/
def bd (f : Nat → Nat) : Nat → Nat × Nat
  | 0 => (f 0, 0)
  | n + 1 => if f (n + 1) ≤ (bd f n).1 then bd f n else (f (n + 1), n + 1)
theorem bd_le (f : Nat → Nat) (b : Nat) (h : ∀ n, f n ≤ b) : ∀ n, (bd f n).1 ≤ b
  | 0 => h 0
  | n + 1 => by
    rw [bd]
    split
    · exact bd_le f b h n
    · exact h _
theorem r_bestDay (N : Nat) {I : Nat → Int32} {A : Nat → Nat → Int32} {L : Int64} {A6 : Nat → Nat → Int32} {L6 : Int64} {rI : Nat → Int32} {rA : Nat → Nat → Int32} {tI : Nat → Int32} {tA : Nat → Nat → Int32} {wI : Nat → Int32} {wA : Nat → Nat → Int32} {aI : Nat → Int32} {aS : Nat → Nat → Int32} {aT : Nat → Nat → Nat → Int32} {eI : Nat → Int32} {eA : Nat → Nat → Int32} {sS : Nat → Nat → Int32} {sT : Nat → Nat → Nat → Int32} (hN : 10200 ≤ N) (hR : Rel I A L A6 L6 rI rA tI tA wI wA aI aS aT eI eA sS sT) (bI : Nat → Int32) (x : Int32) : ∃ r A' bI', fX7_bestDay N I A x = some (r, A') ∧ fX6_bestDay N tI tA wI wA bI x = some (r, bI') ∧ Rel I A' L A6 L6 rI rA tI tA wI wA aI aS aT eI eA sS sT := by
  obtain ⟨k, m, T, S, d, hB, hSB, hMT, hCT, hMS, hCS, hRT, hRA, hRH, hRK, hL⟩ := id hR
  have hk := hB.1
  have hm := hB.2.1
  unfold fX7_bestDay fX6_bestDay fX1_start
  rw [m_isP N x hB hMT, c_isP N x hB hCT, Option.bind_some, Option.bind_some]
  by_cases hx : x < 0 ∨ nI m ≤ x
  · rw [if_pos hx]; exact ⟨-1, A, bI, rfl, rfl, hR⟩
  rw [if_neg hx, n10, n10]
  obtain ⟨p, hp, rfl⟩ := ix_of (by omega) hx
  have hf : ∀ n, puN k T S d p n ≤ 8910 := fun n => puN_le d n hB hSB (by omega)
  have hbd := bd_le (puN k T S d p) 8910 hf
  obtain ⟨A1, a1, a2, a3⟩ := m_layTrial N (by omega) hMS
  have d0 : d = d + nI 0 := by rw [show nI 0 = 0 from rfl, Int32.add_zero]
  have hp0 : prs k T S d p = puN k T S d p 0 := by
    have := prs_dws (m := m) T d S p 0 hk hp
    rw [← d0] at this
    exact this
  have hw := m_purse1 N (by omega) hB (FrL_MT a2 hMT) a1 hSB hp
  rw [hp0] at hw
  have HM := lpX (fun n i (s : Nat → Nat → Int32) => fX7_bestDay_26 N n I s (nI p) (nI (bd (puN k T S d p) i).2) (nI (bd (puN k T S d p) i).1) (nI (i + 1))) (fun s => some (nI (bd (puN k T S d p) 8).2, s))
    (fun i s => MS s 1 (dws k m T d S i) (d + nI i) ∧ FrL 1 A s) 8 ?_ ?_ N 0 A1 (by omega) (by omega) ⟨by rw [← d0]; exact a1, a2⟩
  · have HC := lpE (fun n i => fX6_bestDay_29 N n tI tA wI wA (upd (upd bI 0 (nI (bd (puN k T S d p) i).1)) 1 (nI (bd (puN k T S d p) i).2)) (nI p) (nI (i + 1))) (fun i => some (nI (bd (puN k T S d p) 8).2, upd (upd bI 0 (nI (bd (puN k T S d p) 8).1)) 1 (nI (bd (puN k T S d p) 8).2))) 8 ?_ ?_ N 0 (by omega) (by omega)
    · obtain ⟨s, ⟨h1, h2⟩, h3⟩ := HM
      refine ⟨nI (bd (puN k T S d p) 8).2, s, upd (upd bI 0 (nI (bd (puN k T S d p) 8).1)) 1 (nI (bd (puN k T S d p) 8).2), ?_, ?_, R_scr hR h2⟩
      · rw [a3, Option.bind_some, hw, Option.bind_some]; exact h3
      · rw [show fX6_purseIn N tI tA wI wA (nI p) 0 = _ from c_purseIn N (q := 0) (by omega) hB hCT hCS hSB hp (by omega), Option.bind_some, Option.bind_some]; exact HC
    · intro n
      show fX6_bestDay_29s N _ tI tA wI wA _ _ _ = _
      unfold fX6_bestDay_29s
      rw [if_pos (by decide +kernel), upd_s]
    · intro n i hi ih
      show fX6_bestDay_29s N _ tI tA wI wA _ _ _ = _
      have h1 := hbd i
      have h2 := hf (i + 1)
      unfold fX6_bestDay_29s fX1_offer fX1_offer_14 fX1_start
      rw [if_neg (show ¬ (8 : Int32) < nI (i + 1) from nI_nlt (a := 8) (by omega) (by omega)), c_purseIn N (by omega) hB hCT hCS hSB hp (by omega), Option.bind_some, upd_n _ _ (by omega), upd_s, nI_1, ← ih]
      rw [bd]
      by_cases hle : puN k T S d p (i + 1) ≤ (bd (puN k T S d p) i).1
      · rw [if_pos (nI_le hle (by omega)), Option.bind_some, if_pos hle]
      · rw [if_neg (fun h => hle ((nI_leI (by omega) (by omega)).mp h)), Option.bind_some, Option.bind_some, if_neg hle]
        rw [upd4]
  · intro n s h
    show fX7_bestDay_26s N _ I s _ _ _ _ = _
    unfold fX7_bestDay_26s
    rw [if_pos (by decide +kernel)]
  · rintro n i s hi ⟨h1, h2⟩
    show ∃ s', _ ∧ fX7_bestDay_26s N (fX7_bestDay_26 N n) I s _ _ _ _ = _
    obtain ⟨A', g1, g2, g3⟩ := m_dawnOn1 N (by omega) hB (FrL_MT h2 hMT) h1 (SB_dws d hB hSB i)
    rw [dd] at g1
    have g1' : MS A' 1 (dws k m T d S (i + 1)) (d + nI (i + 1)) := g1
    have hw2 := m_purse1 N (by omega) hB (FrL_MT (FrL_tr h2 g2) hMT) g1' (SB_dws d hB hSB (i + 1)) hp
    rw [prs_dws T d S p (i + 1) hk hp] at hw2
    have h3 := hbd i
    have h4 := hf (i + 1)
    refine ⟨A', ⟨g1', FrL_tr h2 g2⟩, ?_⟩
    unfold fX7_bestDay_26s fX7_bestDay_55 fX7_bestDay_76
    rw [if_neg (show ¬ (8 : Int32) < nI (i + 1) from nI_nlt (a := 8) (by omega) (by omega)), g3, Option.bind_some, hw2, Option.bind_some, Option.bind_some, Option.bind_some, nI_1, bd]
    by_cases hle : puN k T S d p (i + 1) ≤ (bd (puN k T S d p) i).1
    · rw [if_pos (nI_le hle (by omega)), if_pos (nI_le hle (by omega)), if_pos hle]
    · have hn : ¬ nI (puN k T S d p (i + 1)) ≤ nI (bd (puN k T S d p) i).1 := fun h => hle ((nI_leI (by omega) (by omega)).mp h)
      rw [if_neg hn, Option.bind_some, if_neg hn, Option.bind_some, if_neg hle]
theorem r_reach (N : Nat) {I : Nat → Int32} {A : Nat → Nat → Int32} {L : Int64} {A6 : Nat → Nat → Int32} {L6 : Int64} {rI : Nat → Int32} {rA : Nat → Nat → Int32} {tI : Nat → Int32} {tA : Nat → Nat → Int32} {wI : Nat → Int32} {wA : Nat → Nat → Int32} {aI : Nat → Int32} {aS : Nat → Nat → Int32} {aT : Nat → Nat → Nat → Int32} {eI : Nat → Int32} {eA : Nat → Nat → Int32} {sS : Nat → Nat → Int32} {sT : Nat → Nat → Nat → Int32} (hN : 10200 ≤ N) (hR : Rel I A L A6 L6 rI rA tI tA wI wA aI aS aT eI eA sS sT) (x y : Int32) : ∃ r A', fX7_reach N I A x y = some (r, A') ∧ fX6_reach N tI tA wI wA x y = some r ∧ Rel I A' L A6 L6 rI rA tI tA wI wA aI aS aT eI eA sS sT := by
  obtain ⟨k, m, T, S, d, hB, hSB, hMT, hCT, hMS, hCS, hRT, hRA, hRH, hRK, hL⟩ := id hR
  have hk := hB.1
  unfold fX7_reach fX6_reach
  rw [m_isR N x hB hMT, c_isR N x hB hCT, m_isT, c_isT, Option.bind_some, Option.bind_some, Option.bind_some, Option.bind_some]
  by_cases hx : x < 0 ∨ nI k ≤ x
  · rw [if_pos hx]; exact ⟨-1, A, rfl, rfl, hR⟩
  rw [if_neg hx, n10, n10]
  by_cases hy : y < 0 ∨ nI 6 ≤ y
  · rw [if_pos hy]; exact ⟨-2, A, rfl, rfl, hR⟩
  rw [if_neg hy, n10, n10]
  obtain ⟨r, hr, rfl⟩ := ix_of (by omega) hx
  obtain ⟨t, ht, rfl⟩ := ix_of (by omega) hy
  have hs := hSB.1 r (by omega)
  obtain ⟨A1, a1, a2, a3⟩ := m_layTrial N (by omega) hMS
  have d0 : d = d + nI 0 := by rw [show nI 0 = 0 from rfl, Int32.add_zero]
  rw [a3, Option.bind_some]
  -- both loops at once, down from 9
  have H : ∀ c i n n' (s : Nat → Nat → Int32), i + c = 9 → c < n → c < n' → MS s 1 (dws k m T d S i) (d + nI i) → FrL 1 A s → ∃ v A', fX7_reach_26 N n I s (nI r) (nI t) (nI i) = some (v, A') ∧ fX6_reach_25 N n' tI tA wI wA (nI r) (nI t) (nI i) = some v ∧ FrL 1 A A' := by
    intro c
    induction c with
    | zero =>
      intro i n n' s hi hn hn' h1 h2
      obtain rfl : i = 9 := by omega
      obtain ⟨n, rfl⟩ : ∃ q, n = q + 1 := ⟨n - 1, by omega⟩
      obtain ⟨n', rfl⟩ : ∃ q, n' = q + 1 := ⟨n' - 1, by omega⟩
      refine ⟨-9, s, ?_, ?_, h2⟩
      · show fX7_reach_26s N _ I s _ _ _ = _
        unfold fX7_reach_26s
        rw [if_pos (by decide +kernel)]
      · show fX6_reach_25s N _ tI tA wI wA _ _ _ = _
        unfold fX6_reach_25s
        rw [if_pos (by decide +kernel)]
    | succ c ih =>
      intro i n n' s hi hn hn' h1 h2
      obtain ⟨n, rfl⟩ : ∃ q, n = q + 1 := ⟨n - 1, by omega⟩
      obtain ⟨n', rfl⟩ : ∃ q, n' = q + 1 := ⟨n' - 1, by omega⟩
      obtain ⟨A', g1, g2, g3⟩ := m_dawnOn1 N (by omega) hB (FrL_MT h2 hMT) h1 (SB_dws d hB hSB i)
      rw [dd] at g1
      obtain ⟨v, A2, v1, v2, v3⟩ := ih (i + 1) n n' A' (by omega) (by omega) (by omega) g1 (FrL_tr h2 g2)
      have h8 : ¬ (8 : Int32) < nI i := nI_nlt (a := 8) (by omega) (by omega)
      have e1 := h1.1 r (by omega)
      rw [dws_said T d S r hk hr i] at e1
      have hs2 := sdN_64 T d r (S r) (S (5 + r)) hs i
      show ∃ v A', fX7_reach_26s N (fX7_reach_26 N n) I s _ _ _ = _ ∧ fX6_reach_25s N (fX6_reach_25 N n') tI tA wI wA _ _ _ = _ ∧ _
      unfold fX7_reach_26s fX6_reach_25s
      rw [if_neg h8, if_neg h8, show (31 : Int32) + nI r = nI (31 * 1 + r) from nI_add 31 r, rd_e rfl (by omega) (by omega) e1, Option.bind_some, m_has N hs2 ht, Option.bind_some, c_saidOf N hCS (by omega), Option.bind_some, c_saidIn N (by omega) hB hCT hCS hSB hr hs (by omega), Option.bind_some, c_hasBit N hs2 ht, Option.bind_some]
      cases hb : (sdN T d r (S r) (S (5 + r)) i).testBit t with
      | false =>
        rw [if_neg Bool.false_ne_true, z00, z00, g3, Option.bind_some, nI_1]
        exact ⟨v, A2, v1, v2, v3⟩
      | true =>
        rw [if_pos rfl, n10, n10]
        exact ⟨nI i, s, rfl, rfl, h2⟩
  obtain ⟨v, A', v1, v2, v3⟩ := H 9 0 N N A1 (by omega) (by omega) (by omega) (by rw [← d0]; exact a1) a2
  exact ⟨v, A', v1, v2, R_scr hR v3⟩
