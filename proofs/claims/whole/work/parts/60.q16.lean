-- two that talk
def FrP (A A' : Nat → Nat → Int32) : Prop := ∀ a j, a ≠ 18 → a ≠ 19 → (a ≠ 5 ∨ j < 31) → A' a j = A a j
theorem FrP_rfl (A : Nat → Nat → Int32) : FrP A A := fun _ _ _ _ _ => rfl
theorem FrP_tr {A B C : Nat → Nat → Int32} (h : FrP A B) (h2 : FrP B C) : FrP A C := fun a j h3 h4 h5 => by rw [h2 a j h3 h4 h5, h a j h3 h4 h5]
theorem FrP_L {A B : Nat → Nat → Int32} (h : FrL 1 A B) : FrP A B := fun a j h3 h4 h5 => h a j (h5.elim Or.inl (fun h6 => Or.inr (Or.inl (by omega))))
theorem FrP_a {A B : Nat → Nat → Int32} (h : FrP A B) {a : Nat} (h1 : a ≠ 18) (h2 : a ≠ 19) (h3 : a ≠ 5) : B a = A a := funext fun j => h a j h1 h2 (Or.inl h3)
theorem FrP_MT {k m : Nat} {T : Nat → Nat → Nat} {I : Nat → Int32} {A B : Nat → Nat → Int32} (h : FrP A B) (hM : MT k m T I A) : MT k m T I B := by
  unfold MT
  rw [FrP_a h (by omega) (by omega) (by omega), FrP_a h (by omega) (by omega) (by omega), FrP_a h (by omega) (by omega) (by omega), FrP_a h (by omega) (by omega) (by omega), FrP_a h (by omega) (by omega) (by omega)]
  exact hM
theorem FrP_MS {A B : Nat → Nat → Int32} {S : Nat → Nat} {d : Int32} (h : FrP A B) (hM : MS A 0 S d) : MS B 0 S d :=
  ⟨fun j hj => by rw [h 5 _ (by omega) (by omega) (Or.inr (by omega))]; exact hM.1 j hj, by rw [h 5 _ (by omega) (by omega) (Or.inr (by omega))]; exact hM.2⟩
theorem R_scrP {I : Nat → Int32} {A : Nat → Nat → Int32} {L : Int64} {A6 : Nat → Nat → Int32} {L6 : Int64} {rI : Nat → Int32} {rA : Nat → Nat → Int32} {tI : Nat → Int32} {tA : Nat → Nat → Int32} {wI : Nat → Int32} {wA : Nat → Nat → Int32} {aI : Nat → Int32} {aS : Nat → Nat → Int32} {aT : Nat → Nat → Nat → Int32} {eI : Nat → Int32} {eA : Nat → Nat → Int32} {sS : Nat → Nat → Int32} {sT : Nat → Nat → Nat → Int32} {A' : Nat → Nat → Int32} (hR : Rel I A L A6 L6 rI rA tI tA wI wA aI aS aT eI eA sS sT) (h : FrP A A') : Rel I A' L A6 L6 rI rA tI tA wI wA aI aS aT eI eA sS sT := by
  obtain ⟨k, m, T, S, d, hB, hSB, hMT, hCT, hMS, hCS, hRT, hRA, hRH, hRK, hL⟩ := hR
  refine ⟨k, m, T, S, d, hB, hSB, FrP_MT h hMT, hCT, FrP_MS h hMS, hCS, ?_, ?_, ?_, ?_, hL⟩
  · rw [FrP_a h (by omega) (by omega) (by omega)]; exact hRT
  · rw [FrP_a h (by omega) (by omega) (by omega)]; exact hRA
  · rw [FrP_a h (by omega) (by omega) (by omega), FrP_a h (by omega) (by omega) (by omega), FrP_a h (by omega) (by omega) (by omega), FrP_a h (by omega) (by omega) (by omega)]; exact hRH
  · rw [FrP_a h (by omega) (by omega) (by omega), FrP_a h (by omega) (by omega) (by omega)]; exact hRK
theorem MS_up {A : Nat → Nat → Int32} {lv a : Nat} {S : Nat → Nat} {d : Int32} (g : Nat → Int32) (ha : a ≠ 5) (h : MS A lv S d) : MS (va_up A a g) lv S d := by
  unfold MS
  rw [va_up_ne _ _ (Ne.symm ha)]; exact h
theorem MT_up {A : Nat → Nat → Int32} {k m a : Nat} {T : Nat → Nat → Nat} {I : Nat → Int32} (g : Nat → Int32) (ha : 5 < a) (h : MT k m T I A) : MT k m T I (va_up A a g) := by
  unfold MT
  rw [va_up_ne _ _ (by omega), va_up_ne _ _ (by omega), va_up_ne _ _ (by omega), va_up_ne _ _ (by omega), va_up_ne _ _ (by omega)]; exact h
theorem MS_ext' {A : Nat → Nat → Int32} {lv : Nat} {S S' : Nat → Nat} {d : Int32} (h : ∀ j, j < 30 → S j = S' j) (hM : MS A lv S d) : MS A lv S' d := ⟨fun j hj => by rw [hM.1 j hj, h j hj], hM.2⟩
/-- may a person choose it -/
def chB (k : Nat) (T : Nat → Nat → Nat) (S : Nat → Nat) (d : Int32) (p c : Nat) : Bool := decide (c = 0) || (decide (c ≤ k) && csN (T 2 (c - 1)) d (S (c - 1)) (S (5 + (c - 1))) (T 4 p))
theorem m_isChoice (N : Nat) {k m p c : Nat} {T : Nat → Nat → Nat} {I : Nat → Int32} {A : Nat → Nat → Int32} {S : Nat → Nat} {d : Int32} (hB : TB k m T) (hT : MT k m T I A) (hS : MS A 0 S d) (hSB : SB k m S) (hp : p < m) (hc : c < 6) : fX7_isChoice N I A (nI p) (nI c) = some (if chB k T S d p c = true then 1 else 0) := by
  have hk := hB.1
  have hm := hB.2.1
  unfold fX7_isChoice fX7_isChoice_31 fX7_isChoice_35 fX7_isChoice_36 chB
  rw [bz_0, bz_1, Option.bind_some, Option.bind_some]
  by_cases h0 : c = 0
  · subst h0; rfl
  · have e : nI c - 1 = nI (c - 1) := pk_sub (b := 1) (by omega)
    rw [if_neg (nI_ne0 (by omega) (by omega)), e, m_isR N _ hB hT, Option.bind_some, decide_eq_false h0, Bool.false_or]
    by_cases hck : c ≤ k
    · have hcs : fX7_canSay N A 0 (nI (c - 1)) (nI (T 4 p)) = _ := m_canSay N (lv := 0) hB hT hS hSB (by omega) (show c - 1 < k by omega) (hB.2.2.2 p hp)
      rw [if_neg (in_no (show c - 1 < k by omega) (by omega)), n10, rd_e rfl (by omega) (by omega) (hT.2.2.2 p hp), Option.bind_some, hcs, Option.bind_some, decide_eq_true hck, Bool.true_and]
      cases csN (T 2 (c - 1)) d (S (c - 1)) (S (5 + (c - 1))) (T 4 p) <;> rfl
    · rw [if_pos (Or.inr (nI_le (show k ≤ c - 1 by omega) (by omega))), z00, decide_eq_false hck, Bool.false_and]; rfl
theorem c_canChoose (N : Nat) {k m p c : Nat} {T : Nat → Nat → Nat} {I1 : Nat → Int32} {A1 : Nat → Nat → Int32} {I : Nat → Int32} {A : Nat → Nat → Int32} {S : Nat → Nat} {d : Int32} (hB : TB k m T) (hT : CT k m T I1 A1) (hS : CS I A S d) (hSB : SB k m S) (hp : p < m) (hc : c < 6) : fX6_canChoose N I1 A1 I A (nI p) (nI c) = some (if chB k T S d p c = true then 1 else 0) := by
  have hk := hB.1
  have hm := hB.2.1
  unfold fX6_canChoose fX6_canChoose_29 fX6_canChoose_34 chB
  rw [bz_0, bz_1, Option.bind_some, Option.bind_some]
  by_cases h0 : c = 0
  · subst h0; rfl
  · have e : nI c - 1 = nI (c - 1) := pk_sub (b := 1) (by omega)
    rw [if_neg (nI_ne0 (by omega) (by omega)), e, c_seatOf N hB hT hp, Option.bind_some, decide_eq_false h0, Bool.false_or]
    by_cases hck : c ≤ k
    · rw [c_canBeSaid N hB hT hS hSB (show c - 1 < k by omega) (hB.2.2.2 p hp), Option.bind_some, decide_eq_true hck, Bool.true_and]
      cases csN (T 2 (c - 1)) d (S (c - 1)) (S (5 + (c - 1))) (T 4 p) <;> rfl
    · rw [c_cbs_no N hB hT (Or.inl (Or.inr (nI_le (show k ≤ c - 1 by omega) (by omega)))), Option.bind_some, z00, decide_eq_false hck, Bool.false_and]; rfl
/-- what is said of r if the one chooses a and the other b -/
def sab (T : Nat → Nat → Nat) (S : Nat → Nat) (p o a b r : Nat) : Nat := (S r ||| (if a = r + 1 then 2 ^ T 4 p else 0)) ||| (if b = r + 1 then 2 ^ T 4 o else 0)
def pwN (k : Nat) (T : Nat → Nat → Nat) (S : Nat → Nat) (d : Int32) (q p o a b x : Nat) : Nat := sm (fun r => cvN T S d x r (sab T S p o a b r) q) k
theorem or_id : ∀ x, x < 64 → ∀ t, t < 6 → x.testBit t = true → x ||| 2 ^ t = x := by decide +kernel
theorem sab_64 {k m : Nat} {T : Nat → Nat → Nat} {S : Nat → Nat} {p o a b r : Nat} (hB : TB k m T) (hSB : SB k m S) (hp : p < m) (ho : o < m) (hr : r < 5) : sab T S p o a b r < 64 := by
  have h1 := p2_64 (hB.2.2.2 p hp)
  have h2 := p2_64 (hB.2.2.2 o ho)
  unfold sab
  refine or_lt (or_lt (hSB.1 r (by omega)) ?_) ?_
  · split <;> omega
  · split <;> omega
theorem pw_le {k m : Nat} {T : Nat → Nat → Nat} {S : Nat → Nat} (d : Int32) (q p o a b x : Nat) (hB : TB k m T) (hSB : SB k m S) (hx : x < 4) : pwN k T S d q p o a b x ≤ 8910 := by
  have hk := hB.1
  have h := sm_le (fun r => cvN T S d x r (sab T S p o a b r) q) 1782 k (fun r hr => cvN_le d _ q hB hSB hx hr)
  unfold pwN
  omega
/-- a choice laid on the trial -/
def chS (T : Nat → Nat → Nat) (S : Nat → Nat) (p c : Nat) : Nat → Nat := fun j => if c = j + 1 then S j ||| 2 ^ T 4 p else S j
theorem chS_SB {k m : Nat} {T : Nat → Nat → Nat} {S : Nat → Nat} {p c : Nat} (hB : TB k m T) (hSB : SB k m S) (hp : p < m) (hc : c ≤ k) : SB k m (chS T S p c) := by
  have hk := hB.1
  obtain ⟨h1, h2, h3, h4⟩ := hSB
  have h5 := p2_64 (hB.2.2.2 p hp)
  refine ⟨fun j hj => ?_, fun j hj => ?_, fun r hr1 hr2 => ?_, fun p r hp hr hx => ?_⟩
  · unfold chS
    split
    · exact or_lt (h1 j hj) h5
    · exact h1 j hj
  · unfold chS; rw [if_neg (by omega)]; exact h2 j hj
  · unfold chS; rw [if_neg (by omega)]; exact h3 r hr1 hr2
  · unfold chS; rw [if_neg (by omega)]; exact h4 p r hp hr hx
/-- on the trial, behind a like one: a choice that was free at first is laid, or lies there -/
theorem m_lay (N : Nat) {k m p c : Nat} {T : Nat → Nat → Nat} {I : Nat → Int32} {A : Nat → Nat → Int32} {S S0 : Nat → Nat} {d : Int32} (hB : TB k m T) (hT : MT k m T I A) (hS : MS A 1 S d) (hSB : SB k m S) (hp : p < m) (h0 : 0 < c) (hc : c < 6) (hch : chB k T S0 d p c = true) (hden : ∀ r, r < 5 → S (5 + r) = S0 (5 + r)) : ∃ v A', fX7_sayTrial N I A (nI c - 1) (nI (T 4 p)) = some (v, A') ∧ FrL 1 A A' ∧ MS A' 1 (chS T S p c) d ∧ c ≤ k := by
  have hk := hB.1
  have hst := hB.2.2.2 p hp
  have e : nI c - 1 = nI (c - 1) := pk_sub (b := 1) (by omega)
  simp only [chB, Bool.or_eq_true, Bool.and_eq_true, decide_eq_true_eq] at hch
  rcases hch with h | ⟨hck, hcs⟩
  · omega
  obtain ⟨A', a1, a2, a3⟩ := m_sayTrial N hB hT hS hSB (show c - 1 < k by omega) hst
  refine ⟨_, A', by rw [e]; exact a1, a2, MS_ext' (fun j hj => ?_) a3, hck⟩
  have hd := hden (c - 1) (by omega)
  simp only [csN, Bool.and_eq_true, Bool.not_eq_true'] at hcs
  unfold sayS chS
  by_cases e1 : c = j + 1
  · rw [if_pos e1]
    obtain rfl : j = c - 1 := by omega
    by_cases hb : (S (c - 1)).testBit (T 4 p) = true
    · have hno : ¬ csN (T 2 (c - 1)) d (S (c - 1)) (S (5 + (c - 1))) (T 4 p) = true := by simp [csN, hb]
      rw [if_neg hno, or_id _ (hSB.1 _ (by omega)) _ hst hb]
    · have hyes : csN (T 2 (c - 1)) d (S (c - 1)) (S (5 + (c - 1))) (T 4 p) = true := by
        rw [hd]
        simp [csN, hb, hcs.1, hcs.2.2]
      rw [if_pos hyes, s1_s]
  · rw [if_neg e1]
    split
    · rw [s1_n _ _ (by omega)]
    · rfl
