-- the reference: a standing at level lv
def FrL (lv : Nat) (A A' : Nat → Nat → Int32) : Prop := ∀ a j, (a ≠ 5 ∨ j < 31 * lv ∨ 31 * lv + 31 ≤ j) → A' a j = A a j
theorem FrL_rfl (lv : Nat) (A : Nat → Nat → Int32) : FrL lv A A := fun _ _ _ => rfl
theorem FrL_tr {lv : Nat} {A B C : Nat → Nat → Int32} (h : FrL lv A B) (h2 : FrL lv B C) : FrL lv A C := fun a j hj => by rw [h2 a j hj, h a j hj]
theorem FrL_MT {lv k m : Nat} {T : Nat → Nat → Nat} {I : Nat → Int32} {A A' : Nat → Nat → Int32} (h : FrL lv A A') (hM : MT k m T I A) : MT k m T I A' := by
  obtain ⟨h1, h2, h3, h4⟩ := hM
  refine ⟨h1, h2, fun r hr => ?_, fun p hp => ?_⟩
  · rw [h 0 r (Or.inl (by omega)), h 1 r (Or.inl (by omega)), h 2 r (Or.inl (by omega)), h 3 r (Or.inl (by omega))]
    exact h3 r hr
  · rw [h 4 p (Or.inl (by omega))]
    exact h4 p hp
theorem FrL_MS0 {A A' : Nat → Nat → Int32} {S : Nat → Nat} {d : Int32} (h : FrL 1 A A') (hM : MS A 0 S d) : MS A' 0 S d := by
  obtain ⟨h1, h2⟩ := hM
  refine ⟨fun j hj => ?_, ?_⟩
  · rw [h 5 _ (Or.inr (Or.inl (by omega)))]; exact h1 j hj
  · rw [h 5 _ (Or.inr (Or.inl (by omega)))]; exact h2
theorem FrL_wr {lv j : Nat} (A : Nat → Nat → Int32) (x : Int32) (hj : j < 31) : FrL lv A (va_up A 5 (upd (A 5) (31 * lv + j) x)) := by
  intro a i h
  by_cases ha : a = 5
  · subst ha
    rw [va_up_self, upd_n _ _ (by omega)]
  · rw [va_up_ne _ _ ha]
theorem m_isProved (N : Nat) {k m lv r : Nat} {T : Nat → Nat → Nat} {I : Nat → Int32} {A : Nat → Nat → Int32} {S : Nat → Nat} {d : Int32} (hB : TB k m T) (hT : MT k m T I A) (hS : MS A lv S d) (hl : lv < 2) (hr : r < k) : fX7_isProved N A (nI lv) (nI r) = some (if pv (T 2 r) d = true then 1 else 0) := by
  have hk := hB.1
  have e1 := (hT.2.2.1 r hr).2.2.1
  have e2 := hS.2
  cases hb : pv (T 2 r) d with
  | true =>
    rw [p_X7_isProved N lv r (by omega) hl A (by rw [e1, e2]; exact prvb_t hb)]
    rfl
  | false =>
    rw [p_X7_isProved' N lv r (by omega) hl A (by rw [e1, e2]; exact prvb_f hb)]
    rfl
theorem m_worthOf (N : Nat) {k m lv r : Nat} {T : Nat → Nat → Nat} {I : Nat → Int32} {A : Nat → Nat → Int32} {S : Nat → Nat} {d : Int32} (hN : 7 ≤ N) (hB : TB k m T) (hT : MT k m T I A) (hS : MS A lv S d) (hSB : SB k m S) (hl : lv < 2) (hr : r < k) : fX7_worthOf N A (nI lv) (nI r) = some (nI (vR T S d r)) := by
  have hk := hB.1
  obtain ⟨e1, e2, e3, e4⟩ := hT.2.2.1 r hr
  obtain ⟨b1, b2, b3, b4, b5⟩ := hB.2.2.1 r hr
  rw [p_X7_worthOf N lv r hN A (by omega) hl, e1, e2, e3, hS.2, hS.1 r (by omega), show 31 * lv + 5 + r = 31 * lv + (5 + r) by omega, hS.1 (5 + r) (by omega), valN _ _ _ _ _ _ b2 b3 (hSB.1 r (by omega)) (hSB.1 (5 + r) (by omega))]
  rfl
theorem m_canSay (N : Nat) {k m lv r t : Nat} {T : Nat → Nat → Nat} {I : Nat → Int32} {A : Nat → Nat → Int32} {S : Nat → Nat} {d : Int32} (hB : TB k m T) (hT : MT k m T I A) (hS : MS A lv S d) (hSB : SB k m S) (hl : lv < 2) (hr : r < k) (ht : t < 6) : fX7_canSay N A (nI lv) (nI r) (nI t) = some (if csN (T 2 r) d (S r) (S (5 + r)) t = true then 1 else 0) := by
  have hk := hB.1
  obtain ⟨e1, e2, e3, e4⟩ := hT.2.2.1 r hr
  rw [p_X7_canSay N lv r t (S r) (S (5 + r)) A (by omega) hl (hS.1 r (by omega)) (by rw [Nat.add_assoc]; exact hS.1 (5 + r) (by omega)), e3, hS.2, csN_e _ _ _ _ _ (hSB.1 r (by omega)) (hSB.1 (5 + r) (by omega)) ht]
theorem m_canDeny (N : Nat) {k m lv r t : Nat} {T : Nat → Nat → Nat} {I : Nat → Int32} {A : Nat → Nat → Int32} {S : Nat → Nat} {d : Int32} (hB : TB k m T) (hT : MT k m T I A) (hS : MS A lv S d) (hSB : SB k m S) (hl : lv < 2) (hr : r < k) (ht : t < 6) : fX7_canDeny N A (nI lv) (nI r) (nI t) = some (if cdN (T 1 r) (T 2 r) d (S (5 + r)) t = true then 1 else 0) := by
  have hk := hB.1
  obtain ⟨e1, e2, e3, e4⟩ := hT.2.2.1 r hr
  obtain ⟨b1, b2, b3, b4, b5⟩ := hB.2.2.1 r hr
  rw [p_X7_canDeny N lv r t (S (5 + r)) A (by omega) hl (by rw [Nat.add_assoc]; exact hS.1 (5 + r) (by omega)), e2, e3, hS.2, cdN_e _ _ _ _ _ b3 (hSB.1 (5 + r) (by omega)) ht]
/-- part of a dawn: the coins ahead of (p, r) are struck -/
def dwp (k m : Nat) (T : Nat → Nat → Nat) (S : Nat → Nat) (e : Nat) : Nat → Nat := fun j => if 10 ≤ j ∧ j < 10 + e ∧ gt k m T S ((j - 10) / 5) ((j - 10) % 5) = true then S j + 1 else S j
theorem dwp_lo (k m : Nat) (T : Nat → Nat → Nat) (S : Nat → Nat) (e j : Nat) (h : j < 10) : dwp k m T S e j = S j := by
  unfold dwp; rw [if_neg (by omega)]
theorem dwp_hi (k m : Nat) (T : Nat → Nat → Nat) (S : Nat → Nat) (e j : Nat) (h : 10 + e ≤ j) : dwp k m T S e j = S j := by
  unfold dwp; rw [if_neg (by omega)]
theorem dwp_s (k m : Nat) (T : Nat → Nat → Nat) (S : Nat → Nat) (p r : Nat) (hr : r < 5) : dwp k m T S (5 * p + (r + 1)) (10 + (5 * p + r)) = if gt k m T S p r = true then S (10 + (5 * p + r)) + 1 else S (10 + (5 * p + r)) := by
  unfold dwp
  have h1 : (10 + (5 * p + r) - 10) / 5 = p := by omega
  have h2 : (10 + (5 * p + r) - 10) % 5 = r := by omega
  rw [h1, h2]
  by_cases h : gt k m T S p r = true
  · rw [if_pos ⟨by omega, by omega, h⟩, if_pos h]
  · rw [if_neg (fun h3 => h h3.2.2), if_neg h]
theorem dwp_n (k m : Nat) (T : Nat → Nat → Nat) (S : Nat → Nat) (e j : Nat) (h : j ≠ 10 + e) : dwp k m T S (e + 1) j = dwp k m T S e j := by
  unfold dwp
  by_cases h1 : 10 ≤ j ∧ j < 10 + e ∧ gt k m T S ((j - 10) / 5) ((j - 10) % 5) = true
  · rw [if_pos h1, if_pos ⟨h1.1, by omega, h1.2.2⟩]
  · rw [if_neg h1, if_neg (fun h2 => h1 ⟨h2.1, by omega, h2.2.2⟩)]
theorem dwp_k (k m : Nat) (T : Nat → Nat → Nat) (S : Nat → Nat) (p : Nat) (hk : k ≤ 5) : dwp k m T S (5 * p + k) = dwp k m T S (5 * (p + 1)) := by
  funext j
  unfold dwp
  by_cases h1 : 10 ≤ j ∧ j < 10 + (5 * p + k) ∧ gt k m T S ((j - 10) / 5) ((j - 10) % 5) = true
  · rw [if_pos h1, if_pos ⟨h1.1, by omega, h1.2.2⟩]
  · rw [if_neg h1]
    by_cases h2 : 10 ≤ j ∧ j < 10 + 5 * (p + 1) ∧ gt k m T S ((j - 10) / 5) ((j - 10) % 5) = true
    · exfalso
      refine h1 ⟨h2.1, ?_, h2.2.2⟩
      have h3 := h2.2.2
      simp only [gt, Bool.and_eq_true, decide_eq_true_eq] at h3
      omega
    · rw [if_neg h2]
theorem m_dawn_in (N : Nat) {k m lv p : Nat} {T : Nat → Nat → Nat} {I : Nat → Int32} {A : Nat → Nat → Int32} {S : Nat → Nat} {d : Int32} (hN : 7 ≤ N) (hB : TB k m T) (hT : MT k m T I A) (hSB : SB k m S) (hl : lv < 2) (hp : p < m)
    (hS : MS A lv (dwp k m T S (5 * p)) d) (c : Nat) (k10 : (Nat → Int32) → (Nat → Nat → Int32) → Int32 → Int32 → Int32 → Int32 → Option (Int32 × (Nat → Nat → Int32))) :
    ∃ A', MS A' lv (dwp k m T S (5 * (p + 1))) d ∧ FrL lv A A' ∧ fX7_dawnOn_22 N k10 N I A (nI lv) (nI (31 * lv)) (nI c) (nI p) 0 = k10 I A' (nI lv) (nI (31 * lv)) (nI (c + sm (fun r => if gt k m T S p r = true then 1 else 0) k)) (nI (p + 1)) := by
  have hk := hB.1
  have hm := hB.2.1
  have H := lpX (fun n i (s : Nat → Nat → Int32) => fX7_dawnOn_22 N k10 n I s (nI lv) (nI (31 * lv)) (nI (c + sm (fun r => if gt k m T S p r = true then 1 else 0) i)) (nI p) (nI i))
    (fun s => k10 I s (nI lv) (nI (31 * lv)) (nI (c + sm (fun r => if gt k m T S p r = true then 1 else 0) k)) (nI (p + 1)))
    (fun i s => MS s lv (dwp k m T S (5 * p + i)) d ∧ FrL lv A s) k ?_ ?_ N 0 A (by omega) (by omega) ⟨hS, FrL_rfl lv A⟩
  · obtain ⟨s, ⟨h1, h2⟩, h3⟩ := H
    exact ⟨s, by rw [← dwp_k k m T S p hk]; exact h1, h2, h3⟩
  · intro n s h
    show fX7_dawnOn_22s N k10 _ I s _ _ _ _ _ = _
    unfold fX7_dawnOn_22s
    rw [hT.1, if_pos (nI_le (Nat.le_refl k) (by omega)), nI_1]
  · rintro n i s hi ⟨h1, h2⟩
    show ∃ s', _ ∧ fX7_dawnOn_22s N k10 (fX7_dawnOn_22 N k10 n) I s _ _ _ _ _ = _
    have hTs := FrL_MT h2 hT
    have hsd : s 5 (31 * lv + i) = nI (S i) := by rw [h1.1 i (by omega), dwp_lo _ _ _ _ _ _ (by omega)]
    have hc : s 5 (31 * lv + (10 + (5 * p + i))) = nI (S (10 + (5 * p + i))) := by rw [h1.1 _ (by omega), dwp_hi _ _ _ _ _ _ (by omega)]
    have hcb := hSB.2.1 (5 * p + i) (by omega)
    have hst : T 4 p < 6 := hB.2.2.2 p hp
    have hbx : bitB (nI (S i)) (T 4 p) = (S i).testBit (T 4 p) := bitN _ (hSB.1 i (by omega)) _ hst
    -- the step, either way
    have key : ∀ g : Bool, gt k m T S p i = g → ∃ s', (MS s' lv (dwp k m T S (5 * p + (i + 1))) d ∧ FrL lv A s') ∧ fX7_dawnOn_77 N k10 (fX7_dawnOn_22 N k10 n) I s (nI lv) (nI (31 * lv)) (nI (c + sm (fun r => if gt k m T S p r = true then 1 else 0) i)) (nI p) (nI i) (if g = true then 1 else 0) = fX7_dawnOn_22 N k10 n I s' (nI lv) (nI (31 * lv)) (nI (c + sm (fun r => if gt k m T S p r = true then 1 else 0) (i + 1))) (nI p) (nI (i + 1)) := by
      intro g hg
      refine ⟨va_up s 5 (upd (s 5) (31 * lv + (10 + (5 * p + i))) (nI (S (10 + (5 * p + i)) + (if g = true then 1 else 0)))), ⟨⟨fun j hj => ?_, ?_⟩, FrL_tr h2 (FrL_wr s _ (by omega))⟩, ?_⟩
      · rw [va_up_self]
        by_cases e : j = 10 + (5 * p + i)
        · subst e
          rw [upd_s, dwp_s _ _ _ _ _ _ (by omega), hg]
          cases g <;> rfl
        · rw [upd_n _ _ (by omega), ← Nat.add_assoc (5 * p) i 1, dwp_n _ _ _ _ _ _ e]
          exact h1.1 j hj
      · rw [va_up_self, upd_n _ _ (by omega)]; exact h1.2
      · have hsm : sm (fun r => if gt k m T S p r = true then 1 else 0) (i + 1) = sm (fun r => if gt k m T S p r = true then 1 else 0) i + (if g = true then 1 else 0) := by rw [sm, hg]
        rw [hsm]
        unfold fX7_dawnOn_77 fX7_dawnOn_104 fX7_dawnOn_117 fX7_coinAt
        rw [Option.bind_some, ox3, rd_e rfl (by omega) (by omega) hc, Option.bind_some]
        cases g with
        | true => rw [if_pos rfl, if_neg (by decide), wr_e _ _ rfl (by omega) (by omega), Option.bind_some, if_neg (by decide), nI_1, nI_1, nI_1]; rfl
        | false => rw [if_neg Bool.false_ne_true, if_pos rfl, wr_e _ _ rfl (by omega) (by omega), Option.bind_some, if_pos rfl, show (0 : Int32) = nI 0 from rfl, nI_add, nI_1, nI_add]; rfl
    unfold fX7_dawnOn_22s
    rw [hT.1, if_neg (nI_ge hi (by omega)), nI_add, rd_e rfl (by omega) (by omega) hsd, Option.bind_some, rd_e rfl (by omega) (by omega) (hTs.2.2.2 p hp), Option.bind_some, q_X7_has N (S i) (T 4 p) _ rfl, Option.bind_some, hbx]
    cases hb : (S i).testBit (T 4 p) with
    | false =>
      rw [if_neg Bool.false_ne_true, if_pos rfl]
      exact key false (by simp [gt, hb])
    | true =>
      rw [if_pos rfl, if_neg (by decide)]
      unfold fX7_coinAt
      rw [Option.bind_some, ox3, rd_e rfl (by omega) (by omega) hc, Option.bind_some]
      by_cases h9 : S (10 + (5 * p + i)) < 99
      · rw [if_neg (show ¬ (99 : Int32) ≤ nI _ from nI_ge (b := 99) h9 (by omega))]
        exact key true (by simp [gt, hb, h9, hp, hi])
      · rw [if_pos (show (99 : Int32) ≤ nI _ from nI_le (a := 99) (by omega) (by omega))]
        exact key false (by simp [gt, h9])
/-- part of a dawn: behind the coins and the day, the said ones ahead of e -/
def dwq (k m : Nat) (T : Nat → Nat → Nat) (d : Int32) (S : Nat → Nat) (e : Nat) : Nat → Nat := fun j => if j < e then dw k m T d S j else dwp k m T S (5 * m) j
theorem dwq_e (k m : Nat) (T : Nat → Nat → Nat) (d : Int32) (S : Nat → Nat) (hk : k ≤ 5) (j : Nat) : dwq k m T d S k j = dw k m T d S j := by
  unfold dwq
  split
  · rfl
  · rename_i h
    unfold dwp dw
    rw [if_neg h]
    by_cases h1 : j < 10
    · rw [if_neg (by omega), if_pos h1]
    · rw [if_neg h1]
      by_cases h2 : gt k m T S ((j - 10) / 5) ((j - 10) % 5) = true
      · have h3 := h2
        simp only [gt, Bool.and_eq_true, decide_eq_true_eq] at h3
        rw [if_pos ⟨by omega, by omega, h2⟩, if_pos h2]
      · rw [if_neg (fun h3 => h2 h3.2.2), if_neg h2]
theorem m_dawn_out (N : Nat) {k m lv : Nat} {T : Nat → Nat → Nat} {I : Nat → Int32} {A : Nat → Nat → Int32} {S : Nat → Nat} {d : Int32} (hN : 7 ≤ N) (hB : TB k m T) (hT : MT k m T I A) (hSB : SB k m S) (hl : lv < 2)
    (hS : MS A lv (dwp k m T S (5 * m)) (d + 1)) (c : Nat) :
    ∃ A', MS A' lv (dw k m T d S) (d + 1) ∧ FrL lv A A' ∧ fX7_dawnOn_147 N N I A (nI lv) (nI (31 * lv)) (nI c) 0 = some (nI c, A') := by
  have hk := hB.1
  have hm := hB.2.1
  have H := lpX (fun n i (s : Nat → Nat → Int32) => fX7_dawnOn_147 N n I s (nI lv) (nI (31 * lv)) (nI c) (nI i))
    (fun s => some (nI c, s))
    (fun i s => MS s lv (dwq k m T d S i) (d + 1) ∧ FrL lv A s) k ?_ ?_ N 0 A (by omega) (by omega) ⟨hS, FrL_rfl lv A⟩
  · obtain ⟨s, ⟨h1, h2⟩, h3⟩ := H
    refine ⟨s, ⟨fun j hj => ?_, h1.2⟩, h2, h3⟩
    rw [← dwq_e k m T d S hk]; exact h1.1 j hj
  · intro n s h
    show fX7_dawnOn_147s N _ I s _ _ _ _ = _
    unfold fX7_dawnOn_147s
    rw [hT.1, if_pos (nI_le (Nat.le_refl k) (by omega))]
  · rintro n i s hi ⟨h1, h2⟩
    show ∃ s', _ ∧ fX7_dawnOn_147s N (fX7_dawnOn_147 N n) I s _ _ _ _ = _
    have hTs := FrL_MT h2 hT
    have hsd : s 5 (31 * lv + i) = nI (S i) := by rw [h1.1 i (by omega)]; unfold dwq; rw [if_neg (by omega), dwp_lo _ _ _ _ _ _ (by omega)]
    have hdn : s 5 (31 * lv + (5 + i)) = nI (S (5 + i)) := by rw [h1.1 _ (by omega)]; unfold dwq; rw [if_neg (by omega), dwp_lo _ _ _ _ _ _ (by omega)]
    obtain ⟨b1, b2, b3, b4, b5⟩ := hB.2.2.1 i hi
    obtain ⟨e1, e2, e3, e4⟩ := hTs.2.2.1 i hi
    have hP : fX7_isProved N s (nI lv) (nI i) = some (if pv (T 2 i) (d + 1) = true then 1 else 0) := m_isProved N hB hTs h1 hl hi
    have key : ∃ s', (MS s' lv (dwq k m T d S (i + 1)) (d + 1) ∧ FrL lv A s') ∧ fX7_dawnOn_233 N (fX7_dawnOn_147 N n) I s (nI lv) (nI (31 * lv)) (nI c) (nI i) (nI (31 * lv + i)) (dwnB (nI (T 1 i)) (nI (T 2 i)) (d + 1) (nI (S i)) (nI (S (5 + i)))) = fX7_dawnOn_147 N n I s' (nI lv) (nI (31 * lv)) (nI c) (nI (i + 1)) := by
      refine ⟨va_up s 5 (upd (s 5) (31 * lv + i) (dwnB (nI (T 1 i)) (nI (T 2 i)) (d + 1) (nI (S i)) (nI (S (5 + i))))), ⟨⟨fun j hj => ?_, ?_⟩, FrL_tr h2 (FrL_wr s _ (by omega))⟩, ?_⟩
      · rw [va_up_self]
        by_cases e : j = i
        · subst e
          rw [upd_s, dwn_N _ _ _ _ _ b3 (hSB.1 j (by omega)) (hSB.1 (5 + j) (by omega))]
          unfold dwq dw
          rw [if_pos (by omega), if_pos hi]
        · rw [upd_n _ _ (by omega), h1.1 j hj]
          unfold dwq
          by_cases h3 : j < i
          · rw [if_pos h3, if_pos (by omega)]
          · rw [if_neg h3, if_neg (by omega)]
      · rw [va_up_self, upd_n _ _ (by omega)]; exact h1.2
      · unfold fX7_dawnOn_233
        rw [wr_e _ _ rfl (by omega) (by omega), Option.bind_some, nI_1]
    have e5 : nI (31 * lv) + 5 + nI i = nI (31 * lv + (5 + i)) := by
      rw [show (5 : Int32) = nI 5 from rfl, nI_add, nI_add, Nat.add_assoc]
    unfold fX7_dawnOn_147s
    rw [hT.1, if_neg (nI_ge hi (by omega)), nI_add, rd_e rfl (by omega) (by omega) hsd, Option.bind_some, e5, rd_e rfl (by omega) (by omega) hdn, Option.bind_some, rd_e rfl (by omega) (by omega) e2, Option.bind_some, hP, Option.bind_some]
    unfold dwnB at key
    simp only [li_eq b3] at key ⊢
    unfold fX7_dawnOn_231
    by_cases hl1 : T 1 i = 1
    · rw [if_pos hl1]
      cases hb : pv (T 2 i) (d + 1) with
      | true =>
        rw [if_pos ⟨hb, hl1⟩] at key
        rw [if_pos rfl, if_neg (by decide)]
        exact key
      | false =>
        rw [if_neg (fun h => by rw [show prvb (nI (T 2 i)) (d + 1) = pv (T 2 i) (d + 1) from rfl, hb] at h; exact Bool.false_ne_true h.1)] at key
        rw [if_neg Bool.false_ne_true, if_pos rfl]
        exact key
    · rw [if_neg hl1]
      rw [if_neg (fun h => hl1 h.2)] at key
      exact key
theorem m_dawnOn (N : Nat) {k m lv : Nat} {T : Nat → Nat → Nat} {I : Nat → Int32} {A : Nat → Nat → Int32} {S : Nat → Nat} {d : Int32} (hN : 7 ≤ N) (hB : TB k m T) (hT : MT k m T I A) (hS : MS A lv S d) (hSB : SB k m S) (hl : lv < 2) :
    ∃ A', MS A' lv (dw k m T d S) (d + 1) ∧ FrL lv A A' ∧ fX7_dawnOn N I A (nI lv) = some (nI (stk k m T S), A') := by
  have hk := hB.1
  have hm := hB.2.1
  have H := lpX (fun n i (s : Nat → Nat → Int32) => fX7_dawnOn_10 N n I s (nI lv) (nI (31 * lv)) (nI (sm (fun p => sm (fun r => if gt k m T S p r = true then 1 else 0) k) i)) (nI i))
    (fun s => fX7_dawnOn_147 N N I (va_up s 5 (upd (s 5) (31 * lv + 30) (d + 1))) (nI lv) (nI (31 * lv)) (nI (stk k m T S)) 0)
    (fun i s => MS s lv (dwp k m T S (5 * i)) d ∧ FrL lv A s) m ?_ ?_ N 0 A (by omega) (by omega) ⟨⟨fun j hj => by rw [hS.1 j hj]; unfold dwp; rw [if_neg (by omega)], hS.2⟩, FrL_rfl lv A⟩
  · obtain ⟨s, ⟨h1, h2⟩, h3⟩ := H
    have h4 := FrL_wr (lv := lv) s (d + 1) (j := 30) (by omega)
    obtain ⟨A', g1, g2, g3⟩ := m_dawn_out N (lv := lv) (A := va_up s 5 (upd (s 5) (31 * lv + 30) (d + 1))) hN hB (FrL_MT (FrL_tr h2 h4) hT) hSB hl (d := d) ⟨fun j hj => by rw [va_up_self, upd_n _ _ (by omega)]; exact h1.1 j hj, by rw [va_up_self, upd_s]⟩ (stk k m T S)
    refine ⟨A', g1, FrL_tr (FrL_tr h2 h4) g2, ?_⟩
    rw [← g3, ← h3]
    unfold fX7_dawnOn
    rw [show 31 * nI lv = nI (31 * lv) from pk_mul 31 lv]
    rfl
  · rintro n s ⟨h1, h2⟩
    show fX7_dawnOn_10s N _ I s _ _ _ _ = _
    unfold fX7_dawnOn_10s
    rw [hT.2.1, if_pos (nI_le (Nat.le_refl m) (by omega)), show nI (31 * lv) + 30 = nI (31 * lv + 30) from nI_add _ 30, rd_e rfl (by omega) (by omega) h1.2, Option.bind_some, wr_e _ _ rfl (by omega) (by omega), Option.bind_some]
    rfl
  · rintro n i s hi ⟨h1, h2⟩
    show ∃ s', _ ∧ fX7_dawnOn_10s N (fX7_dawnOn_10 N n) I s _ _ _ _ = _
    obtain ⟨A', g1, g2, g3⟩ := m_dawn_in N hN hB (FrL_MT h2 hT) hSB hl hi h1 (sm (fun p => sm (fun r => if gt k m T S p r = true then 1 else 0) k) i) (fX7_dawnOn_10 N n)
    refine ⟨A', ⟨g1, FrL_tr h2 g2⟩, ?_⟩
    unfold fX7_dawnOn_10s
    rw [hT.2.1, if_neg (nI_ge hi (by omega)), g3]
    rfl
