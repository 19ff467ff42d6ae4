theorem SB_dw {k m : Nat} {T : Nat → Nat → Nat} {S : Nat → Nat} (d : Int32) (hB : TB k m T) (h : SB k m S) : SB k m (dw k m T d S) := by
  have hk := hB.1
  have hm := hB.2.1
  obtain ⟨h1, h2, h3, h4⟩ := h
  refine ⟨fun j hj => ?_, fun j hj => ?_, fun r hr1 hr2 => ?_, fun p r hp hr hx => ?_⟩
  · unfold dw
    split
    · exact dwn_64 _ _ _ _ _
    · exact h1 j hj
  · unfold dw
    rw [if_neg (by omega), if_neg (by omega)]
    split
    · rename_i hg
      simp only [gt, Bool.and_eq_true, decide_eq_true_eq] at hg
      have e : 10 + (5 * ((10 + j - 10) / 5) + (10 + j - 10) % 5) = 10 + j := by omega
      rw [e] at hg
      omega
    · exact h2 j hj
  · unfold dw
    rw [if_neg (by omega), if_pos (by omega)]
    exact h3 r hr1 hr2
  · unfold dw
    rw [if_neg (by omega), if_neg (by omega)]
    rw [if_neg, h4 p r hp hr hx]
    have e1 : (10 + (5 * p + r) - 10) / 5 = p := by omega
    have e2 : (10 + (5 * p + r) - 10) % 5 = r := by omega
    rw [e1, e2]
    intro hg
    simp only [gt, Bool.and_eq_true, decide_eq_true_eq] at hg
    omega
theorem SB_dws {k m : Nat} {T : Nat → Nat → Nat} {S : Nat → Nat} (d : Int32) (hB : TB k m T) (h : SB k m S) : ∀ n, SB k m (dws k m T d S n)
  | 0 => h
  | n + 1 => SB_dw _ hB (SB_dws d hB h n)
theorem m_layTrial (N : Nat) {A : Nat → Nat → Int32} {S : Nat → Nat} {d : Int32} (hN : 40 ≤ N) (hS : MS A 0 S d) : ∃ A', MS A' 1 S d ∧ FrL 1 A A' ∧ fX7_layTrial N A = some A' := by
  have H := lpX (fun n i (s : Nat → Nat → Int32) => fX7_layTrial_2 N n s (nI i)) (fun s => some s)
    (fun i s => (∀ j, j < i → s 5 (31 + j) = A 5 j) ∧ FrL 1 A s) 31 ?_ ?_ N 0 A (by omega) (by omega) ⟨fun j hj => by omega, FrL_rfl 1 A⟩
  · obtain ⟨s, ⟨h1, h2⟩, h3⟩ := H
    refine ⟨s, ⟨fun j hj => ?_, ?_⟩, h2, h3⟩
    · rw [show 31 * 1 + j = 31 + j by omega, h1 j (by omega), ← hS.1 j hj, show 31 * 0 + j = j by omega]
    · rw [show 31 * 1 + 30 = 31 + 30 by omega, h1 30 (by omega), ← hS.2]
  · intro n s h
    show fX7_layTrial_2s N _ s _ = _
    unfold fX7_layTrial_2s
    rw [if_pos (by decide +kernel)]
  · rintro n i s hi ⟨h1, h2⟩
    show ∃ s', _ ∧ fX7_layTrial_2s N (fX7_layTrial_2 N n) s _ = _
    refine ⟨va_up s 5 (upd (s 5) (31 * 1 + i) (A 5 i)), ⟨fun j hj => ?_, FrL_tr h2 (FrL_wr s _ (by omega))⟩, ?_⟩
    · rw [va_up_self]
      by_cases e : j = i
      · subst e; rw [show 31 * 1 + j = 31 + j by omega, upd_s]
      · rw [upd_n _ _ (by omega)]; exact h1 j (by omega)
    · unfold fX7_layTrial_2s
      rw [if_neg (show ¬ (31 : Int32) ≤ nI i from nI_ge (b := 31) hi (by omega)), rd_e rfl (by omega) (by omega) (h2 5 i (Or.inr (Or.inl (by omega)))), Option.bind_some, wr_e _ _ (show (31 : Int32) + nI i = nI (31 * 1 + i) from nI_add 31 i) (by omega) (by omega), Option.bind_some, nI_1]
theorem m_dawnOn1 (N : Nat) {k m : Nat} {T : Nat → Nat → Nat} {I : Nat → Int32} {A : Nat → Nat → Int32} {S : Nat → Nat} {d : Int32} (hN : 7 ≤ N) (hB : TB k m T) (hT : MT k m T I A) (hS : MS A 1 S d) (hSB : SB k m S) : ∃ A', MS A' 1 (dw k m T d S) (d + 1) ∧ FrL 1 A A' ∧ fX7_dawnOn N I A 1 = some (nI (stk k m T S), A') := m_dawnOn N hN hB hT hS hSB (by omega)
theorem dd (d : Int32) (n : Nat) : d + nI n + 1 = d + nI (n + 1) := by rw [Int32.add_assoc, nI_1]
theorem m_dawnTrial (N : Nat) {k m : Nat} {T : Nat → Nat → Nat} {I : Nat → Int32} {A : Nat → Nat → Int32} {S : Nat → Nat} {d : Int32} {q : Nat} (hN : 40 ≤ N) (hB : TB k m T) (hT : MT k m T I A) (hS : MS A 1 S d) (hSB : SB k m S) (hq : q ≤ 8) : ∃ A', MS A' 1 (dws k m T d S q) (d + nI q) ∧ FrL 1 A A' ∧ fX7_dawnTrial N I A (nI q) = some A' := by
  have H := lpX (fun n i (s : Nat → Nat → Int32) => fX7_dawnTrial_2 N n I s (nI q) (nI i)) (fun s => some s)
    (fun i s => MS s 1 (dws k m T d S i) (d + nI i) ∧ FrL 1 A s) q ?_ ?_ N 0 A (by omega) (by omega) ⟨by rw [show nI 0 = 0 from rfl, Int32.add_zero]; exact hS, FrL_rfl 1 A⟩
  · obtain ⟨s, ⟨h1, h2⟩, h3⟩ := H
    exact ⟨s, h1, h2, h3⟩
  · intro n s h
    show fX7_dawnTrial_2s N _ I s _ _ = _
    unfold fX7_dawnTrial_2s
    rw [if_pos (nI_le (Nat.le_refl q) (by omega))]
  · rintro n i s hi ⟨h1, h2⟩
    show ∃ s', _ ∧ fX7_dawnTrial_2s N (fX7_dawnTrial_2 N n) I s _ _ = _
    obtain ⟨A', g1, g2, g3⟩ := m_dawnOn1 N (by omega) hB (FrL_MT h2 hT) h1 (SB_dws d hB hSB i)
    refine ⟨A', ⟨by rw [dd] at g1; exact g1, FrL_tr h2 g2⟩, ?_⟩
    unfold fX7_dawnTrial_2s
    rw [if_neg (nI_ge hi (by omega)), g3, Option.bind_some, nI_1]
def prs (k : Nat) (T : Nat → Nat → Nat) (S : Nat → Nat) (d : Int32) (p : Nat) : Nat := sm (fun r => S (10 + (5 * p + r)) * vR T S d r) k
theorem m_purseOf (N : Nat) {k m lv p : Nat} {T : Nat → Nat → Nat} {I : Nat → Int32} {A : Nat → Nat → Int32} {S : Nat → Nat} {d : Int32} (hN : 40 ≤ N) (hB : TB k m T) (hT : MT k m T I A) (hS : MS A lv S d) (hSB : SB k m S) (hl : lv < 2) (hp : p < m) : fX7_purseOf N I A (nI lv) (nI p) = some (nI (prs k T S d p)) := by
  have hk := hB.1
  have hm := hB.2.1
  have H := lpE (fun n i => fX7_purseOf_5 N n I A (nI lv) (nI p) (nI (sm (fun r => S (10 + (5 * p + r)) * vR T S d r) i)) (nI i)) (fun _ => some (nI (prs k T S d p))) k ?_ ?_ N 0 (by omega) (by omega)
  · exact H
  · intro n
    show fX7_purseOf_5s N _ I A _ _ _ _ = _
    unfold fX7_purseOf_5s
    rw [hT.1, if_pos (nI_le (Nat.le_refl k) (by omega))]
    rfl
  · intro n i hi ih
    show fX7_purseOf_5s N _ I A _ _ _ _ = _
    unfold fX7_purseOf_5s fX7_coinAt
    rw [hT.1, if_neg (nI_ge hi (by omega)), Option.bind_some, ox3, rd_e rfl (by omega) (by omega) (hS.1 _ (by omega)), Option.bind_some, m_worthOf N (by omega) hB hT hS hSB hl hi, Option.bind_some, pk_mul, nI_add, nI_1]
    exact ih
