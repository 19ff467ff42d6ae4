-- the relation of class and reference
def RT (x : Int32) (f : Nat → Int32) (y : Int32) (g : Nat → Int32) : Prop := ∃ len, len ≤ 48 ∧ x = nI len ∧ y = nI len ∧ ∀ j, j < len → ∃ c, c < 256 ∧ f j = nI c ∧ g j = nI c
def RA (k m : Nat) (h x : Int32) (f : Nat → Int32) (aI : Nat → Int32) (aS : Nat → Nat → Int32) (aT : Nat → Nat → Nat → Int32) : Prop := ∃ (hh xx : Nat) (Q : Nat → Nat → Nat) (D : Nat → Int32), hh ≤ 14 ∧ xx < 14 ∧ h = nI hh ∧ x = nI xx ∧ aI 0 = nI xx ∧ aI 1 = nI hh ∧ (∀ i, i < 14 → CS (aS i) (aT i) (Q i) (D i) ∧ (∀ j, j < 30 → f (31 * i + j) = nI (Q i j)) ∧ f (31 * i + 30) = D i) ∧ (∀ j, j < hh → SB k m (Q ((xx + 13 - j) % 14)))
def RH (x : Int32) (f0 f1 f2 f3 : Nat → Int32) (eI : Nat → Int32) (eA : Nat → Nat → Int32) : Prop := ∃ hh, hh ≤ 6 ∧ x = nI hh ∧ eI 0 = nI hh ∧ ∀ j, j < hh → ∃ r t n s, r < 5 ∧ t < 6 ∧ n < 9 ∧ s < 2 ∧ f0 j = nI r ∧ eA 0 j = nI r ∧ f1 j = nI t ∧ eA 1 j = nI t ∧ f2 j = nI n ∧ eA 2 j = nI n ∧ f3 j = nI s ∧ eA 3 j = nI s
def RK (k m : Nat) (f g z : Nat → Int32) (sS : Nat → Nat → Int32) (sT : Nat → Nat → Nat → Int32) : Prop := ∀ i, i < 2 → f i = z i ∧ (f i = 0 ∨ f i = 1) ∧ (f i = 1 → ∃ S d, SB k m S ∧ CS (sS i) (sT i) S d ∧ (∀ j, j < 30 → g (31 * i + j) = nI (S j)) ∧ g (31 * i + 30) = d)
def Rel (I : Nat → Int32) (A : Nat → Nat → Int32) (L : Int64) (A6 : Nat → Nat → Int32) (L6 : Int64) (rI : Nat → Int32) (rA : Nat → Nat → Int32) (tI : Nat → Int32) (tA : Nat → Nat → Int32) (wI : Nat → Int32) (wA : Nat → Nat → Int32) (aI : Nat → Int32) (aS : Nat → Nat → Int32) (aT : Nat → Nat → Nat → Int32) (eI : Nat → Int32) (eA : Nat → Nat → Int32) (sS : Nat → Nat → Int32) (sT : Nat → Nat → Nat → Int32) : Prop :=
  ∃ k m T S d, TB k m T ∧ SB k m S ∧ MT k m T I A ∧ CT k m T tI tA ∧ MS A 0 S d ∧ CS wI wA S d ∧ RT (I 4) (A 12) (rI 4) (rA 0) ∧ RA k m (I 7) (I 8) (A 13) aI aS aT ∧ RH (I 9) (A 14) (A 15) (A 16) (A 17) eI eA ∧ RK k m (A 20) (A 21) (A6 0) sS sT ∧ L = L6
theorem FrL_a {lv : Nat} {A A' : Nat → Nat → Int32} (h : FrL lv A A') {a : Nat} (ha : a ≠ 5) : A' a = A a := funext fun j => h a j (Or.inl ha)
-- arguments
theorem ix_of {x : Int32} {k : Nat} (hk : k < 2 ^ 31) (h : ¬ (x < 0 ∨ nI k ≤ x)) : ∃ j, j < k ∧ x = nI j := by
  rcases pk_ix x hk with h1 | h1 | h1
  · exact absurd (Or.inl h1) h
  · exact absurd (Or.inr h1) h
  · exact h1
theorem m_isR (N : Nat) {k m : Nat} {T : Nat → Nat → Nat} {I : Nat → Int32} {A : Nat → Nat → Int32} (x : Int32) (hB : TB k m T) (hT : MT k m T I A) : fX7_isRumour N I x = some (if x < 0 ∨ nI k ≤ x then 0 else 1) := p_X7_isRumour N I x k hB.1 hT.1
theorem m_isP (N : Nat) {k m : Nat} {T : Nat → Nat → Nat} {I : Nat → Int32} {A : Nat → Nat → Int32} (x : Int32) (hB : TB k m T) (hT : MT k m T I A) : fX7_isPerson N I x = some (if x < 0 ∨ nI m ≤ x then 0 else 1) := p_X7_isPerson N I x m hB.2.1 hT.2.1
theorem c_isR (N : Nat) {k m : Nat} {T : Nat → Nat → Nat} {I : Nat → Int32} {A : Nat → Nat → Int32} (x : Int32) (hB : TB k m T) (hT : CT k m T I A) : fX5_hasRumour N I x = some (if x < 0 ∨ nI k ≤ x then 0 else 1) := p_X5_hasRumour N I x k hB.1 hT.1
theorem c_isP (N : Nat) {k m : Nat} {T : Nat → Nat → Nat} {I : Nat → Int32} {A : Nat → Nat → Int32} (x : Int32) (hB : TB k m T) (hT : CT k m T I A) : fX5_hasPerson N I x = some (if x < 0 ∨ nI m ≤ x then 0 else 1) := by
  have hm := hB.2.1
  unfold fX5_hasPerson fX5_hasPerson_21 fX5_hasPerson_22
  rw [bz_0, bz_1, Option.bind_some, Option.bind_some, hT.2.1]
  by_cases h0 : x < 0
  · rw [if_pos h0, if_pos (Or.inl h0)]
  · rw [if_neg h0]
    by_cases h1 : nI m ≤ x
    · rw [if_pos h1, if_pos (Or.inr h1)]
    · have h2 : ¬ (4 : Int32) ≤ x := fun h => h1 (Int32.le_trans (nI_le (b := 4) hm (by omega)) h)
      rw [if_neg h1, if_neg h2, if_neg (fun h => h.elim h0 h1)]
theorem m_far (N : Nat) (x : Int32) : fX7_in N (Int32.toInt64 x) 0 8 = some (if x < 0 ∨ nI 9 ≤ x then 0 else 1) := by
  have h := p_X7_ix N x 9 (by omega)
  rw [show Int32.toInt64 (nI 9 - 1) = 8 by decide +kernel] at h
  exact h
theorem out_n (N : Nat) (x : Int32) (M : Nat) (hM : M < 1000) : fX6_isOutside N x 0 (nI M) = some (if x < 0 ∨ nI (M + 1) ≤ x then 1 else 0) := by
  rw [p_X6_isOutside]
  by_cases h0 : x < 0
  · rw [if_pos h0, if_pos (Or.inl h0)]
  · rw [if_neg h0]
    obtain ⟨j, hj, rfl⟩ := nI_of h0
    by_cases h1 : nI j ≤ nI M
    · rw [if_pos h1, if_neg]
      rintro (h2 | h2)
      · exact h0 h2
      · rw [nI_leI (by omega) (by omega)] at h1 h2; omega
    · rw [if_neg h1, if_pos]
      refine Or.inr ?_
      rw [nI_leI (by omega) (by omega)] at h1 ⊢; omega
theorem c_far (N : Nat) (x : Int32) : fX6_isOutside N x 0 8 = some (if x < 0 ∨ nI 9 ≤ x then 1 else 0) := out_n N x 8 (by omega)
theorem m_isT (N : Nat) (x : Int32) : fX7_isTable N x = some (if x < 0 ∨ nI 6 ≤ x then 0 else 1) := p_X7_isTable N x
theorem c_isT (N : Nat) (x : Int32) : fX6_isTable N x = some (if x < 0 ∨ nI 6 ≤ x then 0 else 1) := p_X6_isTable N x
-- bits
theorem shl1 : ∀ t, t < 6 → shl 1 (nI t) = nI (2 ^ t) := by decide +kernel
theorem or_N : ∀ s, s < 64 → ∀ u, u < 64 → nI s ||| nI u = nI (s ||| u) := by decide +kernel
theorem an_N : ∀ s, s < 64 → ∀ u, u < 64 → nI s &&& (nI u ^^^ (-1)) = nI (s &&& (63 - u)) := by decide +kernel
theorem and_N : ∀ s, s < 64 → ∀ u, u < 64 → nI s &&& nI u = nI (s &&& u) := by decide +kernel
theorem p2_64 {t : Nat} (ht : t < 6) : 2 ^ t < 64 := by
  have : 2 ^ t ≤ 2 ^ 5 := Nat.pow_le_pow_right (by omega) (by omega)
  omega
theorem or_lt {s u : Nat} (hs : s < 64) (hu : u < 64) : s ||| u < 64 := Nat.or_lt_two_pow (n := 6) hs hu
theorem and_lt {s u : Nat} (hs : s < 64) : s &&& u < 64 := Nat.lt_of_le_of_lt Nat.and_le_left hs
theorem SB_said {k m : Nat} {S : Nat → Nat} (h : SB k m S) (r x : Nat) (hr : r < k) (hk : k ≤ 5) (hx : x < 64) : SB k m (s1 S r x) := by
  obtain ⟨h1, h2, h3, h4⟩ := h
  refine ⟨fun j hj => ?_, fun j hj => ?_, fun i hi1 hi2 => ?_, fun p i hp hi hz => ?_⟩
  · by_cases e : j = r
    · subst e; rw [s1_s]; exact hx
    · rw [s1_n _ _ e]; exact h1 j hj
  · rw [s1_n _ _ (by omega)]; exact h2 j hj
  · rw [s1_n _ _ (by omega)]; exact h3 i hi1 hi2
  · rw [s1_n _ _ (by omega)]; exact h4 p i hp hi hz
theorem SB_den {k m : Nat} {S : Nat → Nat} (h : SB k m S) (r x : Nat) (hr : r < 5) (hx : x < 64) : SB k m (s1 S (5 + r) x) := by
  obtain ⟨h1, h2, h3, h4⟩ := h
  refine ⟨fun j hj => ?_, fun j hj => ?_, fun i hi1 hi2 => ?_, fun p i hp hi hz => ?_⟩
  · by_cases e : j = 5 + r
    · subst e; rw [s1_s]; exact hx
    · rw [s1_n _ _ e]; exact h1 j hj
  · rw [s1_n _ _ (by omega)]; exact h2 j hj
  · rw [s1_n _ _ (by omega)]; exact h3 i hi1 hi2
  · rw [s1_n _ _ (by omega)]; exact h4 p i hp hi hz
theorem SB_coin {k m : Nat} {S : Nat → Nat} (h : SB k m S) (p r x : Nat) (hp : p < m) (hm : m ≤ 4) (hr : r < k) (hk : k ≤ 5) (hx : x ≤ 99) : SB k m (s1 S (10 + (5 * p + r)) x) := by
  obtain ⟨h1, h2, h3, h4⟩ := h
  refine ⟨fun j hj => ?_, fun j hj => ?_, fun i hi1 hi2 => ?_, fun q i hq hi hz => ?_⟩
  · rw [s1_n _ _ (by omega)]; exact h1 j hj
  · by_cases e : 10 + j = 10 + (5 * p + r)
    · rw [e, s1_s]; exact hx
    · rw [s1_n _ _ e]; exact h2 j hj
  · rw [s1_n _ _ (by omega)]; exact h3 i hi1 hi2
  · rw [s1_n _ _ (by omega)]; exact h4 q i hq hi hz
theorem MS_w {lv : Nat} {A : Nat → Nat → Int32} {S : Nat → Nat} {d : Int32} (h : MS A lv S d) (j x : Nat) (hj : j < 30) : MS (va_up A 5 (upd (A 5) (31 * lv + j) (nI x))) lv (s1 S j x) d := by
  refine ⟨fun i hi => ?_, ?_⟩
  · rw [va_up_self]
    by_cases e : i = j
    · subst e; rw [upd_s, s1_s]
    · rw [upd_n _ _ (by omega), s1_n _ _ e]; exact h.1 i hi
  · rw [va_up_self, upd_n _ _ (by omega)]; exact h.2
theorem ones_N (N : Nat) (hN : 7 ≤ N) {s : Nat} (hs : s < 64) : fX7_ones N (nI s) = some (nI (cn s)) := by rw [q_X7_ones N hN, cnN s hs]
theorem bc_N (N : Nat) {s : Nat} (hs : s < 64) : fJ6_bitCount_0f7a4 N (nI s) = some (nI (cn s)) := by rw [p_bitCount N s hs, cnN s hs]
-- the acts
theorem m_keepAct (N : Nat) {h x : Nat} {I : Nat → Int32} {A : Nat → Nat → Int32} (hN : 40 ≤ N) (hh : h ≤ 14) (hx : x < 14) (h7 : I 7 = nI h) (h8 : I 8 = nI x) :
    ∃ A', fX7_keepAct N I A = some (upd (upd I 8 (nI ((x + 1) % 14))) 7 (nI (if 14 ≤ h then 14 else h + 1)), A') ∧ (∀ a, a ≠ 13 → A' a = A a) ∧ (∀ j, j < 31 → A' 13 (31 * x + j) = A 5 j) ∧ (∀ j, (j < 31 * x ∨ 31 * x + 31 ≤ j) → A' 13 j = A 13 j) := by
  have H := lpX (fun n i (s : Nat → Nat → Int32) => fX7_keepAct_2 N n I s (nI i)) (fun s => some (upd (upd I 8 (nI ((x + 1) % 14))) 7 (nI (if 14 ≤ h then 14 else h + 1)), s))
    (fun i s => (∀ a, a ≠ 13 → s a = A a) ∧ (∀ j, j < i → s 13 (31 * x + j) = A 5 j) ∧ (∀ j, (j < 31 * x ∨ 31 * x + 31 ≤ j) → s 13 j = A 13 j)) 31 ?_ ?_ N 0 A (by omega) (by omega) ⟨fun a _ => rfl, fun j hj => by omega, fun j _ => rfl⟩
  · obtain ⟨s, h1, h3⟩ := H
    exact ⟨s, h3, h1⟩
  · intro n s hs
    show fX7_keepAct_2s N _ I s _ = _
    unfold fX7_keepAct_2s fX7_keepAct_68
    have er : rem (nI x + 1) 14 = nI ((x + 1) % 14) := by
      rw [nI_1]; exact pk_rem (a := x + 1) (d := 14) (by omega) (by omega) (by omega)
    rw [if_pos (by decide +kernel), h7, h8, er]
    by_cases h14 : 14 ≤ h
    · rw [if_pos (show (14 : Int32) ≤ nI h from nI_le (a := 14) h14 (by omega)), if_pos h14]; rfl
    · rw [if_neg (show ¬ (14 : Int32) ≤ nI h from nI_ge (b := 14) (by omega) (by omega)), if_neg h14, nI_1]
  · rintro n i s hi ⟨g1, g2, g3⟩
    show ∃ s', _ ∧ fX7_keepAct_2s N (fX7_keepAct_2 N n) I s _ = _
    refine ⟨va_up s 13 (upd (s 13) (31 * x + i) (A 5 i)), ⟨fun a ha => ?_, fun j hj => ?_, fun j hj => ?_⟩, ?_⟩
    · rw [va_up_ne _ _ ha]; exact g1 a ha
    · rw [va_up_self]
      by_cases e : j = i
      · subst e; rw [upd_s]
      · rw [upd_n _ _ (by omega)]; exact g2 j (by omega)
    · rw [va_up_self, upd_n _ _ (by omega)]; exact g3 j hj
    · unfold fX7_keepAct_2s
      rw [if_neg (show ¬ (31 : Int32) ≤ nI i from nI_ge (b := 31) hi (by omega)), rd_e rfl (by omega) (by omega) (by rw [g1 5 (by omega)]), Option.bind_some, h8, ox1, wr_e _ _ rfl (by omega) (by omega), Option.bind_some, nI_1]
theorem CS_copy {I : Nat → Int32} {A : Nat → Nat → Int32} {I1 : Nat → Int32} {A1 : Nat → Nat → Int32} {S : Nat → Nat} {d : Int32} (N : Nat) (hS : CS I1 A1 S d) : ∃ I' A', fX4_copyFrom N I A I1 A1 = some (I', A') ∧ CS I' A' S d := by
  obtain ⟨h1, h2, h3, h4⟩ := hS
  refine ⟨_, _, rfl, fun r hr => ?_, fun r hr => ?_, fun j hj => ?_, ?_⟩
  · rw [va_up_ne _ _ (by omega), va_up_ne _ _ (by omega), va_up_self, pk_cpy_in (by omega) (by omega), show 0 + (r - 0) = r by omega]; exact h1 r hr
  · rw [va_up_ne _ _ (by omega), va_up_self, pk_cpy_in (by omega) (by omega), show 0 + (r - 0) = r by omega]; exact h2 r hr
  · rw [va_up_self, pk_cpy_in (by omega) (by omega), show 0 + (j - 0) = j by omega]; exact h3 j hj
  · rw [upd_s]; exact h4
theorem c_rem_e (N x : Nat) (hx : x < 14) (I : Nat → Int32) (S : Nat → Nat → Int32) (T : Nat → Nat → Nat → Int32) (I1 : Nat → Int32) (A1 : Nat → Nat → Int32) (hI : I 0 = nI x) : fX0_remember N I S T I1 A1 = (fX4_copyFrom N (S x) (T x) I1 A1).bind fun z1 => some (upd (upd I 0 (rem (nI x + 1) 14)) 1 (if 14 < I 1 + 1 then 14 else I 1 + 1), va_up S x z1.1, va_up T x z1.2) := by
  have h : x = 0 ∨ x = 1 ∨ x = 2 ∨ x = 3 ∨ x = 4 ∨ x = 5 ∨ x = 6 ∨ x = 7 ∨ x = 8 ∨ x = 9 ∨ x = 10 ∨ x = 11 ∨ x = 12 ∨ x = 13 := by omega
  unfold fX0_remember fX0_remember_28r1 fX0_remember_28r2 fX0_remember_28r3 fX0_remember_28r4 fX0_remember_28r5 fX0_remember_28r6 fX0_remember_28r7 fX0_remember_28r8 fX0_remember_28r9 fX0_remember_28r10 fX0_remember_28r11 fX0_remember_28r12 fX0_remember_28r13 fX0_remember_28r14 fX0_remember_66
  rw [hI]
  rcases h with rfl | rfl | rfl | rfl | rfl | rfl | rfl | rfl | rfl | rfl | rfl | rfl | rfl | rfl <;> rfl
theorem c_remember (N : Nat) {h x : Nat} {aI : Nat → Int32} {aS : Nat → Nat → Int32} {aT : Nat → Nat → Nat → Int32} {I1 : Nat → Int32} {A1 : Nat → Nat → Int32} {S : Nat → Nat} {d : Int32} (hh : h ≤ 14) (hx : x < 14) (h0 : aI 0 = nI x) (h1 : aI 1 = nI h) (hS : CS I1 A1 S d) :
    ∃ aI' aS' aT', fX0_remember N aI aS aT I1 A1 = some (aI', aS', aT') ∧ aI' 0 = nI ((x + 1) % 14) ∧ aI' 1 = nI (if 14 ≤ h then 14 else h + 1) ∧ CS (aS' x) (aT' x) S d ∧ ∀ i, i ≠ x → aS' i = aS i ∧ aT' i = aT i := by
  obtain ⟨I', A', e, hc⟩ := CS_copy (I := aS x) (A := aT x) N hS
  refine ⟨_, _, _, by rw [c_rem_e N x hx aI aS aT I1 A1 h0, e, Option.bind_some], ?_, ?_, ?_, ?_⟩
  · rw [upd_n _ _ (by omega), upd_s, nI_1]; exact pk_rem (a := x + 1) (d := 14) (by omega) (by omega) (by omega)
  · rw [upd_s, h1, nI_1]
    by_cases h14 : 14 ≤ h
    · rw [if_pos h14, if_pos (show (14 : Int32) < nI (h + 1) from nI_lt (a := 14) (by omega) (by omega))]; rfl
    · rw [if_neg h14, if_neg (show ¬ (14 : Int32) < nI (h + 1) from nI_nlt (a := 14) (by omega) (by omega))]
  · rw [va_up_self, va_up_self]; exact hc
  · intro i hi
    rw [va_up_ne _ _ hi, va_up_ne _ _ hi]
    exact ⟨rfl, rfl⟩
/-- an act is kept on both sides -/
theorem b_keep (N : Nat) {k m : Nat} {I : Nat → Int32} {A : Nat → Nat → Int32} {aI : Nat → Int32} {aS : Nat → Nat → Int32} {aT : Nat → Nat → Nat → Int32} {wI : Nat → Int32} {wA : Nat → Nat → Int32} {S : Nat → Nat} {d : Int32} (hN : 40 ≤ N) (hR : RA k m (I 7) (I 8) (A 13) aI aS aT) (hM : MS A 0 S d) (hC : CS wI wA S d) (hSB : SB k m S) :
    ∃ I' A' aI' aS' aT', fX7_keepAct N I A = some (I', A') ∧ fX0_remember N aI aS aT wI wA = some (aI', aS', aT') ∧ (∀ a, a ≠ 13 → A' a = A a) ∧ (∀ i, i ≠ 7 → i ≠ 8 → I' i = I i) ∧ RA k m (I' 7) (I' 8) (A' 13) aI' aS' aT' := by
  obtain ⟨h, x, Q, D, hh, hx, e1, e2, e3, e4, hQ, hS⟩ := hR
  obtain ⟨A', f1, f2, f3, f4⟩ := m_keepAct N (A := A) hN hh hx e1 e2
  obtain ⟨aI', aS', aT', g1, g2, g3, g4, g5⟩ := c_remember N hh hx e3 e4 hC (aS := aS) (aT := aT)
  refine ⟨_, A', aI', aS', aT', f1, g1, f2, ?_, ?_⟩
  · intro i h1 h2
    rw [upd_n _ _ h1, upd_n _ _ h2]
  · refine ⟨if 14 ≤ h then 14 else h + 1, (x + 1) % 14, fun i => if i = x then S else Q i, fun i => if i = x then d else D i, ?_, by omega, upd_s _ _ _, ?_, g2, g3, ?_, ?_⟩
    · split <;> omega
    · rw [upd_n _ _ (by omega), upd_s]
    · intro i hi
      by_cases e : i = x
      · subst e
        simp only [↓reduceIte]
        refine ⟨g4, fun j hj => ?_, ?_⟩
        · rw [f3 j (by omega), ← hM.1 j hj, show 31 * 0 + j = j by omega]
        · rw [f3 30 (by omega), ← hM.2]
      · simp only [if_neg e]
        obtain ⟨q1, q2, q3⟩ := hQ i hi
        obtain ⟨s1, s2⟩ := g5 i e
        refine ⟨by rw [s1, s2]; exact q1, fun j hj => ?_, ?_⟩
        · rw [f4 _ (by omega)]; exact q2 j hj
        · rw [f4 _ (by omega)]; exact q3
    · intro j hj
      by_cases e : ((x + 1) % 14 + 13 - j) % 14 = x
      · simp only [if_pos e]; exact hSB
      · simp only [if_neg e]
        have hj2 : j < 14 := by
          by_cases h14 : 14 ≤ h
          · rw [if_pos h14] at hj; omega
          · rw [if_neg h14] at hj; omega
        have e2 : ((x + 1) % 14 + 13 - j) % 14 = (x + 13 - (j - 1)) % 14 := by omega
        rw [e2]
        refine hS (j - 1) ?_
        have hj0 : j ≠ 0 := by intro h0; subst h0; omega
        by_cases h14 : 14 ≤ h
        · rw [if_pos h14] at hj; omega
        · rw [if_neg h14] at hj; omega
