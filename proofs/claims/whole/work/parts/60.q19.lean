-- plans: folds
def fz {α : Type} (g : Nat → α → α) : Nat → Nat → α → α
  | 0, _, s => s
  | c + 1, i, s => fz g c (i + 1) (g i s)
theorem fz_add {α : Type} (g : Nat → α → α) : ∀ c1 c2 i s, fz g (c1 + c2) i s = fz g c2 (i + c1) (fz g c1 i s)
  | 0, c2, i, s => by rw [Nat.zero_add]; rfl
  | c1 + 1, c2, i, s => by
    rw [show c1 + 1 + c2 = (c1 + c2) + 1 by omega]
    show fz g (c1 + c2) (i + 1) (g i s) = fz g c2 (i + (c1 + 1)) (fz g c1 (i + 1) (g i s))
    rw [fz_add g c1 c2 (i + 1), show i + 1 + c1 = i + (c1 + 1) by omega]
theorem fz_r {α : Type} (g : Nat → α → α) (c i : Nat) (s : α) : fz g (c + 1) i s = g (i + c) (fz g c i s) := by
  rw [fz_add]
  rfl
theorem fz_id {α : Type} (g : Nat → α → α) : ∀ c i s, (∀ x, i ≤ x → x < i + c → g x s = s) → fz g c i s = s
  | 0, i, s, h => rfl
  | c + 1, i, s, h => by
    show fz g c (i + 1) (g i s) = s
    rw [h i (by omega) (by omega)]
    exact fz_id g c (i + 1) s (fun x h1 h2 => h x (by omega) (by omega))
theorem fz_eq {α : Type} (g g' : Nat → α → α) : ∀ c i j s, (∀ x, x < c → ∀ s, g (i + x) s = g' (j + x) s) → fz g c i s = fz g' c j s
  | 0, i, j, s, h => rfl
  | c + 1, i, j, s, h => by
    show fz g c (i + 1) (g i s) = fz g' c (j + 1) (g' j s)
    have h0 := h 0 (by omega) s
    rw [Nat.add_zero, Nat.add_zero] at h0
    rw [h0]
    refine fz_eq g g' c (i + 1) (j + 1) _ (fun x hx s => ?_)
    rw [show i + 1 + x = i + (x + 1) by omega, show j + 1 + x = j + (x + 1) by omega]
    exact h (x + 1) (by omega) s
theorem fz_th {α : Type} (g : Nat → α → α) (hz : ∀ x, x < 100 → (6 ≤ x % 10 ∨ 5 ≤ x / 10) → ∀ s, g x s = s) (s : α) : fz g 100 0 s = fz (fun i s => g (10 * (i / 6) + i % 6) s) 30 0 s := by
  have H : ∀ r, r ≤ 5 → fz g (10 * r) 0 s = fz (fun i s => g (10 * (i / 6) + i % 6) s) (6 * r) 0 s := by
    intro r
    induction r with
    | zero => intro _; rfl
    | succ r ih =>
      intro hr
      rw [show 10 * (r + 1) = 10 * r + 10 by omega, show 6 * (r + 1) = 6 * r + 6 by omega, fz_add, fz_add, ih (by omega), show 10 = 6 + 4 from rfl, fz_add, fz_id g 4 _ _ (fun x h1 h2 => hz x (by omega) (Or.inl (by omega)) _), Nat.zero_add, Nat.zero_add]
      refine fz_eq _ _ 6 _ _ _ (fun x hx s => ?_)
      show g ((6 + 4) * r + x) s = g (10 * ((6 * r + x) / 6) + (6 * r + x) % 6) s
      rw [show 10 * ((6 * r + x) / 6) + (6 * r + x) % 6 = (6 + 4) * r + x by omega]
  rw [show 100 = 10 * 5 + 50 from rfl, fz_add, fz_id g 50 _ _ (fun x h1 h2 => hz x (by omega) (Or.inr (by omega)) _), H 5 (by omega)]
theorem fz_mul {α : Type} (g : Nat → α → α) (s : α) : ∀ c, fz g (100 * c) 0 s = fz (fun x s => fz g 100 (100 * x) s) c 0 s
  | 0 => rfl
  | c + 1 => by
    rw [show 100 * (c + 1) = 100 * c + 100 by omega, fz_add, fz_r _ c 0 s, fz_mul g s c, Nat.zero_add, Nat.zero_add]
/-- one offer: the first of the most -/
def ofr (al : Bool) (v code : Nat) (s : Nat × Nat) : Nat × Nat := if (al && decide (s.2 < v)) = true then (code, v) else s
theorem ofr_no (v code : Nat) (s : Nat × Nat) : ofr false v code s = s := by unfold ofr; rw [Bool.false_and, if_neg Bool.false_ne_true]
theorem ofr_le {al : Bool} {v code : Nat} {s : Nat × Nat} (h : al = true → v ≤ s.2) : ofr al v code s = s := by
  unfold ofr
  rw [if_neg]
  intro h2
  simp only [Bool.and_eq_true, decide_eq_true_eq] at h2
  have := h h2.1
  omega
theorem ofr_up (al : Bool) (v code : Nat) (s : Nat × Nat) : s.2 ≤ (ofr al v code s).2 ∧ (al = true → v ≤ (ofr al v code s).2) := by
  unfold ofr
  split
  · rename_i h
    simp only [Bool.and_eq_true, decide_eq_true_eq] at h
    exact ⟨by show s.2 ≤ v; omega, fun _ => Nat.le_refl _⟩
  · rename_i h
    refine ⟨Nat.le_refl _, fun ha => ?_⟩
    simp only [ha, Bool.true_and, decide_eq_true_eq] at h
    omega
theorem ofr_b (al : Bool) (v code b : Nat) (s : Nat × Nat) (hv : v ≤ b) (hs : s.2 ≤ b) : (ofr al v code s).2 ≤ b := by
  unfold ofr
  split
  · exact hv
  · exact hs
theorem fz_up (al : Nat → Bool) (v code : Nat → Nat) : ∀ c i s, s.2 ≤ (fz (fun j s => ofr (al j) (v j) (code j) s) c i s).2 ∧ ∀ j, i ≤ j → j < i + c → al j = true → v j ≤ (fz (fun j s => ofr (al j) (v j) (code j) s) c i s).2
  | 0, i, s => ⟨Nat.le_refl _, fun j h1 h2 => by omega⟩
  | c + 1, i, s => by
    have h1 := ofr_up (al i) (v i) (code i) s
    have h2 := fz_up al v code c (i + 1) (ofr (al i) (v i) (code i) s)
    refine ⟨Nat.le_trans h1.1 h2.1, fun j g1 g2 ha => ?_⟩
    by_cases e : j = i
    · subst e; exact Nat.le_trans (h1.2 ha) h2.1
    · exact h2.2 j (by omega) (by omega) ha
theorem fz_b (al : Nat → Bool) (v code : Nat → Nat) (b : Nat) (hv : ∀ j, v j ≤ b) : ∀ c i s, s.2 ≤ b → (fz (fun j s => ofr (al j) (v j) (code j) s) c i s).2 ≤ b
  | 0, i, s, h => h
  | c + 1, i, s, h => fz_b al v code b hv c (i + 1) _ (ofr_b _ _ _ _ _ (hv i) h)
/-- two things: the pairs in both orders come to the same as those in the one -/
theorem fz_two (al : Nat → Nat → Bool) (v code : Nat → Nat → Nat) (hn : ∀ a, al a a = false) (hs : ∀ a b, al a b = true → al b a = true) (hv : ∀ a b, v a b = v b a) (s : Nat × Nat) : ∀ c, c ≤ 30 → fz (fun a s => fz (fun b s => ofr (al a b) (v a b) (code a b) s) 30 0 s) c 0 s = fz (fun a s => fz (fun b s => ofr (al a b) (v a b) (code a b) s) (29 - a) (a + 1) s) c 0 s ∧ ∀ a b, a < c → b < 30 → al a b = true → v a b ≤ (fz (fun a s => fz (fun b s => ofr (al a b) (v a b) (code a b) s) 30 0 s) c 0 s).2
  | 0, _ => ⟨rfl, fun a b h => by omega⟩
  | c + 1, hc => by
    obtain ⟨h1, h2⟩ := fz_two al v code hn hs hv s c (by omega)
    rw [fz_r _ c 0 s, fz_r _ c 0 s, ← h1, Nat.zero_add]
    generalize fz (fun a s => fz (fun b s => ofr (al a b) (v a b) (code a b) s) 30 0 s) c 0 s = u at h2
    refine ⟨?_, fun a b ha hb hab => ?_⟩
    · show fz (fun b s => ofr (al c b) (v c b) (code c b) s) 30 0 u = _
      rw [show 30 = (c + 1) + (29 - c) by omega, fz_add, fz_id _ (c + 1) 0 u, Nat.zero_add]
      intro b h3 h4
      show ofr (al c b) (v c b) (code c b) u = u
      by_cases e : b = c
      · subst e; rw [hn]; exact ofr_no _ _ _
      · exact ofr_le (fun h => by rw [hv]; exact h2 b c (by omega) (by omega) (hs _ _ h))
    · have g := fz_up (al c) (v c) (code c) 30 0 u
      by_cases e : a = c
      · subst e; exact g.2 b (by omega) (by omega) hab
      · exact Nat.le_trans (h2 a b (by omega) hb hab) g.1
-- what a plan is worth
def al1 (k : Nat) (T : Nat → Nat → Nat) (S : Nat → Nat) (d : Int32) (r t : Nat) : Bool := decide (r < k) && (decide (t < 6) && csN (T 2 r) d (S r) (S (5 + r)) t)
def pl1 (k : Nat) (T : Nat → Nat → Nat) (S : Nat → Nat) (d : Int32) (p q r1 t1 : Nat) : Nat := sm (fun r => cvN T S d p r (S r ||| (if r = r1 then 2 ^ t1 else 0)) q) k
def pl2 (k : Nat) (T : Nat → Nat → Nat) (S : Nat → Nat) (d : Int32) (p q r1 t1 r2 t2 : Nat) : Nat := sm (fun r => cvN T S d p r ((S r ||| (if r = r1 then 2 ^ t1 else 0)) ||| (if r = r2 then 2 ^ t2 else 0)) q) k
def al2 (k : Nat) (T : Nat → Nat → Nat) (S : Nat → Nat) (d : Int32) (r1 t1 r2 t2 : Nat) : Bool := al1 k T S d r1 t1 && (al1 k T S d r2 t2 && !(decide (r1 = r2) && decide (t1 = t2)))
theorem pl2_sy (k : Nat) (T : Nat → Nat → Nat) (S : Nat → Nat) (d : Int32) (p q r1 t1 r2 t2 : Nat) : pl2 k T S d p q r1 t1 r2 t2 = pl2 k T S d p q r2 t2 r1 t1 := by
  unfold pl2
  refine sm_eq _ _ k (fun r hr => ?_)
  rw [Nat.or_assoc, Nat.or_comm (if r = r1 then 2 ^ t1 else 0), ← Nat.or_assoc]
theorem al2_sy (k : Nat) (T : Nat → Nat → Nat) (S : Nat → Nat) (d : Int32) (r1 t1 r2 t2 : Nat) (h : al2 k T S d r1 t1 r2 t2 = true) : al2 k T S d r2 t2 r1 t1 = true := by
  simp only [al2, Bool.and_eq_true, Bool.not_eq_true', Bool.and_eq_false_iff, decide_eq_false_iff_not] at h ⊢
  refine ⟨h.2.1, h.1, ?_⟩
  rcases h.2.2 with h1 | h1
  · exact Or.inl (fun e => h1 e.symm)
  · exact Or.inr (fun e => h1 e.symm)
theorem al2_n (k : Nat) (T : Nat → Nat → Nat) (S : Nat → Nat) (d : Int32) (r t : Nat) : al2 k T S d r t r t = false := by
  simp [al2]
theorem pl1_le {k m : Nat} {T : Nat → Nat → Nat} {S : Nat → Nat} (d : Int32) (p q r1 t1 : Nat) (hB : TB k m T) (hSB : SB k m S) (hp : p < 4) : pl1 k T S d p q r1 t1 ≤ 8910 := by
  have hk := hB.1
  have h := sm_le (fun r => cvN T S d p r (S r ||| (if r = r1 then 2 ^ t1 else 0)) q) 1782 k (fun r hr => cvN_le d _ q hB hSB hp hr)
  unfold pl1
  omega
theorem pl2_le {k m : Nat} {T : Nat → Nat → Nat} {S : Nat → Nat} (d : Int32) (p q r1 t1 r2 t2 : Nat) (hB : TB k m T) (hSB : SB k m S) (hp : p < 4) : pl2 k T S d p q r1 t1 r2 t2 ≤ 8910 := by
  have hk := hB.1
  have h := sm_le (fun r => cvN T S d p r ((S r ||| (if r = r1 then 2 ^ t1 else 0)) ||| (if r = r2 then 2 ^ t2 else 0)) q) 1782 k (fun r hr => cvN_le d _ q hB hSB hp hr)
  unfold pl2
  omega
theorem sm_one (f g : Nat → Nat) (r : Nat) : ∀ k, r < k → (∀ i, i < k → i ≠ r → f i = g i) → sm f k + g r = sm g k + f r
  | 0, h, _ => by omega
  | k + 1, h, hh => by
    rw [sm, sm]
    by_cases e : r = k
    · subst e
      rw [sm_eq f g r (fun i hi => hh i (by omega) (by omega))]
      omega
    · have h1 := sm_one f g r k (by omega) (fun i hi hn => hh i (by omega) hn)
      have h2 := hh k (by omega) (fun h => e h.symm)
      omega
/-- one thing's gain -/
theorem gain1 (k : Nat) (T : Nat → Nat → Nat) (S : Nat → Nat) (d : Int32) (p q r t : Nat) (hr : r < k) : pl1 k T S d p q r t + cvN T S d p r (S r) q = puN k T S d p q + cvN T S d p r (S r ||| 2 ^ t) q := by
  have h := sm_one (fun i => cvN T S d p i (S i ||| (if i = r then 2 ^ t else 0)) q) (fun i => cvN T S d p i (S i) q) r k hr (fun i hi hn => by show cvN T S d p i (S i ||| (if i = r then 2 ^ t else 0)) q = _; rw [if_neg hn, Nat.or_zero])
  simp only [↓reduceIte] at h
  exact h
theorem gain2 (k : Nat) (T : Nat → Nat → Nat) (S : Nat → Nat) (d : Int32) (p q r1 t1 r2 t2 : Nat) (hr2 : r2 < k) (hn : r1 ≠ r2) : pl2 k T S d p q r1 t1 r2 t2 + cvN T S d p r2 (S r2) q = pl1 k T S d p q r1 t1 + cvN T S d p r2 (S r2 ||| 2 ^ t2) q := by
  have h := sm_one (fun i => cvN T S d p i ((S i ||| (if i = r1 then 2 ^ t1 else 0)) ||| (if i = r2 then 2 ^ t2 else 0)) q) (fun i => cvN T S d p i (S i ||| (if i = r1 then 2 ^ t1 else 0)) q) r2 k hr2 (fun i hi hn => by show cvN T S d p i ((S i ||| (if i = r1 then 2 ^ t1 else 0)) ||| (if i = r2 then 2 ^ t2 else 0)) q = _; rw [if_neg hn, Nat.or_zero])
  simp only [if_neg (Ne.symm hn), Nat.or_zero, ↓reduceIte] at h
  exact h
theorem gain2s (k : Nat) (T : Nat → Nat → Nat) (S : Nat → Nat) (d : Int32) (p q r t1 t2 : Nat) (hr : r < k) : pl2 k T S d p q r t1 r t2 + cvN T S d p r (S r) q = puN k T S d p q + cvN T S d p r (S r ||| (2 ^ t1 ||| 2 ^ t2)) q := by
  have h := sm_one (fun i => cvN T S d p i ((S i ||| (if i = r then 2 ^ t1 else 0)) ||| (if i = r then 2 ^ t2 else 0)) q) (fun i => cvN T S d p i (S i) q) r k hr (fun i hi hn => by show cvN T S d p i ((S i ||| (if i = r then 2 ^ t1 else 0)) ||| (if i = r then 2 ^ t2 else 0)) q = _; rw [if_neg hn, Nat.or_zero, if_neg hn, Nat.or_zero])
  simp only [↓reduceIte, Nat.or_assoc] at h
  unfold pl2 puN
  simp only [Nat.or_assoc]
  exact h
