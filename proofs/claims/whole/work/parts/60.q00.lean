-- numbers as Nat on both sides
theorem bitN : ∀ s, s < 64 → ∀ t, t < 6 → bitB (nI s) t = s.testBit t := by decide +kernel
def cn (s : Nat) : Nat := s % 2 + s / 2 % 2 + s / 4 % 2 + s / 8 % 2 + s / 16 % 2 + s / 32 % 2
theorem cnN : ∀ s, s < 64 → cntB (nI s) = nI (cn s) := by decide +kernel
theorem cn_6 (s : Nat) : cn s ≤ 6 := by unfold cn; omega
def pv (pf : Nat) (d : Int32) : Bool := prvb (nI pf) d
def vN (w li pf : Nat) (d : Int32) (sd dn : Nat) : Nat := if pv pf d = true then (if li = 1 then 0 else 2 * w) else w + cn sd - cn dn
theorem vN_18 (w li pf : Nat) (d : Int32) (sd dn : Nat) (hw : w ≤ 9) : vN w li pf d sd dn ≤ 18 := by
  have := cn_6 sd
  unfold vN
  split
  · split <;> omega
  · omega
theorem li_eq {li : Nat} (hl : li ≤ 1) : (nI li = 1) ↔ li = 1 := by
  rw [show (1 : Int32) = nI 1 from rfl, nI_eq (by omega) (by omega)]
theorem li_eq0 {li : Nat} (hl : li ≤ 1) : (nI li = 0) ↔ li = 0 := by
  rw [show (0 : Int32) = nI 0 from rfl, nI_eq (by omega) (by omega)]
theorem valN (w li pf : Nat) (d : Int32) (sd dn : Nat) (hw : w ≤ 9) (hl : li ≤ 1) (hs : sd < 64) (hd : dn < 64) : valB (nI w) (nI li) (nI pf) d (nI sd) (nI dn) = nI (vN w li pf d sd dn) := by
  unfold valB vN pv
  rw [cnN sd hs, cnN dn hd, nI_add]
  have h1 := cn_6 sd
  have h2 := cn_6 dn
  simp only [li_eq hl]
  split
  · split
    · rfl
    · rw [show (2 : Int32) = nI 2 from rfl, pk_mul]
  · by_cases h : cn dn ≤ w + cn sd
    · rw [pk_sub h, if_pos (nI_pos' (by omega))]
    · have h3 := pk_sneg (a := w + cn sd) (b := cn dn) (by omega) (by omega)
      rw [if_neg (fun h4 => Int32.not_lt.mpr h4 h3), show w + cn sd - cn dn = 0 by omega]
      rfl
def sprN (s d : Nat) : Nat := ((s ||| (s * 2) ||| (s / 2)) % 64) &&& (63 - d)
theorem spr_N : ∀ s, s < 64 → ∀ d, d < 64 → spr (nI s) (nI d) = nI (sprN s d) := by decide +kernel
theorem sprN_64 (s d : Nat) : sprN s d < 64 := Nat.lt_of_le_of_lt Nat.and_le_left (Nat.mod_lt _ (by omega))
theorem sprN_0 (d : Nat) : sprN 0 d = 0 := by simp [sprN]
def dwnN (li pf : Nat) (d1 : Int32) (sd dn : Nat) : Nat := if pv pf d1 = true ∧ li = 1 then 0 else sprN sd dn
theorem dwn_N (li pf : Nat) (d1 : Int32) (sd dn : Nat) (hl : li ≤ 1) (hs : sd < 64) (hd : dn < 64) : dwnB (nI li) (nI pf) d1 (nI sd) (nI dn) = nI (dwnN li pf d1 sd dn) := by
  unfold dwnB dwnN pv
  simp only [li_eq hl]
  split
  · rfl
  · exact spr_N sd hs dn hd
theorem dwn_64 (li pf : Nat) (d1 : Int32) (sd dn : Nat) : dwnN li pf d1 sd dn < 64 := by
  unfold dwnN
  split
  · omega
  · exact sprN_64 sd dn
def csN (pf : Nat) (d : Int32) (sd dn t : Nat) : Bool := !(pv pf d) && (!(sd.testBit t) && !(dn.testBit t))
theorem csN_e (pf : Nat) (d : Int32) (sd dn t : Nat) (hs : sd < 64) (hd : dn < 64) (ht : t < 6) : csB (nI pf) d (nI sd) (nI dn) t = csN pf d sd dn t := by
  unfold csB csN pv
  rw [bitN sd hs t ht, bitN dn hd t ht]
def cdN (li pf : Nat) (d : Int32) (dn t : Nat) : Bool := !(pv pf d && decide (li = 0)) && !(dn.testBit t)
theorem cdN_e (li pf : Nat) (d : Int32) (dn t : Nat) (hl : li ≤ 1) (hd : dn < 64) (ht : t < 6) : cdB (nI li) (nI pf) d (nI dn) t = cdN li pf d dn t := by
  unfold cdB cdN pv
  rw [bitN dn hd t ht]
  simp only [li_eq0 hl]
-- the town, the standing
def TB (k m : Nat) (T : Nat → Nat → Nat) : Prop := k ≤ 5 ∧ m ≤ 4 ∧ (∀ r, r < k → 1 ≤ T 0 r ∧ T 0 r ≤ 9 ∧ T 1 r ≤ 1 ∧ T 2 r ≤ 9 ∧ T 3 r < 2 ^ k) ∧ (∀ p, p < m → T 4 p < 6)
def MT (k m : Nat) (T : Nat → Nat → Nat) (I : Nat → Int32) (A : Nat → Nat → Int32) : Prop := I 0 = nI k ∧ I 1 = nI m ∧ (∀ r, r < k → A 0 r = nI (T 0 r) ∧ A 1 r = nI (T 1 r) ∧ A 2 r = nI (T 2 r) ∧ A 3 r = nI (T 3 r)) ∧ (∀ p, p < m → A 4 p = nI (T 4 p))
def CT (k m : Nat) (T : Nat → Nat → Nat) (I : Nat → Int32) (A : Nat → Nat → Int32) : Prop := I 0 = nI k ∧ I 1 = nI m ∧ (∀ r, r < k → A 0 r = nI (T 0 r) ∧ A 1 r = nI (T 1 r) ∧ A 2 r = nI (T 2 r) ∧ A 3 r = nI (T 3 r)) ∧ (∀ p, p < m → A 5 p = nI (T 4 p))
def SB (k m : Nat) (S : Nat → Nat) : Prop := (∀ j, j < 10 → S j < 64) ∧ (∀ j, j < 20 → S (10 + j) ≤ 99) ∧ (∀ r, k ≤ r → r < 5 → S r = 0) ∧ (∀ p r, p < 4 → r < 5 → (k ≤ r ∨ m ≤ p) → S (10 + (5 * p + r)) = 0)
def MS (A : Nat → Nat → Int32) (lv : Nat) (S : Nat → Nat) (d : Int32) : Prop := (∀ j, j < 30 → A 5 (31 * lv + j) = nI (S j)) ∧ A 5 (31 * lv + 30) = d
def CS (I : Nat → Int32) (A : Nat → Nat → Int32) (S : Nat → Nat) (d : Int32) : Prop := (∀ r, r < 5 → A 0 r = nI (S r)) ∧ (∀ r, r < 5 → A 1 r = nI (S (5 + r))) ∧ (∀ j, j < 20 → A 2 j = nI (S (10 + j))) ∧ I 0 = d
def vR (T : Nat → Nat → Nat) (S : Nat → Nat) (d : Int32) (r : Nat) : Nat := vN (T 0 r) (T 1 r) (T 2 r) d (S r) (S (5 + r))
/-- a dawn -/
def gt (k m : Nat) (T : Nat → Nat → Nat) (S : Nat → Nat) (p r : Nat) : Bool := decide (p < m) && (decide (r < k) && ((S r).testBit (T 4 p) && decide (S (10 + (5 * p + r)) < 99)))
def dw (k m : Nat) (T : Nat → Nat → Nat) (d : Int32) (S : Nat → Nat) : Nat → Nat := fun j => if j < k then dwnN (T 1 j) (T 2 j) (d + 1) (S j) (S (5 + j)) else if j < 10 then S j else if gt k m T S ((j - 10) / 5) ((j - 10) % 5) = true then S j + 1 else S j
def sm (f : Nat → Nat) : Nat → Nat
  | 0 => 0
  | i + 1 => sm f i + f i
def stk (k m : Nat) (T : Nat → Nat → Nat) (S : Nat → Nat) : Nat := sm (fun p => sm (fun r => if gt k m T S p r = true then 1 else 0) k) m
def dws (k m : Nat) (T : Nat → Nat → Nat) (d : Int32) (S : Nat → Nat) : Nat → Nat → Nat
  | 0 => S
  | n + 1 => dw k m T (d + nI n) (dws k m T d S n)
theorem sm_le (f : Nat → Nat) (b : Nat) : ∀ n, (∀ i, i < n → f i ≤ b) → sm f n ≤ n * b
  | 0, _ => by simp [sm]
  | n + 1, h => by
    have h1 := sm_le f b n (fun i hi => h i (by omega))
    have h2 := h n (by omega)
    rw [sm, Nat.succ_mul]
    omega
theorem sm_eq (f g : Nat → Nat) : ∀ n, (∀ i, i < n → f i = g i) → sm f n = sm g n
  | 0, _ => rfl
  | n + 1, h => by rw [sm, sm, sm_eq f g n (fun i hi => h i (by omega)), h n (by omega)]
theorem sm_add (f g : Nat → Nat) : ∀ n, sm (fun i => f i + g i) n = sm f n + sm g n
  | 0 => rfl
  | n + 1 => by rw [sm, sm, sm, sm_add f g n]; omega
theorem sm_0 : ∀ n, sm (fun _ => 0) n = 0
  | 0 => rfl
  | n + 1 => by rw [sm, sm_0 n]
theorem sm_sw (f : Nat → Nat → Nat) (a : Nat) : ∀ b, sm (fun i => sm (f i) b) a = sm (fun j => sm (fun i => f i j) a) b
  | 0 => sm_0 a
  | b + 1 => by
    rw [sm, ← sm_sw f a b, ← sm_add]
    rfl
theorem sm_z (f : Nat → Nat) (k : Nat) : ∀ n, k ≤ n → (∀ i, k ≤ i → i < n → f i = 0) → sm f n = sm f k
  | 0, h, _ => by rw [show k = 0 by omega]
  | n + 1, h, hz => by
    by_cases e : k = n + 1
    · rw [e]
    · rw [sm, sm_z f k n (by omega) (fun i h1 h2 => hz i h1 (by omega)), hz n (by omega) (by omega), Nat.add_zero]
-- loops with fuel
theorem lpX {σ R : Type} (G : Nat → Nat → σ → Option R) (X : σ → Option R) (Inv : Nat → σ → Prop) (K : Nat) (he : ∀ n s, Inv K s → G (n + 1) K s = X s) (hs : ∀ n i s, i < K → Inv i s → ∃ s', Inv (i + 1) s' ∧ G (n + 1) i s = G n (i + 1) s') : ∀ n i s, i ≤ K → K - i < n → Inv i s → ∃ s', Inv K s' ∧ G n i s = X s'
  | 0, i, s, h1, h2, _ => by omega
  | n + 1, i, s, h1, h2, h => by
    by_cases e : i = K
    · subst e; exact ⟨s, h, he n s h⟩
    · obtain ⟨s', h3, h4⟩ := hs n i s (by omega) h
      obtain ⟨s2, h5, h6⟩ := lpX G X Inv K he hs n (i + 1) s' (by omega) (by omega) h3
      exact ⟨s2, h5, by rw [h4, h6]⟩
theorem lpE {R : Type} (G : Nat → Nat → Option R) (E : Nat → Option R) (K : Nat) (he : ∀ n, G (n + 1) K = E K) (hs : ∀ n i, i < K → G n (i + 1) = E (i + 1) → G (n + 1) i = E i) : ∀ n i, i ≤ K → K - i < n → G n i = E i
  | 0, i, h1, h2 => by omega
  | n + 1, i, h1, h2 => by
    by_cases e : i = K
    · subst e; exact he n
    · exact hs n i (by omega) (lpE G E K he hs n (i + 1) (by omega) (by omega))
theorem rd_e {n i : Nat} {x : Int32} {f : Nat → Int32} {v : Int32} (hx : x = nI i) (h : i < n) (hn : n < 2 ^ 31) (hv : f i = v) : rd n f x = some v := by rw [hx, rd_n h hn, hv]
theorem wr_e {n i : Nat} {x : Int32} (f : Nat → Int32) (v : Int32) (hx : x = nI i) (h : i < n) (hn : n < 2 ^ 31) : wr n f x v = some (upd f i v) := by rw [hx, wr_n h hn]
theorem upd_s (f : Nat → Int32) (k : Nat) (x : Int32) : upd f k x k = x := by simp [upd]
theorem upd_n (f : Nat → Int32) {k j : Nat} (x : Int32) (h : j ≠ k) : upd f k x j = f j := by simp [upd, h]
theorem ox1 (lv j : Nat) : 31 * nI lv + nI j = nI (31 * lv + j) := by
  rw [show (31 : Int32) = nI 31 from rfl, pk_mul, nI_add]
theorem ox2 (lv r : Nat) : 31 * nI lv + 5 + nI r = nI (31 * lv + (5 + r)) := by
  rw [show (5 : Int32) = nI 5 from rfl, ox1, nI_add, Nat.add_assoc]
theorem ox3 (lv p r : Nat) : 31 * nI lv + 10 + 5 * nI p + nI r = nI (31 * lv + (10 + (5 * p + r))) := by
  rw [show (10 : Int32) = nI 10 from rfl, ox1, show (5 : Int32) = nI 5 from rfl, pk_mul, nI_add, nI_add, Nat.add_assoc, Nat.add_assoc]
theorem ox4 (lv : Nat) : 31 * nI lv + 30 = nI (31 * lv + 30) := ox1 lv 30
theorem some_1 {b : Bool} : ((if b = true then (1 : Int32) else 0) = 0) ↔ b = false := by cases b <;> decide
