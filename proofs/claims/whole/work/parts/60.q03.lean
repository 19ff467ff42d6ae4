-- the class: a standing
theorem in_no {r k : Nat} (h : r < k) (hk : k < 2 ^ 31) : ¬ (nI r < 0 ∨ nI k ≤ nI r) := by
  rintro (h1 | h1)
  · exact nI_pos (by omega) h1
  · exact nI_ge h hk h1
theorem c_hasR (N : Nat) {k m r : Nat} {T : Nat → Nat → Nat} {I : Nat → Int32} {A : Nat → Nat → Int32} (hB : TB k m T) (hT : CT k m T I A) (hr : r < k) : fX5_hasRumour N I (nI r) = some 1 := by
  have hk := hB.1
  rw [p_X5_hasRumour N I (nI r) k hB.1 hT.1, if_neg (in_no hr (by omega))]
theorem c_pf0 {k m r : Nat} {T : Nat → Nat → Nat} {I : Nat → Int32} {A : Nat → Nat → Int32} (hB : TB k m T) (hT : CT k m T I A) (hr : r < k) : ¬ A 2 r < 0 := by
  rw [(hT.2.2.1 r hr).2.2.1]
  have := hB.2.2.1 r hr
  exact nI_pos (by omega)
theorem c_li {k m r : Nat} {T : Nat → Nat → Nat} {I : Nat → Int32} {A : Nat → Nat → Int32} (hB : TB k m T) (hT : CT k m T I A) (hr : r < k) : A 1 r = 0 ∨ A 1 r = 1 := by
  rw [(hT.2.2.1 r hr).2.1]
  have h := (hB.2.2.1 r hr).2.2.1
  have h2 : T 1 r = 0 ∨ T 1 r = 1 := by omega
  rcases h2 with h2 | h2 <;> rw [h2]
  · exact Or.inl rfl
  · exact Or.inr rfl
theorem c_isProved (N : Nat) {k m r : Nat} {T : Nat → Nat → Nat} {I : Nat → Int32} {A : Nat → Nat → Int32} (d : Int32) (hB : TB k m T) (hT : CT k m T I A) (hr : r < k) : fX5_isProved N A (nI r) d = some (if pv (T 2 r) d = true then 1 else 0) := by
  have hk := hB.1
  have e := (hT.2.2.1 r hr).2.2.1
  cases hb : pv (T 2 r) d with
  | true => rw [p_X5_isProved N r (by omega) A d (c_pf0 hB hT hr) (by rw [e]; exact prvb_t hb)]; rfl
  | false => rw [p_X5_isProved' N r (by omega) A d (c_pf0 hB hT hr) (by rw [e]; exact prvb_f hb)]; rfl
theorem c_isLie (N : Nat) {k m r : Nat} {T : Nat → Nat → Nat} {I : Nat → Int32} {A : Nat → Nat → Int32} (hB : TB k m T) (hT : CT k m T I A) (hr : r < k) : fX5_isLie N I A (nI r) = some (nI (T 1 r)) := by
  rw [p_X5_isLie N r k I A hB.1 hT.1 hr (c_li hB hT hr), (hT.2.2.1 r hr).2.1]
theorem c_valueOn (N : Nat) {k m r sd dn : Nat} {T : Nat → Nat → Nat} {I : Nat → Int32} {A : Nat → Nat → Int32} (d : Int32) (hB : TB k m T) (hT : CT k m T I A) (hr : r < k) (hs : sd < 64) (hd : dn < 64) : fX5_valueOn N I A d (nI r) (nI sd) (nI dn) = some (nI (vN (T 0 r) (T 1 r) (T 2 r) d sd dn)) := by
  obtain ⟨e1, e2, e3, e4⟩ := hT.2.2.1 r hr
  obtain ⟨b1, b2, b3, b4, b5⟩ := hB.2.2.1 r hr
  rw [p_X5_valueOn N r k sd dn I A d hB.1 hT.1 hr (c_li hB hT hr) (c_pf0 hB hT hr) hs hd, e1, e2, e3, valN _ _ _ _ _ _ b2 b3 hs hd]
theorem c_after (N : Nat) {k m r sd dn : Nat} {T : Nat → Nat → Nat} {I : Nat → Int32} {A : Nat → Nat → Int32} (d : Int32) (hB : TB k m T) (hT : CT k m T I A) (hr : r < k) (hs : sd < 64) (hd : dn < 64) : fX5_saidAfterDawn N I A (nI r) (nI sd) (nI dn) d = some (nI (dwnN (T 1 r) (T 2 r) (d + 1) sd dn)) := by
  obtain ⟨e1, e2, e3, e4⟩ := hT.2.2.1 r hr
  obtain ⟨b1, b2, b3, b4, b5⟩ := hB.2.2.1 r hr
  rw [p_X5_saidAfterDawn N r k I A _ _ d hB.1 hT.1 hr (c_li hB hT hr) (c_pf0 hB hT hr), e2, e3, dwn_N _ _ _ _ _ b3 hs hd]
theorem c_isTable (N : Nat) {t : Nat} (ht : t < 6) : fX6_isTable N (nI t) = some 1 := by
  rw [p_X6_isTable, if_neg (show ¬ (nI t < 0 ∨ (6 : Int32) ≤ nI t) from in_no (k := 6) ht (by omega))]
theorem c_saidOf (N : Nat) {r : Nat} {S : Nat → Nat} {d : Int32} {I : Nat → Int32} {A : Nat → Nat → Int32} (hS : CS I A S d) (hr : r < 5) : fX4_saidOf N A (nI r) = some (nI (S r)) := by
  rw [p_X4_saidOf N r hr, hS.1 r hr]
theorem c_deniedOf (N : Nat) {r : Nat} {S : Nat → Nat} {d : Int32} {I : Nat → Int32} {A : Nat → Nat → Int32} (hS : CS I A S d) (hr : r < 5) : fX4_deniedOf N A (nI r) = some (nI (S (5 + r))) := by
  rw [p_X4_deniedOf N r hr, hS.2.1 r hr]
theorem c_coinsOf (N : Nat) {p r : Nat} {S : Nat → Nat} {d : Int32} {I : Nat → Int32} {A : Nat → Nat → Int32} (hS : CS I A S d) (hp : p < 4) (hr : r < 5) : fX4_coinsOf N A (nI p) (nI r) = some (nI (S (10 + (5 * p + r)))) := by
  rw [p_X4_coinsOf N p r hp hr, hS.2.2.1 _ (by omega), Nat.mul_comm p 5]
theorem c_seatOf (N : Nat) {k m p : Nat} {T : Nat → Nat → Nat} {I : Nat → Int32} {A : Nat → Nat → Int32} (hB : TB k m T) (hT : CT k m T I A) (hp : p < m) : fX5_seatOf N A (nI p) = some (nI (T 4 p)) := by
  have hm := hB.2.1
  rw [p_X5_seatOf N p (by omega), hT.2.2.2 p hp]
theorem c_hasBit (N : Nat) {s t : Nat} (hs : s < 64) (ht : t < 6) : fX6_hasBit N (nI s) (nI t) = some (if s.testBit t = true then 1 else 0) := by
  rw [q_X6_hasBit N s t hs ht, bitN s hs t ht]
theorem c_canBeSaid (N : Nat) {k m r t : Nat} {T : Nat → Nat → Nat} {I : Nat → Int32} {A : Nat → Nat → Int32} {I1 : Nat → Int32} {A1 : Nat → Nat → Int32} {S : Nat → Nat} {d : Int32} (hB : TB k m T) (hT : CT k m T I1 A1) (hS : CS I A S d) (hSB : SB k m S) (hr : r < k) (ht : t < 6) : fX4_canBeSaid N I A I1 A1 (nI r) (nI t) = some (if csN (T 2 r) d (S r) (S (5 + r)) t = true then 1 else 0) := by
  have hk := hB.1
  obtain ⟨e1, e2, e3, e4⟩ := hT.2.2.1 r hr
  rw [p_X4_canBeSaid N r k t (S r) (S (5 + r)) I A I1 A1 hk hT.1 hr ht (c_pf0 hB hT hr) (hS.1 r (by omega)) (hS.2.1 r (by omega)) (hSB.1 r (by omega)) (hSB.1 (5 + r) (by omega)), e3, hS.2.2.2, csN_e _ _ _ _ _ (hSB.1 r (by omega)) (hSB.1 (5 + r) (by omega)) ht]
theorem c_isProvedTrue (N : Nat) {k m r : Nat} {T : Nat → Nat → Nat} {I : Nat → Int32} {A : Nat → Nat → Int32} (d : Int32) (hB : TB k m T) (hT : CT k m T I A) (hr : r < k) : fX5_isProvedTrue N I A (nI r) d = some (if (pv (T 2 r) d && decide (T 1 r = 0)) = true then 1 else 0) := by
  have b3 := (hB.2.2.1 r hr).2.2.1
  unfold fX5_isProvedTrue fX5_isProvedTrue_21 fX5_isProvedTrue_22
  rw [c_isProved N d hB hT hr, Option.bind_some, c_isLie N hB hT hr, Option.bind_some, bz_0, bz_1, Option.bind_some, Option.bind_some]
  cases hb : pv (T 2 r) d with
  | false => rw [if_neg Bool.false_ne_true, if_pos rfl]; rfl
  | true =>
    rw [if_pos rfl, if_neg (by decide)]
    by_cases h : T 1 r = 0
    · rw [if_pos ((li_eq0 b3).mpr h), decide_eq_true h]; rfl
    · rw [if_neg (fun h2 => h ((li_eq0 b3).mp h2)), decide_eq_false h]; rfl
theorem c_canBeDenied (N : Nat) {k m r t : Nat} {T : Nat → Nat → Nat} {I : Nat → Int32} {A : Nat → Nat → Int32} {I1 : Nat → Int32} {A1 : Nat → Nat → Int32} {S : Nat → Nat} {d : Int32} (hB : TB k m T) (hT : CT k m T I1 A1) (hS : CS I A S d) (hSB : SB k m S) (hr : r < k) (ht : t < 6) : fX4_canBeDenied N I A I1 A1 (nI r) (nI t) = some (if cdN (T 1 r) (T 2 r) d (S (5 + r)) t = true then 1 else 0) := by
  have hk := hB.1
  unfold fX4_canBeDenied fX4_canBeDenied_43 fX4_canBeDenied_44 cdN
  rw [c_hasR N hB hT hr, Option.bind_some, if_neg (by decide), c_isTable N ht, Option.bind_some, if_neg (by decide), hS.2.2.2, c_isProvedTrue N d hB hT hr, Option.bind_some, c_deniedOf N hS (by omega), Option.bind_some, c_hasBit N (hSB.1 (5 + r) (by omega)) ht, Option.bind_some, bz_0, bz_1, Option.bind_some, Option.bind_some]
  cases h1 : (pv (T 2 r) d && decide (T 1 r = 0)) with
  | true => rw [if_pos rfl, if_neg (by decide)]; rfl
  | false =>
    rw [if_neg Bool.false_ne_true, if_pos rfl]
    cases h2 : (S (5 + r)).testBit t with
    | true => rw [if_pos rfl, if_neg (by decide)]; rfl
    | false => rw [if_neg Bool.false_ne_true, if_pos rfl]; rfl
theorem c_addCoins (N : Nat) {p r : Nat} (A : Nat → Nat → Int32) (x : Int32) (hp : p < 4) (hr : r < 5) : fX4_addCoins N A (nI p) (nI r) x = some (va_up A 2 (upd (A 2) (5 * p + r) (A 2 (5 * p + r) + x))) := by
  unfold fX4_addCoins fX4_addCoins_31
  have e : nI p * 5 + nI r = nI (5 * p + r) := by
    rw [show (5 : Int32) = nI 5 from rfl, pk_mul, nI_add, Nat.mul_comm]
  rw [e, p_X6_isIndex, if_neg (nI_pos (by omega)), if_neg (show ¬ (20 : Int32) ≤ nI _ from nI_ge (b := 20) (by omega) (by omega)), Option.bind_some, if_neg (by decide), rd_e rfl (by omega) (by omega) rfl, Option.bind_some, wr_e _ _ rfl (by omega) (by omega), Option.bind_some]
/-- one coin of a standing set anew -/
def s1 (S : Nat → Nat) (j x : Nat) : Nat → Nat := fun i => if i = j then x else S i
theorem s1_s (S : Nat → Nat) (j x : Nat) : s1 S j x j = x := by simp [s1]
theorem s1_n (S : Nat → Nat) {j i : Nat} (x : Nat) (h : i ≠ j) : s1 S j x i = S i := by simp [s1, h]
theorem CS_coin {I : Nat → Int32} {A : Nat → Nat → Int32} {S : Nat → Nat} {d : Int32} (hS : CS I A S d) (j x : Nat) (hj : j < 20) : CS I (va_up A 2 (upd (A 2) j (nI x))) (s1 S (10 + j) x) d := by
  obtain ⟨h1, h2, h3, h4⟩ := hS
  refine ⟨fun r hr => ?_, fun r hr => ?_, fun i hi => ?_, h4⟩
  · rw [va_up_ne _ _ (by omega), s1_n _ _ (by omega)]; exact h1 r hr
  · rw [va_up_ne _ _ (by omega), s1_n _ _ (by omega)]; exact h2 r hr
  · rw [va_up_self]
    by_cases e : i = j
    · subst e; rw [upd_s, s1_s]
    · rw [upd_n _ _ e, s1_n _ _ (by omega)]; exact h3 i hi
theorem CS_said {I : Nat → Int32} {A : Nat → Nat → Int32} {S : Nat → Nat} {d : Int32} (hS : CS I A S d) (r x : Nat) (hr : r < 5) : CS I (va_up A 0 (upd (A 0) r (nI x))) (s1 S r x) d := by
  obtain ⟨h1, h2, h3, h4⟩ := hS
  refine ⟨fun i hi => ?_, fun i hi => ?_, fun i hi => ?_, h4⟩
  · rw [va_up_self]
    by_cases e : i = r
    · subst e; rw [upd_s, s1_s]
    · rw [upd_n _ _ e, s1_n _ _ (by omega)]; exact h1 i hi
  · rw [va_up_ne _ _ (by omega), s1_n _ _ (by omega)]; exact h2 i hi
  · rw [va_up_ne _ _ (by omega), s1_n _ _ (by omega)]; exact h3 i hi
theorem CS_den {I : Nat → Int32} {A : Nat → Nat → Int32} {S : Nat → Nat} {d : Int32} (hS : CS I A S d) (r x : Nat) (hr : r < 5) : CS I (va_up A 1 (upd (A 1) r (nI x))) (s1 S (5 + r) x) d := by
  obtain ⟨h1, h2, h3, h4⟩ := hS
  refine ⟨fun i hi => ?_, fun i hi => ?_, fun i hi => ?_, h4⟩
  · rw [va_up_ne _ _ (by omega), s1_n _ _ (by omega)]; exact h1 i hi
  · rw [va_up_self]
    by_cases e : i = r
    · subst e; rw [upd_s, s1_s]
    · rw [upd_n _ _ e, s1_n _ _ (by omega)]; exact h2 i hi
  · rw [va_up_ne _ _ (by omega), s1_n _ _ (by omega)]; exact h3 i hi
theorem CS_ext {I : Nat → Int32} {A : Nat → Nat → Int32} {S S' : Nat → Nat} {d : Int32} (h : ∀ j, j < 30 → S j = S' j) (hS : CS I A S d) : CS I A S' d := by
  obtain ⟨h1, h2, h3, h4⟩ := hS
  exact ⟨fun r hr => by rw [h1 r hr, h r (by omega)], fun r hr => by rw [h2 r hr, h _ (by omega)], fun j hj => by rw [h3 j hj, h _ (by omega)], h4⟩
/-- a class's dawn half done: rumours ahead of e, of rumour e the people ahead of q -/
def dwc (k m : Nat) (T : Nat → Nat → Nat) (d : Int32) (S : Nat → Nat) (e q : Nat) : Nat → Nat := fun j => if j < 10 then (if j < e then dw k m T d S j else S j) else if ((j - 10) % 5 < e ∨ ((j - 10) % 5 = e ∧ (j - 10) / 5 < q)) then dw k m T d S j else S j
theorem dw_coin (k m : Nat) (T : Nat → Nat → Nat) (d : Int32) (S : Nat → Nat) (p r : Nat) (hk : k ≤ 5) (hr : r < 5) : dw k m T d S (10 + (5 * p + r)) = if gt k m T S p r = true then S (10 + (5 * p + r)) + 1 else S (10 + (5 * p + r)) := by
  unfold dw
  have h1 : (10 + (5 * p + r) - 10) / 5 = p := by omega
  have h2 : (10 + (5 * p + r) - 10) % 5 = r := by omega
  rw [if_neg (by omega), if_neg (by omega), h1, h2]
theorem c_strike (N : Nat) {k m r : Nat} {T : Nat → Nat → Nat} {I : Nat → Int32} {A : Nat → Nat → Int32} {I1 : Nat → Int32} {A1 : Nat → Nat → Int32} {S : Nat → Nat} {d : Int32} (hN : 40 ≤ N) (hB : TB k m T) (hT : CT k m T I1 A1) (hSB : SB k m S) (hr : r < 5) (hS : CS I A (dwc k m T d S r 0) d) :
    ∃ A', CS I A' (dwc k m T d S r m) d ∧ fX4_strike N A I1 A1 (nI r) = some (nI (sm (fun p => if gt k m T S p r = true then 1 else 0) m), A') := by
  have hk := hB.1
  have hm := hB.2.1
  have H := lpX (fun n i (s : Nat → Nat → Int32) => fX4_strike_5 N n s I1 A1 (nI r) (nI (sm (fun p => if gt k m T S p r = true then 1 else 0) i)) (nI i)) (fun s => some (nI (sm (fun p => if gt k m T S p r = true then 1 else 0) m), s))
    (fun i s => CS I s (dwc k m T d S r i) d) m ?_ ?_ N 0 A (by omega) (by omega) hS
  · obtain ⟨s, h1, h3⟩ := H
    exact ⟨s, h1, h3⟩
  · intro n s h
    show fX4_strike_5s N _ s I1 A1 _ _ _ = _
    unfold fX4_strike_5s
    rw [hT.2.1, if_pos (nI_le (Nat.le_refl m) (by omega))]
  · intro n i s hi h
    show ∃ s', _ ∧ fX4_strike_5s N (fX4_strike_5 N n) s I1 A1 _ _ _ = _
    have hs0 : dwc k m T d S r i r = S r := by unfold dwc; rw [if_pos (by omega), if_neg (by omega)]
    have hs1 : dwc k m T d S r i (10 + (5 * i + r)) = S (10 + (5 * i + r)) := by unfold dwc; rw [if_neg (by omega), if_neg (by omega)]
    have hcb := hSB.2.1 (5 * i + r) (by omega)
    have hx : ∀ g : Bool, gt k m T S i r = g → ∀ j, j < 30 → s1 (dwc k m T d S r i) (10 + (5 * i + r)) (S (10 + (5 * i + r)) + (if g = true then 1 else 0)) j = dwc k m T d S r (i + 1) j := by
      intro g hg j hj
      by_cases e : j = 10 + (5 * i + r)
      · subst e
        have e1 : dwc k m T d S r (i + 1) (10 + (5 * i + r)) = dw k m T d S (10 + (5 * i + r)) := by unfold dwc; rw [if_neg (by omega), if_pos (by omega)]
        rw [s1_s, e1, dw_coin k m T d S i r hk hr, hg]
        cases g <;> rfl
      · rw [s1_n _ _ e]
        unfold dwc
        by_cases h1 : j < 10
        · rw [if_pos h1, if_pos h1]
        · rw [if_neg h1, if_neg h1]
          by_cases h2 : ((j - 10) % 5 < r ∨ ((j - 10) % 5 = r ∧ (j - 10) / 5 < i))
          · rw [if_pos h2, if_pos (by omega)]
          · rw [if_neg h2, if_neg (by omega)]
    have k0 : gt k m T S i r = false → ∃ s', CS I s' (dwc k m T d S r (i + 1)) d ∧ fX4_strike_54 N (fX4_strike_5 N n) s I1 A1 (nI r) (nI (sm (fun p => if gt k m T S p r = true then 1 else 0) i)) (nI i) = fX4_strike_5 N n s' I1 A1 (nI r) (nI (sm (fun p => if gt k m T S p r = true then 1 else 0) (i + 1))) (nI (i + 1)) := by
      intro hg
      refine ⟨s, CS_ext (fun j hj => ?_) h, ?_⟩
      · rw [← hx false hg j hj]
        by_cases e : j = 10 + (5 * i + r)
        · subst e; rw [s1_s, hs1]; rfl
        · rw [s1_n _ _ e]
      · unfold fX4_strike_54
        rw [nI_1, sm, hg]; rfl
    unfold fX4_strike_5s
    rw [hT.2.1, if_neg (nI_ge hi (by omega)), c_saidOf N h hr, Option.bind_some, hs0, c_seatOf N hB hT hi, Option.bind_some, c_hasBit N (hSB.1 r (by omega)) (hB.2.2.2 i hi), Option.bind_some]
    cases hb : (S r).testBit (T 4 i) with
    | false =>
      rw [if_neg Bool.false_ne_true, if_pos rfl]
      exact k0 (by simp [gt, hb])
    | true =>
      rw [if_pos rfl, if_neg (by decide), c_coinsOf N h (by omega) hr, Option.bind_some, hs1]
      by_cases h9 : S (10 + (5 * i + r)) < 99
      · have hrk : r < k := by
          by_cases hrk : r < k
          · exact hrk
          · rw [hSB.2.2.1 r (by omega) hr, Nat.zero_testBit] at hb
            cases hb
        have hg : gt k m T S i r = true := by simp [gt, hb, h9, hi, hrk]
        rw [if_neg (show ¬ (99 : Int32) ≤ nI _ from nI_ge (b := 99) h9 (by omega)), c_addCoins N s 1 (by omega) hr, Option.bind_some, h.2.2.1 _ (by omega), hs1, nI_1]
        refine ⟨_, CS_ext (fun j hj => hx true hg j hj) (CS_coin h (5 * i + r) (S (10 + (5 * i + r)) + 1) (by omega)), ?_⟩
        unfold fX4_strike_54
        rw [nI_1, nI_1, sm, hg]; rfl
      · rw [if_pos (show (99 : Int32) ≤ nI _ from nI_le (a := 99) (by omega) (by omega))]
        exact k0 (by simp [gt, h9])
theorem dwc_step (k m : Nat) (T : Nat → Nat → Nat) (d : Int32) (S : Nat → Nat) (e j : Nat) (hj : j < 30) (hm : m ≤ 4) (hz : SB k m S) (hB : TB k m T) (hne : j ≠ e) : dwc k m T d S e m j = dwc k m T d S (e + 1) 0 j := by
  have hk := hB.1
  unfold dwc
  by_cases h1 : j < 10
  · rw [if_pos h1, if_pos h1]
    by_cases h2 : j < e
    · rw [if_pos h2, if_pos (by omega)]
    · rw [if_neg h2, if_neg (by omega)]
  · rw [if_neg h1, if_neg h1]
    by_cases h2 : ((j - 10) % 5 < e ∨ ((j - 10) % 5 = e ∧ (j - 10) / 5 < m))
    · rw [if_pos h2, if_pos (by omega)]
    · rw [if_neg h2]
      by_cases h3 : (j - 10) % 5 < e + 1 ∨ (j - 10) % 5 = e + 1 ∧ (j - 10) / 5 < 0
      · rw [if_pos h3]
        have e1 : j = 10 + (5 * ((j - 10) / 5) + (j - 10) % 5) := by omega
        rw [e1, dw_coin k m T d S _ _ hk (by omega), if_neg]
        intro hg
        simp only [gt, Bool.and_eq_true, decide_eq_true_eq] at hg
        omega
      · rw [if_neg h3]
theorem c_after0 (N : Nat) {k m r dn : Nat} {T : Nat → Nat → Nat} {I : Nat → Int32} {A : Nat → Nat → Int32} (d : Int32) (hB : TB k m T) (hT : CT k m T I A) (hr : r < 5) (hk : k ≤ r) (hd : dn < 64) : fX5_saidAfterDawn N I A (nI r) (nI 0) (nI dn) d = some (nI 0) := by
  have hh : fX5_hasRumour N I (nI r) = some 0 := by
    rw [p_X5_hasRumour N I (nI r) k hB.1 hT.1, if_pos (Or.inr (nI_le hk (by omega)))]
  have hl : fX5_isLie N I A (nI r) = some 0 := by
    unfold fX5_isLie fX5_isLie_21 fX5_isLie_22
    rw [hh, Option.bind_some, if_pos rfl, bz_0, Option.bind_some]
  have he := spr_N 0 (by omega) dn hd
  rw [sprN_0] at he
  unfold fX5_saidAfterDawn fX5_saidAfterDawn_22
  have hp : ∃ b, fX5_isProved N A (nI r) (d + 1) = some b := by
    unfold fX5_isProved fX5_isProved_22 fX5_isProved_23
    rw [p_X6_at N 5 r hr (by omega), Option.bind_some, bz_0, bz_1, Option.bind_some, Option.bind_some]
    split
    · exact ⟨0, rfl⟩
    · split
      · exact ⟨0, rfl⟩
      · exact ⟨1, rfl⟩
  obtain ⟨b, hb⟩ := hp
  rw [hb, Option.bind_some, hl, Option.bind_some, if_pos rfl]
  have he2 : ((((nI 0 ||| (shl (nI 0) 1)) ||| (shr (nI 0) 1)) &&& 63) &&& (nI dn ^^^ (-1))) = nI 0 := he
  rw [he2]
  split <;> rfl
theorem c_passDawn (N : Nat) {k m : Nat} {T : Nat → Nat → Nat} {I : Nat → Int32} {A : Nat → Nat → Int32} {I1 : Nat → Int32} {A1 : Nat → Nat → Int32} {S : Nat → Nat} {d : Int32} (hN : 40 ≤ N) (hB : TB k m T) (hT : CT k m T I1 A1) (hS : CS I A S d) (hSB : SB k m S) :
    ∃ I' A', CS I' A' (dw k m T d S) (d + 1) ∧ fX4_passDawn N I A I1 A1 = some (nI (stk k m T S), I', A') := by
  have hk := hB.1
  have hm := hB.2.1
  have e0 : stk k m T S = sm (fun r => sm (fun p => if gt k m T S p r = true then 1 else 0) m) 5 := by
    unfold stk
    rw [sm_sw, sm_z _ k 5 hk]
    intro i h1 h2
    rw [sm_eq _ (fun _ => 0) m, sm_0]
    intro p hp
    rw [if_neg]
    intro hg
    simp only [gt, Bool.and_eq_true, decide_eq_true_eq] at hg
    omega
  have H := lpX (fun n i (s : Nat → Nat → Int32) => fX4_passDawn_4 N n I s I1 A1 (nI (sm (fun r => sm (fun p => if gt k m T S p r = true then 1 else 0) m) i)) (nI i)) (fun s => some (nI (stk k m T S), upd I 0 (d + 1), s))
    (fun i s => CS I s (dwc k m T d S i 0) d) 5 ?_ ?_ N 0 A (by omega) (by omega) ?_
  · obtain ⟨s, h1, h3⟩ := H
    refine ⟨upd I 0 (d + 1), s, ?_, h3⟩
    have h5 : ∀ j, j < 30 → dwc k m T d S 5 0 j = dw k m T d S j := by
      intro j hj
      unfold dwc
      by_cases h1 : j < 10
      · rw [if_pos h1]
        by_cases h2 : j < 5
        · rw [if_pos h2]
        · rw [if_neg h2]; unfold dw; rw [if_neg (by omega), if_pos h1]
      · rw [if_neg h1, if_pos (by omega)]
    have h6 := CS_ext h5 h1
    exact ⟨h6.1, h6.2.1, h6.2.2.1, upd_s _ _ _⟩
  · intro n s h
    show fX4_passDawn_4s N _ I s I1 A1 _ _ = _
    unfold fX4_passDawn_4s
    rw [if_pos (by decide +kernel), e0, h.2.2.2]
  · intro n i s hi h
    show ∃ s', _ ∧ fX4_passDawn_4s N (fX4_passDawn_4 N n) I s I1 A1 _ _ = _
    obtain ⟨A', g1, g2⟩ := c_strike N hN hB hT hSB hi h
    have f0 : dwc k m T d S i m i = S i := by unfold dwc; rw [if_pos (by omega), if_neg (by omega)]
    have f1 : dwc k m T d S i m (5 + i) = S (5 + i) := by
      unfold dwc; rw [if_pos (by omega), if_neg (by omega)]
    have aft : fX5_saidAfterDawn N I1 A1 (nI i) (nI (S i)) (nI (S (5 + i))) d = some (nI (dw k m T d S i)) := by
      by_cases hik : i < k
      · rw [c_after N d hB hT hik (hSB.1 i (by omega)) (hSB.1 (5 + i) (by omega))]
        unfold dw; rw [if_pos hik]
      · rw [hSB.2.2.1 i (by omega) hi, c_after0 N d hB hT hi (by omega) (hSB.1 (5 + i) (by omega))]
        unfold dw; rw [if_neg hik, if_pos (by omega), hSB.2.2.1 i (by omega) hi]
    refine ⟨va_up A' 0 (upd (A' 0) i (nI (dw k m T d S i))), CS_ext (fun j hj => ?_) (CS_said g1 i (dw k m T d S i) hi), ?_⟩
    · by_cases e : j = i
      · subst e
        rw [s1_s]; unfold dwc; rw [if_pos (by omega), if_pos (by omega)]
      · rw [s1_n _ _ e]; exact dwc_step k m T d S i j hj hm hSB hB e
    · unfold fX4_passDawn_4s
      rw [if_neg (show ¬ (5 : Int32) ≤ nI i from nI_ge (b := 5) hi (by omega)), g2, Option.bind_some, rd_e rfl (by omega) (by omega) (g1.1 i hi), Option.bind_some, rd_e rfl (by omega) (by omega) (g1.2.1 i hi), Option.bind_some, f0, f1, h.2.2.2, aft, Option.bind_some, wr_e _ _ rfl (by omega) (by omega), Option.bind_some, nI_add, nI_1]
      rfl
  · refine CS_ext (fun j hj => ?_) hS
    unfold dwc
    by_cases h1 : j < 10
    · rw [if_pos h1, if_neg (by omega)]
    · rw [if_neg h1, if_neg (by omega)]
