-- denials by chance
theorem c_power (N : Nat) (hN : 40 ≤ N) (b e : Nat) (he : e < 7) : fX6_power N (nI b) (nI e) = some (nI (b ^ e)) := by
  unfold fX6_power
  refine lpE (fun n i => fX6_power_4 N n (nI b) (nI e) (nI (b ^ i)) (nI i)) (fun i => some (nI (b ^ e))) e ?_ ?_ N 0 (by omega) (by omega)
  · intro n
    show fX6_power_4s N _ _ _ _ _ = _
    unfold fX6_power_4s fX6_power_25
    rw [if_pos (nI_le (Nat.le_refl e) (by omega))]
  · intro n i hi ih
    show fX6_power_4s N _ _ _ _ _ = _
    unfold fX6_power_4s fX6_power_25
    rw [if_neg (nI_ge hi (by omega)), if_neg (show ¬ (6 : Int32) ≤ nI i from nI_ge (b := 6) (by omega) (by omega)), pk_mul, nI_1, ← Nat.pow_succ]
    exact ih
theorem md_or : ∀ x, x < 64 → ∀ s, s < 64 → ∀ j, j < 6 → s.testBit j = true → (x ||| s % 2 ^ j) ||| 2 ^ j = x ||| s % 2 ^ (j + 1) := by decide +kernel
theorem md_an : ∀ x, x < 64 → ∀ s, s < 64 → ∀ j, j < 6 → s.testBit j = true → (x &&& (63 - s % 2 ^ j)) &&& (63 - 2 ^ j) = x &&& (63 - s % 2 ^ (j + 1)) := by decide +kernel
theorem md_no : ∀ s, s < 64 → ∀ j, j < 6 → s.testBit j = false → s % 2 ^ (j + 1) = s % 2 ^ j := by decide +kernel
theorem md_cn : ∀ s, s < 64 → ∀ j, j < 6 → cn (s % 2 ^ (j + 1)) = cn (s % 2 ^ j) + (if s.testBit j = true then 1 else 0) := by decide +kernel
theorem md_lt {s j : Nat} (hs : s < 64) : s % 2 ^ j < 64 := Nat.lt_of_le_of_lt (Nat.mod_le _ _) hs
theorem tb_an : ∀ a, a < 64 → ∀ s, s < 64 → ∀ j, j < 6 → (a &&& (63 - s)).testBit j = (a.testBit j && !(s.testBit j)) := by decide +kernel
theorem cn_df : ∀ s, s < 64 → ∀ a, a < 64 → s &&& (63 - a) = 0 → cn (a &&& (63 - s)) = cn a - cn s := by decide +kernel
theorem tb_sb : ∀ s, s < 64 → ∀ a, a < 64 → s &&& (63 - a) = 0 → ∀ j, j < 6 → s.testBit j = true → a.testBit j = true := by decide +kernel
/-- the weight of a set of denials -/
def wgt (x a s : Nat) : Nat := x ^ cn s * (10 - x) ^ (cn a - cn s)
def wgj (x a s j : Nat) : Nat := x ^ cn (s % 2 ^ j) * (10 - x) ^ cn ((a &&& (63 - s)) % 2 ^ j)
theorem wgj_0 (x a s : Nat) : wgj x a s 0 = 1 := by simp [wgj, Nat.mod_one, cn]
theorem wgj_6 (x a s : Nat) (ha : a < 64) (hs : s < 64) (h : s &&& (63 - a) = 0) : wgj x a s 6 = wgt x a s := by
  have h1 : s % 2 ^ 6 = s := Nat.mod_eq_of_lt hs
  have h2 : (a &&& (63 - s)) % 2 ^ 6 = a &&& (63 - s) := Nat.mod_eq_of_lt (and_lt ha)
  unfold wgj wgt
  rw [h1, h2, cn_df s hs a ha h]
theorem wgj_s (x a s j : Nat) (ha : a < 64) (hs : s < 64) (hj : j < 6) (h : s &&& (63 - a) = 0) : wgj x a s (j + 1) = wgj x a s j * (if a.testBit j = false then 1 else if s.testBit j = true then x else 10 - x) := by
  have hl : a &&& (63 - s) < 64 := and_lt ha
  unfold wgj
  rw [md_cn s hs j hj, md_cn _ hl j hj, tb_an a ha s hs j hj]
  cases hb : s.testBit j with
  | true =>
    have h2 := tb_sb s hs a ha h j hj hb
    rw [h2]
    simp only [Bool.not_true, Bool.and_false, Bool.false_eq_true, ↓reduceIte, Nat.add_zero, Nat.pow_succ, Bool.true_eq_false]
    ac_rfl
  | false =>
    cases h3 : a.testBit j with
    | true =>
      simp only [Bool.not_false, Bool.and_true, Bool.false_eq_true, ↓reduceIte, Nat.add_zero, Nat.pow_succ, Bool.true_eq_false]
      ac_rfl
    | false => simp
theorem wgt_le (x a s : Nat) (ha : a < 64) (hs : s < 64) (hx : x < 11) (h : s &&& (63 - a) = 0) : wgt x a s ≤ 1000000 := by
  have h1 := cn_sub s hs a ha h
  have h2 := cn_6 a
  unfold wgt
  have p1 : x ^ cn s ≤ 10 ^ cn s := Nat.pow_le_pow_left (by omega) _
  have p2 : (10 - x) ^ (cn a - cn s) ≤ 10 ^ (cn a - cn s) := Nat.pow_le_pow_left (by omega) _
  have p3 := Nat.mul_le_mul p1 p2
  rw [← Nat.pow_add, show cn s + (cn a - cn s) = cn a by omega] at p3
  have p4 : 10 ^ cn a ≤ 10 ^ 6 := Nat.pow_le_pow_right (by omega) h2
  omega
theorem wgt_all : ∀ x, x < 11 → ∀ a, a < 64 → sm (fun s => if s &&& (63 - a) = 0 then wgt x a s else 0) 64 = 10 ^ cn a := by decide +kernel
/-- what a rumour is worth behind denials and a dawn -/
def vdN (T : Nat → Nat → Nat) (S : Nat → Nat) (d : Int32) (r s : Nat) : Nat := vN (T 0 r) (T 1 r) (T 2 r) (d + 1) (dwnN (T 1 r) (T 2 r) (d + 1) (S r &&& (63 - s)) (S (5 + r) ||| s)) (S (5 + r) ||| s)
theorem c_vad (N : Nat) {k m r s : Nat} {T : Nat → Nat → Nat} {I : Nat → Int32} {A : Nat → Nat → Int32} {I1 : Nat → Int32} {A1 : Nat → Nat → Int32} {S : Nat → Nat} {d : Int32} (hB : TB k m T) (hT : CT k m T I1 A1) (hS : CS I A S d) (hSB : SB k m S) (hr : r < k) (hs : s < 64) : fX6_valueAfterDenials N I1 A1 I A (nI r) (nI s) = some (nI (vdN T S d r s)) := by
  have hk := hB.1
  have h1 := hSB.1 r (by omega)
  have h2 := hSB.1 (5 + r) (by omega)
  unfold fX6_valueAfterDenials
  rw [c_saidOf N hS (by omega), Option.bind_some, c_deniedOf N hS (by omega), Option.bind_some, an_N _ h1 _ hs, or_N _ h2 _ hs, hS.2.2.2, c_after N d hB hT hr (and_lt h1) (or_lt h2 hs), Option.bind_some, c_valueOn N (d + 1) hB hT hr (dwn_64 _ _ _ _ _) (or_lt h2 hs), Option.bind_some]
  rfl
/-- the standing with the denials of s below j done -/
def sdj (S : Nat → Nat) (r s j : Nat) : Nat → Nat := s1 (s1 S (5 + r) (S (5 + r) ||| s % 2 ^ j)) r (S r &&& (63 - s % 2 ^ j))
theorem sdj_SB {k m : Nat} {S : Nat → Nat} (hSB : SB k m S) (r s j : Nat) (hr : r < k) (hk : k ≤ 5) (hs : s < 64) : SB k m (sdj S r s j) :=
  SB_said (SB_den hSB r _ (by omega) (or_lt (hSB.1 (5 + r) (by omega)) (md_lt hs))) r _ hr hk (and_lt (hSB.1 r (by omega)))
theorem sdj_r (S : Nat → Nat) (r s j : Nat) : sdj S r s j r = S r &&& (63 - s % 2 ^ j) := s1_s _ _ _
theorem sdj_d (S : Nat → Nat) (r s j : Nat) : sdj S r s j (5 + r) = S (5 + r) ||| s % 2 ^ j := by
  unfold sdj
  rw [s1_n _ _ (by omega), s1_s]
theorem sdj_o (S : Nat → Nat) (r s j i : Nat) (h1 : i ≠ r) (h2 : i ≠ 5 + r) : sdj S r s j i = S i := by
  unfold sdj
  rw [s1_n _ _ h1, s1_n _ _ h2]
theorem MS_ext {A : Nat → Nat → Int32} {lv : Nat} {S S' : Nat → Nat} {d : Int32} (h : ∀ j, j < 30 → S j = S' j) (hM : MS A lv S d) : MS A lv S' d := ⟨fun j hj => by rw [hM.1 j hj, h j hj], hM.2⟩
theorem m_chance_in (N : Nat) {k m r s a w x : Nat} {T : Nat → Nat → Nat} {I : Nat → Int32} {A B : Nat → Nat → Int32} {S : Nat → Nat} {d : Int32} (hN : 40 ≤ N) (hB : TB k m T) (hT : MT k m T I A) (hSB : SB k m S) (hr : r < k) (hs : s < 64) (ha : a < 64) (hx : x < 11) (hw : w < 21) (hsub : s &&& (63 - a) = 0) (hf : FrL 1 A B) (hM : MS B 1 S d) (u4 : Int32) (y7 y6 : Nat)
    (k76 : (Nat → Int32) → (Nat → Nat → Int32) → Int32 → Int32 → Int32 → Int32 → Int32 → Int32 → Int32 → Int32 → Option (Int32 × (Nat → Nat → Int32))) :
    ∃ A', FrL 1 A A' ∧ fX7_chance_103 N k76 N I B (nI r) (nI w) (nI x) u4 (nI a) (nI y6) (nI y7) (nI s) 1 0 = k76 I A' (nI r) (nI w) (nI x) u4 (nI a) (nI (y6 + (if w ≤ vdN T S d r s then wgt x a s else 0))) (nI (y7 + wgt x a s)) (nI (s + 1)) := by
  have hk := hB.1
  have hsr := hSB.1 r (by omega)
  have hsd := hSB.1 (5 + r) (by omega)
  have H := lpX (fun n i (B : Nat → Nat → Int32) => fX7_chance_103 N k76 n I B (nI r) (nI w) (nI x) u4 (nI a) (nI y6) (nI y7) (nI s) (nI (wgj x a s i)) (nI i))
    (fun B => (fX7_dawnOn N I B 1).bind fun z2 => (fX7_worthOf N z2.2 1 (nI r)).bind fun z3 => if z3 < nI w then fX7_chance_202 N k76 I z2.2 (nI r) (nI w) (nI x) u4 (nI a) (nI y7 + nI (wgt x a s)) (nI s) (nI y6) 0 else fX7_chance_202 N k76 I z2.2 (nI r) (nI w) (nI x) u4 (nI a) (nI y7 + nI (wgt x a s)) (nI s) (nI y6) (nI (wgt x a s)))
    (fun i B => FrL 1 A B ∧ MS B 1 (sdj S r s i) d) 6 ?_ ?_ N 0 B (by omega) (by omega) ⟨hf, ?_⟩
  · obtain ⟨C, ⟨c1, c2⟩, c3⟩ := H
    obtain ⟨A', g1, g2, g3⟩ := m_dawnOn1 N (by omega) hB (FrL_MT c1 hT) c2 (sdj_SB hSB r s 6 hr hk hs)
    have fr := FrL_tr c1 g2
    have hw2 := m_worthOf N (lv := 1) (by omega) hB (FrL_MT fr hT) g1 (SB_dw d hB (sdj_SB hSB r s 6 hr hk hs)) (by omega) hr
    have ev : vR T (dw k m T d (sdj S r s 6)) (d + 1) r = vdN T S d r s := by
      unfold vR vdN dw
      rw [if_pos hr, if_neg (by omega), if_pos (by omega), sdj_r, sdj_d, show s % 2 ^ 6 = s from Nat.mod_eq_of_lt hs]
    rw [ev] at hw2
    have hv : vdN T S d r s ≤ 18 := vN_18 _ _ _ _ _ _ (hB.2.2.1 r hr).2.1
    refine ⟨A', fr, ?_⟩
    rw [wgj_0] at c3
    rw [show fX7_chance_103 N k76 N I B (nI r) (nI w) (nI x) u4 (nI a) (nI y6) (nI y7) (nI s) 1 0 = _ from c3, g3, Option.bind_some, show fX7_worthOf N A' 1 (nI r) = _ from hw2, Option.bind_some]
    unfold fX7_chance_202 fX7_chance_205
    rw [nI_1, nI_add]
    by_cases hle : w ≤ vdN T S d r s
    · rw [if_neg (nI_nlt hle (by omega)), if_pos hle, nI_add]
    · rw [if_pos (nI_lt (by omega) (by omega)), if_neg hle, Int32.add_zero]; rfl
  · rintro n B ⟨h1, h2⟩
    show fX7_chance_103s N _ _ I B _ _ _ _ _ _ _ _ _ _ = _
    unfold fX7_chance_103s
    rw [if_pos (by decide +kernel), wgj_6 x a s ha hs hsub]
  · rintro n i B hi ⟨h1, h2⟩
    show ∃ s', _ ∧ fX7_chance_103s N _ (fX7_chance_103 N k76 n) I B _ _ _ _ _ _ _ _ _ _ = _
    have key : ∃ s', (FrL 1 A s' ∧ MS s' 1 (sdj S r s (i + 1)) d) ∧ fX7_chance_144 N k76 (fX7_chance_103 N k76 n) I B (nI r) (nI w) (nI x) u4 (nI a) (nI y6) (nI y7) (nI s) (nI i) (nI (wgj x a s i)) (nI (if a.testBit i = false then 1 else if s.testBit i = true then x else 10 - x)) = fX7_chance_103 N k76 n I s' (nI r) (nI w) (nI x) u4 (nI a) (nI y6) (nI y7) (nI s) (nI (wgj x a s (i + 1))) (nI (i + 1)) := by
      unfold fX7_chance_144 fX7_chance_165
      rw [m_has N hs hi, Option.bind_some, pk_mul, ← wgj_s x a s i ha hs hi hsub, nI_1]
      cases hb : s.testBit i with
      | false =>
        rw [if_neg Bool.false_ne_true, z00]
        refine ⟨B, ⟨h1, ?_⟩, rfl⟩
        unfold sdj
        rw [md_no s hs i hi hb]; exact h2
      | true =>
        rw [if_pos rfl, n10]
        obtain ⟨A', q1, q2, q3⟩ := m_denyOn N (lv := 1) h2 (sdj_SB hSB r s i hr hk hs) (by omega) (r := r) (by omega) hi
        rw [show fX7_denyOn N B 1 (nI r) (nI i) = _ from q3, Option.bind_some]
        refine ⟨A', ⟨FrL_tr h1 q2, MS_ext (fun j hj => ?_) q1⟩, rfl⟩
        rw [sdj_r, sdj_d, md_or _ hsd _ hs _ hi hb, md_an _ hsr _ hs _ hi hb]
        by_cases e1 : j = r
        · subst e1; rw [s1_s, sdj_r]
        · rw [s1_n _ _ e1]
          by_cases e2 : j = 5 + r
          · subst e2; rw [s1_s, sdj_d]
          · rw [s1_n _ _ e2, sdj_o _ _ _ _ _ e1 e2, sdj_o _ _ _ _ _ e1 e2]
    unfold fX7_chance_103s
    rw [if_neg (show ¬ (6 : Int32) ≤ nI i from nI_ge (b := 6) hi (by omega)), m_has N ha hi, Option.bind_some, m_has N hs hi, Option.bind_some]
    cases hb : a.testBit i with
    | false =>
      rw [if_neg Bool.false_ne_true, z00]
      rw [hb, if_pos rfl] at key
      exact key
    | true =>
      rw [hb, if_neg (by decide)] at key
      rw [if_pos rfl, n10]
      cases hc : s.testBit i with
      | false =>
        rw [hc, if_neg Bool.false_ne_true, ← pk_sub (show x ≤ 10 by omega)] at key
        rw [if_neg Bool.false_ne_true, z00]
        exact key
      | true =>
        rw [hc, if_pos rfl] at key
        rw [if_pos rfl, n10]
        exact key
  · refine MS_ext (fun j hj => ?_) hM
    have h0 : s % 2 ^ 0 = 0 := by simp [Nat.mod_one]
    by_cases e1 : j = r
    · subst e1
      rw [sdj_r, h0]
      have : ∀ y, y < 64 → y = y &&& (63 - 0) := by decide +kernel
      exact this _ hsr
    · by_cases e2 : j = 5 + r
      · subst e2; rw [sdj_d, h0, Nat.or_zero]
      · rw [sdj_o _ _ _ _ _ e1 e2]
theorem sm_s (f : Nat → Nat) (i : Nat) : sm f (i + 1) = sm f i + f i := rfl
theorem b_chance (N : Nat) {I : Nat → Int32} {A : Nat → Nat → Int32} {L : Int64} {A6 : Nat → Nat → Int32} {L6 : Int64} {rI : Nat → Int32} {rA : Nat → Nat → Int32} {tI : Nat → Int32} {tA : Nat → Nat → Int32} {wI : Nat → Int32} {wA : Nat → Nat → Int32} {aI : Nat → Int32} {aS : Nat → Nat → Int32} {aT : Nat → Nat → Nat → Int32} {eI : Nat → Int32} {eA : Nat → Nat → Int32} {sS : Nat → Nat → Int32} {sT : Nat → Nat → Nat → Int32} (hN : 10200 ≤ N) (hR : Rel I A L A6 L6 rI rA tI tA wI wA aI aS aT eI eA sS sT) {k m r w x a : Nat} {T : Nat → Nat → Nat} {S : Nat → Nat} {d : Int32} (u : Int32) (hB : TB k m T) (hSB : SB k m S) (hMT : MT k m T I A) (hCT : CT k m T tI tA) (hMS : MS A 0 S d) (hCS : CS wI wA S d) (hr : r < k) (hw : w < 21) (hx : x < 11) (ha : a < 64) : ∃ v A', fX7_chance_65 N I A (nI r) (nI w) (nI x) u (nI a) = some (v, A') ∧ fX6_chance_66 N tI tA wI wA (nI r) (nI w) (nI x) u (nI a) = some v ∧ Rel I A' L A6 L6 rI rA tI tA wI wA aI aS aT eI eA sS sT := by
  have hk := hB.1
  have ca := cn_6 a
  unfold fX7_chance_65 fX6_chance_66
  rw [bc_N N ha, Option.bind_some]
  have hle : ∀ i, i ≤ 64 → sm (fun s => if s &&& (63 - a) = 0 then (if w ≤ vdN T S d r s then wgt x a s else 0) else 0) i ≤ i * 1000000 := by
    intro i hi
    refine sm_le _ _ i (fun j hj => ?_)
    show (if j &&& (63 - a) = 0 then (if w ≤ vdN T S d r j then wgt x a j else 0) else 0) ≤ _
    split
    · rename_i h
      have := wgt_le x a j ha (by omega) hx h
      split <;> omega
    · omega
  have H := lpP (fun n i (s : Nat → Nat → Int32) => fX7_chance_76 N n I s (nI r) (nI w) (nI x) u (nI a) (nI (sm (fun s => if s &&& (63 - a) = 0 then (if w ≤ vdN T S d r s then wgt x a s else 0) else 0) i)) (nI (sm (fun s => if s &&& (63 - a) = 0 then wgt x a s else 0) i)) (nI i)) (fun n i (s : Nat → Nat → Int32) => fX6_chance_81 N n tI tA wI wA (nI r) (nI w) (nI x) u (nI a) (nI (cn a)) (nI (sm (fun s => if s &&& (63 - a) = 0 then (if w ≤ vdN T S d r s then wgt x a s else 0) else 0) i)) (nI i)) (fun i s => FrL 1 A s) (fun X Y => ∃ v A', X = some (v, A') ∧ Y = some v ∧ FrL 1 A A') 64 ?_ ?_ N N 0 A (by omega) (by omega) (by omega) (FrL_rfl 1 A)
  · obtain ⟨v, A', v1, v2, v3⟩ := H
    exact ⟨v, A', v1, v2, R_scr hR v3⟩
  · intro n n' s hf
    show ∃ v A', fX7_chance_76s N _ I s _ _ _ _ _ _ _ _ = _ ∧ fX6_chance_81s N _ tI tA wI wA _ _ _ _ _ _ _ _ = _ ∧ _
    unfold fX7_chance_76s fX6_chance_81s fX7_chance_238
    have h64 : (63 : Int32) < nI 64 := by decide +kernel
    have hb := hle 64 (by omega)
    have p4 : 10 ^ cn a ≤ 10 ^ 6 := Nat.pow_le_pow_right (by omega) ca
    have p5 : 0 < 10 ^ cn a := Nat.pow_pos (by omega)
    obtain ⟨g, g0, g1, g2, g3⟩ := b_frac N (by omega) (sm (fun s => if s &&& (63 - a) = 0 then (if w ≤ vdN T S d r s then wgt x a s else 0) else 0) 64) 0 (10 ^ cn a) (by omega) (by omega) p5 (by omega) u
    rw [show nI 0 = 0 from rfl, Int32.sub_zero] at g2 g3
    rw [if_pos h64, if_pos h64, wgt_all x hx a ha, g2, Option.bind_some, nz_n g0 g1, Option.bind_some, Option.bind_some, show fX6_power N 10 (nI (cn a)) = _ from c_power N (by omega) 10 (cn a) (by omega), Option.bind_some, g3, Option.bind_some]
    by_cases hu : u = 0
    · rw [if_pos hu, if_pos hu]; exact ⟨_, _, rfl, rfl, hf⟩
    · rw [if_neg hu, if_neg hu]; exact ⟨_, _, rfl, rfl, hf⟩
  · intro n n' i s hi hf
    refine Or.inr ?_
    show ∃ s', _ ∧ fX7_chance_76s N (fX7_chance_76 N n) I s _ _ _ _ _ _ _ _ = _ ∧ fX6_chance_81s N (fX6_chance_81 N n') tI tA wI wA _ _ _ _ _ _ _ _ = _
    unfold fX7_chance_76s fX6_chance_81s fX7_chance_205 fX6_chance_140
    have h63 : ¬ (63 : Int32) < nI i := nI_nlt (a := 63) (by omega) (by omega)
    have l1 : i &&& (63 - a) < 64 := and_lt hi
    rw [if_neg h63, if_neg h63, an_N _ hi _ ha, sm_s, sm_s]
    by_cases c1 : i &&& (63 - a) = 0
    · have hv : vdN T S d r i ≤ 18 := vN_18 _ _ _ _ _ _ (hB.2.2.1 r hr).2.1
      have hc := cn_sub i hi a ha c1
      obtain ⟨A1, a1, a2, a3⟩ := m_layTrial N (by omega) (FrL_MS0 hf hMS)
      obtain ⟨A2, b1, b2⟩ := m_chance_in N (by omega) hB hMT hSB hr hi ha hx hw c1 (FrL_tr hf a2) a1 u (sm (fun s => if s &&& (63 - a) = 0 then wgt x a s else 0) i) (sm (fun s => if s &&& (63 - a) = 0 then (if w ≤ vdN T S d r s then wgt x a s else 0) else 0) i) (fX7_chance_76 N n)
      refine ⟨A2, b1, ?_, ?_⟩
      · rw [if_pos ((nI_e0 (by omega)).mpr c1), a3, Option.bind_some, b2, if_pos c1, if_pos c1]
      · rw [if_pos ((nI_e0 (by omega)).mpr c1), c_vad N hB hCT hCS hSB hr hi, Option.bind_some, bc_N N hi, Option.bind_some, c_power N (by omega) x (cn i) (by omega), Option.bind_some, show (10 : Int32) - nI x = nI (10 - x) from pk_sub (a := 10) (by omega), pk_sub hc, c_power N (by omega) (10 - x) (cn a - cn i) (by omega), Option.bind_some, pk_mul, nI_add, nI_1, if_pos c1]
        by_cases h : w ≤ vdN T S d r i
        · rw [if_neg (nI_nlt h (by omega)), if_pos h]; rfl
        · rw [if_pos (nI_lt (by omega) (by omega)), if_neg h]; rfl
    · refine ⟨s, hf, ?_, ?_⟩
      · rw [if_neg (fun h => c1 ((nI_e0 (by omega)).mp h)), if_neg c1, if_neg c1, nI_1]; rfl
      · rw [if_neg (fun h => c1 ((nI_e0 (by omega)).mp h)), if_neg c1, nI_1]; rfl
theorem r_chance (N : Nat) {I : Nat → Int32} {A : Nat → Nat → Int32} {L : Int64} {A6 : Nat → Nat → Int32} {L6 : Int64} {rI : Nat → Int32} {rA : Nat → Nat → Int32} {tI : Nat → Int32} {tA : Nat → Nat → Int32} {wI : Nat → Int32} {wA : Nat → Nat → Int32} {aI : Nat → Int32} {aS : Nat → Nat → Int32} {aT : Nat → Nat → Nat → Int32} {eI : Nat → Int32} {eA : Nat → Nat → Int32} {sS : Nat → Nat → Int32} {sT : Nat → Nat → Nat → Int32} (hN : 10200 ≤ N) (hR : Rel I A L A6 L6 rI rA tI tA wI wA aI aS aT eI eA sS sT) (x y z u : Int32) : ∃ r A', fX7_chance N I A x y z u = some (r, A') ∧ fX6_chance N tI tA wI wA x y z u = some r ∧ Rel I A' L A6 L6 rI rA tI tA wI wA aI aS aT eI eA sS sT := by
  obtain ⟨k, m, T, S, d, hB, hSB, hMT, hCT, hMS, hCS, hRT, hRA, hRH, hRK, hL⟩ := id hR
  have hk := hB.1
  have h1 := p_X7_ix N y 21 (by omega)
  rw [show Int32.toInt64 (nI 21 - 1) = 20 by decide +kernel] at h1
  have h2 : fX6_isOutside N y 0 20 = _ := out_n N y 20 (by omega)
  have h3 := p_X7_ix N z 11 (by omega)
  rw [show Int32.toInt64 (nI 11 - 1) = 10 by decide +kernel] at h3
  have h4 : fX6_isOutside N z 0 10 = _ := out_n N z 10 (by omega)
  unfold fX7_chance fX6_chance fX7_chance_34 fX6_chance_33
  rw [m_isR N x hB hMT, c_isR N x hB hCT, h1, h2, h3, h4, Option.bind_some, Option.bind_some, Option.bind_some, Option.bind_some, Option.bind_some, Option.bind_some]
  by_cases hx : x < 0 ∨ nI k ≤ x
  · rw [if_pos hx]; exact ⟨-1, A, rfl, rfl, hR⟩
  rw [if_neg hx, n10, n10]
  by_cases hy : y < 0 ∨ nI 21 ≤ y
  · rw [if_pos hy, if_pos (show y < 0 ∨ nI (20 + 1) ≤ y from hy)]; exact ⟨-2, A, rfl, rfl, hR⟩
  rw [if_neg hy, if_neg (show ¬ (y < 0 ∨ nI (20 + 1) ≤ y) from hy), n10, z00]
  by_cases hz : z < 0 ∨ nI 11 ≤ z
  · rw [if_pos hz, if_pos (show z < 0 ∨ nI (10 + 1) ≤ z from hz)]; exact ⟨-2, A, rfl, rfl, hR⟩
  rw [if_neg hz, if_neg (show ¬ (z < 0 ∨ nI (10 + 1) ≤ z) from hz), n10, z00]
  obtain ⟨r, hr, rfl⟩ := ix_of (by omega) hx
  obtain ⟨w, hw, rfl⟩ := ix_of (by omega) hy
  obtain ⟨q, hq, rfl⟩ := ix_of (by omega) hz
  have l1 := (hB.2.2.1 r hr).2.2.1
  have m0 := hMS.1 r (by omega)
  rw [show 31 * 0 + r = r by omega] at m0
  have hp7 : fX7_isProved N A 0 (nI r) = _ := m_isProved N (lv := 0) hB hMT hMS (by omega) hr
  unfold fX7_chance_59
  rw [hp7, Option.bind_some, rd_e rfl (by omega) (by omega) (hMT.2.2.1 r hr).2.1, Option.bind_some, rd_e rfl (by omega) (by omega) m0, Option.bind_some, hCS.2.2.2, c_isProvedTrue N d hB hCT hr, Option.bind_some, c_saidOf N hCS (by omega), Option.bind_some]
  have k0 := b_chance N hN hR (r := r) (w := w) (x := q) (a := 0) u hB hSB hMT hCT hMS hCS hr hw hq (by omega)
  have k1 := b_chance N hN hR (r := r) (w := w) (x := q) (a := S r) u hB hSB hMT hCT hMS hCS hr hw hq (hSB.1 r (by omega))
  cases hb : pv (T 2 r) d with
  | false => rw [if_neg Bool.false_ne_true, z00, Bool.false_and, if_neg Bool.false_ne_true, z00]; exact k1
  | true =>
    rw [if_pos rfl, n10, Bool.true_and]
    by_cases hl0 : T 1 r = 0
    · rw [if_pos ((li_eq0 l1).mpr hl0), decide_eq_true hl0, if_pos rfl, n10]; exact k0
    · rw [if_neg (fun h => hl0 ((li_eq0 l1).mp h)), decide_eq_false hl0, if_neg Bool.false_ne_true, z00]; exact k1
