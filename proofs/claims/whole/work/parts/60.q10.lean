-- two loops side by side
theorem lpP {σ α β : Type} (G : Nat → Nat → σ → Option α) (H : Nat → Nat → σ → Option β) (Inv : Nat → σ → Prop) (Post : Option α → Option β → Prop) (K : Nat) (he : ∀ n n' s, Inv K s → Post (G (n + 1) K s) (H (n' + 1) K s)) (hs : ∀ n n' i s, i < K → Inv i s → Post (G (n + 1) i s) (H (n' + 1) i s) ∨ ∃ s', Inv (i + 1) s' ∧ G (n + 1) i s = G n (i + 1) s' ∧ H (n' + 1) i s = H n' (i + 1) s') : ∀ n n' i s, i ≤ K → K - i < n → K - i < n' → Inv i s → Post (G n i s) (H n' i s)
  | 0, _, i, s, h1, h2, _, _ => by omega
  | _, 0, i, s, h1, _, h2, _ => by omega
  | n + 1, n' + 1, i, s, h1, h2, h3, h => by
    by_cases e : i = K
    · subst e; exact he n n' s h
    · rcases hs n n' i s (by omega) h with h4 | ⟨s', h4, h5, h6⟩
      · exact h4
      · rw [h5, h6]
        exact lpP G H Inv Post K he hs n n' (i + 1) s' (by omega) (by omega) (by omega) h4
/-- what the coins of a set are worth -/
def hvN (k : Nat) (T : Nat → Nat → Nat) (S : Nat → Nat) (d : Int32) (p set : Nat) : Nat := sm (fun r => if set.testBit r = true then S (10 + (5 * p + r)) * vR T S d r else 0) k
def rvS (T : Nat → Nat → Nat) (set r : Nat) : Bool := set.testBit r && decide (¬ (T 3 r &&& set) = 0)
theorem hv_le {k m : Nat} {T : Nat → Nat → Nat} {S : Nat → Nat} (d : Int32) (p set : Nat) (hB : TB k m T) (hSB : SB k m S) (hp : p < 4) : hvN k T S d p set ≤ 8910 := by
  have hk := hB.1
  have h := sm_le (fun r => if set.testBit r = true then S (10 + (5 * p + r)) * vR T S d r else 0) 1782 k (fun r hr => by
    show (if set.testBit r = true then _ else _) ≤ _
    split
    · exact Nat.mul_le_mul (hSB.2.1 _ (by omega)) (vR_18 S d hB hr)
    · omega)
  unfold hvN
  omega
theorem m_canBe (N : Nat) {k m set : Nat} {T : Nat → Nat → Nat} {I : Nat → Int32} {A : Nat → Nat → Int32} (hN : 40 ≤ N) (hB : TB k m T) (hT : MT k m T I A) (hs : set < 64) : fX7_canBe N I A (nI set) = some (if anyF (rvS T set) k 0 = true then 0 else 1) := by
  have hk := hB.1
  unfold fX7_canBe
  have H := lpS (fun n i (b : Bool) => fX7_canBe_4 N n I A (nI set) (if b = true then 1 else 0) (nI i)) (fun i b => some (if (b && !(anyF (rvS T set) (k - i) i)) = true then 1 else 0)) k ?_ ?_ N 0 true (by omega) (by omega)
  · rw [show fX7_canBe_4 N N I A (nI set) 1 0 = _ from H, Nat.sub_zero]
    cases anyF (rvS T set) k 0 <;> rfl
  · intro n b
    show fX7_canBe_4s N _ I A _ _ _ = _
    unfold fX7_canBe_4s
    rw [hT.1, if_pos (nI_le (Nat.le_refl k) (by omega)), Nat.sub_self, anyF]
    cases b <;> rfl
  · intro n i b hi ih
    show fX7_canBe_4s N _ I A _ _ _ = _
    unfold fX7_canBe_4s fX7_canBe_39 fX7_canBe_35 fX7_canBe_40
    have h3 := pk_32 hk (hB.2.2.1 i hi).2.2.2.2
    rw [hT.1, if_neg (nI_ge hi (by omega)), nI_1, anyF_s _ hi, m_has N hs (by omega), Option.bind_some, rd_e rfl (by omega) (by omega) (hT.2.2.1 i hi).2.2.2, Option.bind_some, and_N _ (by omega) _ hs]
    have hlt : T 3 i &&& set < 64 := and_lt (by omega)
    have i0 := ih false
    have i1 := ih true
    simp only [Bool.false_and, Bool.true_and, Bool.false_eq_true, ↓reduceIte] at i0 i1
    cases b with
    | false => rw [if_neg Bool.false_ne_true, z00, i0]; rfl
    | true =>
      rw [if_pos rfl, n10]
      unfold rvS at i1 ⊢
      cases hb : set.testBit i with
      | false => rw [if_neg Bool.false_ne_true, z00, i1]; simp
      | true =>
        rw [if_pos rfl, n10]
        by_cases hp : T 3 i &&& set = 0
        · rw [if_pos ((nI_e0 (by omega)).mpr hp), i1]; simp [hp]
        · rw [if_neg (fun h => hp ((nI_e0 (by omega)).mp h)), i0]; simp [hp]
theorem c_free (N : Nat) {k m set : Nat} {T : Nat → Nat → Nat} {I : Nat → Int32} {A : Nat → Nat → Int32} (hN : 40 ≤ N) (hB : TB k m T) (hT : CT k m T I A) (hs : set < 2 ^ k) : fX5_isFreeOfRivals N A (nI set) = some (if anyF (rvS T set) k 0 = true then 0 else 1) := by
  have hk := hB.1
  have hs6 := pk_32 hk hs
  unfold fX5_isFreeOfRivals
  rw [← anyF_cut (rvS T set) hk (fun j h1 h2 => by simp [rvS, tb_hi hs h1])]
  refine lpE (fun n i => fX5_isFreeOfRivals_2 N n A (nI set) (nI i)) (fun i => some (if anyF (rvS T set) (5 - i) i = true then 0 else 1)) 5 ?_ ?_ N 0 (by omega) (by omega)
  · intro n
    rfl
  · intro n i hi ih
    show fX5_isFreeOfRivals_2s N _ A _ _ = _
    unfold fX5_isFreeOfRivals_2s fX5_isFreeOfRivals_28
    rw [if_neg (show ¬ (5 : Int32) ≤ nI i from nI_ge (b := 5) hi (by omega)), c_hasBit N (by omega) (by omega), Option.bind_some, nI_1, ih, anyF_s _ hi]
    by_cases hik : i < k
    · have h3 := pk_32 hk (hB.2.2.1 i hik).2.2.2.2
      have hlt : T 3 i &&& set < 64 := and_lt (by omega)
      rw [rd_e rfl (by omega) (by omega) (hT.2.2.1 i hik).2.2.2, Option.bind_some, and_N _ (by omega) _ (by omega), Nat.and_comm]
      unfold rvS
      cases hb : set.testBit i with
      | false => rw [if_neg Bool.false_ne_true, z00]; simp
      | true =>
        rw [if_pos rfl, n10]
        by_cases hp : T 3 i &&& set = 0
        · rw [if_pos ((nI_e0 (by omega)).mpr hp)]; simp [hp]
        · rw [if_neg (fun h => hp ((nI_e0 (by omega)).mp h))]; simp [hp]
    · have hb := tb_hi hs (show k ≤ i by omega)
      unfold rvS
      rw [hb, if_neg Bool.false_ne_true, z00]; simp
theorem c_valueOfSet (N : Nat) {k m p set : Nat} {T : Nat → Nat → Nat} {I : Nat → Int32} {A : Nat → Nat → Int32} {I1 : Nat → Int32} {A1 : Nat → Nat → Int32} {S : Nat → Nat} {d : Int32} (hN : 40 ≤ N) (hB : TB k m T) (hT : CT k m T I1 A1) (hS : CS I A S d) (hSB : SB k m S) (hp : p < m) (hs : set < 64) : fX4_valueOfSet N I A I1 A1 (nI p) (nI set) = some (nI (hvN k T S d p set)) := by
  have hk := hB.1
  have hm := hB.2.1
  unfold fX4_valueOfSet
  refine lpE (fun n i => fX4_valueOfSet_6 N n I A I1 A1 (nI p) (nI set) (nI (sm (fun r => if set.testBit r = true then S (10 + (5 * p + r)) * vR T S d r else 0) i)) (nI i)) (fun i => some (nI (hvN k T S d p set))) k ?_ ?_ N 0 (by omega) (by omega)
  · intro n
    show fX4_valueOfSet_6s N _ I A I1 A1 _ _ _ _ = _
    unfold fX4_valueOfSet_6s
    rw [hT.1, if_pos (nI_le (Nat.le_refl k) (by omega))]
    rfl
  · intro n i hi ih
    show fX4_valueOfSet_6s N _ I A I1 A1 _ _ _ _ = _
    unfold fX4_valueOfSet_6s fX4_valueOfSet_44
    rw [hT.1, if_neg (nI_ge hi (by omega)), c_hasBit N hs (by omega), Option.bind_some, c_coinsOf N hS (by omega) (by omega), Option.bind_some, c_valueOf N hB hT hS hSB hi, Option.bind_some, nI_1, pk_mul, nI_add]
    rw [← ih]
    cases hb : set.testBit i with
    | false => rw [if_neg Bool.false_ne_true, z00]; simp [sm, hb]
    | true => rw [if_pos rfl, n10]; simp [sm, hb]
theorem m_holds_in (N : Nat) {k m p set b mo : Nat} {x2 : Int32} {T : Nat → Nat → Nat} {I : Nat → Int32} {A : Nat → Nat → Int32} {S : Nat → Nat} {d : Int32} (hN : 40 ≤ N) (hB : TB k m T) (hT : MT k m T I A) (hS : MS A 0 S d) (hSB : SB k m S) (hp : p < m) (hs : set < 64) (hb : b < 64) (hm' : mo ≤ 8910) (k18 : (Nat → Int32) → (Nat → Nat → Int32) → Int32 → Int32 → Int32 → Int32 → Int32 → Option Int32) : fX7_holds_35 N k18 N I A (nI p) x2 (nI b) (nI mo) (nI set) 0 0 = if (!(anyF (rvS T set) k 0) && (decide (mo < hvN k T S d p set) || (decide (hvN k T S d p set = mo) && decide (cn set < cn b)))) = true then k18 I A (nI p) x2 (nI set) (nI (hvN k T S d p set)) (nI (set + 1)) else k18 I A (nI p) x2 (nI b) (nI mo) (nI (set + 1)) := by
  have hk := hB.1
  have hm := hB.2.1
  refine lpE (fun n i => fX7_holds_35 N k18 n I A (nI p) x2 (nI b) (nI mo) (nI set) (nI (sm (fun r => if set.testBit r = true then S (10 + (5 * p + r)) * vR T S d r else 0) i)) (nI i)) (fun i => _) k ?_ ?_ N 0 (by omega) (by omega)
  · intro n
    show fX7_holds_35s N _ _ I A _ _ _ _ _ _ _ = _
    have hv := hv_le d p set hB hSB (by omega)
    have c1 := cn_6 set
    have c2 := cn_6 b
    unfold fX7_holds_35s fX7_holds_129 fX7_holds_125 fX7_holds_130 fX7_holds_143 fX7_holds_156
    rw [hT.1, if_pos (nI_le (Nat.le_refl k) (by omega)), m_canBe N hN hB hT hs, Option.bind_some, ones_N N (by omega) hs, ones_N N (by omega) hb, Option.bind_some, Option.bind_some, nI_1]
    show (if _ then _ else if nI mo < nI (hvN k T S d p set) then _ else if nI (hvN k T S d p set) = nI mo then _ else _) = _
    rw [show sm (fun r => if set.testBit r = true then S (10 + (5 * p + r)) * vR T S d r else 0) k = hvN k T S d p set from rfl]
    cases ha : anyF (rvS T set) k 0 with
    | true => rw [if_pos rfl, z00]; simp
    | false =>
      rw [if_neg Bool.false_ne_true, n10]
      by_cases h1 : mo < hvN k T S d p set
      · rw [if_pos (nI_lt h1 (by omega))]; simp [h1]
      · rw [if_neg (fun h => h1 ((nI_ltI (by omega) (by omega)).mp h))]
        by_cases h2 : hvN k T S d p set = mo
        · rw [if_pos (by rw [h2])]
          by_cases h3 : cn set < cn b
          · rw [if_neg (fun h => by have := (nI_leI (by omega) (by omega)).mp h; omega)]; simp [h1, h2, h3]
          · rw [if_pos (nI_le (by omega) (by omega))]; simp [h2, h3]
        · rw [if_neg (fun h => h2 ((nI_eq (by omega) (by omega)).mp h))]; simp [h1, h2]
  · intro n i hi ih
    show fX7_holds_35s N _ _ I A _ _ _ _ _ _ _ = _
    have e0 : 31 * (0 : Int32) + 10 + 5 * nI p + nI i = nI (31 * 0 + (10 + (5 * p + i))) := ox3 0 p i
    have hw : fX7_worthOf N A 0 (nI i) = some (nI (vR T S d i)) := m_worthOf N (lv := 0) (by omega) hB hT hS hSB (by omega) hi
    unfold fX7_holds_35s fX7_holds_81 fX7_coinAt
    rw [hT.1, if_neg (nI_ge hi (by omega)), m_has N hs (by omega), Option.bind_some, Option.bind_some, e0, rd_e rfl (by omega) (by omega) (hS.1 _ (by omega)), Option.bind_some, hw, Option.bind_some, nI_1, pk_mul, nI_add, Int32.add_zero]
    rw [← ih]
    cases hb : set.testBit i with
    | false => rw [if_neg Bool.false_ne_true, z00]; simp [sm, hb]
    | true => rw [if_pos rfl, n10]; simp [sm, hb]
theorem shl_k : ∀ k, k < 6 → shl 1 (nI k) = nI (2 ^ k) := shl1
theorem r_holds (N : Nat) {I : Nat → Int32} {A : Nat → Nat → Int32} {L : Int64} {A6 : Nat → Nat → Int32} {L6 : Int64} {rI : Nat → Int32} {rA : Nat → Nat → Int32} {tI : Nat → Int32} {tA : Nat → Nat → Int32} {wI : Nat → Int32} {wA : Nat → Nat → Int32} {aI : Nat → Int32} {aS : Nat → Nat → Int32} {aT : Nat → Nat → Nat → Int32} {eI : Nat → Int32} {eA : Nat → Nat → Int32} {sS : Nat → Nat → Int32} {sT : Nat → Nat → Nat → Int32} (hN : 10200 ≤ N) (hR : Rel I A L A6 L6 rI rA tI tA wI wA aI aS aT eI eA sS sT) (x y : Int32) : ∃ r, fX7_holds N I A x y = some r ∧ fX6_holds N tI tA wI wA x y = some r := by
  obtain ⟨k, m, T, S, d, hB, hSB, hMT, hCT, hMS, hCS, hRT, hRA, hRH, hRK, hL⟩ := hR
  have hk := hB.1
  have hm := hB.2.1
  unfold fX7_holds fX6_holds
  rw [m_isP N x hB hMT, c_isP N x hB hCT, Option.bind_some, Option.bind_some]
  by_cases hx : x < 0 ∨ nI m ≤ x
  · rw [if_pos hx]; exact ⟨-1, rfl, rfl⟩
  rw [if_neg hx, n10, n10]
  obtain ⟨p, hp, rfl⟩ := ix_of (by omega) hx
  have h2k : 2 ^ k ≤ 32 := Nat.pow_le_pow_right (n := 2) (by omega) hk
  have h1k : 1 ≤ 2 ^ k := Nat.one_le_two_pow
  refine lpP (fun n i (s : Nat × Nat) => fX7_holds_18 N n I A (nI p) y (nI s.1) (nI s.2) (nI i)) (fun n i (s : Nat × Nat) => fX6_holds_21 N n tI tA wI wA (nI p) y (nI s.2) (nI s.1) (nI i)) (fun i s => s.1 < 32 ∧ s.2 ≤ 8910) (fun X Y => ∃ r, X = some r ∧ Y = some r) (2 ^ k) ?_ ?_ N N 1 (0, 0) h1k (by omega) (by omega) ⟨by omega, by omega⟩
  · rintro n n' ⟨b, mo⟩ ⟨h1, h2⟩
    show ∃ r, fX7_holds_18s N _ I A _ _ _ _ _ = _ ∧ fX6_holds_21s N _ tI tA wI wA _ _ _ _ _ = _
    unfold fX7_holds_18s fX6_holds_21s fX7_holds_174 fX6_holds_120 fX6_holds_130
    rw [hMT.1, hCT.1, shl_k k (by omega), if_pos (nI_le (Nat.le_refl _) (by omega)), if_pos (nI_le (Nat.le_refl _) (by omega))]
    by_cases hy : y = 0
    · rw [if_pos hy]
      refine ⟨nI mo, rfl, ?_⟩
      split <;> rfl
    · rw [if_neg hy]
      refine ⟨nI b, rfl, ?_⟩
      split <;> rfl
  · rintro n n' i ⟨b, mo⟩ hi ⟨h1, h2⟩
    refine Or.inr ?_
    have hv := hv_le d p i hB hSB (by omega)
    show ∃ s' : Nat × Nat, _ ∧ fX7_holds_18s N (fX7_holds_18 N n) I A _ _ _ _ _ = _ ∧ fX6_holds_21s N (fX6_holds_21 N n') tI tA wI wA _ _ _ _ _ = _
    unfold fX7_holds_18s fX6_holds_21s fX6_holds_76 fX6_holds_107 fX6_holds_114
    have c1 := cn_6 i
    have c2 := cn_6 b
    rw [hMT.1, hCT.1, shl_k k (by omega), if_neg (nI_ge hi (by omega)), if_neg (show ¬ (32 : Int32) ≤ nI i from nI_ge (b := 32) (by omega) (by omega)), if_neg (nI_ge hi (by omega)), m_holds_in N (by omega) hB hMT hMS hSB hp (by omega) (by omega) h2, c_valueOfSet N (by omega) hB hCT hCS hSB hp (by omega), Option.bind_some, bc_N N (by omega), bc_N N (by omega), Option.bind_some, Option.bind_some, c_free N (by omega) hB hCT hi, Option.bind_some, Option.bind_some, nI_1]
    cases ha : anyF (rvS T i) k 0 with
    | true =>
      refine ⟨(b, mo), ⟨h1, h2⟩, by simp, ?_⟩
      rw [if_pos rfl, z00, z00]
      split <;> rfl
    | false =>
      rw [if_neg Bool.false_ne_true, n10, n10]
      by_cases g1 : mo < hvN k T S d p i
      · refine ⟨(i, hvN k T S d p i), ⟨by omega, hv⟩, by simp [g1], ?_⟩
        rw [if_pos (nI_lt g1 (by omega)), if_pos (nI_lt g1 (by omega))]
        split <;> rfl
      · rw [if_neg (show ¬ nI mo < nI (hvN k T S d p i) from fun h => g1 ((nI_ltI (by omega) (by omega)).mp h)), if_neg (show ¬ nI mo < nI (hvN k T S d p i) from fun h => g1 ((nI_ltI (by omega) (by omega)).mp h))]
        by_cases g2 : hvN k T S d p i = mo
        · rw [if_pos (show nI (hvN k T S d p i) = nI mo by rw [g2]), if_pos (show nI (hvN k T S d p i) = nI mo by rw [g2]), n10, z00]
          by_cases g3 : cn i < cn b
          · refine ⟨(i, hvN k T S d p i), ⟨by omega, hv⟩, by simp [g2, g3], ?_⟩
            rw [if_neg (show ¬ nI (cn b) ≤ nI (cn i) from fun h => by have := (nI_leI (by omega) (by omega)).mp h; omega)]
          · refine ⟨(b, mo), ⟨h1, h2⟩, by simp [g2, g3], ?_⟩
            rw [if_pos (show nI (cn b) ≤ nI (cn i) from nI_le (by omega) (by omega))]
        · rw [if_neg (show ¬ nI (hvN k T S d p i) = nI mo from fun h => g2 ((nI_eq (by omega) (by omega)).mp h)), if_neg (show ¬ nI (hvN k T S d p i) = nI mo from fun h => g2 ((nI_eq (by omega) (by omega)).mp h))]
          refine ⟨(b, mo), ⟨h1, h2⟩, by simp [g1, g2], ?_⟩
          split <;> rfl
