/-- choice c is better for one of the two -/
def btB (k : Nat) (T : Nat → Nat → Nat) (S : Nat → Nat) (d : Int32) (q p o a b c : Nat) : Bool := (chB k T S d p c && decide (pwN k T S d q p o a b p < pwN k T S d q p o c b p)) || (chB k T S d o c && decide (pwN k T S d q p o a b o < pwN k T S d q p o a c o))
def rsB (k : Nat) (T : Nat → Nat → Nat) (S : Nat → Nat) (d : Int32) (q p o i : Nat) : Bool := chB k T S d p (i / 6) && (chB k T S d o (i % 6) && !(anyF (btB k T S d q p o (i / 6) (i % 6)) 6 0))
theorem m_isRest (N : Nat) {k m p o q i : Nat} {T : Nat → Nat → Nat} {I : Nat → Int32} {A : Nat → Nat → Int32} {S : Nat → Nat} {d : Int32} (hN : 100 ≤ N) (hB : TB k m T) (hT : MT k m T I A) (hS : MS A 0 S d) (hSB : SB k m S) (hp : p < m) (ho : o < m) (hq : q < 9) (hi : i < 36) (hP : ∀ j, j < 36 → chB k T S d p (j / 6) = true → chB k T S d o (j % 6) = true → A 18 j = nI (pwN k T S d q p o (j / 6) (j % 6) p) ∧ A 19 j = nI (pwN k T S d q p o (j / 6) (j % 6) o)) : fX7_isRest N I A (nI p) (nI o) (nI i) = some (if rsB k T S d q p o i = true then 1 else 0) := by
  have hk := hB.1
  have hm := hB.2.1
  have hle := fun a b x (hx : x < 4) => pw_le d q p o a b x hB hSB hx
  have i6 : i / 6 < 6 := by omega
  have i6' : i % 6 < 6 := by omega
  have z : ∀ n c, fX7_isRest_34 N n I A (nI p) (nI o) (nI i) 0 (nI c) = some 0 ∨ n ≤ 6 - c ∨ 6 < c := by
    intro n
    induction n with
    | zero => intro c; exact Or.inr (Or.inl (by omega))
    | succ n ih =>
      intro c
      by_cases hc : 6 < c
      · exact Or.inr (Or.inr hc)
      by_cases hc6 : c = 6
      · refine Or.inl ?_
        subst hc6
        show fX7_isRest_34s N _ I A _ _ _ _ _ = _
        unfold fX7_isRest_34s
        rw [if_pos (by decide +kernel)]; rfl
      rcases ih (c + 1) with h | h | h
      · refine Or.inl ?_
        show fX7_isRest_34s N _ I A _ _ _ _ _ = _
        unfold fX7_isRest_34s fX7_isRest_84 fX7_isRest_85 fX7_isRest_129 fX7_isRest_130
        rw [if_neg (show ¬ (6 : Int32) ≤ nI c from nI_ge (b := 6) (by omega) (by omega)), z00, z00, nI_1]
        exact h
      · exact Or.inr (Or.inl (by omega))
      · omega
  have z0 : fX7_isRest_34 N N I A (nI p) (nI o) (nI i) 0 0 = some 0 := by
    rcases z N 0 with h | h | h
    · exact h
    · omega
    · omega
  unfold fX7_isRest fX7_isRest_28 fX7_isRest_29 rsB
  rw [d6 (by omega), r6 (by omega), m_isChoice N hB hT hS hSB hp i6, Option.bind_some, m_isChoice N hB hT hS hSB ho i6', Option.bind_some, z0]
  cases ca : chB k T S d p (i / 6) with
  | false => rw [if_neg Bool.false_ne_true, z00]; rfl
  | true =>
    rw [if_pos rfl, n10]
    cases cb : chB k T S d o (i % 6) with
    | false => rw [if_neg Bool.false_ne_true, z00]; rfl
    | true =>
      rw [if_pos rfl, n10, Bool.true_and, Bool.true_and]
      refine lpS (fun n c (b : Bool) => fX7_isRest_34 N n I A (nI p) (nI o) (nI i) (if b = true then 1 else 0) (nI c)) (fun c b => some (if (b && !(anyF (btB k T S d q p o (i / 6) (i % 6)) (6 - c) c)) = true then 1 else 0)) 6 ?_ ?_ N 0 true (by omega) (by omega)
      · intro n b
        show fX7_isRest_34s N _ I A _ _ _ _ _ = _
        unfold fX7_isRest_34s
        rw [if_pos (by decide +kernel)]
        cases b <;> rfl
      · intro n c b hc ih
        show fX7_isRest_34s N _ I A _ _ _ _ _ = _
        have i0 := ih false
        have i1 := ih true
        simp only [Bool.false_and, Bool.true_and, Bool.false_eq_true, ↓reduceIte] at i0 i1
        unfold fX7_isRest_34s fX7_isRest_84 fX7_isRest_80 fX7_isRest_85 fX7_isRest_129 fX7_isRest_125 fX7_isRest_130
        have x1 : (6 : Int32) * nI c + nI (i % 6) = nI (6 * c + i % 6) := by rw [show (6 : Int32) = nI 6 from rfl, pk_mul, nI_add]
        have x2 : nI i - nI (i % 6) + nI c = nI (i - i % 6 + c) := by rw [pk_sub (show i % 6 ≤ i by omega), nI_add]
        rw [if_neg (show ¬ (6 : Int32) ≤ nI c from nI_ge (b := 6) hc (by omega)), r6 (by omega), m_isChoice N hB hT hS hSB hp hc, Option.bind_some, m_isChoice N hB hT hS hSB ho hc, Option.bind_some, nI_1, anyF_s _ hc, x1, x2, i0, i1, z00, n10]
        cases b with
        | false => rw [if_neg Bool.false_ne_true, z00]; rfl
        | true =>
          rw [if_pos rfl, n10, Bool.true_and]
          obtain ⟨pi1, pi2⟩ := hP i hi ca cb
          have lp := hle (i / 6) (i % 6) p (by omega)
          have lo := hle (i / 6) (i % 6) o (by omega)
          have lc := hle c (i % 6) p (by omega)
          have ld := hle (i / 6) c o (by omega)
          -- the other one's part
          have oth : (if (if chB k T S d o c = true then (1 : Int32) else 0) = 0 then some (if (!(anyF (btB k T S d q p o (i / 6) (i % 6)) (6 - (c + 1)) (c + 1))) = true then (1 : Int32) else 0) else (rd 36 (A 19) (nI (i - i % 6 + c))).bind fun v4 => (rd 36 (A 19) (nI i)).bind fun v5 => if v5 < v4 then some 0 else some (if (!(anyF (btB k T S d q p o (i / 6) (i % 6)) (6 - (c + 1)) (c + 1))) = true then (1 : Int32) else 0)) = some (if (!((chB k T S d o c && decide (pwN k T S d q p o (i / 6) (i % 6) o < pwN k T S d q p o (i / 6) c o)) || anyF (btB k T S d q p o (i / 6) (i % 6)) (6 - (c + 1)) (c + 1))) = true then (1 : Int32) else 0) := by
            cases co : chB k T S d o c with
            | false => rw [if_neg Bool.false_ne_true, z00, Bool.false_and, Bool.false_or]
            | true =>
              have hj := hP (i - i % 6 + c) (by omega) (by rw [show (i - i % 6 + c) / 6 = i / 6 by omega]; exact ca) (by rw [show (i - i % 6 + c) % 6 = c by omega]; exact co)
              rw [show (i - i % 6 + c) / 6 = i / 6 by omega, show (i - i % 6 + c) % 6 = c by omega] at hj
              rw [if_pos rfl, n10, rd_e rfl (by omega) (by omega) hj.2, Option.bind_some, rd_e rfl (by omega) (by omega) pi2, Option.bind_some, Bool.true_and]
              by_cases hl : pwN k T S d q p o (i / 6) (i % 6) o < pwN k T S d q p o (i / 6) c o
              · rw [if_pos (nI_lt hl (by omega)), decide_eq_true hl]; rfl
              · rw [if_neg (fun h => hl ((nI_ltI (by omega) (by omega)).mp h)), decide_eq_false hl, Bool.false_or]
          rw [oth]
          show _ = some (if (!(btB k T S d q p o (i / 6) (i % 6) c || anyF (btB k T S d q p o (i / 6) (i % 6)) (6 - (c + 1)) (c + 1))) = true then (1 : Int32) else 0)
          conv => rhs; unfold btB
          cases cp : chB k T S d p c with
          | false => rw [if_neg Bool.false_ne_true, z00, Bool.false_and, Bool.false_or]; rfl
          | true =>
            have hj := hP (6 * c + i % 6) (by omega) (by rw [show (6 * c + i % 6) / 6 = c by omega]; exact cp) (by rw [show (6 * c + i % 6) % 6 = i % 6 by omega]; exact cb)
            rw [show (6 * c + i % 6) / 6 = c by omega, show (6 * c + i % 6) % 6 = i % 6 by omega] at hj
            rw [if_pos rfl, n10, rd_e rfl (by omega) (by omega) hj.1, Option.bind_some, rd_e rfl (by omega) (by omega) pi1, Option.bind_some, Bool.true_and]
            by_cases hl : pwN k T S d q p o (i / 6) (i % 6) p < pwN k T S d q p o c (i % 6) p
            · rw [if_pos (nI_lt hl (by omega)), decide_eq_true hl]; rfl
            · rw [if_neg (fun h => hl ((nI_ltI (by omega) (by omega)).mp h)), decide_eq_false hl, Bool.false_or]; rfl
theorem c_isAtRest (N : Nat) {k m p o q a b : Nat} {T : Nat → Nat → Nat} {tI : Nat → Int32} {tA : Nat → Nat → Int32} {wI : Nat → Int32} {wA : Nat → Nat → Int32} {A : Nat → Nat → Int32} {S : Nat → Nat} {d : Int32} (hN : 100 ≤ N) (hB : TB k m T) (hT : CT k m T tI tA) (hS : CS wI wA S d) (hSB : SB k m S) (hp : p < m) (ho : o < m) (ha : a < 6) (hb : b < 6) (hP : ∀ j, j < 36 → A 3 j = nI (pwN k T S d q p o (j / 6) (j % 6) p) ∧ A 4 j = nI (pwN k T S d q p o (j / 6) (j % 6) o)) : fX6_isAtRest N A tI tA wI wA (nI p) (nI a) (nI o) (nI b) = some (if anyF (btB k T S d q p o a b) 6 0 = true then 0 else 1) := by
  have hk := hB.1
  have hm := hB.2.1
  have hle := fun a b x (hx : x < 4) => pw_le d q p o a b x hB hSB hx
  have pr : ∀ x y, (6 : Int32) * nI x + nI y = nI (6 * x + y) := fun x y => by rw [show (6 : Int32) = nI 6 from rfl, pk_mul, nI_add]
  have at3 : ∀ x y, x < 6 → y < 6 → fX6_at N 36 (A 3) (nI (6 * x + y)) = some (nI (pwN k T S d q p o x y p)) := by
    intro x y hx hy
    have h := (hP (6 * x + y) (by omega)).1
    rw [show (6 * x + y) / 6 = x by omega, show (6 * x + y) % 6 = y by omega] at h
    rw [p_X6_at N 36 _ (by omega) (by omega), h]
  have at4 : ∀ x y, x < 6 → y < 6 → fX6_at N 36 (A 4) (nI (6 * x + y)) = some (nI (pwN k T S d q p o x y o)) := by
    intro x y hx hy
    have h := (hP (6 * x + y) (by omega)).2
    rw [show (6 * x + y) / 6 = x by omega, show (6 * x + y) % 6 = y by omega] at h
    rw [p_X6_at N 36 _ (by omega) (by omega), h]
  unfold fX6_isAtRest
  refine lpE (fun n c => fX6_isAtRest_3 N n A tI tA wI wA (nI p) (nI a) (nI o) (nI b) (nI c)) (fun c => some (if anyF (btB k T S d q p o a b) (6 - c) c = true then 0 else 1)) 6 ?_ ?_ N 0 (by omega) (by omega)
  · intro n
    rfl
  · intro n c hc ih
    show fX6_isAtRest_3s N _ A tI tA wI wA _ _ _ _ _ = _
    have lp := hle a b p (by omega)
    have lo := hle a b o (by omega)
    have lc := hle c b p (by omega)
    have ld := hle a c o (by omega)
    unfold fX6_isAtRest_3s fX6_isAtRest_52 fX6_isAtRest_93 fX6_pairOf
    rw [if_neg (show ¬ (6 : Int32) ≤ nI c from nI_ge (b := 6) hc (by omega)), c_canChoose N hB hT hS hSB hp hc, Option.bind_some, c_canChoose N hB hT hS hSB ho hc, Option.bind_some, nI_1, ih, anyF_s _ hc]
    simp only [Option.bind_some, pr, at3 c b hc hb, at3 a b ha hb, at4 a c ha hc, at4 a b ha hb]
    unfold btB
    cases co : chB k T S d o c with
    | false =>
      rw [if_neg Bool.false_ne_true, z00, Bool.false_and, Bool.or_false]
      cases cp : chB k T S d p c with
      | false => rw [if_neg Bool.false_ne_true, z00, Bool.false_and, Bool.false_or]
      | true =>
        rw [if_pos rfl, n10, Bool.true_and]
        by_cases hl : pwN k T S d q p o a b p < pwN k T S d q p o c b p
        · rw [if_neg (fun h => by have := (nI_leI (by omega) (by omega)).mp h; omega), decide_eq_true hl]; rfl
        · rw [if_pos (nI_le (by omega) (by omega)), decide_eq_false hl, Bool.false_or]
    | true =>
      rw [if_pos rfl, n10, Bool.true_and]
      cases cp : chB k T S d p c with
      | false =>
        rw [if_neg Bool.false_ne_true, z00, Bool.false_and, Bool.false_or]
        by_cases hl : pwN k T S d q p o a b o < pwN k T S d q p o a c o
        · rw [if_neg (fun h => by have := (nI_leI (by omega) (by omega)).mp h; omega), decide_eq_true hl]; rfl
        · rw [if_pos (nI_le (by omega) (by omega)), decide_eq_false hl, Bool.false_or]
      | true =>
        rw [if_pos rfl, n10, Bool.true_and]
        by_cases hl : pwN k T S d q p o a b p < pwN k T S d q p o c b p
        · rw [if_neg (fun h => by have := (nI_leI (by omega) (by omega)).mp h; omega), decide_eq_true hl]; rfl
        · rw [if_pos (nI_le (by omega) (by omega)), decide_eq_false hl, Bool.false_or]
          by_cases hl2 : pwN k T S d q p o a b o < pwN k T S d q p o a c o
          · rw [if_neg (fun h => by have := (nI_leI (by omega) (by omega)).mp h; omega), decide_eq_true hl2]; rfl
          · rw [if_pos (nI_le (by omega) (by omega)), decide_eq_false hl2, Bool.false_or]
/-- how many, and the first -/
def rsF (f : Nat → Bool) (i : Nat) (u : Int32 × Int32) : Int32 × Int32 := if f i = true then (u.1 + 1, if u.1 = 0 then nI (10 * (i / 6) + i % 6) else u.2) else u
def fd (f : Nat → Bool) : Nat → Nat → Int32 × Int32 → Int32 × Int32
  | 0, _, u => u
  | c + 1, i, u => fd f c (i + 1) (rsF f i u)
theorem fd_add (f : Nat → Bool) : ∀ c1 c2 i u, fd f (c1 + c2) i u = fd f c2 (i + c1) (fd f c1 i u)
  | 0, c2, i, u => by rw [Nat.zero_add]; rfl
  | c1 + 1, c2, i, u => by
    rw [show c1 + 1 + c2 = (c1 + c2) + 1 by omega]
    show fd f (c1 + c2) (i + 1) (rsF f i u) = fd f c2 (i + (c1 + 1)) (fd f c1 (i + 1) (rsF f i u))
    rw [fd_add f c1 c2 (i + 1), show i + 1 + c1 = i + (c1 + 1) by omega]
theorem r_rests (N : Nat) {I : Nat → Int32} {A : Nat → Nat → Int32} {L : Int64} {A6 : Nat → Nat → Int32} {L6 : Int64} {rI : Nat → Int32} {rA : Nat → Nat → Int32} {tI : Nat → Int32} {tA : Nat → Nat → Int32} {wI : Nat → Int32} {wA : Nat → Nat → Int32} {aI : Nat → Int32} {aS : Nat → Nat → Int32} {aT : Nat → Nat → Nat → Int32} {eI : Nat → Int32} {eA : Nat → Nat → Int32} {sS : Nat → Nat → Int32} {sT : Nat → Nat → Nat → Int32} (hN : 10200 ≤ N) (hR : Rel I A L A6 L6 rI rA tI tA wI wA aI aS aT eI eA sS sT) (x y z w : Int32) : ∃ r A' A6', fX7_rests N I A x y z w = some (r, A') ∧ fX6_rests N A6 tI tA wI wA x y z w = some (r, A6') ∧ Rel I A' L A6' L6 rI rA tI tA wI wA aI aS aT eI eA sS sT := by
  obtain ⟨k, m, T, S, d, hB, hSB, hMT, hCT, hMS, hCS, hRT, hRA, hRH, hRK, hL⟩ := id hR
  have hk := hB.1
  have hm := hB.2.1
  have h2 : fX6_isOutside N w 0 1 = _ := out_n N w 1 (by omega)
  have h1 : fX7_in N (Int32.toInt64 w) 0 1 = some (if w < 0 ∨ nI 2 ≤ w then 0 else 1) := by
    have h := p_X7_ix N w 2 (by omega)
    rw [show Int32.toInt64 (nI 2 - 1) = 1 by decide +kernel] at h
    exact h
  unfold fX7_rests fX6_rests fX7_rests_16 fX6_rests_22 fX7_rests_46 fX6_rests_49
  rw [m_isP N x hB hMT, c_isP N x hB hCT, m_isP N y hB hMT, c_isP N y hB hCT, m_far, c_far, h1, h2, Option.bind_some, Option.bind_some, Option.bind_some, Option.bind_some, Option.bind_some, Option.bind_some, Option.bind_some, Option.bind_some]
  by_cases hx : x < 0 ∨ nI m ≤ x
  · rw [if_pos hx]; exact ⟨-1, A, A6, rfl, rfl, hR⟩
  rw [if_neg hx, n10, n10]
  by_cases hy : y < 0 ∨ nI m ≤ y
  · rw [if_pos hy]; exact ⟨-1, A, A6, rfl, rfl, hR⟩
  rw [if_neg hy, n10, n10]
  by_cases he : x = y
  · rw [if_pos he, if_pos he]; exact ⟨-2, A, A6, rfl, rfl, hR⟩
  rw [if_neg he, if_neg he]
  by_cases hz : z < 0 ∨ nI 9 ≤ z
  · rw [if_pos hz, if_pos hz]; exact ⟨-2, A, A6, rfl, rfl, hR⟩
  rw [if_neg hz, if_neg hz, n10, z00]
  by_cases hw : w < 0 ∨ nI 2 ≤ w
  · rw [if_pos hw, if_pos (show w < 0 ∨ nI (1 + 1) ≤ w from hw)]; exact ⟨-2, A, A6, rfl, rfl, hR⟩
  rw [if_neg hw, if_neg (show ¬ (w < 0 ∨ nI (1 + 1) ≤ w) from hw), n10, z00]
  obtain ⟨p, hp, rfl⟩ := ix_of (by omega) hx
  obtain ⟨o, ho, rfl⟩ := ix_of (by omega) hy
  obtain ⟨q, hq, rfl⟩ := ix_of (by omega) hz
  obtain ⟨A', a1, a2, a3⟩ := m_pairs N (by omega) hB hMT hMS hSB hp ho hq
  obtain ⟨B', b1, b2, b3⟩ := c_pairs N (A := A6) (by omega) hB hCT hCS hSB hp ho hq
  rw [a1, Option.bind_some, b1, Option.bind_some]
  have hR6 : Rel I A' L B' L6 rI rA tI tA wI wA aI aS aT eI eA sS sT := by
    obtain ⟨k, m, T, S, d, h1, h2, h3, h4, h5, h6, h7, h8, h9, h10, h11⟩ := R_scrP hR a2
    exact ⟨k, m, T, S, d, h1, h2, h3, h4, h5, h6, h7, h8, h9, by rw [b2 0 (by omega) (by omega)]; exact h10, h11⟩
  have fin : ∀ u : Int32 × Int32, ∃ r, (if w = 0 then some (u.1, A') else some (u.2, A')) = some (r, A') ∧ (if w = 0 then some (u.1, B') else some (u.2, B')) = some (r, B') := by
    intro u
    by_cases w0 : w = 0
    · rw [if_pos w0, if_pos w0]; exact ⟨_, rfl, rfl⟩
    · rw [if_neg w0, if_neg w0]; exact ⟨_, rfl, rfl⟩
  have HM : fX7_rests_66 N N I A' (nI p) (nI o) w 0 (-9) 0 = if w = 0 then some ((fd (rsB k T S d q p o) 36 0 (0, -9)).1, A') else some ((fd (rsB k T S d q p o) 36 0 (0, -9)).2, A') := by
    refine lpS (fun n i (u : Int32 × Int32) => fX7_rests_66 N n I A' (nI p) (nI o) w u.1 u.2 (nI i)) (fun i u => if w = 0 then some ((fd (rsB k T S d q p o) (36 - i) i u).1, A') else some ((fd (rsB k T S d q p o) (36 - i) i u).2, A')) 36 ?_ ?_ N 0 (0, -9) (by omega) (by omega)
    · intro n u
      show fX7_rests_66s N _ I A' _ _ _ _ _ _ = _
      unfold fX7_rests_66s fX7_rests_131
      rw [if_pos (by decide +kernel)]
      rfl
    · rintro n i ⟨u1, u2⟩ hi ih
      show fX7_rests_66s N _ I A' _ _ _ _ _ _ = _
      have e10 : (10 : Int32) * nI (i / 6) + nI (i % 6) = nI (10 * (i / 6) + i % 6) := by rw [show (10 : Int32) = nI 10 from rfl, pk_mul, nI_add]
      unfold fX7_rests_66s fX7_rests_108 fX7_rests_113
      rw [if_neg (show ¬ (36 : Int32) ≤ nI i from nI_ge (b := 36) hi (by omega)), m_isRest N (by omega) hB (FrP_MT a2 hMT) (FrP_MS a2 hMS) hSB hp ho hq hi a3, Option.bind_some, d6 (by omega), r6 (by omega), nI_1, e10, show 36 - i = (36 - (i + 1)) + 1 by omega, fd]
      unfold rsF
      cases hb : rsB k T S d q p o i with
      | false =>
        rw [if_neg Bool.false_ne_true, z00, if_neg Bool.false_ne_true]
        exact ih (u1, u2)
      | true =>
        rw [if_pos rfl, n10, if_pos rfl]
        dsimp only
        by_cases u0 : u1 = 0
        · rw [if_pos u0, if_pos u0]; exact ih (u1 + 1, nI (10 * (i / 6) + i % 6))
        · rw [if_neg u0, if_neg u0]; exact ih (u1 + 1, u2)
  have HC : fX6_rests_69 N N B' tI tA wI wA (nI p) (nI o) w 0 (-9) 0 = if w = 0 then some ((fd (rsB k T S d q p o) 36 0 (0, -9)).1, B') else some ((fd (rsB k T S d q p o) 36 0 (0, -9)).2, B') := by
    refine lpS (fun n a (u : Int32 × Int32) => fX6_rests_69 N n B' tI tA wI wA (nI p) (nI o) w u.1 u.2 (nI a)) (fun a u => if w = 0 then some ((fd (rsB k T S d q p o) (36 - 6 * a) (6 * a) u).1, B') else some ((fd (rsB k T S d q p o) (36 - 6 * a) (6 * a) u).2, B')) 6 ?_ ?_ N 0 (0, -9) (by omega) (by omega)
    · intro n u
      show fX6_rests_69s N _ B' tI tA wI wA _ _ _ _ _ _ = _
      unfold fX6_rests_69s fX6_rests_166
      rw [if_pos (by decide +kernel)]
      rfl
    · rintro n a u ha ih
      show fX6_rests_69s N _ B' tI tA wI wA _ _ _ _ _ _ = _
      unfold fX6_rests_69s
      rw [if_neg (show ¬ (6 : Int32) ≤ nI a from nI_ge (b := 6) ha (by omega)), show 36 - 6 * a = 6 + (36 - 6 * (a + 1)) by omega, fd_add, show 6 * a + 6 = 6 * (a + 1) by omega, ← ih]
      refine lpS (fun c b (u : Int32 × Int32) => fX6_rests_79 N (fX6_rests_69 N n) c B' tI tA wI wA (nI p) (nI o) w u.1 u.2 (nI a) (nI b)) (fun b u => fX6_rests_69 N n B' tI tA wI wA (nI p) (nI o) w (fd (rsB k T S d q p o) (6 - b) (6 * a + b) u).1 (fd (rsB k T S d q p o) (6 - b) (6 * a + b) u).2 (nI (a + 1))) 6 ?_ ?_ N 0 u (by omega) (by omega)
      · intro c u
        show fX6_rests_79s N _ _ B' tI tA wI wA _ _ _ _ _ _ _ = _
        unfold fX6_rests_79s
        rw [if_pos (by decide +kernel), nI_1]
        rfl
      · rintro c b ⟨u1, u2⟩ hb ih2
        show fX6_rests_79s N _ _ B' tI tA wI wA _ _ _ _ _ _ _ = _
        have e10 : (10 : Int32) * nI a + nI b = nI (10 * ((6 * a + b) / 6) + (6 * a + b) % 6) := by rw [show (10 : Int32) = nI 10 from rfl, pk_mul, nI_add, show (6 * a + b) / 6 = a by omega, show (6 * a + b) % 6 = b by omega]
        unfold fX6_rests_79s fX6_rests_137 fX6_rests_142
        rw [if_neg (show ¬ (6 : Int32) ≤ nI b from nI_ge (b := 6) hb (by omega)), c_canChoose N hB hCT hCS hSB hp ha, Option.bind_some, c_canChoose N hB hCT hCS hSB ho hb, Option.bind_some, c_isAtRest N (by omega) hB hCT hCS hSB hp ho ha hb b3, Option.bind_some, nI_1, e10, show 6 - b = (6 - (b + 1)) + 1 by omega, fd, show 6 * a + b + 1 = 6 * a + (b + 1) by omega]
        have hrs : rsB k T S d q p o (6 * a + b) = (chB k T S d p a && (chB k T S d o b && !(anyF (btB k T S d q p o a b) 6 0))) := by
          unfold rsB
          rw [show (6 * a + b) / 6 = a by omega, show (6 * a + b) % 6 = b by omega]
        unfold rsF
        rw [hrs]
        cases ca : chB k T S d p a with
        | false => rw [if_neg Bool.false_ne_true, z00, Bool.false_and, if_neg Bool.false_ne_true]; exact ih2 (u1, u2)
        | true =>
          rw [if_pos rfl, n10, Bool.true_and]
          cases cb : chB k T S d o b with
          | false => rw [if_neg Bool.false_ne_true, z00, Bool.false_and, if_neg Bool.false_ne_true]; exact ih2 (u1, u2)
          | true =>
            rw [if_pos rfl, n10, Bool.true_and]
            cases cc : anyF (btB k T S d q p o a b) 6 0 with
            | true => rw [if_pos rfl, z00, Bool.not_true, if_neg Bool.false_ne_true]; exact ih2 (u1, u2)
            | false =>
              rw [if_neg Bool.false_ne_true, n10, Bool.not_false, if_pos rfl]
              dsimp only
              by_cases u0 : u1 = 0
              · rw [if_pos u0, if_pos u0]; exact ih2 (u1 + 1, nI (10 * ((6 * a + b) / 6) + (6 * a + b) % 6))
              · rw [if_neg u0, if_neg u0]; exact ih2 (u1 + 1, u2)
  obtain ⟨r, r1, r2⟩ := fin (fd (rsB k T S d q p o) 36 0 (0, -9))
  exact ⟨r, A', B', by rw [HM, r1], by rw [HC, r2], hR6⟩
