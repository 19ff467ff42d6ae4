theorem sim_S (N : Nat) {i len k m : Nat} {T : Nat → Nat → Nat} {O : Nat → Nat} {I : Nat → Int32} {A rA : Nat → Nat → Int32} {r dI : Nat → Int32} {dA : Nat → Nat → Int32} (hN : 40 ≤ N) (hl : len ≤ 48) (hi : i < len) (h4 : I 4 = nI len) (h5 : I 5 = nI i) (h6 : I 6 = -9) (hB : PB k m T O) (hM : MP k m T O I A) (ht : TX len A rA) (hx : anyF (ftB O) k 0 = true) (r4 : r 4 = nI len) (r0 : r 0 = 83) (r1 : r 1 = 0) (hC : CP k m T O dI dA) : ∃ I' A', fX7_readPart N I A 83 = some (I', A') ∧ SimC N len i rA I A I' A' r dI dA := by
  have hk := hB.1.1
  have hfl := flN_64 (ftB O) k (by omega)
  have hne : ¬ flN (ftB O) k = 0 := fun h => by rw [(flN_0 _ _).mp h] at hx; cases hx
  have k0 : 0 < k := by
    obtain ⟨j, a, b, c⟩ := (anyF_iff _ _ _).mp hx
    omega
  have hM1 : MP k m T O (upd I 5 (nI (i + 1))) A := by
    obtain ⟨q1, q2, q3, q4, q5⟩ := hM
    exact ⟨by rw [upd_n _ _ (by omega)]; exact q1, by rw [upd_n _ _ (by omega)]; exact q2, q3, q4, q5⟩
  obtain ⟨v1, I1, e1, p1, hc1⟩ := m_fig N (i := i + 1) (a := flN (ftB O) k) (I := upd I 5 (nI (i + 1))) (A := A) hl (by omega) (by rw [upd_n _ _ (by omega)]; exact h4) (upd_s _ _ _) (by rw [upd_n _ _ (by omega)]; exact h6) (by omega) (TX_m ht)
  have ix : ∀ x, x ≠ 5 → x ≠ 6 → I1 x = I x := fun x a b => by rw [p1 x a b, upd_n _ _ a]
  have pre : ∀ I2 A2, ((rd 5 (A 10) v1).bind fun v6 => (fX7_figureOf N I1 A (63 &&& (v6 ^^^ (-1)))).bind fun z7 => (rd 5 (A 10) v1).bind fun v8 => if (z7.2 6) = (-9) then fX7_readPart_284 N z7.2 A v1 v8 (shl 1 z7.1) else fX7_readPart_284 N z7.2 A v1 v8 0) = some (I2, A2) → fX7_readPart N I A 83 = some (I2, A2) := by
    intro I2 A2 h
    unfold fX7_readPart fX7_readPart_83 fX7_readPart_161 fX7_readPart_213
    rw [if_neg (by decide), if_neg (by decide), if_neg (by decide), if_pos rfl, m_saidLeft N hN hB hM, Option.bind_some, if_neg (fun h => hne ((nI_e0 (by omega)).mp h)), h5, nI_1, m_saidLeft N hN hB hM1, Option.bind_some, e1, Option.bind_some]
    exact h
  rcases hc1 with ⟨f, g1, g2, g3, g4, g5, g6, g7⟩ | ⟨g1, g2, g3, g4⟩
  · rw [flN_tb, Bool.and_eq_true, decide_eq_true_eq] at g4
    obtain ⟨fk, ff⟩ := g4
    have ho := hB.2 f fk
    have a1 := (hM.2.2.1 f fk).2.2.2.2
    obtain ⟨v2, I2, e2, p2, hc2⟩ := m_fig N (i := i + 2) (a := 63 - O f) (I := I1) (A := A) hl (by omega) (by rw [ix 4 (by omega) (by omega)]; exact h4) g6 g7 (by omega) (TX_m ht)
    have iy : ∀ x, x ≠ 5 → x ≠ 6 → I2 x = I x := fun x a b => by rw [p2 x a b, ix x a b]
    have cls1 : ∀ n, fX3_readInto_11 N (n + 1) r rA dI dA (nI (i + 1)) = fX3_readInto_11 N n (upd (upd r 1 1) 2 (nI f)) rA dI dA (nI (i + 2)) := by
      intro n
      obtain ⟨c, c1, c2, c3⟩ := ht (i + 1) g1
      obtain rfl := TX_n (len := len) (rA := rA) c1 c2 g3 g2
      have t1 := c_S1 N (dI := dI) (dA := dA) c1 hB hC r0 r1
      rw [f_pos (by omega), show 48 + f - 48 = f by omega, if_pos ⟨by omega, fk, ff⟩] at t1
      rw [cl_step N n hl r4 g1 c3 t1, n10]
    have q0 : upd (upd r 1 1) 2 (nI f) 0 = 83 := by rw [upd_n _ _ (by omega), upd_n _ _ (by omega)]; exact r0
    have q1 : upd (upd r 1 1) 2 (nI f) 1 = 1 := by rw [upd_n _ _ (by omega), upd_s]
    have q2 : upd (upd r 1 1) 2 (nI f) 2 = nI f := upd_s _ _ _
    have q4 : upd (upd r 1 1) 2 (nI f) 4 = nI len := by rw [upd_n _ _ (by omega), upd_n _ _ (by omega)]; exact r4
    have mid : ∀ y, y < 64 → fX7_readPart_284 N I2 A (nI f) (nI (O f)) (nI y) = some (I2, va_up A 10 (upd (A 10) f (nI (O f ||| y)))) := by
      intro y hy
      unfold fX7_readPart_284 fX7_readPart_297
      rw [or_N _ ho _ hy, wr_e _ _ rfl (by omega) (by omega), Option.bind_some]
    rcases hc2 with ⟨f2, w1, w2, w3, w4, w5, w6, w7⟩ | ⟨w1, w2, w3, w4⟩
    · have f6 : f2 < 6 := by
        by_cases h6 : f2 < 6
        · exact h6
        · rw [Nat.testBit_lt_two_pow (x := 63 - O f) (i := f2) (Nat.lt_of_lt_of_le (show 63 - O f < 2 ^ 6 by omega) (Nat.pow_le_pow_right (n := 2) (by omega) (by omega)))] at w4; cases w4
      refine ⟨I2, _, pre I2 (va_up A 10 (upd (A 10) f (nI (O f ||| 2 ^ f2)))) ?_, ⟨fun x a b c d => iy x c d, fun a ha => by rw [va_up_ne _ _ (by omega)]⟩, Or.inr ⟨2, k, m, T, s1 O f (O f ||| 2 ^ f2), by omega, by omega, by omega, by rw [w6], w7, ⟨hB.1, fun x hx => ?_⟩, ?_, ?_⟩⟩
      · rw [g5, rd_e rfl (by omega) (by omega) a1, Option.bind_some, an63 _ ho, e2, Option.bind_some, Option.bind_some]
        dsimp only
        rw [if_pos w7, w5, shl1 _ f6, mid _ (p2_64 f6)]
      · by_cases e : x = f
        · subst e; rw [s1_s]; exact or_lt ho (p2_64 f6)
        · rw [s1_n _ _ e]; exact hB.2 x hx
      · obtain ⟨y1, y2, y3, y4, y5⟩ := hM
        refine ⟨by rw [iy 2 (by omega) (by omega)]; exact y1, by rw [iy 3 (by omega) (by omega)]; exact y2, fun x hx => ?_, fun x a b => ?_, fun p hp => ?_⟩
        · rw [va_up_ne _ _ (show 6 ≠ 10 by omega), va_up_ne _ _ (show 7 ≠ 10 by omega), va_up_ne _ _ (show 8 ≠ 10 by omega), va_up_ne _ _ (show 9 ≠ 10 by omega), va_up_self]
          obtain ⟨z1, z2, z3, z4, z5⟩ := y3 x hx
          refine ⟨z1, z2, z3, z4, ?_⟩
          by_cases e : x = f
          · subst e; rw [upd_s, s1_s]
          · rw [upd_n _ _ e, s1_n _ _ e]; exact z5
        · rw [va_up_self, va_up_ne _ _ (show 9 ≠ 10 by omega), upd_n _ _ (by omega)]; exact y4 x a b
        · rw [va_up_ne _ _ (show 11 ≠ 10 by omega)]; exact y5 p hp
      · intro n hn
        obtain ⟨n, rfl⟩ : ∃ q, n = q + 2 := ⟨n - 2, by omega⟩
        obtain ⟨c, c1, c2, c3⟩ := ht (i + 2) w1
        obtain rfl := TX_n (len := len) (rA := rA) c1 c2 w3 w2
        obtain ⟨r', dA', t1, t2, t3⟩ := c_S2 N (dI := dI) (dA := dA) c1 hB hC fk q0 q1 q2
        rw [show 48 + f2 - 48 = f2 by omega] at t1 t3
        obtain ⟨t4, t5⟩ := t3 ⟨by omega, w4⟩
        rw [if_pos ⟨by omega, w4⟩] at t1
        refine ⟨r', dI, dA', ?_, t4, by rw [t2, q4, r4], t5⟩
        rw [cls1, cl_step N n hl q4 w1 c3 t1, n10]
        rfl
    · refine ⟨I2, _, pre I2 (va_up A 10 (upd (A 10) f (nI (O f ||| 0)))) ?_, ⟨fun x a b c d => iy x c d, fun a ha => by rw [va_up_ne _ _ (by omega)]⟩, Or.inl ⟨i + 2, by omega, w3, fun n hn => ?_⟩⟩
      · rw [g5, rd_e rfl (by omega) (by omega) a1, Option.bind_some, an63 _ ho, e2, Option.bind_some, Option.bind_some]
        dsimp only
        rw [if_neg (by rw [w3]; exact n9_ne (by omega))]
        exact mid 0 (by omega)
      · obtain ⟨n, rfl⟩ : ∃ q, n = q + 2 := ⟨n - 2, by omega⟩
        rw [cls1, ← (show upd (upd r 1 1) 2 (nI f) 4 = r 4 by rw [q4, r4])]
        refine cl_bad N n hl q4 (by omega) (by rw [q0]; decide) (fun hlt => ?_)
        obtain ⟨c, c1, c2, c3⟩ := ht (i + 2) hlt
        obtain ⟨r', dA', t1, t2, t3⟩ := c_S2 N (dI := dI) (dA := dA) c1 hB hC fk q0 q1 q2
        refine ⟨c, r', dI, dA', c3, ?_, t2⟩
        rw [t1, if_neg]
        rintro ⟨h1, h2⟩
        have h10 : c - 48 < 10 := by
          by_cases h10 : c - 48 < 10
          · exact h10
          · rw [Nat.testBit_lt_two_pow (x := 63 - O f) (i := c - 48) (Nat.lt_of_lt_of_le (show 63 - O f < 2 ^ 6 by omega) (Nat.pow_le_pow_right (n := 2) (by omega) (by omega)))] at h2; cases h2
        rw [w4 (c - 48) hlt h10 (by rw [c2]; congr 1; omega)] at h2
        cases h2
  · have ho := hB.2 0 k0
    have a1 := (hM.2.2.1 0 k0).2.2.2.2
    obtain ⟨I2, e2, p2, p6⟩ := m_figb N (A := A) (nI (63 - O 0)) (show i + 1 < 1000 by omega) g3
    refine ⟨I2, _, pre I2 (va_up A 10 (upd (A 10) 0 (nI (O 0 ||| 0)))) ?_, ⟨fun x a b c d => by rw [p2 x d, ix x c d], fun a ha => by rw [va_up_ne _ _ (by omega)]⟩, Or.inl ⟨i + 1, by omega, p6, fun n hn => ?_⟩⟩
    · have rd0 : rd 5 (A 10) 0 = some (nI (O 0)) := rd_e (i := 0) rfl (by omega) (by omega) a1
      rw [g1, rd0, Option.bind_some, an63 _ ho, e2, Option.bind_some, Option.bind_some]
      dsimp only
      rw [if_neg (by rw [p6]; exact n9_ne (by omega))]
      unfold fX7_readPart_284 fX7_readPart_297
      rw [show (0 : Int32) = nI 0 from rfl, or_N _ ho 0 (by omega), wr_e _ _ rfl (by omega) (by omega), Option.bind_some]
    · obtain ⟨n, rfl⟩ : ∃ q, n = q + 1 := ⟨n - 1, by omega⟩
      refine cl_bad N n hl r4 (by omega) (by rw [r0]; decide) (fun hlt => ?_)
      obtain ⟨c, c1, c2, c3⟩ := ht (i + 1) hlt
      have t1 := c_S1 N (dI := dI) (dA := dA) c1 hB hC r0 r1
      have hbad : ¬ (48 ≤ c ∧ c - 48 < k ∧ ftB O (c - 48) = true) := by
        rintro ⟨h1, h2, h3⟩
        have := g4 (c - 48) hlt (by omega) (by rw [c2]; congr 1; omega)
        rw [flN_tb, decide_eq_true h2, h3] at this
        cases this
      rw [if_neg hbad] at t1
      exact ⟨c, _, dI, dA, c3, t1, by rw [upd_n _ _ (by omega), upd_n _ _ (by omega)]⟩
theorem tb1022 : ∀ f, f < 10 → (Nat.testBit 1022 f = true ↔ 1 ≤ f) := by decide
theorem tb3 : ∀ f, f < 10 → (Nat.testBit 3 f = true ↔ f ≤ 1) := by decide
theorem tb1023 : ∀ f, f < 10 → Nat.testBit 1023 f = true := by decide
theorem sim_R (N : Nat) {i len k m : Nat} {T : Nat → Nat → Nat} {O : Nat → Nat} {I : Nat → Int32} {A rA : Nat → Nat → Int32} {r dI : Nat → Int32} {dA : Nat → Nat → Int32} (hN : 40 ≤ N) (hl : len ≤ 48) (hi : i < len) (h4 : I 4 = nI len) (h5 : I 5 = nI i) (h6 : I 6 = -9) (hB : PB k m T O) (hM : MP k m T O I A) (ht : TX len A rA) (hk : k < 5) (r4 : r 4 = nI len) (r0 : r 0 = 82) (r1 : r 1 = 0) (hC : CP k m T O dI dA) : ∃ I' A', fX7_readPart N I A 82 = some (I', A') ∧ SimC N len i rA I A I' A' r dI dA := by
  obtain ⟨v1, I1, e1, p1, hc1⟩ := m_fig N (i := i + 1) (a := 1022) (I := upd I 5 (nI (i + 1))) (A := A) hl (by omega) (by rw [upd_n _ _ (by omega)]; exact h4) (upd_s _ _ _) (by rw [upd_n _ _ (by omega)]; exact h6) (by omega) (TX_m ht)
  have ix : ∀ x, x ≠ 5 → x ≠ 6 → I1 x = I x := fun x a b => by rw [p1 x a b, upd_n _ _ a]
  have pre : ∀ v2 I2 v3 I3, I2 2 = nI k → I3 2 = nI k → fX7_figureOf N I1 (va_up A 6 (upd (A 6) k v1)) 3 = some (v2, I2) → fX7_figureOf N I2 (va_up (va_up A 6 (upd (A 6) k v1)) 7 (upd (A 7) k v2)) 1023 = some (v3, I3) → fX7_readPart N I A 82 = some (upd I3 2 (nI (k + 1)), va_up (va_up (va_up A 6 (upd (A 6) k v1)) 7 (upd (A 7) k v2)) 8 (upd (A 8) k v3)) := by
    intro v2 I2 v3 I3 k2 k3 f2 f3
    unfold fX7_readPart fX7_readPart_297
    rw [if_pos rfl, hM.1, if_neg (show ¬ (5 : Int32) ≤ nI k from nI_ge (b := 5) hk (by omega)), h5, nI_1, show fX7_figureOf N (upd I 5 (nI (i + 1))) A 1022 = _ from e1, Option.bind_some, wr_e _ _ rfl (by omega) (by omega), Option.bind_some]
    dsimp only
    rw [f2, Option.bind_some, ix 2 (by omega) (by omega), hM.1, wr_e _ _ rfl (by omega) (by omega), Option.bind_some]
    dsimp only
    rw [f3, Option.bind_some, k2, wr_e _ _ rfl (by omega) (by omega), Option.bind_some]
    dsimp only
    rw [k3, nI_1]
  have frm : ∀ v2 v3 I3, (∀ x, x ≠ 5 → x ≠ 6 → I3 x = I x) → FrR I A (upd I3 2 (nI (k + 1))) (va_up (va_up (va_up A 6 (upd (A 6) k v1)) 7 (upd (A 7) k v2)) 8 (upd (A 8) k v3)) := by
    intro v2 v3 I3 h
    exact ⟨fun x a b c d => by rw [upd_n _ _ a, h x c d], fun a ha => by rw [va_up_ne _ _ (by omega), va_up_ne _ _ (by omega), va_up_ne _ _ (by omega)]⟩
  have h12a : (va_up A 6 (upd (A 6) k v1)) 12 = A 12 := va_up_ne _ _ (by omega)
  rcases hc1 with ⟨w, g1, g2, g3, g4, g5, g6, g7⟩ | ⟨g1, g2, g3, g4⟩
  · have w1 : 1 ≤ w := (tb1022 w g2).mp g4
    obtain ⟨v2, I2, e2, p2, hc2⟩ := m_fig N (i := i + 2) (a := 3) (I := I1) (A := va_up A 6 (upd (A 6) k v1)) hl (by omega) (by rw [ix 4 (by omega) (by omega)]; exact h4) g6 g7 (by omega) (by rw [h12a]; exact TX_m ht)
    have iy : ∀ x, x ≠ 5 → x ≠ 6 → I2 x = I x := fun x a b => by rw [p2 x a b, ix x a b]
    have cls1 : ∀ n, fX3_readInto_11 N (n + 1) r rA dI dA (nI (i + 1)) = fX3_readInto_11 N n (upd (upd r 1 1) 2 (nI w)) rA dI dA (nI (i + 2)) := by
      intro n
      obtain ⟨c, c1, c2, c3⟩ := ht (i + 1) g1
      obtain rfl := TX_n (len := len) (rA := rA) c1 c2 g3 g2
      have t1 := c_R1 N (dI := dI) (dA := dA) c1 r0 r1
      rw [f_pos (by omega), show 48 + w - 48 = w by omega, if_pos ⟨by omega, by omega⟩] at t1
      rw [cl_step N n hl r4 g1 c3 t1, n10]
    have q0 : upd (upd r 1 1) 2 (nI w) 0 = 82 := by rw [upd_n _ _ (by omega), upd_n _ _ (by omega)]; exact r0
    have q1 : upd (upd r 1 1) 2 (nI w) 1 = 1 := by rw [upd_n _ _ (by omega), upd_s]
    have q4 : upd (upd r 1 1) 2 (nI w) 4 = nI len := by rw [upd_n _ _ (by omega), upd_n _ _ (by omega)]; exact r4
    have h12b : (va_up (va_up A 6 (upd (A 6) k v1)) 7 (upd (A 7) k v2)) 12 = A 12 := by rw [va_up_ne _ _ (by omega), va_up_ne _ _ (by omega)]
    rcases hc2 with ⟨l, a1, a2, a3, a4, a5, a6, a7⟩ | ⟨a1, a2, a3, a4⟩
    · rw [h12a] at a3
      have l1 : l ≤ 1 := (tb3 l a2).mp a4
      obtain ⟨v3, I3, e3, p3, hc3⟩ := m_fig N (i := i + 3) (a := 1023) (I := I2) (A := va_up (va_up A 6 (upd (A 6) k v1)) 7 (upd (A 7) k v2)) hl (by omega) (by rw [iy 4 (by omega) (by omega)]; exact h4) a6 a7 (by omega) (by rw [h12b]; exact TX_m ht)
      have iz : ∀ x, x ≠ 5 → x ≠ 6 → I3 x = I x := fun x a b => by rw [p3 x a b, iy x a b]
      have cls2 : ∀ n, fX3_readInto_11 N (n + 1) (upd (upd r 1 1) 2 (nI w)) rA dI dA (nI (i + 2)) = fX3_readInto_11 N n (upd (upd (upd (upd r 1 1) 2 (nI w)) 1 2) 3 (nI l)) rA dI dA (nI (i + 3)) := by
        intro n
        obtain ⟨c, c1, c2, c3⟩ := ht (i + 2) a1
        obtain rfl := TX_n (len := len) (rA := rA) c1 c2 a3 a2
        have t1 := c_R2 N (dI := dI) (dA := dA) c1 q0 q1
        rw [f_pos (by omega), show 48 + l - 48 = l by omega, if_pos ⟨by omega, by omega⟩] at t1
        rw [cl_step N n hl q4 a1 c3 t1, n10]
      have s0 : upd (upd (upd (upd r 1 1) 2 (nI w)) 1 2) 3 (nI l) 0 = 82 := by rw [upd_n _ _ (by omega), upd_n _ _ (by omega)]; exact q0
      have s1' : upd (upd (upd (upd r 1 1) 2 (nI w)) 1 2) 3 (nI l) 1 = 2 := by rw [upd_n _ _ (by omega), upd_s]
      have s2 : upd (upd (upd (upd r 1 1) 2 (nI w)) 1 2) 3 (nI l) 2 = nI w := by rw [upd_n _ _ (by omega), upd_n _ _ (by omega), upd_s]
      have s3 : upd (upd (upd (upd r 1 1) 2 (nI w)) 1 2) 3 (nI l) 3 = nI l := upd_s _ _ _
      have s4 : upd (upd (upd (upd r 1 1) 2 (nI w)) 1 2) 3 (nI l) 4 = nI len := by rw [upd_n _ _ (by omega), upd_n _ _ (by omega)]; exact q4
      refine ⟨_, _, pre v2 I2 v3 I3 (by rw [iy 2 (by omega) (by omega)]; exact hM.1) (by rw [iz 2 (by omega) (by omega)]; exact hM.1) e2 e3, frm v2 v3 I3 iz, ?_⟩
      rcases hc3 with ⟨f, b1, b2, b3, b4, b5, b6, b7⟩ | ⟨b1, b2, b3, b4⟩
      · rw [h12b] at b3
        right
        refine ⟨3, k + 1, m, tR k T w l f, oR k O, by omega, by omega, by omega, by rw [upd_n _ _ (by omega), b6], by rw [upd_n _ _ (by omega)]; exact b7, tR_PB hB hk w1 (by omega) l1 (by omega), ?_, ?_⟩
        · obtain ⟨y1, y2, y3, y4, y5⟩ := hM
          have e6 : (va_up (va_up (va_up A 6 (upd (A 6) k v1)) 7 (upd (A 7) k v2)) 8 (upd (A 8) k v3)) 6 = upd (A 6) k v1 := rfl
          have e7 : (va_up (va_up (va_up A 6 (upd (A 6) k v1)) 7 (upd (A 7) k v2)) 8 (upd (A 8) k v3)) 7 = upd (A 7) k v2 := rfl
          have e8 : (va_up (va_up (va_up A 6 (upd (A 6) k v1)) 7 (upd (A 7) k v2)) 8 (upd (A 8) k v3)) 8 = upd (A 8) k v3 := rfl
          have e9 : (va_up (va_up (va_up A 6 (upd (A 6) k v1)) 7 (upd (A 7) k v2)) 8 (upd (A 8) k v3)) 9 = A 9 := rfl
          have e10 : (va_up (va_up (va_up A 6 (upd (A 6) k v1)) 7 (upd (A 7) k v2)) 8 (upd (A 8) k v3)) 10 = A 10 := rfl
          have e11 : (va_up (va_up (va_up A 6 (upd (A 6) k v1)) 7 (upd (A 7) k v2)) 8 (upd (A 8) k v3)) 11 = A 11 := rfl
          refine ⟨upd_s _ _ _, by rw [upd_n _ _ (by omega), iz 3 (by omega) (by omega)]; exact y2, fun x hx => ?_, fun x a b => ?_, fun p hp => ?_⟩
          · rw [e6, e7, e8, e9, e10]
            unfold oR
            by_cases e : x = k
            · subst e
              rw [upd_s, upd_s, upd_s, g5, a5, b5, if_pos rfl]
              refine ⟨?_, ?_, ?_, ?_, (y4 x (Nat.le_refl x) hk).2⟩
              · simp [tR]
              · simp [tR]
              · simp [tR]
              · rw [(y4 x (Nat.le_refl x) hk).1]; simp [tR]; rfl
            · rw [upd_n _ _ e, upd_n _ _ e, upd_n _ _ e, if_neg e, tR_n T w l _ 0 x (Or.inl e), tR_n T w l _ 1 x (Or.inl e), tR_n T w l _ 2 x (Or.inl e), tR_n T w l _ 3 x (Or.inl e)]
              exact y3 x (by omega)
          · rw [e9, e10]; exact y4 x (by omega) b
          · rw [e11, tR_n T w l _ 4 p (Or.inr (by omega))]; exact y5 p hp
        · intro n hn
          obtain ⟨n, rfl⟩ : ∃ q, n = q + 3 := ⟨n - 3, by omega⟩
          obtain ⟨c, c1, c2, c3⟩ := ht (i + 3) b1
          obtain rfl := TX_n (len := len) (rA := rA) c1 c2 b3 b2
          obtain ⟨r', dI', dA', t1, t2, t3⟩ := c_R3 N c1 hk s0 s1' s2 s3 l1 hC
          rw [show 48 + f - 48 = f by omega] at t3
          obtain ⟨t4, t5⟩ := t3 ⟨by omega, by omega⟩
          rw [if_pos ⟨by omega, by omega⟩] at t1
          refine ⟨r', dI', dA', ?_, t4, by rw [t2, s4, r4], t5⟩
          rw [cls1, cls2, cl_step N n hl s4 b1 c3 t1, n10]
          rfl
      · rw [h12b] at b4
        left
        refine ⟨i + 3, by omega, by rw [upd_n _ _ (by omega)]; exact b3, fun n hn => ?_⟩
        obtain ⟨n, rfl⟩ : ∃ q, n = q + 3 := ⟨n - 3, by omega⟩
        rw [cls1, cls2, r4, ← s4]
        refine cl_bad N n hl s4 (by omega) (by rw [s0]; decide) (fun hlt => ?_)
        obtain ⟨c, c1, c2, c3⟩ := ht (i + 3) hlt
        obtain ⟨r', dI', dA', t1, t2, t3⟩ := c_R3 N c1 hk s0 s1' s2 s3 l1 hC
        refine ⟨c, r', dI', dA', c3, ?_, t2⟩
        rw [t1, if_neg]
        rintro ⟨h1, h2⟩
        have := b4 (c - 48) hlt (by omega) (by rw [c2]; congr 1; omega)
        rw [tb1023 (c - 48) (by omega)] at this
        cases this
    · rw [h12a] at a4
      obtain ⟨I3, e3, p3, p6⟩ := m_figb N (A := va_up (va_up A 6 (upd (A 6) k v1)) 7 (upd (A 7) k v2)) 1023 (show i + 2 < 1000 by omega) a3
      have iz : ∀ x, x ≠ 5 → x ≠ 6 → I3 x = I x := fun x a b => by rw [p3 x b, iy x a b]
      refine ⟨_, _, pre v2 I2 0 I3 (by rw [iy 2 (by omega) (by omega)]; exact hM.1) (by rw [iz 2 (by omega) (by omega)]; exact hM.1) e2 e3, frm v2 0 I3 iz, Or.inl ⟨i + 2, by omega, by rw [upd_n _ _ (by omega)]; exact p6, fun n hn => ?_⟩⟩
      obtain ⟨n, rfl⟩ : ∃ q, n = q + 2 := ⟨n - 2, by omega⟩
      rw [cls1, r4, ← q4]
      refine cl_bad N n hl q4 (by omega) (by rw [q0]; decide) (fun hlt => ?_)
      obtain ⟨c, c1, c2, c3⟩ := ht (i + 2) hlt
      have t1 := c_R2 N (dI := dI) (dA := dA) c1 q0 q1
      have hbad : ¬ (48 ≤ c ∧ c ≤ 49) := by
        rintro ⟨h1, h2⟩
        have := a4 (c - 48) hlt (by omega) (by rw [c2]; congr 1; omega)
        rw [(tb3 (c - 48) (by omega)).mpr (by omega)] at this
        cases this
      rw [if_neg hbad] at t1
      exact ⟨c, _, dI, dA, c3, t1, by rw [upd_n _ _ (by omega), upd_n _ _ (by omega)]⟩
  · obtain ⟨I2, e2, p2, p6⟩ := m_figb N (A := va_up A 6 (upd (A 6) k v1)) 3 (show i + 1 < 1000 by omega) g3
    obtain ⟨I3, e3, p3, p7⟩ := m_figb N (A := va_up (va_up A 6 (upd (A 6) k v1)) 7 (upd (A 7) k 0)) 1023 (show i + 1 < 1000 by omega) p6
    have iy : ∀ x, x ≠ 5 → x ≠ 6 → I2 x = I x := fun x a b => by rw [p2 x b, ix x a b]
    have iz : ∀ x, x ≠ 5 → x ≠ 6 → I3 x = I x := fun x a b => by rw [p3 x b, iy x a b]
    refine ⟨_, _, pre 0 I2 0 I3 (by rw [iy 2 (by omega) (by omega)]; exact hM.1) (by rw [iz 2 (by omega) (by omega)]; exact hM.1) e2 e3, frm 0 0 I3 iz, Or.inl ⟨i + 1, by omega, by rw [upd_n _ _ (by omega)]; exact p7, fun n hn => ?_⟩⟩
    obtain ⟨n, rfl⟩ : ∃ q, n = q + 1 := ⟨n - 1, by omega⟩
    refine cl_bad N n hl r4 (by omega) (by rw [r0]; decide) (fun hlt => ?_)
    obtain ⟨c, c1, c2, c3⟩ := ht (i + 1) hlt
    have t1 := c_R1 N (dI := dI) (dA := dA) c1 r0 r1
    have hbad : ¬ (49 ≤ c ∧ c ≤ 57) := by
      rintro ⟨h1, h2⟩
      have := g4 (c - 48) hlt (by omega) (by rw [c2]; congr 1; omega)
      rw [(tb1022 (c - 48) (by omega)).mpr (by omega)] at this
      cases this
    rw [if_neg hbad] at t1
    exact ⟨c, _, dI, dA, c3, t1, by rw [upd_n _ _ (by omega), upd_n _ _ (by omega)]⟩
