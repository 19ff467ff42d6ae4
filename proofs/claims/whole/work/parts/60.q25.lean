-- a part, read by both
theorem cl_step (N n : Nat) {j len c : Nat} {r dI : Nat → Int32} {rA dA : Nat → Nat → Int32} {v : Int32} {r' dI' : Nat → Int32} {dA' : Nat → Nat → Int32} (hl : len ≤ 48) (r4 : r 4 = nI len) (hj : j < len) (hc : rA 0 j = nI c) (ht : fX3_takes N r dI dA (nI c) = some (v, r', dI', dA')) : fX3_readInto_11 N (n + 1) r rA dI dA (nI j) = if v = 0 then some (nI j, r', dI', dA') else fX3_readInto_11 N n r' rA dI' dA' (nI (j + 1)) := by
  show fX3_readInto_11s N _ r rA dI dA _ = _
  unfold fX3_readInto_11s
  rw [r4, if_neg (nI_ge hj (by omega)), if_neg (show ¬ (48 : Int32) ≤ nI j from nI_ge (b := 48) (by omega) (by omega)), rd_e rfl (by omega) (by omega) hc, Option.bind_some, ht, Option.bind_some, nI_1]
theorem cl_end (N n : Nat) {len : Nat} {r dI : Nat → Int32} {rA dA : Nat → Nat → Int32} (r4 : r 4 = nI len) (hl : len ≤ 48) (r0 : ¬ r 0 = 1) : fX3_readInto_11 N (n + 1) r rA dI dA (nI len) = some (nI len, r, dI, dA) := by
  show fX3_readInto_11s N _ r rA dI dA _ = _
  unfold fX3_readInto_11s fX3_readInto_47 fX3_readInto_64
  rw [r4, if_pos (nI_le (Nat.le_refl len) (by omega)), if_neg r0]
theorem cl_fin (N n : Nat) {len : Nat} {r dI : Nat → Int32} {rA dA : Nat → Nat → Int32} (r4 : r 4 = nI len) (hl : len ≤ 48) (r0 : r 0 = 1) : fX3_readInto_11 N (n + 1) r rA dI dA (nI len) = some (-9, r, dI, dA) := by
  show fX3_readInto_11s N _ r rA dI dA _ = _
  unfold fX3_readInto_11s fX3_readInto_47 fX3_readInto_64
  rw [r4, if_pos (nI_le (Nat.le_refl len) (by omega)), if_pos r0]
/-- the letter at j is the figure f -/
def fgt (txt : Nat → Int32) (len j f : Nat) : Prop := j < len ∧ f < 10 ∧ txt j = nI (48 + f)
/-- the class stops at j: it stands at the end, or takes no letter there -/
theorem cl_bad (N n : Nat) {j len : Nat} {r dI : Nat → Int32} {rA dA : Nat → Nat → Int32} (hl : len ≤ 48) (r4 : r 4 = nI len) (hj : j ≤ len) (r0 : ¬ r 0 = 1) (h : j < len → ∃ c r' dI' dA', rA 0 j = nI c ∧ fX3_takes N r dI dA (nI c) = some (0, r', dI', dA') ∧ r' 4 = r 4) : ∃ r' dI' dA', fX3_readInto_11 N (n + 1) r rA dI dA (nI j) = some (nI j, r', dI', dA') ∧ r' 4 = r 4 := by
  by_cases hlt : j < len
  · obtain ⟨c, r', dI', dA', h1, h2, h3⟩ := h hlt
    exact ⟨r', dI', dA', by rw [cl_step N n hl r4 hlt h1 h2, z00], h3⟩
  · obtain rfl : j = len := by omega
    exact ⟨r, dI, dA, cl_end N n r4 hl r0, rfl⟩
def SimC (N len i : Nat) (rA : Nat → Nat → Int32) (I : Nat → Int32) (A : Nat → Nat → Int32) (I' : Nat → Int32) (A' : Nat → Nat → Int32) (r dI : Nat → Int32) (dA : Nat → Nat → Int32) : Prop := FrR I A I' A' ∧ ((∃ j, j ≤ len ∧ I' 6 = nI j ∧ ∀ n, 4 ≤ n → ∃ r' dI' dA', fX3_readInto_11 N n r rA dI dA (nI (i + 1)) = some (nI j, r', dI', dA') ∧ r' 4 = r 4) ∨ (∃ e k' m' T' O', 0 < e ∧ e ≤ 3 ∧ i + 1 + e ≤ len ∧ I' 5 = nI (i + 1 + e) ∧ I' 6 = -9 ∧ PB k' m' T' O' ∧ MP k' m' T' O' I' A' ∧ ∀ n, 4 ≤ n → ∃ r' dI' dA', fX3_readInto_11 N n r rA dI dA (nI (i + 1)) = fX3_readInto_11 N (n - e) r' rA dI' dA' (nI (i + 1 + e)) ∧ r' 0 = 1 ∧ r' 4 = r 4 ∧ CP k' m' T' O' dI' dA'))
/-- what both read -/
def TX (len : Nat) (A rA : Nat → Nat → Int32) : Prop := ∀ j, j < len → ∃ c, c < 256 ∧ A 12 j = nI c ∧ rA 0 j = nI c
theorem TX_m {len : Nat} {A rA : Nat → Nat → Int32} (h : TX len A rA) : ∀ j, j < len → ∃ c, c < 256 ∧ A 12 j = nI c := fun j hj => by
  obtain ⟨c, h1, h2, h3⟩ := h j hj
  exact ⟨c, h1, h2⟩
theorem TX_n {len j f c : Nat} {A rA : Nat → Nat → Int32} (hc : c < 256) (h2 : A 12 j = nI c) (hf : A 12 j = nI (48 + f)) (h10 : f < 10) : c = 48 + f := (nI_eq (by omega) (by omega)).mp (by rw [← h2, hf])
theorem sim_P (N : Nat) {i len k m : Nat} {T : Nat → Nat → Nat} {O : Nat → Nat} {I : Nat → Int32} {A rA : Nat → Nat → Int32} {r dI : Nat → Int32} {dA : Nat → Nat → Int32} (hN : 40 ≤ N) (hl : len ≤ 48) (hi : i < len) (h4 : I 4 = nI len) (h5 : I 5 = nI i) (h6 : I 6 = -9) (hB : PB k m T O) (hM : MP k m T O I A) (ht : TX len A rA) (hm : m < 4) (r4 : r 4 = nI len) (r0 : r 0 = 80) (r1 : r 1 = 0) (hC : CP k m T O dI dA) : ∃ I' A', fX7_readPart N I A 80 = some (I', A') ∧ SimC N len i rA I A I' A' r dI dA := by
  have hk := hB.1.1
  obtain ⟨v1, I1, e1, p1, hc1⟩ := m_fig N (i := i + 1) (a := 63) (I := upd I 5 (nI (i + 1))) (A := A) hl (by omega) (by rw [upd_n _ _ (by omega)]; exact h4) (upd_s _ _ _) (by rw [upd_n _ _ (by omega)]; exact h6) (by omega) (TX_m ht)
  have i3 : I1 3 = nI m := by rw [p1 3 (by omega) (by omega), upd_n _ _ (by omega)]; exact hM.2.1
  have ix : ∀ x, x ≠ 5 → x ≠ 6 → I1 x = I x := fun x a b => by rw [p1 x a b, upd_n _ _ a]
  refine ⟨upd I1 3 (nI (m + 1)), va_up A 11 (upd (A 11) m v1), ?_, ⟨fun x a b c d => by rw [upd_n _ _ b, ix x c d], fun a ha => va_up_ne _ _ (by omega)⟩, ?_⟩
  · unfold fX7_readPart fX7_readPart_83 fX7_readPart_161 fX7_readPart_297
    rw [if_neg (by decide), if_neg (by decide), if_pos rfl, hM.2.1, if_neg (show ¬ (4 : Int32) ≤ nI m from nI_ge (b := 4) hm (by omega)), h5, nI_1, show fX7_figureOf N (upd I 5 (nI (i + 1))) A 63 = _ from e1, Option.bind_some, wr_e _ _ rfl (by omega) (by omega), Option.bind_some]
    dsimp only
    rw [i3, nI_1]
  · rcases hc1 with ⟨f, g1, g2, g3, g4, g5, g6, g7⟩ | ⟨g1, g2, g3, g4⟩
    · right
      have hf6 : f < 6 := by
        have : ∀ f, f < 10 → Nat.testBit 63 f = true → f < 6 := by decide
        exact this f g2 g4
      refine ⟨1, k, m + 1, tP m T f, O, by omega, by omega, by omega, ?_, ?_, tP_PB hB hm hf6, ?_, ?_⟩
      · rw [upd_n _ _ (by omega)]; exact g6
      · rw [upd_n _ _ (by omega)]; exact g7
      · obtain ⟨q1, q2, q3, q4, q5⟩ := hM
        refine ⟨by rw [upd_n _ _ (by omega), ix 2 (by omega) (by omega)]; exact q1, upd_s _ _ _, fun x hx => ?_, fun x a b => ?_, fun p hp => ?_⟩
        · rw [va_up_ne _ _ (by omega), va_up_ne _ _ (by omega), va_up_ne _ _ (by omega), va_up_ne _ _ (by omega), va_up_ne _ _ (by omega), tP_n T _ 0 x (Or.inl (by omega)), tP_n T _ 1 x (Or.inl (by omega)), tP_n T _ 2 x (Or.inl (by omega)), tP_n T _ 3 x (Or.inl (by omega))]
          exact q3 x hx
        · rw [va_up_ne _ _ (by omega), va_up_ne _ _ (by omega)]; exact q4 x a b
        · rw [va_up_self]
          by_cases e : p = m
          · subst e; rw [upd_s, g5]; unfold tP; rw [if_pos ⟨rfl, rfl⟩]
          · rw [upd_n _ _ e, tP_n T _ 4 p (Or.inr e)]; exact q5 p (by omega)
      · intro n hn
        obtain ⟨n, rfl⟩ : ∃ q, n = q + 1 := ⟨n - 1, by omega⟩
        obtain ⟨c, c1, c2, c3⟩ := ht (i + 1) g1
        obtain rfl := TX_n (len := len) (rA := rA) c1 c2 g3 g2
        obtain ⟨r', dI', dA', t1, t2, t3⟩ := c_P N c1 hm r0 hC
        obtain ⟨t4, t5⟩ := t3 ⟨by omega, by omega⟩
        rw [show 48 + f - 48 = f by omega] at t5
        refine ⟨r', dI', dA', ?_, t4, t2, t5⟩
        rw [cl_step N n hl r4 g1 c3 t1, if_pos (show 48 ≤ 48 + f ∧ 48 + f ≤ 53 by omega), n10]
        rfl
    · left
      refine ⟨i + 1, by omega, by rw [upd_n _ _ (by omega)]; exact g3, fun n hn => ?_⟩
      obtain ⟨n, rfl⟩ : ∃ q, n = q + 1 := ⟨n - 1, by omega⟩
      refine cl_bad N n hl r4 (by omega) (by rw [r0]; decide) (fun hlt => ?_)
      obtain ⟨c, c1, c2, c3⟩ := ht (i + 1) hlt
      obtain ⟨r', dI', dA', t1, t2, t3⟩ := c_P N c1 hm r0 hC
      refine ⟨c, r', dI', dA', c3, ?_, t2⟩
      rw [t1, if_neg]
      intro hh
      have := g4 (c - 48) hlt (by omega) (by rw [c2]; congr 1; omega)
      have h2 : ∀ f, f < 6 → Nat.testBit 63 f = true := by decide
      rw [h2 (c - 48) (by omega)] at this
      cases this
theorem sim_X (N : Nat) {i len k m : Nat} {T : Nat → Nat → Nat} {O : Nat → Nat} {I : Nat → Int32} {A rA : Nat → Nat → Int32} {r dI : Nat → Int32} {dA : Nat → Nat → Int32} (hN : 40 ≤ N) (hl : len ≤ 48) (hi : i < len) (h4 : I 4 = nI len) (h5 : I 5 = nI i) (h6 : I 6 = -9) (hB : PB k m T O) (hM : MP k m T O I A) (ht : TX len A rA) (hx : anyF (fpB k T) k 0 = true) (r4 : r 4 = nI len) (r0 : r 0 = 88) (r1 : r 1 = 0) (hC : CP k m T O dI dA) : ∃ I' A', fX7_readPart N I A 88 = some (I', A') ∧ SimC N len i rA I A I' A' r dI dA := by
  have hk := hB.1.1
  have hfl := flN_64 (fpB k T) k (by omega)
  have hne : ¬ flN (fpB k T) k = 0 := fun h => by rw [(flN_0 _ _).mp h] at hx; cases hx
  have k0 : 0 < k := by
    obtain ⟨j, a, b, c⟩ := (anyF_iff _ _ _).mp hx
    omega
  have hM1 : MP k m T O (upd I 5 (nI (i + 1))) A := by
    obtain ⟨q1, q2, q3, q4, q5⟩ := hM
    exact ⟨by rw [upd_n _ _ (by omega)]; exact q1, by rw [upd_n _ _ (by omega)]; exact q2, q3, q4, q5⟩
  obtain ⟨v1, I1, e1, p1, hc1⟩ := m_fig N (i := i + 1) (a := flN (fpB k T) k) (I := upd I 5 (nI (i + 1))) (A := A) hl (by omega) (by rw [upd_n _ _ (by omega)]; exact h4) (upd_s _ _ _) (by rw [upd_n _ _ (by omega)]; exact h6) (by omega) (TX_m ht)
  have ix : ∀ x, x ≠ 5 → x ≠ 6 → I1 x = I x := fun x a b => by rw [p1 x a b, upd_n _ _ a]
  have hM2 : MP k m T O I1 A := by
    obtain ⟨q1, q2, q3, q4, q5⟩ := hM
    exact ⟨by rw [ix 2 (by omega) (by omega)]; exact q1, by rw [ix 3 (by omega) (by omega)]; exact q2, q3, q4, q5⟩
  have pre : ∀ I2 A2, ((fX7_pairsLeft N I1 A v1).bind fun z6 => (fX7_figureOf N I1 A z6).bind fun z7 => if (z7.2 6) = (-9) then (rd 5 (A 9) v1).bind fun v9 => (wr 5 (A 9) v1 (v9 ||| (shl 1 z7.1))).bind fun g10 => (rd 5 g10 z7.1).bind fun v11 => (wr 5 g10 z7.1 (v11 ||| (shl 1 v1))).bind fun g12 => some (z7.2, va_up (va_up A 9 g10) 9 g12) else some (z7.2, A)) = some (I2, A2) → fX7_readPart N I A 88 = some (I2, A2) := by
    intro I2 A2 h
    unfold fX7_readPart fX7_readPart_83 fX7_readPart_158 fX7_readPart_297
    rw [if_neg (by decide), if_pos rfl, m_firstsLeft N hN hB hM, Option.bind_some, if_neg (fun h => hne ((nI_e0 (by omega)).mp h)), h5, nI_1, m_firstsLeft N hN hB hM1, Option.bind_some, e1, Option.bind_some]
    exact h
  rcases hc1 with ⟨f, g1, g2, g3, g4, g5, g6, g7⟩ | ⟨g1, g2, g3, g4⟩
  · -- the first figure is taken
    rw [flN_tb, Bool.and_eq_true, decide_eq_true_eq] at g4
    obtain ⟨fk, ff⟩ := g4
    have b3 := pk_32 hk (hB.1.2.2.1 f fk).2.2.2.2
    have hpl := pl_64 k (T 3 f) f hk
    obtain ⟨v2, I2, e2, p2, hc2⟩ := m_fig N (i := i + 2) (a := plN k (T 3 f) f) (I := I1) (A := A) hl (by omega) (by rw [ix 4 (by omega) (by omega)]; exact h4) g6 g7 (by omega) (TX_m ht)
    have iy : ∀ x, x ≠ 5 → x ≠ 6 → I2 x = I x := fun x a b => by rw [p2 x a b, ix x a b]
    have cls1 : ∀ n, fX3_readInto_11 N (n + 1) r rA dI dA (nI (i + 1)) = fX3_readInto_11 N n (upd (upd r 1 1) 2 (nI f)) rA dI dA (nI (i + 2)) := by
      intro n
      obtain ⟨c, c1, c2, c3⟩ := ht (i + 1) g1
      obtain rfl := TX_n (len := len) (rA := rA) c1 c2 g3 g2
      have t1 := c_X1 N (dI := dI) (dA := dA) c1 hB hC r0 r1
      rw [f_pos (by omega), show 48 + f - 48 = f by omega, if_pos ⟨by omega, fk, ff⟩] at t1
      rw [cl_step N n hl r4 g1 c3 t1, n10]
    have q0 : upd (upd r 1 1) 2 (nI f) 0 = 88 := by rw [upd_n _ _ (by omega), upd_n _ _ (by omega)]; exact r0
    have q1 : upd (upd r 1 1) 2 (nI f) 1 = 1 := by rw [upd_n _ _ (by omega), upd_s]
    have q2 : upd (upd r 1 1) 2 (nI f) 2 = nI f := upd_s _ _ _
    have q4 : upd (upd r 1 1) 2 (nI f) 4 = nI len := by rw [upd_n _ _ (by omega), upd_n _ _ (by omega)]; exact r4
    rcases hc2 with ⟨f2, w1, w2, w3, w4, w5, w6, w7⟩ | ⟨w1, w2, w3, w4⟩
    · obtain ⟨hij, hjk⟩ := pl_tb (by omega) fk (by omega) w2 w4
      have bj := pk_32 hk (hB.1.2.2.1 f2 hjk).2.2.2.2
      have a1 := (hM.2.2.1 f fk).2.2.2.1
      have a2 := (hM.2.2.1 f2 hjk).2.2.2.1
      refine ⟨I2, _, pre I2 (va_up (va_up A 9 (upd (A 9) f (nI (T 3 f ||| 2 ^ f2)))) 9 (upd (upd (A 9) f (nI (T 3 f ||| 2 ^ f2))) f2 (nI (T 3 f2 ||| 2 ^ f)))) ?_, ⟨fun x a b c d => iy x c d, fun a ha => by rw [va_up_ne _ _ (by omega), va_up_ne _ _ (by omega)]⟩, Or.inr ⟨2, k, m, tX T f f2, O, by omega, by omega, by omega, by rw [w6], w7, tX_PB hB fk hjk, ?_, ?_⟩⟩
      · rw [g5, m_pairsLeft N hN hB hM2 fk, Option.bind_some, e2, Option.bind_some]
        dsimp only
        rw [if_pos w7, w5, rd_e rfl (by omega) (by omega) a1, Option.bind_some, shl1 _ (by omega), or_N _ (by omega) _ (p2_64 (by omega)), wr_e _ _ rfl (by omega) (by omega), Option.bind_some, rd_e (v := nI (T 3 f2)) rfl (by omega) (by omega) (by rw [upd_n _ _ (by omega)]; exact a2), Option.bind_some, shl1 _ (by omega), or_N _ (by omega) _ (p2_64 (by omega)), wr_e _ _ rfl (by omega) (by omega), Option.bind_some]
      · obtain ⟨y1, y2, y3, y4, y5⟩ := hM
        refine ⟨by rw [iy 2 (by omega) (by omega)]; exact y1, by rw [iy 3 (by omega) (by omega)]; exact y2, fun x hx => ?_, fun x a b => ?_, fun p hp => ?_⟩
        · rw [va_up_ne _ _ (show 6 ≠ 9 by omega), va_up_ne _ _ (show 6 ≠ 9 by omega), va_up_ne _ _ (show 7 ≠ 9 by omega), va_up_ne _ _ (show 7 ≠ 9 by omega), va_up_ne _ _ (show 8 ≠ 9 by omega), va_up_ne _ _ (show 8 ≠ 9 by omega), va_up_ne _ _ (show 10 ≠ 9 by omega), va_up_ne _ _ (show 10 ≠ 9 by omega), va_up_self, tX_n T _ _ 0 x (Or.inl (by omega)), tX_n T _ _ 1 x (Or.inl (by omega)), tX_n T _ _ 2 x (Or.inl (by omega))]
          obtain ⟨z1, z2, z3, z4, z5⟩ := y3 x hx
          refine ⟨z1, z2, z3, ?_, z5⟩
          unfold tX
          by_cases x1 : x = f2
          · subst x1; rw [upd_s, if_neg (by omega), if_pos ⟨rfl, rfl⟩]
          · rw [upd_n _ _ x1]
            by_cases x2 : x = f
            · subst x2; rw [upd_s, if_pos ⟨rfl, rfl⟩]
            · rw [upd_n _ _ x2, if_neg (by omega), if_neg (by omega)]; exact z4
        · rw [va_up_self, va_up_ne _ _ (show 10 ≠ 9 by omega), va_up_ne _ _ (show 10 ≠ 9 by omega), upd_n _ _ (by omega), upd_n _ _ (by omega)]; exact y4 x a b
        · rw [va_up_ne _ _ (show 11 ≠ 9 by omega), va_up_ne _ _ (show 11 ≠ 9 by omega), tX_n T _ _ 4 p (Or.inl (by omega))]; exact y5 p hp
      · intro n hn
        obtain ⟨n, rfl⟩ : ∃ q, n = q + 2 := ⟨n - 2, by omega⟩
        obtain ⟨c, c1, c2, c3⟩ := ht (i + 2) w1
        obtain rfl := TX_n (len := len) (rA := rA) c1 c2 w3 w2
        obtain ⟨r', dA', t1, t2, t3⟩ := c_X2 N (dI := dI) (dA := dA) c1 hB hC fk q0 q1 q2
        rw [show 48 + f2 - 48 = f2 by omega] at t1 t3
        obtain ⟨t4, t5⟩ := t3 ⟨by omega, w4⟩
        rw [if_pos ⟨by omega, w4⟩] at t1
        refine ⟨r', dI, dA', ?_, t4, by rw [t2, q4, r4], t5⟩
        rw [cls1, cl_step N n hl q4 w1 c3 t1, n10]
        rfl
    · refine ⟨I2, _, pre I2 A ?_, ⟨fun x a b c d => iy x c d, fun a ha => rfl⟩, Or.inl ⟨i + 2, by omega, w3, fun n hn => ?_⟩⟩
      · rw [g5, m_pairsLeft N hN hB hM2 fk, Option.bind_some, e2, Option.bind_some]
        dsimp only
        rw [if_neg (by rw [w3]; exact n9_ne (by omega))]
      · obtain ⟨n, rfl⟩ : ∃ q, n = q + 2 := ⟨n - 2, by omega⟩
        rw [cls1, ← (show upd (upd r 1 1) 2 (nI f) 4 = r 4 by rw [q4, r4])]
        refine cl_bad N n hl q4 (by omega) (by rw [q0]; decide) (fun hlt => ?_)
        obtain ⟨c, c1, c2, c3⟩ := ht (i + 2) hlt
        obtain ⟨r', dA', t1, t2, t3⟩ := c_X2 N (dI := dI) (dA := dA) c1 hB hC fk q0 q1 q2
        refine ⟨c, r', dI, dA', c3, ?_, t2⟩
        rw [t1, if_neg]
        rintro ⟨h1, h2⟩
        have h10 : c - 48 < 10 := by
          by_cases h10 : c - 48 < 10
          · exact h10
          · rw [Nat.testBit_lt_two_pow (Nat.lt_of_lt_of_le hpl (Nat.pow_le_pow_right (n := 2) (i := 6) (j := c - 48) (by omega) (by omega)))] at h2; cases h2
        rw [w4 (c - 48) hlt h10 (by rw [c2]; congr 1; omega)] at h2
        cases h2
  · -- it is not
    obtain ⟨I2, e2, p2, p6⟩ := m_figb N (A := A) (nI (plN k (T 3 0) 0)) (show i + 1 < 1000 by omega) g3
    refine ⟨I2, _, pre I2 A ?_, ⟨fun x a b c d => by rw [p2 x d, ix x c d], fun a ha => rfl⟩, Or.inl ⟨i + 1, by omega, p6, fun n hn => ?_⟩⟩
    · rw [g1, show fX7_pairsLeft N I1 A 0 = _ from m_pairsLeft N hN hB hM2 k0, Option.bind_some, e2, Option.bind_some]
      dsimp only
      rw [if_neg (by rw [p6]; exact n9_ne (by omega))]
    · obtain ⟨n, rfl⟩ : ∃ q, n = q + 1 := ⟨n - 1, by omega⟩
      refine cl_bad N n hl r4 (by omega) (by rw [r0]; decide) (fun hlt => ?_)
      obtain ⟨c, c1, c2, c3⟩ := ht (i + 1) hlt
      have t1 := c_X1 N (dI := dI) (dA := dA) c1 hB hC r0 r1
      have hbad : ¬ (48 ≤ c ∧ c - 48 < k ∧ fpB k T (c - 48) = true) := by
        rintro ⟨h1, h2, h3⟩
        have := g4 (c - 48) hlt (by omega) (by rw [c2]; congr 1; omega)
        rw [flN_tb, decide_eq_true h2, h3] at this
        cases this
      rw [if_neg hbad] at t1
      exact ⟨c, _, dI, dA, c3, t1, by rw [upd_n _ _ (by omega), upd_n _ _ (by omega)]⟩
