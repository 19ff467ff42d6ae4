theorem FrR_tr {I I1 I2 : Nat → Int32} {A A1 A2 : Nat → Nat → Int32} (h : FrR I A I1 A1) (h2 : FrR I1 A1 I2 A2) : FrR I A I2 A2 := ⟨fun x a b c d => by rw [h2.1 x a b c d, h.1 x a b c d], fun a ha => by rw [h2.2 a ha, h.2 a ha]⟩
theorem m_obad (N : Nat) {i c k m : Nat} {T : Nat → Nat → Nat} {O : Nat → Nat} {I : Nat → Int32} {A : Nat → Nat → Int32} (hN : 40 ≤ N) (hc : c < 256) (h5 : I 5 = nI i) (hB : PB k m T O) (hM : MP k m T O I A) (ho : opB k m T O c = false) : fX7_readPart N I A (nI c) = some (upd I 6 (nI i), A) := by
  have hk := hB.1.1
  have hm := hB.1.2.1
  have f1 := flN_64 (fpB k T) k (by omega)
  have f2 := flN_64 (ftB O) k (by omega)
  unfold opB at ho
  unfold fX7_readPart fX7_readPart_83 fX7_readPart_161 fX7_readPart_213 fX7_readPart_289 fX7_readPart_297
  rw [m_firstsLeft N hN hB hM, m_saidLeft N hN hB hM, Option.bind_some, Option.bind_some, h5, hM.1, hM.2.1]
  by_cases c82 : c = 82
  · subst c82
    have h : ¬ k < 5 := by
      intro h; rw [decide_eq_true h] at ho; cases ho
    rw [if_pos (show nI 82 = 82 from rfl), if_pos (show (5 : Int32) ≤ nI k from nI_le (a := 5) (by omega) (by omega)), if_neg (show ¬ nI 82 = 88 by decide), if_neg (show ¬ nI 82 = 80 by decide), if_neg (show ¬ nI 82 = 83 by decide)]
  rw [if_neg (show ¬ nI c = 82 from lit_ne hc (d := 82) (by omega) c82)]
  by_cases c88 : c = 88
  · subst c88
    have h : flN (fpB k T) k = 0 := by
      refine (flN_0 _ _).mpr ?_
      cases hx : anyF (fpB k T) k 0 with
      | false => rfl
      | true => rw [hx] at ho; cases ho
    rw [if_pos (show nI 88 = 88 from rfl), if_pos ((nI_e0 (by omega)).mpr h), if_neg (show ¬ nI 88 = 80 by decide), if_neg (show ¬ nI 88 = 83 by decide)]
  rw [if_neg (show ¬ nI c = 88 from lit_ne hc (d := 88) (by omega) c88)]
  by_cases c80 : c = 80
  · subst c80
    have h : ¬ m < 4 := by
      intro h; rw [decide_eq_true h] at ho; cases ho
    rw [if_pos (show nI 80 = 80 from rfl), if_pos (show (4 : Int32) ≤ nI m from nI_le (a := 4) (by omega) (by omega)), if_neg (show ¬ nI 80 = 83 by decide)]
  rw [if_neg (show ¬ nI c = 80 from lit_ne hc (d := 80) (by omega) c80)]
  by_cases c83 : c = 83
  · subst c83
    have h : flN (ftB O) k = 0 := by
      refine (flN_0 _ _).mpr ?_
      cases hx : anyF (ftB O) k 0 with
      | false => rfl
      | true => rw [hx] at ho; cases ho
    rw [if_pos (show nI 83 = 83 from rfl), if_pos ((nI_e0 (by omega)).mpr h)]
  rw [if_neg (show ¬ nI c = 83 from lit_ne hc (d := 83) (by omega) c83)]
theorem sim_part (N : Nat) {i len k m c : Nat} {T : Nat → Nat → Nat} {O : Nat → Nat} {I : Nat → Int32} {A rA : Nat → Nat → Int32} {r dI : Nat → Int32} {dA : Nat → Nat → Int32} (hN : 40 ≤ N) (hl : len ≤ 48) (hi : i < len) (h4 : I 4 = nI len) (h5 : I 5 = nI i) (h6 : I 6 = -9) (hB : PB k m T O) (hM : MP k m T O I A) (ht : TX len A rA) (ho : opB k m T O c = true) (r4 : r 4 = nI len) (hC : CP k m T O dI dA) : ∃ I' A', fX7_readPart N I A (nI c) = some (I', A') ∧ SimC N len i rA I A I' A' (upd (upd r 0 (nI c)) 1 0) dI dA := by
  have q4 : upd (upd r 0 (nI c)) 1 0 4 = nI len := by rw [upd_n _ _ (by omega), upd_n _ _ (by omega)]; exact r4
  have q1 : upd (upd r 0 (nI c)) 1 0 1 = 0 := upd_s _ _ _
  have q0 : upd (upd r 0 (nI c)) 1 0 0 = nI c := by rw [upd_n _ _ (by omega), upd_s]
  simp only [opB, Bool.or_eq_true, Bool.and_eq_true, decide_eq_true_eq] at ho
  rcases ho with ⟨rfl, h⟩ | ⟨rfl, h⟩ | ⟨rfl, h⟩ | ⟨rfl, h⟩
  · exact sim_R N hN hl hi h4 h5 h6 hB hM ht h q4 q0 q1 hC
  · exact sim_X N hN hl hi h4 h5 h6 hB hM ht h q4 q0 q1 hC
  · exact sim_P N hN hl hi h4 h5 h6 hB hM ht h q4 q0 q1 hC
  · exact sim_S N hN hl hi h4 h5 h6 hB hM ht h q4 q0 q1 hC
theorem sim_L (N : Nat) {len : Nat} {rA : Nat → Nat → Int32} (hN : 40 ≤ N) (hl : len ≤ 48) : ∀ (b c i n n' : Nat) (I : Nat → Int32) (A : Nat → Nat → Int32) (r dI : Nat → Int32) (dA : Nat → Nat → Int32) (k m : Nat) (T : Nat → Nat → Nat) (O : Nat → Nat), c ≤ b → i + c = len → c < n → c + 10 ≤ n' → I 4 = nI len → I 5 = nI i → I 6 = -9 → PB k m T O → MP k m T O I A → TX len A rA → r 0 = 1 → r 4 = nI len → CP k m T O dI dA →
    ∃ v I' A' r' dI' dA', fX7_readText_73 N n I A = some (v, I', A') ∧ fX3_readInto_11 N n' r rA dI dA (nI i) = some (v, r', dI', dA') ∧ FrR I A I' A' ∧ r' 4 = r 4 ∧ (v = -9 → ∃ k m T O, PB k m T O ∧ MP k m T O I' A' ∧ CP k m T O dI' dA') := by
  intro b
  induction b with
  | zero =>
    intro c i n n' I A r dI dA k m T O hcb hic hn hn' h4 h5 h6 hB hM ht r0 r4 hC
    obtain rfl : i = len := by omega
    obtain ⟨n, rfl⟩ : ∃ q, n = q + 1 := ⟨n - 1, by omega⟩
    obtain ⟨n', rfl⟩ : ∃ q, n' = q + 1 := ⟨n' - 1, by omega⟩
    refine ⟨-9, I, A, r, dI, dA, ?_, cl_fin N n' r4 hl r0, ⟨fun _ _ _ _ _ => rfl, fun _ _ => rfl⟩, rfl, fun _ => ⟨k, m, T, O, hB, hM, hC⟩⟩
    show fX7_readText_73s N _ I A = _
    unfold fX7_readText_73s fX7_readText_109
    rw [if_pos h6, h4, h5, if_pos (nI_le (Nat.le_refl i) (by omega)), h6]
  | succ b ih =>
    intro c i n n' I A r dI dA k m T O hcb hic hn hn' h4 h5 h6 hB hM ht r0 r4 hC
    by_cases c0 : c = 0
    · exact ih c i n n' I A r dI dA k m T O (by omega) hic hn hn' h4 h5 h6 hB hM ht r0 r4 hC
    have hi : i < len := by omega
    obtain ⟨n, rfl⟩ : ∃ q, n = q + 2 := ⟨n - 2, by omega⟩
    obtain ⟨n', rfl⟩ : ∃ q, n' = q + 1 := ⟨n' - 1, by omega⟩
    obtain ⟨ch, e1, e2, e3⟩ := ht i hi
    have ct := c_open N (r := r) hN e1 hB hC r0
    have ms : ∀ I' A', fX7_readPart N I A (nI ch) = some (I', A') → fX7_readText_73 N (n + 2) I A = fX7_readText_73 N (n + 1) I' A' := by
      intro I' A' h
      show fX7_readText_73s N _ I A = _
      unfold fX7_readText_73s
      rw [if_pos h6, h4, h5, if_neg (nI_ge hi (by omega)), rd_e rfl (by omega) (by omega) e2, Option.bind_some, h, Option.bind_some]
    have mf : ∀ (I' : Nat → Int32) (A' : Nat → Nat → Int32) j, j < 1000 → I' 6 = nI j → fX7_readText_73 N (n + 1) I' A' = some (nI j, I', A') := by
      intro I' A' j hj h
      show fX7_readText_73s N _ I' A' = _
      unfold fX7_readText_73s fX7_readText_109
      rw [if_neg (by rw [h]; exact n9_ne hj), h]
    cases ho : opB k m T O ch with
    | false =>
      rw [ho, if_neg Bool.false_ne_true] at ct
      have hp := m_obad N (i := i) hN e1 h5 hB hM ho
      refine ⟨nI i, _, _, _, _, _, by rw [ms _ _ hp, mf _ _ i (by omega) (upd_s _ _ _)], by rw [cl_step N n' hl r4 hi e3 ct, z00], ⟨fun x a b c d => upd_n _ _ d, fun _ _ => rfl⟩, by rw [upd_n _ _ (by omega), upd_n _ _ (by omega)], fun h => absurd h (n9_ne (by omega))⟩
    | true =>
      rw [ho, if_pos rfl] at ct
      obtain ⟨I', A', g1, g2, g3⟩ := sim_part N hN hl hi h4 h5 h6 hB hM ht ho r4 hC
      have q4 : upd (upd r 0 (nI ch)) 1 0 4 = r 4 := by rw [upd_n _ _ (by omega), upd_n _ _ (by omega)]
      rw [ms _ _ g1, cl_step N n' hl r4 hi e3 ct, n10]
      rcases g3 with ⟨j, j1, j2, j3⟩ | ⟨e, k', m', T', O', w1, w2, w3, w4, w5, w6, w7, w8⟩
      · obtain ⟨r', dI', dA', x1, x2⟩ := j3 n' (by omega)
        exact ⟨nI j, I', A', r', dI', dA', mf _ _ j (by omega) j2, x1, g2, by rw [x2, q4], fun h => absurd h (n9_ne (by omega))⟩
      · obtain ⟨r', dI', dA', x1, x2, x3, x4⟩ := w8 n' (by omega)
        rw [x1]
        have ht' : TX len A' rA := by
          unfold TX
          rw [g2.2 12 (Or.inr (by omega))]; exact ht
        obtain ⟨v, I2, A2, r2, dI2, dA2, y1, y2, y3, y4, y5⟩ := ih (c - 1 - e) (i + 1 + e) (n + 1) (n' - e) I' A' r' dI' dA' k' m' T' O' (by omega) (by omega) (by omega) (by omega) (by rw [g2.1 4 (by omega) (by omega) (by omega) (by omega)]; exact h4) w4 w5 w6 w7 ht' x2 (by rw [x3, q4]; exact r4) x4
        exact ⟨v, I2, A2, r2, dI2, dA2, y1, y2, FrR_tr g2 y3, by rw [y4, x3, q4], y5⟩
theorem b_read (N : Nat) {len : Nat} {I : Nat → Int32} {A : Nat → Nat → Int32} {rI : Nat → Int32} {rA : Nat → Nat → Int32} (dI : Nat → Int32) (dA : Nat → Nat → Int32) (hN : 100 ≤ N) (hl : len ≤ 48) (h4 : I 4 = nI len) (r4 : rI 4 = nI len) (ht : TX len A rA) : ∃ v I' A' rI' dI' dA', fX7_readText N I A = some (v, I', A') ∧ fX3_readInto N rI rA dI dA = some (v, rI', dI', dA') ∧ FrR I A I' A' ∧ rI' 4 = rI 4 ∧ (v = -9 → ∃ k m T O, PB k m T O ∧ MP k m T O I' A' ∧ CP k m T O dI' dA') := by
  have J : ∀ x, x ≠ 2 → x ≠ 3 → x ≠ 5 → x ≠ 6 → (upd (upd (upd (upd I 5 0) 6 (-9)) 2 0) 3 0) x = I x := fun x a b c d => by rw [upd_n _ _ b, upd_n _ _ a, upd_n _ _ d, upd_n _ _ c]
  have H := lpX (fun n i (s : Nat → Nat → Int32) => fX7_readText_23 N n (upd (upd (upd (upd I 5 0) 6 (-9)) 2 0) 3 0) s (nI i)) (fun s => if (I 4) = 0 then some (0, upd (upd (upd (upd I 5 0) 6 (-9)) 2 0) 3 0, s) else (rd 48 (s 12) 0).bind fun v3 => if v3 = 89 then fX7_readText_73 N N (upd (upd (upd (upd (upd I 5 0) 6 (-9)) 2 0) 3 0) 5 1) s else some (0, upd (upd (upd (upd I 5 0) 6 (-9)) 2 0) 3 0, s)) (fun i s => (∀ a, a ≠ 9 → a ≠ 10 → s a = A a) ∧ ∀ j, j < i → s 9 j = 0 ∧ s 10 j = 0) 5 ?_ ?_ N 0 A (by omega) (by omega) ⟨fun _ _ _ => rfl, fun j hj => by omega⟩
  · obtain ⟨B, ⟨b1, b2⟩, b3⟩ := H
    have frB : ∀ I', (∀ x, x ≠ 2 → x ≠ 3 → x ≠ 5 → x ≠ 6 → I' x = I x) → FrR I A I' B := fun I' h => ⟨h, fun a ha => b1 a (by omega) (by omega)⟩
    have htB : TX len B rA := by unfold TX; rw [b1 12 (by omega) (by omega)]; exact ht
    have hr : fX7_readText N I A = _ := b3
    rw [h4] at hr
    have rd : fX3_readInto N rI rA dI dA = fX3_readInto_11 N N (upd rI 0 0) rA (upd (upd dI 0 0) 1 0) dA (nI 0) := rfl
    have q4 : upd rI 0 0 4 = nI len := by rw [upd_n _ _ (by omega)]; exact r4
    obtain ⟨N', hN'⟩ : ∃ q, N = q + 1 := ⟨N - 1, by omega⟩
    have fuel : ∀ (r' d' : Nat → Int32) (D' : Nat → Nat → Int32) (x : Int32), fX3_readInto_11 N N r' rA d' D' x = fX3_readInto_11 N (N' + 1) r' rA d' D' x := fun r' d' D' x => by conv => lhs; arg 2; rw [hN']
    by_cases l0 : len = 0
    · subst l0
      rw [if_pos (show nI 0 = 0 from rfl)] at hr
      refine ⟨0, _, _, _, _, _, hr, by rw [rd, fuel]; exact cl_end N N' q4 hl (by rw [upd_s]; decide), frB _ J, by rw [upd_n _ _ (by omega)], fun h => absurd h (by decide)⟩
    · obtain ⟨c, c1, c2, c3⟩ := htB 0 (by omega)
      have c2' : B 12 0 = nI c := c2
      rw [if_neg (nI_ne0 (by omega) (by omega)), rd_e (x := 0) (i := 0) rfl (by omega) (by omega) c2', Option.bind_some] at hr
      have ct : ∀ D, fX3_takes N (upd rI 0 0) D dA (nI c) = some ((if c = 89 then 1 else 0), upd (upd rI 0 0) 0 1, D, dA) := by
        intro D
        unfold fX3_takes fX3_takes_84
        rw [upd_s, if_pos rfl, bz_0, bz_1, Option.bind_some, Option.bind_some]
        by_cases h : c = 89
        · rw [if_pos h, if_pos (show nI c = 89 by rw [h]; rfl)]
        · rw [if_neg h, if_neg (show ¬ nI c = 89 from lit_ne c1 (d := 89) (by omega) h)]
      have cs := cl_step N N' hl q4 (show 0 < len by omega) c3 (ct (upd (upd dI 0 0) 1 0))
      by_cases h : c = 89
      · rw [if_pos h, n10] at cs
        rw [if_pos (show nI c = 89 by rw [h]; rfl)] at hr
        have hB0 : PB 0 0 (fun _ _ => 0) (fun _ => 0) := ⟨⟨by omega, by omega, fun r hr => by omega, fun p hp => by omega⟩, fun r hr => by omega⟩
        obtain ⟨v, I2, A2, r2, dI2, dA2, y1, y2, y3, y4, y5⟩ := sim_L N (rA := rA) (by omega) hl (len - 1) (len - 1) 1 N N' (upd (upd (upd (upd (upd I 5 0) 6 (-9)) 2 0) 3 0) 5 1) B (upd (upd rI 0 0) 0 1) (upd (upd dI 0 0) 1 0) dA 0 0 (fun _ _ => 0) (fun _ => 0) (Nat.le_refl _) (by omega) (by omega) (by omega) (by rw [upd_n _ _ (by omega), J 4 (by omega) (by omega) (by omega) (by omega)]; exact h4) (upd_s _ _ _) (by rw [upd_n _ _ (by omega), upd_n _ _ (by omega), upd_n _ _ (by omega), upd_s]) hB0 ⟨by rw [upd_n _ _ (by omega), upd_n _ _ (by omega), upd_s]; rfl, by rw [upd_n _ _ (by omega), upd_s]; rfl, fun r hr => by omega, fun r a b => b2 r b, fun p hp => by omega⟩ htB (upd_s _ _ _) (by rw [upd_n _ _ (by omega)]; exact q4) ⟨⟨by rw [upd_n _ _ (by omega), upd_s]; rfl, upd_s _ _ _, fun r hr => by omega, fun p hp => by omega⟩, fun r hr => by omega⟩
        refine ⟨v, I2, A2, r2, dI2, dA2, by rw [hr, y1], by rw [rd, fuel, cs]; exact y2, FrR_tr (frB _ (fun x a b c d => by rw [upd_n _ _ c, J x a b c d])) y3, by rw [y4, upd_n _ _ (by omega), upd_n _ _ (by omega)], y5⟩
      · rw [if_neg h, z00] at cs
        rw [if_neg (show ¬ nI c = 89 from lit_ne c1 (d := 89) (by omega) h)] at hr
        exact ⟨0, _, _, _, _, _, hr, by rw [rd, fuel, cs]; rfl, frB _ J, by rw [upd_n _ _ (by omega), upd_n _ _ (by omega)], fun h => absurd h (by decide)⟩
  · intro n s h
    show fX7_readText_23s N _ _ s _ = _
    unfold fX7_readText_23s fX7_readText_66
    rw [if_pos (by decide +kernel), J 4 (by omega) (by omega) (by omega) (by omega)]
  · rintro n i s hi ⟨g1, g2⟩
    show ∃ s', _ ∧ fX7_readText_23s N (fX7_readText_23 N n) _ s _ = _
    refine ⟨va_up (va_up s 9 (upd (s 9) i 0)) 10 (upd (s 10) i 0), ⟨fun a h1 h2 => by rw [va_up_ne _ _ h2, va_up_ne _ _ h1]; exact g1 a h1 h2, fun j hj => ?_⟩, ?_⟩
    · rw [va_up_self, va_up_ne _ _ (show 9 ≠ 10 by omega), va_up_self]
      by_cases e : j = i
      · subst e; rw [upd_s, upd_s]; exact ⟨rfl, rfl⟩
      · rw [upd_n _ _ e, upd_n _ _ e]; exact g2 j (by omega)
    · unfold fX7_readText_23s
      rw [if_neg (show ¬ (5 : Int32) ≤ nI i from nI_ge (b := 5) hi (by omega)), wr_e _ _ rfl (by omega) (by omega), Option.bind_some, wr_e _ _ rfl (by omega) (by omega), Option.bind_some, nI_1]
theorem R_read {I : Nat → Int32} {A : Nat → Nat → Int32} {L : Int64} {A6 : Nat → Nat → Int32} {L6 : Int64} {rI : Nat → Int32} {rA : Nat → Nat → Int32} {tI : Nat → Int32} {tA : Nat → Nat → Int32} {wI : Nat → Int32} {wA : Nat → Nat → Int32} {aI : Nat → Int32} {aS : Nat → Nat → Int32} {aT : Nat → Nat → Nat → Int32} {eI : Nat → Int32} {eA : Nat → Nat → Int32} {sS : Nat → Nat → Int32} {sT : Nat → Nat → Nat → Int32} {I' : Nat → Int32} {A' : Nat → Nat → Int32} {rI' : Nat → Int32} (hR : Rel I A L A6 L6 rI rA tI tA wI wA aI aS aT eI eA sS sT) (h : FrR I A I' A') (h4 : rI' 4 = rI 4) : Rel I' A' L A6 L6 rI' rA tI tA wI wA aI aS aT eI eA sS sT := by
  obtain ⟨k, m, T, S, d, hB, hSB, hMT, hCT, hMS, hCS, hRT, hRA, hRH, hRK, hL⟩ := hR
  have ga : ∀ a, (a < 6 ∨ 11 < a) → A' a = A a := h.2
  have gi : ∀ i, i ≠ 2 → i ≠ 3 → i ≠ 5 → i ≠ 6 → I' i = I i := h.1
  refine ⟨k, m, T, S, d, hB, hSB, ?_, hCT, ?_, hCS, ?_, ?_, ?_, ?_, hL⟩
  · unfold MT
    rw [gi 0 (by omega) (by omega) (by omega) (by omega), gi 1 (by omega) (by omega) (by omega) (by omega), ga 0 (by omega), ga 1 (by omega), ga 2 (by omega), ga 3 (by omega), ga 4 (by omega)]; exact hMT
  · unfold MS
    rw [ga 5 (by omega)]; exact hMS
  · rw [gi 4 (by omega) (by omega) (by omega) (by omega), ga 12 (by omega), h4]; exact hRT
  · rw [gi 7 (by omega) (by omega) (by omega) (by omega), gi 8 (by omega) (by omega) (by omega) (by omega), ga 13 (by omega)]; exact hRA
  · rw [gi 9 (by omega) (by omega) (by omega) (by omega), ga 14 (by omega), ga 15 (by omega), ga 16 (by omega), ga 17 (by omega)]; exact hRH
  · rw [ga 20 (by omega), ga 21 (by omega)]; exact hRK
theorem r_fault (N : Nat) {I : Nat → Int32} {A : Nat → Nat → Int32} {L : Int64} {A6 : Nat → Nat → Int32} {L6 : Int64} {rI : Nat → Int32} {rA : Nat → Nat → Int32} {tI : Nat → Int32} {tA : Nat → Nat → Int32} {wI : Nat → Int32} {wA : Nat → Nat → Int32} {aI : Nat → Int32} {aS : Nat → Nat → Int32} {aT : Nat → Nat → Nat → Int32} {eI : Nat → Int32} {eA : Nat → Nat → Int32} {sS : Nat → Nat → Int32} {sT : Nat → Nat → Nat → Int32} (hN : 10200 ≤ N) (hR : Rel I A L A6 L6 rI rA tI tA wI wA aI aS aT eI eA sS sT) (dI : Nat → Int32) (dA : Nat → Nat → Int32) : ∃ v I' A' rI' dI' dA', fX7_fault N I A = some (v, I', A') ∧ fX6_fault N rI rA dI dA = some (v, rI', dI', dA') ∧ Rel I' A' L A6 L6 rI' rA tI tA wI wA aI aS aT eI eA sS sT := by
  obtain ⟨k, m, T, S, d, hB, hSB, hMT, hCT, hMS, hCS, hRT, hRA, hRH, hRK, hL⟩ := id hR
  obtain ⟨len, l1, l2, l3, l4⟩ := hRT
  obtain ⟨v, I', A', rI', dI', dA', y1, y2, y3, y4, y5⟩ := b_read N dI dA (by omega) l1 l2 l3 l4
  refine ⟨v, I', A', rI', dI', dA', ?_, ?_, R_read hR y3 y4⟩
  · unfold fX7_fault
    rw [y1, Option.bind_some]
  · unfold fX6_fault
    rw [y2, Option.bind_some]
