/-- a thing's figures -/
def fg (i : Nat) : Nat := 10 * (i / 6) + i % 6
def gC1 (k : Nat) (T : Nat → Nat → Nat) (S : Nat → Nat) (d : Int32) (p q i : Nat) (s : Nat × Nat) : Nat × Nat := ofr (al1 k T S d (i / 6) (i % 6)) (pl1 k T S d p q (i / 6) (i % 6)) (100 + fg i) s
def gC2 (k : Nat) (T : Nat → Nat → Nat) (S : Nat → Nat) (d : Int32) (p q a b : Nat) (s : Nat × Nat) : Nat × Nat := ofr (al2 k T S d (a / 6) (a % 6) (b / 6) (b % 6)) (pl2 k T S d p q (a / 6) (a % 6) (b / 6) (b % 6)) (10000 + 100 * fg a + fg b) s
/-- both roads come to the same -/
theorem roads {k m : Nat} {T : Nat → Nat → Nat} {S : Nat → Nat} (d : Int32) (p q : Nat) (hB : TB k m T) : gS k T S d p q 10100 = fz (fun a s => fz (gC2 k T S d p q a) (29 - a) (a + 1) s) 30 0 (fz (gC1 k T S d p q) 30 0 (1, puN k T S d p q)) := by
  have e0 : gS k T S d p q 10100 = fz (gD k T S d p q) (100 * 100) 0 (fz (gM k T S d p q) 100 0 (1, puN k T S d p q)) := by
    unfold gS
    rw [if_neg (by omega)]
  have e1 : fz (gM k T S d p q) 100 0 (1, puN k T S d p q) = fz (gC1 k T S d p q) 30 0 (1, puN k T S d p q) := by
    rw [fz_th (gM k T S d p q) (fun x _ h s => by unfold gM; rw [al1_no hB h]; exact ofr_no _ _ _)]
    refine fz_eq _ _ 30 0 0 _ (fun x hx s => ?_)
    show gM k T S d p q (10 * ((0 + x) / 6) + (0 + x) % 6) s = gC1 k T S d p q (0 + x) s
    unfold gM gC1 fg
    rw [Nat.zero_add, show (10 * (x / 6) + x % 6) / 10 = x / 6 by omega, show (10 * (x / 6) + x % 6) % 10 = x % 6 by omega]
  have hno : ∀ x, (6 ≤ x % 10 ∨ 5 ≤ x / 10) → ∀ y, y < 100 → ∀ s, gD k T S d p q (100 * x + y) s = s := by
    intro x h y hy s
    unfold gD al2
    rw [show (100 * x + y) / 1000 = x / 10 by omega, show (100 * x + y) / 100 % 10 = x % 10 by omega, al1_no hB h, Bool.false_and]
    exact ofr_no _ _ _
  have e2 : ∀ s, fz (gD k T S d p q) (100 * 100) 0 s = fz (fun a s => fz (gC2 k T S d p q a) 30 0 s) 30 0 s := by
    intro s
    rw [fz_mul, fz_th (fun x s => fz (gD k T S d p q) 100 (100 * x) s) (fun x _ h s => fz_id _ _ _ _ (fun y h1 h2 => by
      have := hno x h (y - 100 * x) (by omega) s
      rwa [show 100 * x + (y - 100 * x) = y by omega] at this))]
    refine fz_eq _ _ 30 0 0 _ (fun a ha s => ?_)
    show fz (gD k T S d p q) 100 (100 * (10 * ((0 + a) / 6) + (0 + a) % 6)) s = fz (gC2 k T S d p q (0 + a)) 30 0 s
    rw [Nat.zero_add, fz_eq (gD k T S d p q) (fun y s => gD k T S d p q (100 * (10 * (a / 6) + a % 6) + y) s) 100 _ 0 s (fun x hx s => by rw [Nat.zero_add]), fz_th (fun y s => gD k T S d p q (100 * (10 * (a / 6) + a % 6) + y) s)]
    · refine fz_eq _ _ 30 0 0 _ (fun b hb s => ?_)
      show gD k T S d p q (100 * (10 * (a / 6) + a % 6) + (10 * ((0 + b) / 6) + (0 + b) % 6)) s = gC2 k T S d p q a (0 + b) s
      unfold gD gC2 fg
      rw [Nat.zero_add, show (100 * (10 * (a / 6) + a % 6) + (10 * (b / 6) + b % 6)) / 1000 = a / 6 by omega, show (100 * (10 * (a / 6) + a % 6) + (10 * (b / 6) + b % 6)) / 100 % 10 = a % 6 by omega, show (100 * (10 * (a / 6) + a % 6) + (10 * (b / 6) + b % 6)) / 10 % 10 = b / 6 by omega, show (100 * (10 * (a / 6) + a % 6) + (10 * (b / 6) + b % 6)) % 10 = b % 6 by omega, Nat.add_assoc]
    · intro y hy h s
      unfold gD al2
      rw [show (100 * (10 * (a / 6) + a % 6) + y) / 10 % 10 = y / 10 by omega, show (100 * (10 * (a / 6) + a % 6) + y) % 10 = y % 10 by omega, al1_no hB h, Bool.false_and, Bool.and_false]
      exact ofr_no _ _ _
  rw [e0, e1, e2]
  exact (fz_two (fun a b => al2 k T S d (a / 6) (a % 6) (b / 6) (b % 6)) (fun a b => pl2 k T S d p q (a / 6) (a % 6) (b / 6) (b % 6)) (fun a b => 10000 + 100 * fg a + fg b) (fun a => al2_n _ _ _ _ _ _) (fun a b h => al2_sy _ _ _ _ _ _ _ _ h) (fun a b => pl2_sy _ _ _ _ _ _ _ _ _ _) _ 30 (Nat.le_refl 30)).1
theorem c_thing (N : Nat) {k m i : Nat} {T : Nat → Nat → Nat} {tI : Nat → Int32} {tA : Nat → Nat → Int32} {wI : Nat → Int32} {wA : Nat → Nat → Int32} {S : Nat → Nat} {d : Int32} (hB : TB k m T) (hT : CT k m T tI tA) (hS : CS wI wA S d) (hSB : SB k m S) (hi : i < 30) : fX6_canSayThing N tI tA wI wA (nI i) = some (if al1 k T S d (i / 6) (i % 6) = true then 1 else 0) := by
  have hk := hB.1
  unfold fX6_canSayThing al1
  rw [d6 (by omega), r6 (by omega)]
  by_cases hr : i / 6 < k
  · rw [c_canBeSaid N hB hT hS hSB hr (show i % 6 < 6 by omega), Option.bind_some, decide_eq_true hr, decide_eq_true (show i % 6 < 6 by omega), Bool.true_and, Bool.true_and]
    cases csN (T 2 (i / 6)) d (S (i / 6)) (S (5 + i / 6)) (i % 6) <;> rfl
  · rw [c_cbs_no N hB hT (Or.inl (Or.inr (nI_le (by omega) (by omega)))), Option.bind_some, decide_eq_false hr, Bool.false_and]; rfl
theorem al1_r {k : Nat} {T : Nat → Nat → Nat} {S : Nat → Nat} {d : Int32} {r t : Nat} (h : al1 k T S d r t = true) : r < k ∧ t < 6 := by
  simp only [al1, Bool.and_eq_true, decide_eq_true_eq] at h
  exact ⟨h.1, h.2.1⟩
theorem c_gain (N : Nat) {k m p q r tb : Nat} {T : Nat → Nat → Nat} {tI : Nat → Int32} {tA : Nat → Nat → Int32} {wI : Nat → Int32} {wA : Nat → Nat → Int32} {S : Nat → Nat} {d : Int32} (hN : 40 ≤ N) (hB : TB k m T) (hT : CT k m T tI tA) (hS : CS wI wA S d) (hSB : SB k m S) (hp : p < m) (hq : q < 9) (hr : r < k) (ht : tb < 64) : fX6_gainOf N tI tA wI wA (nI p) (nI r) (nI tb) (nI q) = some (nI (cvN T S d p r (S r ||| tb) q) - nI (cvN T S d p r (S r) q)) := by
  have hk := hB.1
  have hs := hSB.1 r (by omega)
  unfold fX6_gainOf
  rw [c_saidOf N hS (by omega), Option.bind_some, or_N _ hs _ ht, c_coinValueIn N hN hB hT hS hSB hp hr (or_lt hs ht) hq, Option.bind_some, c_coinValueIn N hN hB hT hS hSB hp hr hs hq, Option.bind_some]
theorem df_eq {a b c e : Nat} (h : a + b = c + e) : nI e - nI b = nI a - nI c := by
  have h2 : nI a + nI b = nI c + nI e := by rw [nI_add, nI_add, h]
  have h3 : nI a = nI c + nI e - nI b := by rw [← h2, Int32.add_sub_cancel]
  rw [h3, Int32.sub_eq_add_neg, Int32.sub_eq_add_neg, Int32.sub_eq_add_neg]
  have : nI c + nI e + -nI b + -nI c = nI c + -nI c + (nI e + -nI b) := by ac_rfl
  rw [this, Int32.add_right_neg, Int32.zero_add]
theorem c_offer (N : Nat) {b : Nat → Int32} {P v code : Nat} {s : Nat × Nat} (hP : P < 2 ^ 20) (hv : v < 2 ^ 20) (hs : s.2 < 2 ^ 20) (h0 : b 0 = nI s.2 - nI P) (h1 : b 1 = nI s.1) : ∃ b', fX1_offer N b (nI v - nI P) (nI code) = some b' ∧ b' 0 = nI (ofr true v code s).2 - nI P ∧ b' 1 = nI (ofr true v code s).1 := by
  unfold fX1_offer fX1_offer_14 fX1_start ofr
  have hle : (nI v - nI P ≤ nI s.2 - nI P) ↔ v ≤ s.2 := by
    rw [Int32.le_iff_toInt_le, pk_sub_toInt (by omega) (by omega), pk_sub_toInt (by omega) (by omega)]
    omega
  rw [h0, Bool.true_and]
  by_cases h : v ≤ s.2
  · rw [if_pos (hle.mpr h), decide_eq_false (by omega), if_neg Bool.false_ne_true]
    exact ⟨b, rfl, h0, h1⟩
  · rw [if_neg (fun h2 => h (hle.mp h2)), Option.bind_some, decide_eq_true (by omega), if_pos rfl]
    exact ⟨_, rfl, by rw [upd_n _ _ (by omega), upd_s], upd_s _ _ _⟩
theorem fg_e (i : Nat) (hi : i < 1000) (N : Nat) : fX6_thingFigures N (nI i) = some (nI (fg i)) := by
  unfold fX6_thingFigures fg
  rw [d6 hi, r6 hi, show (10 : Int32) * nI (i / 6) = nI (10 * (i / 6)) from pk_mul 10 _, nI_add]
theorem gC1_b {k m : Nat} {T : Nat → Nat → Nat} {S : Nat → Nat} (d : Int32) (p q : Nat) (hB : TB k m T) (hSB : SB k m S) (hp : p < 4) (c : Nat) : (fz (gC1 k T S d p q) c 0 (1, puN k T S d p q)).2 ≤ 8910 :=
  fz_b (fun i => al1 k T S d (i / 6) (i % 6)) (fun i => pl1 k T S d p q (i / 6) (i % 6)) (fun i => 100 + fg i) 8910 (fun j => pl1_le d p q _ _ hB hSB hp) c 0 _ (puN_le d q hB hSB hp)
theorem gC2_b {k m : Nat} {T : Nat → Nat → Nat} {S : Nat → Nat} (d : Int32) (p q : Nat) (hB : TB k m T) (hSB : SB k m S) (hp : p < 4) (a c i : Nat) (s : Nat × Nat) (hs : s.2 ≤ 8910) : (fz (gC2 k T S d p q a) c i s).2 ≤ 8910 :=
  fz_b (fun b => al2 k T S d (a / 6) (a % 6) (b / 6) (b % 6)) (fun b => pl2 k T S d p q (a / 6) (a % 6) (b / 6) (b % 6)) (fun b => 10000 + 100 * fg a + fg b) 8910 (fun j => pl2_le d p q _ _ _ _ hB hSB hp) c i s hs
theorem gC2_bb {k m : Nat} {T : Nat → Nat → Nat} {S : Nat → Nat} (d : Int32) (p q : Nat) (hB : TB k m T) (hSB : SB k m S) (hp : p < 4) (s : Nat × Nat) (hs : s.2 ≤ 8910) : ∀ c, (fz (fun a s => fz (gC2 k T S d p q a) (29 - a) (a + 1) s) c 0 s).2 ≤ 8910
  | 0 => hs
  | c + 1 => by
    rw [fz_r]
    exact gC2_b d p q hB hSB hp _ _ _ _ (gC2_bb d p q hB hSB hp s hs c)
/-- the gains as they are kept -/
def GN (k : Nat) (T : Nat → Nat → Nat) (S : Nat → Nat) (d : Int32) (p q : Nat) (g : Nat → Int32) : Prop := ∀ i, i < 30 → al1 k T S d (i / 6) (i % 6) = true → g i = nI (pl1 k T S d p q (i / 6) (i % 6)) - nI (puN k T S d p q)
theorem c_one (N : Nat) {k m p q : Nat} {T : Nat → Nat → Nat} {tI : Nat → Int32} {tA : Nat → Nat → Int32} {wI : Nat → Int32} {wA : Nat → Nat → Int32} {A : Nat → Nat → Int32} {S : Nat → Nat} {d : Int32} {b : Nat → Int32} (hN : 40 ≤ N) (hB : TB k m T) (hT : CT k m T tI tA) (hS : CS wI wA S d) (hSB : SB k m S) (hp : p < m) (hG : GN k T S d p q (A 1)) (h0 : b 0 = 0) (h1 : b 1 = 1) :
    ∃ b', fX6_offerOneThing N A tI tA wI wA b = some b' ∧ b' 0 = nI (fz (gC1 k T S d p q) 30 0 (1, puN k T S d p q)).2 - nI (puN k T S d p q) ∧ b' 1 = nI (fz (gC1 k T S d p q) 30 0 (1, puN k T S d p q)).1 := by
  have hm := hB.2.1
  have hP := puN_le d q hB hSB (show p < 4 by omega)
  unfold fX6_offerOneThing
  have H := lpX (fun n i (s : Nat → Int32) => fX6_offerOneThing_2 N n A tI tA wI wA s (nI i)) (fun s => some s) (fun i s => s 0 = nI (fz (gC1 k T S d p q) i 0 (1, puN k T S d p q)).2 - nI (puN k T S d p q) ∧ s 1 = nI (fz (gC1 k T S d p q) i 0 (1, puN k T S d p q)).1) 30 ?_ ?_ N 0 b (by omega) (by omega) ⟨by rw [h0]; exact (Int32.sub_self _).symm, h1⟩
  · obtain ⟨s, ⟨h1, h2⟩, h3⟩ := H
    exact ⟨s, h3, h1, h2⟩
  · intro n s h
    show fX6_offerOneThing_2s N _ A tI tA wI wA s _ = _
    unfold fX6_offerOneThing_2s
    rw [if_pos (by decide +kernel)]
  · rintro n i s hi ⟨g1, g2⟩
    show ∃ s', _ ∧ fX6_offerOneThing_2s N (fX6_offerOneThing_2 N n) A tI tA wI wA s _ = _
    have hb := gC1_b d p q hB hSB (show p < 4 by omega) i
    unfold fX6_offerOneThing_2s fX6_offerOneThing_38
    rw [if_neg (show ¬ (30 : Int32) ≤ nI i from nI_ge (b := 30) hi (by omega)), c_thing N hB hT hS hSB hi, Option.bind_some, fz_r, Nat.zero_add]
    unfold gC1 at g1 g2 ⊢
    cases ha : al1 k T S d (i / 6) (i % 6) with
    | false =>
      rw [if_neg Bool.false_ne_true, z00, nI_1, ofr_no]
      exact ⟨s, ⟨g1, g2⟩, rfl⟩
    | true =>
      rw [if_pos rfl, n10, p_X6_at N 30 i hi (by omega), Option.bind_some, fg_e i (by omega), Option.bind_some, hG i hi ha, show (100 : Int32) + nI (fg i) = nI (100 + fg i) from nI_add 100 _]
      have hv := pl1_le d p q (i / 6) (i % 6) hB hSB (show p < 4 by omega)
      obtain ⟨b', b1, b2, b3⟩ := c_offer N (code := 100 + fg i) (P := puN k T S d p q) (v := pl1 k T S d p q (i / 6) (i % 6)) (by omega) (by omega) (by have := hb; unfold gC1 at this; omega) g1 g2
      rw [b1, Option.bind_some, nI_1]
      exact ⟨b', ⟨b2, b3⟩, rfl⟩
theorem c_two (N : Nat) {k m p q : Nat} {T : Nat → Nat → Nat} {tI : Nat → Int32} {tA : Nat → Nat → Int32} {wI : Nat → Int32} {wA : Nat → Nat → Int32} {A : Nat → Nat → Int32} {S : Nat → Nat} {d : Int32} {b : Nat → Int32} {s0 : Nat × Nat} (hN : 40 ≤ N) (hB : TB k m T) (hT : CT k m T tI tA) (hS : CS wI wA S d) (hSB : SB k m S) (hp : p < m) (hq : q < 9) (hG : GN k T S d p q (A 1)) (hs0 : s0.2 ≤ 8910) (h0 : b 0 = nI s0.2 - nI (puN k T S d p q)) (h1 : b 1 = nI s0.1) :
    ∃ b', fX6_offerTwoThings N A tI tA wI wA b (nI p) (nI q) = some b' ∧ b' 0 = nI (fz (fun a s => fz (gC2 k T S d p q a) (29 - a) (a + 1) s) 30 0 s0).2 - nI (puN k T S d p q) ∧ b' 1 = nI (fz (fun a s => fz (gC2 k T S d p q a) (29 - a) (a + 1) s) 30 0 s0).1 := by
  have hm := hB.2.1
  have hP := puN_le d q hB hSB (show p < 4 by omega)
  unfold fX6_offerTwoThings
  have H := lpX (fun n i (s : Nat → Int32) => fX6_offerTwoThings_2 N n A tI tA wI wA s (nI p) (nI q) (nI i)) (fun s => some s) (fun i s => s 0 = nI (fz (fun a s => fz (gC2 k T S d p q a) (29 - a) (a + 1) s) i 0 s0).2 - nI (puN k T S d p q) ∧ s 1 = nI (fz (fun a s => fz (gC2 k T S d p q a) (29 - a) (a + 1) s) i 0 s0).1) 30 ?_ ?_ N 0 b (by omega) (by omega) ⟨h0, h1⟩
  · obtain ⟨s, ⟨h1, h2⟩, h3⟩ := H
    exact ⟨s, h3, h1, h2⟩
  · intro n s h
    show fX6_offerTwoThings_2s N _ A tI tA wI wA s _ _ _ = _
    unfold fX6_offerTwoThings_2s
    rw [if_pos (by decide +kernel)]
  · rintro n a s hi ⟨g1, g2⟩
    show ∃ s', _ ∧ fX6_offerTwoThings_2s N (fX6_offerTwoThings_2 N n) A tI tA wI wA s _ _ _ = _
    have hb := gC2_bb d p q hB hSB (show p < 4 by omega) s0 hs0 a
    rw [fz_r _ a 0 s0, Nat.zero_add]
    generalize fz (fun a s => fz (gC2 k T S d p q a) (29 - a) (a + 1) s) a 0 s0 = u at g1 g2 hb
    unfold fX6_offerTwoThings_2s
    rw [if_neg (show ¬ (30 : Int32) ≤ nI a from nI_ge (b := 30) hi (by omega)), nI_1]
    show ∃ s' : Nat → Int32, (s' 0 = nI (fz (gC2 k T S d p q a) (29 - a) (a + 1) u).2 - nI (puN k T S d p q) ∧ s' 1 = nI (fz (gC2 k T S d p q a) (29 - a) (a + 1) u).1) ∧ _
    cases ha : al1 k T S d (a / 6) (a % 6) with
    | false =>
      have e : fz (gC2 k T S d p q a) (29 - a) (a + 1) u = u := by
        refine fz_id _ _ _ _ (fun x h1 h2 => ?_)
        unfold gC2 al2
        rw [ha, Bool.false_and]; exact ofr_no _ _ _
      refine ⟨s, by rw [e]; exact ⟨g1, g2⟩, ?_⟩
      obtain ⟨N', hN'⟩ : ∃ q, N = q + 1 := ⟨N - 1, by omega⟩
      have e2 : fX6_offerTwoThings_13 N (fX6_offerTwoThings_2 N n) N A tI tA wI wA s (nI p) (nI q) (nI a) (nI (a + 1)) = fX6_offerTwoThings_13s N (fX6_offerTwoThings_2 N n) (fX6_offerTwoThings_13 N (fX6_offerTwoThings_2 N n) N') A tI tA wI wA s (nI p) (nI q) (nI a) (nI (a + 1)) := by
        conv => lhs; arg 3; rw [hN']
        rfl
      rw [e2]
      unfold fX6_offerTwoThings_13s fX6_offerTwoThings_124
      rw [c_thing N hB hT hS hSB hi, Option.bind_some, ha, if_neg Bool.false_ne_true, z00, nI_1]
      split <;> rfl
    | true =>
      obtain ⟨ra, ta⟩ := al1_r ha
      have HI := lpX (fun c i (s : Nat → Int32) => fX6_offerTwoThings_13 N (fX6_offerTwoThings_2 N n) c A tI tA wI wA s (nI p) (nI q) (nI a) (nI i)) (fun s => fX6_offerTwoThings_2 N n A tI tA wI wA s (nI p) (nI q) (nI (a + 1))) (fun i s => s 0 = nI (fz (gC2 k T S d p q a) (i - (a + 1)) (a + 1) u).2 - nI (puN k T S d p q) ∧ s 1 = nI (fz (gC2 k T S d p q a) (i - (a + 1)) (a + 1) u).1 ∧ a + 1 ≤ i) 30 ?_ ?_ N (a + 1) s (by omega) (by omega) ⟨by rw [Nat.sub_self]; exact g1, by rw [Nat.sub_self]; exact g2, Nat.le_refl _⟩
      · obtain ⟨s', ⟨w1, w2, w3⟩, w4⟩ := HI
        rw [show 30 - (a + 1) = 29 - a by omega] at w1 w2
        exact ⟨s', ⟨w1, w2⟩, w4⟩
      · rintro c s ⟨w1, w2, w3⟩
        show fX6_offerTwoThings_13s N _ _ A tI tA wI wA s _ _ _ _ = _
        unfold fX6_offerTwoThings_13s fX6_offerTwoThings_124
        rw [if_pos (by decide +kernel), nI_1]
      · rintro c i s hi2 ⟨w1, w2, w3⟩
        show ∃ s', _ ∧ fX6_offerTwoThings_13s N _ (fX6_offerTwoThings_13 N (fX6_offerTwoThings_2 N n) c) A tI tA wI wA s _ _ _ _ = _
        have hbu := gC2_b d p q hB hSB (show p < 4 by omega) a (i - (a + 1)) (a + 1) u hb
        rw [show i + 1 - (a + 1) = (i - (a + 1)) + 1 by omega, fz_r _ (i - (a + 1)) (a + 1) u, show a + 1 + (i - (a + 1)) = i by omega]
        generalize fz (gC2 k T S d p q a) (i - (a + 1)) (a + 1) u = t at w1 w2 hbu
        unfold fX6_offerTwoThings_13s fX6_offerTwoThings_90 fX6_offerTwoThings_118
        have f100 : (100 : Int32) * nI (fg a) = nI (100 * fg a) := pk_mul 100 _
        have f10000 : (10000 : Int32) + nI (100 * fg a) = nI (10000 + 100 * fg a) := nI_add 10000 _
        rw [if_neg (show ¬ (30 : Int32) ≤ nI i from nI_ge (b := 30) hi2 (by omega)), c_thing N hB hT hS hSB hi, Option.bind_some, ha, if_pos rfl, n10, c_thing N hB hT hS hSB hi2, Option.bind_some]
        simp only [fg_e a (show a < 1000 by omega), fg_e i (show i < 1000 by omega), Option.bind_some, f100, f10000, nI_add, nI_1]
        show ∃ s' : Nat → Int32, (s' 0 = nI (gC2 k T S d p q a i t).2 - nI (puN k T S d p q) ∧ s' 1 = nI (gC2 k T S d p q a i t).1 ∧ a + 1 ≤ i + 1) ∧ _
        unfold gC2
        cases hc : al1 k T S d (i / 6) (i % 6) with
        | false =>
          rw [if_neg Bool.false_ne_true, z00]
          have e : al2 k T S d (a / 6) (a % 6) (i / 6) (i % 6) = false := by unfold al2; rw [hc, Bool.false_and, Bool.and_false]
          rw [e, ofr_no]
          exact ⟨s, ⟨w1, w2, by omega⟩, rfl⟩
        | true =>
          obtain ⟨ri, ti⟩ := al1_r hc
          have e : al2 k T S d (a / 6) (a % 6) (i / 6) (i % 6) = true := by
            unfold al2
            rw [ha, hc, Bool.true_and, Bool.true_and, Bool.not_eq_true', Bool.and_eq_false_iff, decide_eq_false_iff_not, decide_eq_false_iff_not]
            omega
          have hv := pl2_le d p q (a / 6) (a % 6) (i / 6) (i % 6) hB hSB (show p < 4 by omega)
          obtain ⟨b', b1, b2, b3⟩ := c_offer N (b := s) (s := t) (code := 10000 + 100 * fg a + fg i) (P := puN k T S d p q) (v := pl2 k T S d p q (a / 6) (a % 6) (i / 6) (i % 6)) (by omega) (by omega) (by omega) w1 w2
          rw [if_pos rfl, n10, d6 (by omega), d6 (by omega), e]
          refine ⟨b', ⟨b2, b3, by omega⟩, ?_⟩
          by_cases er : a / 6 = i / 6
          · have tb : 2 ^ (a % 6) ||| 2 ^ (i % 6) < 64 := or_lt (p2_64 ta) (p2_64 ti)
            have gg : nI (cvN T S d p (a / 6) (S (a / 6) ||| (2 ^ (a % 6) ||| 2 ^ (i % 6))) q) - nI (cvN T S d p (a / 6) (S (a / 6)) q) = nI (pl2 k T S d p q (a / 6) (a % 6) (i / 6) (i % 6)) - nI (puN k T S d p q) := by
              have h := gain2s k T S d p q (a / 6) (a % 6) (i % 6) ra
              rw [← er]
              exact df_eq h
            unfold fX6_thingBit
            rw [if_pos (show nI (a / 6) = nI (i / 6) by rw [er]), Option.bind_some, Option.bind_some, r6 (by omega), r6 (by omega), shl1 _ ta, shl1 _ ti, or_N _ (p2_64 ta) _ (p2_64 ti), c_gain N hN hB hT hS hSB hp hq ra tb, Option.bind_some, gg, b1, Option.bind_some]
          · have gg : (nI (pl1 k T S d p q (a / 6) (a % 6)) - nI (puN k T S d p q)) + (nI (pl1 k T S d p q (i / 6) (i % 6)) - nI (puN k T S d p q)) = nI (pl2 k T S d p q (a / 6) (a % 6) (i / 6) (i % 6)) - nI (puN k T S d p q) := by
              have h1 := gain2 k T S d p q (a / 6) (a % 6) (i / 6) (i % 6) ri er
              have h2 := gain1 k T S d p q (i / 6) (i % 6) ri
              have h3 := df_eq h1
              have h4 := df_eq h2
              rw [← h4, h3]
              simp only [Int32.sub_eq_add_neg]
              have : nI (pl1 k T S d p q (a / 6) (a % 6)) + -nI (puN k T S d p q) + (nI (pl2 k T S d p q (a / 6) (a % 6) (i / 6) (i % 6)) + -nI (pl1 k T S d p q (a / 6) (a % 6))) = nI (pl1 k T S d p q (a / 6) (a % 6)) + -nI (pl1 k T S d p q (a / 6) (a % 6)) + (nI (pl2 k T S d p q (a / 6) (a % 6) (i / 6) (i % 6)) + -nI (puN k T S d p q)) := by ac_rfl
              rw [this, Int32.add_right_neg, Int32.zero_add]
            rw [if_neg (show ¬ nI (a / 6) = nI (i / 6) from fun h => er ((nI_eq (by omega) (by omega)).mp h)), p_X6_at N 30 a hi (by omega), Option.bind_some, p_X6_at N 30 i hi2 (by omega), Option.bind_some, hG a hi ha, hG i hi2 hc, gg, b1, Option.bind_some]
