-- a letter, taken by the class
theorem wrZ_e' {n x : Nat} {y : Int32} (hy : y = 0 ∨ y = 1) (hx : x < n) (hn : n < 2 ^ 31) {f : Nat → Int32} : wrZ n f (nI x) y = some (upd f x y) := by
  unfold wrZ
  rw [if_pos hy, wr_n hx hn]
theorem o_fig (N : Nat) {c a b : Nat} (hc : c < 256) (hab : a ≤ b) (hb : b < 100) : fX6_isOutside N (nI c - 48) (nI a) (nI b) = some (if 48 + a ≤ c ∧ c ≤ 48 + b then 0 else 1) := by
  rw [p_X6_isOutside]
  by_cases h48 : c < 48
  · rw [if_pos (Int32.lt_of_lt_of_le (f_neg h48) (nI_pos' (by omega))), if_neg (by omega)]
  · rw [f_pos (by omega)]
    by_cases h1 : c < 48 + a
    · rw [if_pos (nI_lt (by omega) (by omega)), if_neg (by omega)]
    · rw [if_neg (nI_nlt (by omega) (by omega))]
      by_cases h2 : c ≤ 48 + b
      · rw [if_pos (nI_le (by omega) (by omega)), if_pos (by omega)]
      · rw [if_neg (nI_ge (by omega) (by omega)), if_neg (by omega)]
theorem c_R1 (N : Nat) {c : Nat} (hc : c < 256) {r dI : Nat → Int32} {dA : Nat → Nat → Int32} (h0 : r 0 = 82) (h1 : r 1 = 0) : fX3_takes N r dI dA (nI c) = some ((if 49 ≤ c ∧ c ≤ 57 then 1 else 0), upd (upd r 1 1) 2 (nI c - 48), dI, dA) := by
  unfold fX3_takes fX3_takesOfRumour fX3_takesOfRumour_60
  rw [h0, h1, if_neg (by decide), if_neg (by decide), if_neg (by decide), if_pos rfl, if_pos (by decide), show fX6_isOutside N (nI c - 48) 1 9 = _ from o_fig N (a := 1) (b := 9) hc (by omega) (by omega), Option.bind_some, bz_0, bz_1, Option.bind_some, Option.bind_some, show (0 : Int32) + 1 = 1 by decide]
  by_cases h : 48 + 1 ≤ c ∧ c ≤ 48 + 9
  · rw [if_pos h, z00, Option.bind_some, if_pos h]; rfl
  · rw [if_neg h, n10, Option.bind_some, if_neg h]; rfl
theorem c_R2 (N : Nat) {c : Nat} (hc : c < 256) {r dI : Nat → Int32} {dA : Nat → Nat → Int32} (h0 : r 0 = 82) (h1 : r 1 = 1) : fX3_takes N r dI dA (nI c) = some ((if 48 ≤ c ∧ c ≤ 49 then 1 else 0), upd (upd r 1 2) 3 (nI c - 48), dI, dA) := by
  unfold fX3_takes fX3_takesOfRumour fX3_takesOfRumour_80
  rw [h0, h1, if_neg (by decide), if_neg (by decide), if_neg (by decide), if_pos rfl, if_neg (by decide), if_pos (by decide), show fX6_isOutside N (nI c - 48) 0 1 = _ from o_fig N (a := 0) (b := 1) hc (by omega) (by omega), Option.bind_some, bz_0, bz_1, Option.bind_some, Option.bind_some, show (1 : Int32) + 1 = 2 by decide]
  by_cases h : 48 + 0 ≤ c ∧ c ≤ 48 + 1
  · rw [if_pos h, z00, Option.bind_some, if_pos h]; rfl
  · rw [if_neg h, n10, Option.bind_some, if_neg h]; rfl
/-- a town with one rumour more -/
def tR (k : Nat) (T : Nat → Nat → Nat) (w l f : Nat) : Nat → Nat → Nat := fun a r => if r = k ∧ a < 4 then (if a = 0 then w else if a = 1 then l else if a = 2 then f else 0) else T a r
def oR (k : Nat) (O : Nat → Nat) : Nat → Nat := fun r => if r = k then 0 else O r
theorem tR_n {k : Nat} (T : Nat → Nat → Nat) (w l f a r : Nat) (h : r ≠ k ∨ 4 ≤ a) : tR k T w l f a r = T a r := by
  unfold tR
  rw [if_neg (by omega)]
theorem tR_PB {k m : Nat} {T : Nat → Nat → Nat} {O : Nat → Nat} {w l f : Nat} (hB : PB k m T O) (hk : k < 5) (hw1 : 1 ≤ w) (hw : w ≤ 9) (hl : l ≤ 1) (hf : f ≤ 9) : PB (k + 1) m (tR k T w l f) (oR k O) := by
  obtain ⟨⟨h1, h2, h3, h4⟩, h5⟩ := hB
  refine ⟨⟨by omega, h2, fun r hr => ?_, fun p hp => ?_⟩, fun r hr => ?_⟩
  · by_cases e : r = k
    · subst e
      refine ⟨?_, ?_, ?_, ?_, ?_⟩ <;> simp [tR] <;> first | omega | exact Nat.two_pow_pos _
    · rw [tR_n T w l f 0 r (Or.inl e), tR_n T w l f 1 r (Or.inl e), tR_n T w l f 2 r (Or.inl e), tR_n T w l f 3 r (Or.inl e)]
      obtain ⟨g1, g2, g3, g4, g5⟩ := h3 r (by omega)
      refine ⟨g1, g2, g3, g4, Nat.lt_of_lt_of_le g5 (Nat.pow_le_pow_right (by omega) (by omega))⟩
  · rw [tR_n T w l f 4 p (Or.inr (by omega))]; exact h4 p hp
  · unfold oR
    split
    · omega
    · exact h5 r (by omega)
theorem c_R3 (N : Nat) {c k m w l : Nat} (hc : c < 256) {r dI : Nat → Int32} {dA : Nat → Nat → Int32} {T : Nat → Nat → Nat} {O : Nat → Nat} (hk : k < 5) (h0 : r 0 = 82) (h1 : r 1 = 2) (h2 : r 2 = nI w) (h3 : r 3 = nI l) (hl : l ≤ 1) (hC : CP k m T O dI dA) : ∃ r' dI' dA', fX3_takes N r dI dA (nI c) = some ((if 48 ≤ c ∧ c ≤ 57 then 1 else 0), r', dI', dA') ∧ r' 4 = r 4 ∧ (48 ≤ c ∧ c ≤ 57 → r' 0 = 1 ∧ CP (k + 1) m (tR k T w l (c - 48)) (oR k O) dI' dA') := by
  unfold fX3_takes fX3_takesOfRumour fX3_endsRumour fX3_endsRumour_35
  have u3 : upd r 1 3 3 = nI l := by rw [upd_n _ _ (by omega)]; exact h3
  have u2 : upd r 1 3 2 = nI w := by rw [upd_n _ _ (by omega)]; exact h2
  rw [h0, h1, if_neg (by decide), if_neg (by decide), if_neg (by decide), if_pos rfl, if_neg (by decide), if_neg (by decide), show (2 : Int32) + 1 = 3 by decide, show fX6_isOutside N (nI c - 48) 0 9 = _ from o_fig N (a := 0) (b := 9) hc (by omega) (by omega), Option.bind_some, u3, u2]
  by_cases h : 48 ≤ c ∧ c ≤ 57
  · rw [if_pos (show 48 + 0 ≤ c ∧ c ≤ 48 + 9 from h), z00, if_pos h]
    have hz : ∀ y : Int32, (y = 0 ∨ y = 1) → fX5_addRumour N dI dA (nI w) y (nI c - 48) = some (upd dI 0 (nI (k + 1)), va_up (va_up (va_up (va_up (va_up dA 0 (upd (dA 0) k (nI w))) 1 (upd (dA 1) k y)) 2 (upd (dA 2) k (nI (c - 48)))) 3 (upd (dA 3) k 0)) 4 (upd (dA 4) k 0)) := by
      intro y hy
      unfold fX5_addRumour fX5_addRumour_71
      rw [hC.1.1, p_X6_isIndex, if_neg (nI_pos (by omega)), if_neg (show ¬ (5 : Int32) ≤ nI k from nI_ge (b := 5) hk (by omega)), Option.bind_some, n10, wr_e _ _ rfl (by omega) (by omega), Option.bind_some, wrZ_e' hy (by omega) (by omega), Option.bind_some, f_pos h.1, wr_e _ _ rfl (by omega) (by omega), Option.bind_some, wr_e _ _ rfl (by omega) (by omega), Option.bind_some, wr_e _ _ rfl (by omega) (by omega), Option.bind_some, nI_1]
    have hll : l = 0 ∨ l = 1 := by omega
    have fin : CP (k + 1) m (tR k T w l (c - 48)) (oR k O) (upd dI 0 (nI (k + 1))) (va_up (va_up (va_up (va_up (va_up dA 0 (upd (dA 0) k (nI w))) 1 (upd (dA 1) k (nI l))) 2 (upd (dA 2) k (nI (c - 48)))) 3 (upd (dA 3) k 0)) 4 (upd (dA 4) k 0)) := by
      obtain ⟨⟨g1, g2, g3, g4⟩, g5⟩ := hC
      have e0 : (va_up (va_up (va_up (va_up (va_up dA 0 (upd (dA 0) k (nI w))) 1 (upd (dA 1) k (nI l))) 2 (upd (dA 2) k (nI (c - 48)))) 3 (upd (dA 3) k 0)) 4 (upd (dA 4) k 0)) 0 = upd (dA 0) k (nI w) := rfl
      have e1 : (va_up (va_up (va_up (va_up (va_up dA 0 (upd (dA 0) k (nI w))) 1 (upd (dA 1) k (nI l))) 2 (upd (dA 2) k (nI (c - 48)))) 3 (upd (dA 3) k 0)) 4 (upd (dA 4) k 0)) 1 = upd (dA 1) k (nI l) := rfl
      have e2 : (va_up (va_up (va_up (va_up (va_up dA 0 (upd (dA 0) k (nI w))) 1 (upd (dA 1) k (nI l))) 2 (upd (dA 2) k (nI (c - 48)))) 3 (upd (dA 3) k 0)) 4 (upd (dA 4) k 0)) 2 = upd (dA 2) k (nI (c - 48)) := rfl
      have e3 : (va_up (va_up (va_up (va_up (va_up dA 0 (upd (dA 0) k (nI w))) 1 (upd (dA 1) k (nI l))) 2 (upd (dA 2) k (nI (c - 48)))) 3 (upd (dA 3) k 0)) 4 (upd (dA 4) k 0)) 3 = upd (dA 3) k 0 := rfl
      have e4 : (va_up (va_up (va_up (va_up (va_up dA 0 (upd (dA 0) k (nI w))) 1 (upd (dA 1) k (nI l))) 2 (upd (dA 2) k (nI (c - 48)))) 3 (upd (dA 3) k 0)) 4 (upd (dA 4) k 0)) 4 = upd (dA 4) k 0 := rfl
      have e5 : (va_up (va_up (va_up (va_up (va_up dA 0 (upd (dA 0) k (nI w))) 1 (upd (dA 1) k (nI l))) 2 (upd (dA 2) k (nI (c - 48)))) 3 (upd (dA 3) k 0)) 4 (upd (dA 4) k 0)) 5 = dA 5 := rfl
      refine ⟨⟨upd_s _ _ _, by rw [upd_n _ _ (by omega)]; exact g2, fun r hr => ?_, fun p hp => ?_⟩, fun r hr => ?_⟩
      · rw [e0, e1, e2, e3]
        by_cases e : r = k
        · subst e
          rw [upd_s, upd_s, upd_s, upd_s]
          simp [tR]
          rfl
        · rw [upd_n _ _ e, upd_n _ _ e, upd_n _ _ e, upd_n _ _ e, tR_n T w l _ 0 r (Or.inl e), tR_n T w l _ 1 r (Or.inl e), tR_n T w l _ 2 r (Or.inl e), tR_n T w l _ 3 r (Or.inl e)]
          exact g3 r (by omega)
      · rw [e5, tR_n T w l _ 4 p (Or.inr (by omega))]; exact g4 p hp
      · rw [e4]
        unfold oR
        by_cases e : r = k
        · subst e; rw [upd_s, if_pos rfl]; rfl
        · rw [upd_n _ _ e, if_neg e]; exact g5 r (by omega)
    rcases hll with rfl | rfl
    · rw [if_neg (show ¬ nI 0 = 1 by decide), hz 0 (Or.inl rfl), Option.bind_some, Option.bind_some, bz_1, Option.bind_some]
      exact ⟨upd (upd r 1 3) 0 1, upd dI 0 (nI (k + 1)), _, rfl, by rw [upd_n _ _ (by omega), upd_n _ _ (by omega)], fun _ => ⟨upd_s _ _ _, fin⟩⟩
    · rw [if_pos (show nI 1 = 1 from rfl), hz 1 (Or.inr rfl), Option.bind_some, Option.bind_some, bz_1, Option.bind_some]
      exact ⟨upd (upd r 1 3) 0 1, upd dI 0 (nI (k + 1)), _, rfl, by rw [upd_n _ _ (by omega), upd_n _ _ (by omega)], fun _ => ⟨upd_s _ _ _, fin⟩⟩
  · rw [if_neg (show ¬ (48 + 0 ≤ c ∧ c ≤ 48 + 9) from h), n10, if_neg h, Option.bind_some, bz_0, Option.bind_some]
    exact ⟨upd r 1 3, dI, dA, rfl, by rw [upd_n _ _ (by omega)], fun h2 => absurd h2 h⟩
/-- the letter that opens a part -/
def opB (k m : Nat) (T : Nat → Nat → Nat) (O : Nat → Nat) (c : Nat) : Bool := (decide (c = 82) && decide (k < 5)) || ((decide (c = 88) && anyF (fpB k T) k 0) || ((decide (c = 80) && decide (m < 4)) || (decide (c = 83) && anyF (ftB O) k 0)))
theorem lit_ne {c d : Nat} (hc : c < 256) (hd : d < 256) (h : c ≠ d) : ¬ nI c = nI d := fun h2 => h ((nI_eq (by omega) (by omega)).mp h2)
theorem c_open (N : Nat) {c k m : Nat} (hN : 40 ≤ N) (hc : c < 256) {r dI : Nat → Int32} {dA : Nat → Nat → Int32} {T : Nat → Nat → Nat} {O : Nat → Nat} (hB : PB k m T O) (hC : CP k m T O dI dA) (h0 : r 0 = 1) : fX3_takes N r dI dA (nI c) = some ((if opB k m T O c = true then 1 else 0), upd (upd r 0 (nI c)) 1 0, dI, dA) := by
  have hk := hB.1.1
  have hm := hB.1.2.1
  have ho : fX3_opensPart N dI dA (nI c) = some (if opB k m T O c = true then 1 else 0) := by
    unfold fX3_opensPart fX3_opensPart_84 fX3_opensPart_65 opB
    rw [bz_0, bz_1, Option.bind_some, Option.bind_some, hC.1.1, hC.1.2.1, c_hasFreeTable N hN hB hC, c_hasFreePair N hN hB hC, Option.bind_some, Option.bind_some]
    have bzb : ∀ b : Bool, bz (if b = true then 1 else 0) = some (if b = true then 1 else 0) := by intro b; cases b <;> rfl
    rw [bzb, bzb, Option.bind_some, Option.bind_some]
    by_cases c80 : c = 80
    · subst c80
      rw [if_pos (show nI 80 = 80 from rfl)]
      by_cases h : m < 4
      · rw [if_neg (show ¬ (4 : Int32) ≤ nI m from nI_ge (b := 4) h (by omega)), decide_eq_true h]; rfl
      · rw [if_pos (show (4 : Int32) ≤ nI m from nI_le (a := 4) (by omega) (by omega)), decide_eq_false h]; rfl
    rw [if_neg (show ¬ nI c = 80 from lit_ne hc (d := 80) (by omega) c80)]
    by_cases c81 : c = 81
    · subst c81; rfl
    rw [if_neg (show ¬ nI c = 81 from lit_ne hc (d := 81) (by omega) c81)]
    by_cases c82 : c = 82
    · subst c82
      rw [if_pos (show nI 82 = 82 from rfl)]
      by_cases h : k < 5
      · rw [if_neg (show ¬ (5 : Int32) ≤ nI k from nI_ge (b := 5) h (by omega)), decide_eq_true h]; rfl
      · rw [if_pos (show (5 : Int32) ≤ nI k from nI_le (a := 5) (by omega) (by omega)), decide_eq_false h]; rfl
    rw [if_neg (show ¬ nI c = 82 from lit_ne hc (d := 82) (by omega) c82)]
    by_cases c83 : c = 83
    · subst c83
      rw [if_pos (show nI 83 = 83 from rfl)]
      cases anyF (ftB O) k 0 <;> rfl
    rw [if_neg (show ¬ nI c = 83 from lit_ne hc (d := 83) (by omega) c83)]
    have e1 : decide (c = 82) = false := decide_eq_false c82
    have e2 : decide (c = 80) = false := decide_eq_false c80
    have e3 : decide (c = 83) = false := decide_eq_false c83
    rw [e1, e2, e3, Bool.false_and, Bool.false_and, Bool.false_and, Bool.false_or, Bool.or_false, Bool.or_false]
    by_cases c88 : c = 88
    · subst c88
      rw [if_neg (show ¬ nI 88 = 84 by decide), if_neg (show ¬ nI 88 = 85 by decide), if_neg (show ¬ nI 88 = 86 by decide), if_neg (show ¬ nI 88 = 87 by decide), if_pos (show nI 88 = 88 from rfl)]
      cases anyF (fpB k T) k 0 <;> rfl
    rw [decide_eq_false c88, Bool.false_and, if_neg Bool.false_ne_true, if_neg (show ¬ nI c = 88 from lit_ne hc (d := 88) (by omega) c88)]
    split
    · rfl
    · split
      · rfl
      · split
        · rfl
        · split <;> rfl
  unfold fX3_takes
  rw [h0, if_neg (by decide), if_pos rfl, ho, Option.bind_some]
  cases opB k m T O c <;> rfl
/-- a town with one person more -/
def tP (m : Nat) (T : Nat → Nat → Nat) (f : Nat) : Nat → Nat → Nat := fun a r => if a = 4 ∧ r = m then f else T a r
theorem tP_n {m : Nat} (T : Nat → Nat → Nat) (f a r : Nat) (h : a ≠ 4 ∨ r ≠ m) : tP m T f a r = T a r := by
  unfold tP
  rw [if_neg (by omega)]
theorem tP_PB {k m : Nat} {T : Nat → Nat → Nat} {O : Nat → Nat} {f : Nat} (hB : PB k m T O) (hm : m < 4) (hf : f < 6) : PB k (m + 1) (tP m T f) O := by
  obtain ⟨⟨h1, h2, h3, h4⟩, h5⟩ := hB
  refine ⟨⟨h1, by omega, fun r hr => ?_, fun p hp => ?_⟩, h5⟩
  · rw [tP_n T f 0 r (Or.inl (by omega)), tP_n T f 1 r (Or.inl (by omega)), tP_n T f 2 r (Or.inl (by omega)), tP_n T f 3 r (Or.inl (by omega))]
    exact h3 r hr
  · by_cases e : p = m
    · subst e; unfold tP; rw [if_pos ⟨rfl, rfl⟩]; exact hf
    · rw [tP_n T f 4 p (Or.inr e)]; exact h4 p (by omega)
theorem c_P (N : Nat) {c k m : Nat} (hc : c < 256) {r dI : Nat → Int32} {dA : Nat → Nat → Int32} {T : Nat → Nat → Nat} {O : Nat → Nat} (hm : m < 4) (h0 : r 0 = 80) (hC : CP k m T O dI dA) : ∃ r' dI' dA', fX3_takes N r dI dA (nI c) = some ((if 48 ≤ c ∧ c ≤ 53 then 1 else 0), r', dI', dA') ∧ r' 4 = r 4 ∧ (48 ≤ c ∧ c ≤ 53 → r' 0 = 1 ∧ CP k (m + 1) (tP m T (c - 48)) O dI' dA') := by
  unfold fX3_takes fX3_takesOfPerson
  rw [h0, if_neg (by decide), if_neg (by decide), if_pos rfl, c_isT, Option.bind_some]
  by_cases h : 48 ≤ c ∧ c ≤ 53
  · rw [f_pos h.1, if_neg (in_no (k := 6) (by omega) (by omega)), n10, if_pos h]
    unfold fX5_addPerson fX5_addPerson_31
    rw [hC.1.2.1, p_X6_isIndex, if_neg (nI_pos (by omega)), if_neg (show ¬ (4 : Int32) ≤ nI m from nI_ge (b := 4) hm (by omega)), Option.bind_some, n10, wr_e _ _ rfl (by omega) (by omega), Option.bind_some, Option.bind_some, Option.bind_some, bz_1, Option.bind_some, nI_1]
    refine ⟨upd r 0 1, upd dI 1 (nI (m + 1)), va_up dA 5 (upd (dA 5) m (nI (c - 48))), rfl, by rw [upd_n _ _ (by omega)], fun _ => ⟨upd_s _ _ _, ?_⟩⟩
    obtain ⟨⟨g1, g2, g3, g4⟩, g5⟩ := hC
    refine ⟨⟨by rw [upd_n _ _ (by omega)]; exact g1, upd_s _ _ _, fun r hr => ?_, fun p hp => ?_⟩, fun r hr => ?_⟩
    · rw [va_up_ne _ _ (by omega), va_up_ne _ _ (by omega), va_up_ne _ _ (by omega), va_up_ne _ _ (by omega), tP_n T _ 0 r (Or.inl (by omega)), tP_n T _ 1 r (Or.inl (by omega)), tP_n T _ 2 r (Or.inl (by omega)), tP_n T _ 3 r (Or.inl (by omega))]
      exact g3 r hr
    · rw [va_up_self]
      by_cases e : p = m
      · subst e; rw [upd_s]; unfold tP; rw [if_pos ⟨rfl, rfl⟩]
      · rw [upd_n _ _ e, tP_n T _ 4 p (Or.inr e)]; exact g4 p (by omega)
    · rw [va_up_ne _ _ (by omega)]; exact g5 r hr
  · have hx : nI c - 48 < 0 ∨ nI 6 ≤ nI c - 48 := by
      by_cases h48 : c < 48
      · exact Or.inl (f_neg h48)
      · rw [f_pos (by omega)]; exact Or.inr (nI_le (by omega) (by omega))
    rw [if_pos hx, z00, if_neg h, Option.bind_some, bz_0, Option.bind_some]
    exact ⟨r, dI, dA, rfl, rfl, fun h2 => absurd h2 h⟩
theorem c_hb (N : Nat) {c s : Nat} (hc : c < 256) (hs : s < 64) : fX6_hasBit N (nI s) (nI c - 48) = some (if 48 ≤ c ∧ s.testBit (c - 48) = true then 1 else 0) := by
  by_cases h48 : c < 48
  · unfold fX6_hasBit fX6_hasBit_22 fX6_hasBit_23
    rw [if_pos (f_neg h48), bz_0, Option.bind_some, if_neg (by omega)]
  · rw [f_pos (by omega)]
    by_cases h6 : c - 48 < 6
    · rw [c_hasBit N hs h6]
      by_cases hb : s.testBit (c - 48) = true
      · rw [if_pos hb, if_pos ⟨by omega, hb⟩]
      · rw [if_neg hb, if_neg (fun h => hb h.2)]
    · have hb : s.testBit (c - 48) = false := Nat.testBit_lt_two_pow (Nat.lt_of_lt_of_le hs (Nat.pow_le_pow_right (n := 2) (i := 6) (by omega) (by omega)))
      rw [hb, if_neg (fun h => Bool.false_ne_true h.2)]
      by_cases h30 : 30 < c - 48
      · unfold fX6_hasBit fX6_hasBit_22 fX6_hasBit_23
        rw [if_neg (nI_pos (by omega)), if_pos (show (30 : Int32) < nI _ from nI_lt (a := 30) h30 (by omega)), bz_0, Option.bind_some]
      · rw [p_X6_hasBit N _ _ (nI_pos (by omega)) (show ¬ (30 : Int32) < nI _ from nI_nlt (a := 30) (by omega) (by omega))]
        have hz : ∀ s, s < 64 → ∀ t, t < 31 → 6 ≤ t → (shr (nI s) (nI t) &&& 1) = 0 := by decide +kernel
        rw [if_pos (hz s hs _ (by omega) (by omega))]
theorem c_X1 (N : Nat) {c k m : Nat} (hc : c < 256) {r dI : Nat → Int32} {dA : Nat → Nat → Int32} {T : Nat → Nat → Nat} {O : Nat → Nat} (hB : PB k m T O) (hC : CP k m T O dI dA) (h0 : r 0 = 88) (h1 : r 1 = 0) : fX3_takes N r dI dA (nI c) = some ((if 48 ≤ c ∧ c - 48 < k ∧ fpB k T (c - 48) = true then 1 else 0), upd (upd r 1 1) 2 (nI c - 48), dI, dA) := by
  have hk := hB.1.1
  unfold fX3_takes fX3_takesOfRivals fX3_takesOfRivals_36
  rw [h0, h1, if_neg (by decide), if_neg (by decide), if_neg (by decide), if_neg (by decide), if_neg (by decide), if_pos rfl, if_pos (by decide), bz_0, bz_1, Option.bind_some, Option.bind_some, show (0 : Int32) + 1 = 1 by decide]
  by_cases h : 48 ≤ c ∧ c - 48 < k
  · rw [f_pos h.1, c_freePartners N hB hC h.2, Option.bind_some]
    have hp := pl_64 k (T 3 (c - 48)) (c - 48) hk
    by_cases h2 : plN k (T 3 (c - 48)) (c - 48) = 0
    · rw [if_pos ((nI_e0 (by omega)).mpr h2), Option.bind_some, bz_0, Option.bind_some, if_neg]
      intro h3
      exact absurd h2 (of_decide_eq_true h3.2.2)
    · rw [if_neg (fun h3 => h2 ((nI_e0 (by omega)).mp h3)), Option.bind_some, bz_1, Option.bind_some, if_pos ⟨h.1, h.2, decide_eq_true h2⟩]
  · have hx : nI c - 48 < 0 ∨ nI k ≤ nI c - 48 := by
      by_cases h48 : c < 48
      · exact Or.inl (f_neg h48)
      · rw [f_pos (by omega)]; exact Or.inr (nI_le (by omega) (by omega))
    unfold fX5_freePartners
    rw [c_isR N _ hB.1 hC.1, if_pos hx, Option.bind_some, z00, Option.bind_some, if_pos rfl, Option.bind_some, bz_0, Option.bind_some, if_neg (fun h3 => h ⟨h3.1, h3.2.1⟩)]
theorem c_S1 (N : Nat) {c k m : Nat} (hc : c < 256) {r dI : Nat → Int32} {dA : Nat → Nat → Int32} {T : Nat → Nat → Nat} {O : Nat → Nat} (hB : PB k m T O) (hC : CP k m T O dI dA) (h0 : r 0 = 83) (h1 : r 1 = 0) : fX3_takes N r dI dA (nI c) = some ((if 48 ≤ c ∧ c - 48 < k ∧ ftB O (c - 48) = true then 1 else 0), upd (upd r 1 1) 2 (nI c - 48), dI, dA) := by
  have hk := hB.1.1
  unfold fX3_takes fX3_takesOfOpening fX3_takesOfOpening_36
  rw [h0, h1, if_neg (by decide), if_neg (by decide), if_neg (by decide), if_neg (by decide), if_pos rfl, if_pos (by decide), bz_0, bz_1, Option.bind_some, Option.bind_some, show (0 : Int32) + 1 = 1 by decide]
  by_cases h : 48 ≤ c ∧ c - 48 < k
  · rw [f_pos h.1, c_freeTables N hB hC h.2, Option.bind_some]
    have ho := hB.2 (c - 48) h.2
    by_cases h2 : O (c - 48) = 63
    · rw [if_pos ((nI_e0 (by omega)).mpr (by omega)), Option.bind_some, bz_0, Option.bind_some, if_neg]
      intro h3
      exact absurd h2 (of_decide_eq_true h3.2.2)
    · rw [if_neg (fun h3 => h2 (by have := (nI_e0 (by omega)).mp h3; omega)), Option.bind_some, bz_1, Option.bind_some, if_pos ⟨h.1, h.2, decide_eq_true h2⟩]
  · have hx : nI c - 48 < 0 ∨ nI k ≤ nI c - 48 := by
      by_cases h48 : c < 48
      · exact Or.inl (f_neg h48)
      · rw [f_pos (by omega)]; exact Or.inr (nI_le (by omega) (by omega))
    unfold fX5_freeTables fX5_freeTables_23
    rw [c_isR N _ hB.1 hC.1, if_pos hx, Option.bind_some, z00, Option.bind_some, if_pos rfl, Option.bind_some, bz_0, Option.bind_some, if_neg (fun h3 => h ⟨h3.1, h3.2.1⟩)]
/-- a town with a pair more; what is said with a table more -/
def tX (T : Nat → Nat → Nat) (i j : Nat) : Nat → Nat → Nat := fun a r => if a = 3 ∧ r = i then T 3 i ||| 2 ^ j else if a = 3 ∧ r = j then T 3 j ||| 2 ^ i else T a r
theorem tX_n (T : Nat → Nat → Nat) (i j a r : Nat) (h : a ≠ 3 ∨ (r ≠ i ∧ r ≠ j)) : tX T i j a r = T a r := by
  unfold tX
  rw [if_neg (by omega), if_neg (by omega)]
theorem tX_PB {k m : Nat} {T : Nat → Nat → Nat} {O : Nat → Nat} {i j : Nat} (hB : PB k m T O) (hi : i < k) (hj : j < k) : PB k m (tX T i j) O := by
  obtain ⟨⟨h1, h2, h3, h4⟩, h5⟩ := hB
  refine ⟨⟨h1, h2, fun r hr => ?_, fun p hp => ?_⟩, h5⟩
  · rw [tX_n T i j 0 r (Or.inl (by omega)), tX_n T i j 1 r (Or.inl (by omega)), tX_n T i j 2 r (Or.inl (by omega))]
    obtain ⟨g1, g2, g3, g4, g5⟩ := h3 r hr
    refine ⟨g1, g2, g3, g4, ?_⟩
    unfold tX
    split
    · exact Nat.or_lt_two_pow (h3 i hi).2.2.2.2 (Nat.pow_lt_pow_right (by omega) hj)
    · split
      · exact Nat.or_lt_two_pow (h3 j hj).2.2.2.2 (Nat.pow_lt_pow_right (by omega) hi)
      · exact g5
  · rw [tX_n T i j 4 p (Or.inl (by omega))]; exact h4 p hp
theorem c_X2 (N : Nat) {c k m i : Nat} (hc : c < 256) {r dI : Nat → Int32} {dA : Nat → Nat → Int32} {T : Nat → Nat → Nat} {O : Nat → Nat} (hB : PB k m T O) (hC : CP k m T O dI dA) (hi : i < k) (h0 : r 0 = 88) (h1 : r 1 = 1) (h2 : r 2 = nI i) : ∃ r' dA', fX3_takes N r dI dA (nI c) = some ((if 48 ≤ c ∧ (plN k (T 3 i) i).testBit (c - 48) = true then 1 else 0), r', dI, dA') ∧ r' 4 = r 4 ∧ (48 ≤ c ∧ (plN k (T 3 i) i).testBit (c - 48) = true → r' 0 = 1 ∧ CP k m (tX T i (c - 48)) O dI dA') := by
  have hk := hB.1.1
  have b3 := pk_32 hk (hB.1.2.2.1 i hi).2.2.2.2
  have hp := pl_64 k (T 3 i) i hk
  unfold fX3_takes fX3_takesOfRivals
  rw [h0, h1, h2, if_neg (by decide), if_neg (by decide), if_neg (by decide), if_neg (by decide), if_neg (by decide), if_pos rfl, if_neg (by decide), show (1 : Int32) + 1 = 2 by decide, c_freePartners N hB hC hi, Option.bind_some, c_hb N hc hp, Option.bind_some]
  by_cases h : 48 ≤ c ∧ (plN k (T 3 i) i).testBit (c - 48) = true
  · have h10 : c - 48 < 10 := by
      by_cases h10 : c - 48 < 10
      · exact h10
      · have := Nat.testBit_lt_two_pow (Nat.lt_of_lt_of_le hp (Nat.pow_le_pow_right (n := 2) (i := 6) (j := c - 48) (by omega) (by omega)))
        rw [this] at h; exact absurd h.2 Bool.false_ne_true
    obtain ⟨hij, hjk⟩ := pl_tb (by omega) hi (by omega) h10 h.2
    have bj := pk_32 hk (hB.1.2.2.1 (c - 48) hjk).2.2.2.2
    have e1 := (hC.1.2.2.1 i hi).2.2.2
    have e2 := (hC.1.2.2.1 (c - 48) hjk).2.2.2
    unfold fX5_addRivals fX5_addRivals_40
    rw [if_pos h, n10, f_pos h.1, c_hasR N hB.1 hC.1 hi, Option.bind_some, n10, c_hasR N hB.1 hC.1 hjk, Option.bind_some, n10, rd_e rfl (by omega) (by omega) e1, Option.bind_some, shl1 _ (by omega), or_N _ (by omega) _ (p2_64 (by omega)), wr_e _ _ rfl (by omega) (by omega), Option.bind_some, rd_e (v := nI (T 3 (c - 48))) rfl (by omega) (by omega) (by rw [upd_n _ _ (by omega)]; exact e2), Option.bind_some, shl1 _ (by omega), or_N _ (by omega) _ (p2_64 (by omega)), wr_e _ _ rfl (by omega) (by omega), Option.bind_some, Option.bind_some, Option.bind_some, bz_1, Option.bind_some]
    refine ⟨upd (upd r 1 2) 0 1, _, rfl, by rw [upd_n _ _ (by omega), upd_n _ _ (by omega)], fun _ => ⟨upd_s _ _ _, ?_⟩⟩
    obtain ⟨⟨g1, g2, g3, g4⟩, g5⟩ := hC
    refine ⟨⟨g1, g2, fun x hx => ?_, fun p hp => ?_⟩, fun x hx => ?_⟩
    · dsimp only
      rw [va_up_ne _ _ (show 0 ≠ 3 by omega), va_up_ne _ _ (show 0 ≠ 3 by omega), va_up_ne _ _ (show 1 ≠ 3 by omega), va_up_ne _ _ (show 1 ≠ 3 by omega), va_up_ne _ _ (show 2 ≠ 3 by omega), va_up_ne _ _ (show 2 ≠ 3 by omega), va_up_self, tX_n T _ _ 0 x (Or.inl (by omega)), tX_n T _ _ 1 x (Or.inl (by omega)), tX_n T _ _ 2 x (Or.inl (by omega))]
      obtain ⟨q1, q2, q3, q4⟩ := g3 x hx
      refine ⟨q1, q2, q3, ?_⟩
      unfold tX
      by_cases x1 : x = c - 48
      · subst x1; rw [upd_s, if_neg (by omega), if_pos ⟨rfl, rfl⟩]
      · rw [upd_n _ _ x1]
        by_cases x2 : x = i
        · subst x2; rw [upd_s, if_pos ⟨rfl, rfl⟩]
        · rw [upd_n _ _ x2, if_neg (by omega), if_neg (by omega)]; exact q4
    · dsimp only
      rw [va_up_ne _ _ (show 5 ≠ 3 by omega), va_up_ne _ _ (show 5 ≠ 3 by omega), tX_n T _ _ 4 p (Or.inl (by omega))]; exact g4 p hp
    · dsimp only
      rw [va_up_ne _ _ (show 4 ≠ 3 by omega), va_up_ne _ _ (show 4 ≠ 3 by omega)]; exact g5 x hx
  · rw [if_neg h, z00, Option.bind_some, bz_0, Option.bind_some]
    exact ⟨upd r 1 2, dA, rfl, by rw [upd_n _ _ (by omega)], fun h3 => absurd h3 h⟩
theorem c_S2 (N : Nat) {c k m i : Nat} (hc : c < 256) {r dI : Nat → Int32} {dA : Nat → Nat → Int32} {T : Nat → Nat → Nat} {O : Nat → Nat} (hB : PB k m T O) (hC : CP k m T O dI dA) (hi : i < k) (h0 : r 0 = 83) (h1 : r 1 = 1) (h2 : r 2 = nI i) : ∃ r' dA', fX3_takes N r dI dA (nI c) = some ((if 48 ≤ c ∧ (63 - O i).testBit (c - 48) = true then 1 else 0), r', dI, dA') ∧ r' 4 = r 4 ∧ (48 ≤ c ∧ (63 - O i).testBit (c - 48) = true → r' 0 = 1 ∧ CP k m T (s1 O i (O i ||| 2 ^ (c - 48))) dI dA') := by
  have hk := hB.1.1
  have ho := hB.2 i hi
  unfold fX3_takes fX3_takesOfOpening
  rw [h0, h1, h2, if_neg (by decide), if_neg (by decide), if_neg (by decide), if_neg (by decide), if_pos rfl, if_neg (by decide), show (1 : Int32) + 1 = 2 by decide, c_freeTables N hB hC hi, Option.bind_some, c_hb N hc (show 63 - O i < 64 by omega), Option.bind_some]
  by_cases h : 48 ≤ c ∧ (63 - O i).testBit (c - 48) = true
  · have h6 : c - 48 < 6 := by
      by_cases h6 : c - 48 < 6
      · exact h6
      · have := Nat.testBit_lt_two_pow (x := 63 - O i) (i := c - 48) (Nat.lt_of_lt_of_le (show 63 - O i < 2 ^ 6 by omega) (Nat.pow_le_pow_right (n := 2) (by omega) (by omega)))
        rw [this] at h; exact absurd h.2 Bool.false_ne_true
    unfold fX5_addOpening fX5_addOpening_20
    rw [if_pos h, n10, f_pos h.1, c_hasR N hB.1 hC.1 hi, Option.bind_some, n10, rd_e rfl (by omega) (by omega) (hC.2 i hi), Option.bind_some, shl1 _ h6, or_N _ ho _ (p2_64 h6), wr_e _ _ rfl (by omega) (by omega), Option.bind_some, Option.bind_some, Option.bind_some, bz_1, Option.bind_some]
    refine ⟨upd (upd r 1 2) 0 1, _, rfl, by rw [upd_n _ _ (by omega), upd_n _ _ (by omega)], fun _ => ⟨upd_s _ _ _, ?_⟩⟩
    obtain ⟨⟨g1, g2, g3, g4⟩, g5⟩ := hC
    refine ⟨⟨g1, g2, fun x hx => ?_, fun p hp => ?_⟩, fun x hx => ?_⟩
    · dsimp only
      rw [va_up_ne _ _ (show 0 ≠ 4 by omega), va_up_ne _ _ (show 1 ≠ 4 by omega), va_up_ne _ _ (show 2 ≠ 4 by omega), va_up_ne _ _ (show 3 ≠ 4 by omega)]; exact g3 x hx
    · dsimp only
      rw [va_up_ne _ _ (show 5 ≠ 4 by omega)]; exact g4 p hp
    · dsimp only
      rw [va_up_self]
      by_cases x1 : x = i
      · subst x1; rw [upd_s, s1_s]
      · rw [upd_n _ _ x1, s1_n _ _ x1]; exact g5 x hx
  · rw [if_neg h, z00, Option.bind_some, bz_0, Option.bind_some]
    exact ⟨upd r 1 2, dA, rfl, by rw [upd_n _ _ (by omega)], fun h3 => absurd h3 h⟩
