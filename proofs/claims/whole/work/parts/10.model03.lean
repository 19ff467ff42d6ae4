def fX7_layTrial_2s (N : Nat) (k_2 : (Nat → Nat → Int32) → Int32 → Option ((Nat → Nat → Int32))) (A : Nat → Nat → Int32) (u1 : Int32) : Option ((Nat → Nat → Int32)) := if 31 ≤ u1 then some A else (rd 62 (A 5) u1).bind fun v2 => (wr 62 (A 5) (31 + u1) v2).bind fun g3 => k_2 (va_up A 5 g3) (u1 + 1)
def fX7_layTrial_2 (N : Nat) : Nat → (Nat → Nat → Int32) → Int32 → Option ((Nat → Nat → Int32))
  | 0 => fun _ _ => none
  | n + 1 => fX7_layTrial_2s N (fX7_layTrial_2 N n)
def fX7_layTrial (N : Nat) (A : Nat → Nat → Int32) : Option ((Nat → Nat → Int32)) := fX7_layTrial_2 N N A 0
def rmX7_layTrial : Room := { frames := 0, cells := 0, slots := 0, locals := 0 }
theorem mb_X7_layTrial : Cond.instanceMethod yX7_layTrial ∈ wsL_law ∧ Cond.selects RX7 yX7_layTrial yX7_layTrial ∈ wsL_law ∧ Cond.initialized RX7 ∈ wsL_law ∧ Cond.code yX7_layTrial cX7_layTrial 2 none ∈ wsL_law := ⟨(bg 23 3 rfl), (bg 23 4 rfl), (bg 0 5 rfl), (bg 23 5 rfl)⟩
theorem hd_X7_layTrial : yX7_layTrial.cls = RX7 ∧ yX7_layTrial.cls ≠ "java/lang/invoke/MethodHandle" ∧ yX7_layTrial.cls ≠ "java/lang/invoke/VarHandle" ∧ (parseMethodDescriptor yX7_layTrial.desc).map (fun d => d.parameters.length) = some 0 := by decide +kernel
set_option maxRecDepth 100000 in
set_option maxHeartbeats 4000000 in
theorem ct_X7_layTrial (N : Nat) (l : Launch) (G : va_G) (cI cZ cO : ClassId) (q : Nat → Nat) (I : Nat → Int32) (A : Nat → Nat → Int32) (L : Int64) (Az : Nat → Nat → Int32) (hf : fX7_layTrial N A = some Az) : CtV l yX7_layTrial cX7_layTrial 2 rmX7_layTrial G cI cZ cO [.ref (q 0)] (wX7 q cI cZ cO I A L) (wX7 q cI cZ cO I Az L) := by
  refine mkCV (by decide) (Nat.le_of_ble_eq_true rfl) ?_
  intro p e s m below meth cd Q Z hC hP hE hD hA fin ls hl
  obtain ⟨hx, hb, hml, hown, hts⟩ := hC
  have hown : s.vm.findClass RX7 = some m.cls := hown
  have hl : lv_has ls 2 [(0, .ref (q 0))] := hl
  have b_2 : ∀ n : Nat, ∀ (A : Nat → Nat → Int32) (u1 : Int32), ∀ (H : Heap) (locs : List Loc), va_P G vwCl (wX7 q cI cZ cO I A L) H → va_D Z (wX7 q cI cZ cO I A L) → va_S Z s.heap H locs → ∀ ls : Array Slot, lv_has ls 2 [(0, .ref (q 0)), (1, .int u1)] → fX7_layTrial_2 N n A u1 = some Az → W p l e rmX7_layTrial s m [.ref (q 0)].toArray below meth cd H locs 0 0 Q (F0 m 2 ls []) := by
    intro n
    induction n with
    | zero =>
      intro A u1 H locs hP hD hS ls hl hf
      cases hf
    | succ n hk_2 =>
      intro A u1 H locs hP hD hS ls hl hf
      replace hf : fX7_layTrial_2s N (fX7_layTrial_2 N n) A u1 = some Az := hf
      generalize fX7_layTrial_2 N n = k_2 at hf hk_2
      unfold fX7_layTrial_2s at hf
      refine lv_iload_n hx hb dX7_layTrial_2 rfl (lv_at hl 1 rfl) ?_
      refine lv_bipush (v := 31) hx hb dX7_layTrial_3 (by decide) ?_
      refine lv_icmp_ge (tgt := 29) hx hb dX7_layTrial_5 (by decide) (fun c1 => ?_) (fun c1 => ?_)
      · rw [if_pos c1] at hf
        have e9 := Option.some.inj hf
        exact fin H locs 29 ls (by rw [← e9]; exact hP) hS dX7_layTrial_29
      · rw [if_neg c1] at hf
        refine lv_aload_n hx hb dX7_layTrial_8 rfl (lv_at hl 0 rfl) ?_
        refine va_get (D := G) (ci := 7) (v := .ref (q 6)) (C := RX7) (T := TX7) (N := 33) hx hb hts inlX7 hown hE.1 hP 0 rfl rfl 7 (by decide) (hts _ (bg 3 19 rfl)) (fun _ h9 => h9) rfl dX7_layTrial_9 ?_
        refine lv_bipush (v := 31) hx hb dX7_layTrial_12 (by decide) ?_
        refine lv_iload_n hx hb dX7_layTrial_14 rfl (lv_at hl 1 rfl) ?_
        refine lv_iadd hx hb dX7_layTrial_15 ?_
        refine lv_aload_n hx hb dX7_layTrial_16 rfl (lv_at hl 0 rfl) ?_
        refine va_get (D := G) (ci := 7) (v := .ref (q 6)) (C := RX7) (T := TX7) (N := 33) hx hb hts inlX7 hown hE.1 hP 0 rfl rfl 7 (by decide) (hts _ (bg 3 19 rfl)) (fun _ h9 => h9) rfl dX7_layTrial_17 ?_
        refine lv_iload_n hx hb dX7_layTrial_20 rfl (lv_at hl 1 rfl) ?_
        obtain ⟨v2, hv2, hf⟩ := bnd hf
        refine x_iald hx hb hE.1 hP 6 0 rfl rfl hv2 dX7_layTrial_21 ?_
        obtain ⟨g3, hg3, hf⟩ := bnd hf
        refine x_iast hx hb hE.1 hP hD hS 6 0 rfl rfl hg3 dX7_layTrial_22 (fun H locs hP hD hS => ?_)
        have hP : va_P G vwCl (wX7 q cI cZ cO I (va_up A 5 g3) L) H := hP
        have hD : va_D Z (wX7 q cI cZ cO I (va_up A 5 g3) L) := hD
        refine lv_iinc (v := u1 + 1) (lv' := [(1, .int (u1 + 1)), (0, .ref (q 0))]) hx hb dX7_layTrial_23 hl (k := 1) rfl rfl (by decide) rfl (fun ls hl => ?_)
        refine lv_goto (tgt := 2) hx hb dX7_layTrial_26 (by decide) ?_
        exact hk_2 (va_up A 5 g3) (u1 + 1) H locs hP hD hS ls (lv_sub hl [1, 0] rfl) hf
  unfold fX7_layTrial at hf
  have hS : va_S Z s.heap s.heap [] := va_S.rf
  obtain ⟨H, hH⟩ : ∃ H, H = s.heap := ⟨_, rfl⟩
  obtain ⟨locs, hlocs⟩ : ∃ locs : List Loc, locs = [] := ⟨_, rfl⟩
  rw [← hlocs]
  rw [← hlocs] at hS
  suffices hW : ∀ H : Heap, va_P G vwCl (wX7 q cI cZ cO I A L) H → va_S Z s.heap H locs → W p l e rmX7_layTrial s m [.ref (q 0)].toArray below meth cd H locs 0 0 Q (F0 m 0 ls []) from hW s.heap hP hS
  clear hP hS hH H
  intro H hP hS
  refine lv_iconst (v := 0) hx hb dX7_layTrial_0 (by decide) ?_
  refine lv_istore_n (lv' := [(1, .int 0), (0, .ref (q 0))]) hx hb dX7_layTrial_1 rfl hl (by decide) rfl (fun ls hl => ?_)
  exact b_2 N A 0 H locs hP hD hS ls (lv_sub hl [1, 0] rfl) hf
def fX7_dawnTrial_2s (N : Nat) (k_2 : (Nat → Int32) → (Nat → Nat → Int32) → Int32 → Int32 → Option ((Nat → Nat → Int32))) (I : Nat → Int32) (A : Nat → Nat → Int32) (u1 : Int32) (u2 : Int32) : Option ((Nat → Nat → Int32)) := if u1 ≤ u2 then some A else (fX7_dawnOn N I A 1).bind fun z2 => k_2 I z2.2 u1 (u2 + 1)
def fX7_dawnTrial_2 (N : Nat) : Nat → (Nat → Int32) → (Nat → Nat → Int32) → Int32 → Int32 → Option ((Nat → Nat → Int32))
  | 0 => fun _ _ _ _ => none
  | n + 1 => fX7_dawnTrial_2s N (fX7_dawnTrial_2 N n)
def fX7_dawnTrial (N : Nat) (I : Nat → Int32) (A : Nat → Nat → Int32) (x1 : Int32) : Option ((Nat → Nat → Int32)) := fX7_dawnTrial_2 N N I A x1 0
def rmX7_dawnTrial : Room := { frames := 2, cells := 0, slots := 0, locals := 49 }
theorem mb_X7_dawnTrial : Cond.instanceMethod yX7_dawnTrial ∈ wsL_law ∧ Cond.selects RX7 yX7_dawnTrial yX7_dawnTrial ∈ wsL_law ∧ Cond.initialized RX7 ∈ wsL_law ∧ Cond.code yX7_dawnTrial cX7_dawnTrial 3 none ∈ wsL_law := ⟨(bg 23 7 rfl), (bg 23 8 rfl), (bg 0 5 rfl), (bg 23 9 rfl)⟩
theorem hd_X7_dawnTrial : yX7_dawnTrial.cls = RX7 ∧ yX7_dawnTrial.cls ≠ "java/lang/invoke/MethodHandle" ∧ yX7_dawnTrial.cls ≠ "java/lang/invoke/VarHandle" ∧ (parseMethodDescriptor yX7_dawnTrial.desc).map (fun d => d.parameters.length) = some 1 := by decide +kernel
set_option maxRecDepth 100000 in
set_option maxHeartbeats 4000000 in
theorem ct_X7_dawnTrial (N : Nat) (l : Launch) (G : va_G) (cI cZ cO : ClassId) (q : Nat → Nat) (I : Nat → Int32) (A : Nat → Nat → Int32) (L : Int64) (x1 : Int32) (Az : Nat → Nat → Int32) (hf : fX7_dawnTrial N I A x1 = some Az) : CtV l yX7_dawnTrial cX7_dawnTrial 3 rmX7_dawnTrial G cI cZ cO [.ref (q 0), .int x1] (wX7 q cI cZ cO I A L) (wX7 q cI cZ cO I Az L) := by
  refine mkCV (by decide) (Nat.le_of_ble_eq_true rfl) ?_
  intro p e s m below meth cd Q Z hC hP hE hD hA fin ls hl
  obtain ⟨hx, hb, hml, hown, hts⟩ := hC
  have hown : s.vm.findClass RX7 = some m.cls := hown
  have hl : lv_has ls 3 [(0, .ref (q 0)), (1, .int x1)] := hl
  have b_2 : ∀ n : Nat, ∀ (A : Nat → Nat → Int32) (u1 : Int32) (u2 : Int32), ∀ (H : Heap) (locs : List Loc), va_P G vwCl (wX7 q cI cZ cO I A L) H → va_D Z (wX7 q cI cZ cO I A L) → va_S Z s.heap H locs → ∀ ls : Array Slot, lv_has ls 3 [(0, .ref (q 0)), (1, .int u1), (2, .int u2)] → fX7_dawnTrial_2 N n I A u1 u2 = some Az → W p l e rmX7_dawnTrial s m [.ref (q 0), .int x1].toArray below meth cd H locs 0 0 Q (F0 m 2 ls []) := by
    intro n
    induction n with
    | zero =>
      intro A u1 u2 H locs hP hD hS ls hl hf
      cases hf
    | succ n hk_2 =>
      intro A u1 u2 H locs hP hD hS ls hl hf
      replace hf : fX7_dawnTrial_2s N (fX7_dawnTrial_2 N n) I A u1 u2 = some Az := hf
      generalize fX7_dawnTrial_2 N n = k_2 at hf hk_2
      unfold fX7_dawnTrial_2s at hf
      refine lv_iload_n hx hb dX7_dawnTrial_2 rfl (lv_at hl 2 rfl) ?_
      refine lv_iload_n hx hb dX7_dawnTrial_3 rfl (lv_at hl 1 rfl) ?_
      refine lv_icmp_ge (tgt := 19) hx hb dX7_dawnTrial_4 (by decide) (fun c1 => ?_) (fun c1 => ?_)
      · rw [if_pos c1] at hf
        have e9 := Option.some.inj hf
        exact fin H locs 19 ls (by rw [← e9]; exact hP) hS dX7_dawnTrial_19
      · rw [if_neg c1] at hf
        refine lv_aload_n hx hb dX7_dawnTrial_7 rfl (lv_at hl 0 rfl) ?_
        refine lv_iconst (v := 1) hx hb dX7_dawnTrial_8 (by decide) ?_
        obtain ⟨z2, hz2, hf⟩ := bnd hf
        refine x_wwV (C := RX7) (n := 1) (ci := 7) hx hb hml hown hts hE (ct_X7_dawnOn N l G cI cZ cO q I A L 1 z2.1 z2.2 hz2) (bg 17 7 rfl) mb_X7_dawnOn.1 mb_X7_dawnOn.2.1 mb_X7_dawnOn.2.2.1 mb_X7_dawnOn.2.2.2 hd_X7_dawnOn rfl (by decide) hP hD hS hA rfl rfl rfl rfl rfl hl.1 (Nat.le_of_ble_eq_true rfl) ⟨Nat.zero_le _, Nat.zero_le _⟩ dX7_dawnTrial_9 (fun H locs hP hD hS => ?_)
        have hP : va_P G vwCl (wX7 q cI cZ cO I z2.2 L) H := hP
        have hD : va_D Z (wX7 q cI cZ cO I z2.2 L) := hD
        refine lv_pop hx hb dX7_dawnTrial_12 rfl ?_
        refine lv_iinc (v := u2 + 1) (lv' := [(2, .int (u2 + 1)), (0, .ref (q 0)), (1, .int u1)]) hx hb dX7_dawnTrial_13 hl (k := 2) rfl rfl (by decide) rfl (fun ls hl => ?_)
        refine lv_goto (tgt := 2) hx hb dX7_dawnTrial_16 (by decide) ?_
        exact hk_2 z2.2 u1 (u2 + 1) H locs hP hD hS ls (lv_sub hl [1, 2, 0] rfl) hf
  unfold fX7_dawnTrial at hf
  have hS : va_S Z s.heap s.heap [] := va_S.rf
  obtain ⟨H, hH⟩ : ∃ H, H = s.heap := ⟨_, rfl⟩
  obtain ⟨locs, hlocs⟩ : ∃ locs : List Loc, locs = [] := ⟨_, rfl⟩
  rw [← hlocs]
  rw [← hlocs] at hS
  suffices hW : ∀ H : Heap, va_P G vwCl (wX7 q cI cZ cO I A L) H → va_S Z s.heap H locs → W p l e rmX7_dawnTrial s m [.ref (q 0), .int x1].toArray below meth cd H locs 0 0 Q (F0 m 0 ls []) from hW s.heap hP hS
  clear hP hS hH H
  intro H hP hS
  refine lv_iconst (v := 0) hx hb dX7_dawnTrial_0 (by decide) ?_
  refine lv_istore_n (lv' := [(2, .int 0), (0, .ref (q 0)), (1, .int x1)]) hx hb dX7_dawnTrial_1 rfl hl (by decide) rfl (fun ls hl => ?_)
  exact b_2 N A x1 0 H locs hP hD hS ls (lv_sub hl [1, 2, 0] rfl) hf
def fX7_worth (N : Nat) (I : Nat → Int32) (A : Nat → Nat → Int32) (x1 : Int32) (x2 : Int32) : Option (Int32 × (Nat → Nat → Int32)) := (fX7_isRumour N I x1).bind fun z1 => if z1 = 0 then some ((-1), A) else (fX7_in N (Int32.toInt64 x2) 0 8).bind fun z3 => if z3 = 0 then some ((-2), A) else (fX7_layTrial N A).bind fun z5 => (fX7_dawnTrial N I z5 x2).bind fun z6 => (fX7_worthOf N z6 1 x1).bind fun z7 => some (z7, z6)
def rmX7_worth : Room := { frames := 3, cells := 0, slots := 0, locals := 71 }
theorem mb_X7_worth : Cond.instanceMethod yX7_worth ∈ wsL_law ∧ Cond.selects RX7 yX7_worth yX7_worth ∈ wsL_law ∧ Cond.initialized RX7 ∈ wsL_law ∧ Cond.code yX7_worth cX7_worth 3 (some .int) ∈ wsL_law := ⟨(bg 22 22 rfl), (bg 22 23 rfl), (bg 0 5 rfl), (bg 23 0 rfl)⟩
theorem hd_X7_worth : yX7_worth.cls = RX7 ∧ yX7_worth.cls ≠ "java/lang/invoke/MethodHandle" ∧ yX7_worth.cls ≠ "java/lang/invoke/VarHandle" ∧ (parseMethodDescriptor yX7_worth.desc).map (fun d => d.parameters.length) = some 2 := by decide +kernel
set_option maxRecDepth 100000 in
set_option maxHeartbeats 4000000 in
theorem ct_X7_worth (N : Nat) (l : Launch) (G : va_G) (cI cZ cO : ClassId) (q : Nat → Nat) (I : Nat → Int32) (A : Nat → Nat → Int32) (L : Int64) (x1 : Int32) (x2 : Int32) (r : Int32) (Az : Nat → Nat → Int32) (hf : fX7_worth N I A x1 x2 = some (r, Az)) : CtI l yX7_worth cX7_worth 3 .int rmX7_worth G cI cZ cO [.ref (q 0), .int x1, .int x2] (wX7 q cI cZ cO I A L) (wX7 q cI cZ cO I Az L) r := by
  refine mkCI (by decide) (Nat.le_of_ble_eq_true rfl) ?_
  intro p e s m below meth cd Q Z hC hP hE hD hA fin ls hl
  obtain ⟨hx, hb, hml, hown, hts⟩ := hC
  have hown : s.vm.findClass RX7 = some m.cls := hown
  have hl : lv_has ls 3 [(0, .ref (q 0)), (1, .int x1), (2, .int x2)] := hl
  unfold fX7_worth at hf
  have hS : va_S Z s.heap s.heap [] := va_S.rf
  obtain ⟨H, hH⟩ : ∃ H, H = s.heap := ⟨_, rfl⟩
  obtain ⟨locs, hlocs⟩ : ∃ locs : List Loc, locs = [] := ⟨_, rfl⟩
  rw [← hlocs]
  rw [← hlocs] at hS
  suffices hW : ∀ H : Heap, va_P G vwCl (wX7 q cI cZ cO I A L) H → va_S Z s.heap H locs → W p l e rmX7_worth s m [.ref (q 0), .int x1, .int x2].toArray below meth cd H locs 0 0 Q (F0 m 0 ls []) from hW s.heap hP hS
  clear hP hS hH H
  intro H hP hS
  refine lv_aload_n hx hb dX7_worth_0 rfl (lv_at hl 0 rfl) ?_
  refine lv_iload_n hx hb dX7_worth_1 rfl (lv_at hl 1 rfl) ?_
  obtain ⟨z1, hz1, hf⟩ := bnd hf
  refine x_rdV (C := RX7) (n := 1) (ci := 7) hx hb hml hown hts hE (ct_X7_isRumour N l G cI cZ cO q I A L x1 z1 hz1) (bg 13 6 rfl) mb_X7_isRumour.1 mb_X7_isRumour.2.1 mb_X7_isRumour.2.2.1 mb_X7_isRumour.2.2.2 hd_X7_isRumour rfl (by decide) hP rfl rfl rfl rfl hl.1 (Nat.le_of_ble_eq_true rfl) ⟨Nat.zero_le _, Nat.zero_le _⟩ dX7_worth_2 ?_
  refine lv_if_ne (tgt := 10) hx hb dX7_worth_5 (by decide) (fun c2 => ?_) (fun c2 => ?_)
  · rw [if_neg c2] at hf
    refine lv_iload_n hx hb dX7_worth_10 rfl (lv_at hl 2 rfl) ?_
    refine lv_i2l (v := Int32.toInt64 x2) hx hb dX7_worth_11 rfl ?_
    refine lv_lconst (v := 0) hx hb dX7_worth_12 (by decide) ?_
    refine lv_ldc2 hx hb hown (hts _ (bg 23 1 rfl)) dX7_worth_13 ?_
    obtain ⟨z3, hz3, hf⟩ := bnd hf
    refine x_rdS (n := 3) hx hb hml hown hts hE (ct_X7_in N l G cI cZ cO (Int32.toInt64 x2) 0 8 z3 hz3) (bg 5 9 rfl) mb_X7_in.1 mb_X7_in.2.1 mb_X7_in.2.2 hd_X7_in rfl (by decide) va_P_nil rfl hl.1 (Nat.le_of_ble_eq_true rfl) ⟨Nat.zero_le _, Nat.zero_le _⟩ dX7_worth_16 ?_
    refine lv_if_ne (tgt := 25) hx hb dX7_worth_19 (by decide) (fun c4 => ?_) (fun c4 => ?_)
    · rw [if_neg c4] at hf
      refine lv_aload_n hx hb dX7_worth_25 rfl (lv_at hl 0 rfl) ?_
      obtain ⟨z5, hz5, hf⟩ := bnd hf
      refine x_wwVv (C := RX7) (n := 0) (ci := 7) hx hb hml hown hts hE (ct_X7_layTrial N l G cI cZ cO q I A L z5 hz5) (bg 23 2 rfl) mb_X7_layTrial.1 mb_X7_layTrial.2.1 mb_X7_layTrial.2.2.1 mb_X7_layTrial.2.2.2 hd_X7_layTrial rfl (by decide) hP hD hS hA rfl rfl rfl rfl rfl hl.1 (Nat.le_of_ble_eq_true rfl) ⟨Nat.zero_le _, Nat.zero_le _⟩ dX7_worth_26 (fun H locs hP hD hS => ?_)
      have hP : va_P G vwCl (wX7 q cI cZ cO I z5 L) H := hP
      have hD : va_D Z (wX7 q cI cZ cO I z5 L) := hD
      refine lv_aload_n hx hb dX7_worth_29 rfl (lv_at hl 0 rfl) ?_
      refine lv_iload_n hx hb dX7_worth_30 rfl (lv_at hl 2 rfl) ?_
      obtain ⟨z6, hz6, hf⟩ := bnd hf
      refine x_wwVv (C := RX7) (n := 1) (ci := 7) hx hb hml hown hts hE (ct_X7_dawnTrial N l G cI cZ cO q I z5 L x2 z6 hz6) (bg 23 6 rfl) mb_X7_dawnTrial.1 mb_X7_dawnTrial.2.1 mb_X7_dawnTrial.2.2.1 mb_X7_dawnTrial.2.2.2 hd_X7_dawnTrial rfl (by decide) hP hD hS hA rfl rfl rfl rfl rfl hl.1 (Nat.le_of_ble_eq_true rfl) ⟨Nat.zero_le _, Nat.zero_le _⟩ dX7_worth_31 (fun H locs hP hD hS => ?_)
      have hP : va_P G vwCl (wX7 q cI cZ cO I z6 L) H := hP
      have hD : va_D Z (wX7 q cI cZ cO I z6 L) := hD
      refine lv_aload_n hx hb dX7_worth_34 rfl (lv_at hl 0 rfl) ?_
      refine lv_iconst (v := 1) hx hb dX7_worth_35 (by decide) ?_
      refine lv_iload_n hx hb dX7_worth_36 rfl (lv_at hl 1 rfl) ?_
      obtain ⟨z7, hz7, hf⟩ := bnd hf
      refine x_rdV (C := RX7) (n := 2) (ci := 7) hx hb hml hown hts hE (ct_X7_worthOf N l G cI cZ cO q I z6 L 1 x1 z7 hz7) (bg 21 15 rfl) mb_X7_worthOf.1 mb_X7_worthOf.2.1 mb_X7_worthOf.2.2.1 mb_X7_worthOf.2.2.2 hd_X7_worthOf rfl (by decide) hP rfl rfl rfl rfl hl.1 (Nat.le_of_ble_eq_true rfl) ⟨Nat.zero_le _, Nat.zero_le _⟩ dX7_worth_37 ?_
      have e9 := Option.some.inj hf
      exact fin H locs 40 ls _ (Prod.mk.inj e9).1 (nar_i _) (by rw [← (Prod.mk.inj e9).2]; exact hP) hS dX7_worth_40
    · rw [if_pos c4] at hf
      refine lv_bipush (v := (-2)) hx hb dX7_worth_22 (by decide) ?_
      have e9 := Option.some.inj hf
      exact fin H locs 24 ls _ (Prod.mk.inj e9).1 (nar_i _) (by rw [← (Prod.mk.inj e9).2]; exact hP) hS dX7_worth_24
  · rw [if_pos c2] at hf
    refine lv_iconst (v := (-1)) hx hb dX7_worth_8 (by decide) ?_
    have e9 := Option.some.inj hf
    exact fin H locs 9 ls _ (Prod.mk.inj e9).1 (nar_i _) (by rw [← (Prod.mk.inj e9).2]; exact hP) hS dX7_worth_9
def fX7_purseOf_5s (N : Nat) (k_5 : (Nat → Int32) → (Nat → Nat → Int32) → Int32 → Int32 → Int32 → Int32 → Option (Int32)) (I : Nat → Int32) (A : Nat → Nat → Int32) (u1 : Int32) (u2 : Int32) (u3 : Int32) (u4 : Int32) : Option (Int32) := if (I 0) ≤ u4 then some u3 else (fX7_coinAt N u1 u2 u4).bind fun z2 => (rd 62 (A 5) z2).bind fun v3 => (fX7_worthOf N A u1 u4).bind fun z4 => k_5 I A u1 u2 (u3 + (v3 * z4)) (u4 + 1)
def fX7_purseOf_5 (N : Nat) : Nat → (Nat → Int32) → (Nat → Nat → Int32) → Int32 → Int32 → Int32 → Int32 → Option (Int32)
  | 0 => fun _ _ _ _ _ _ => none
  | n + 1 => fX7_purseOf_5s N (fX7_purseOf_5 N n)
def fX7_purseOf (N : Nat) (I : Nat → Int32) (A : Nat → Nat → Int32) (x1 : Int32) (x2 : Int32) : Option (Int32) := fX7_purseOf_5 N N I A x1 x2 0 0
def rmX7_purseOf : Room := { frames := 2, cells := 0, slots := 0, locals := 45 }
theorem mb_X7_purseOf : Cond.instanceMethod yX7_purseOf ∈ wsL_law ∧ Cond.selects RX7 yX7_purseOf yX7_purseOf ∈ wsL_law ∧ Cond.initialized RX7 ∈ wsL_law ∧ Cond.code yX7_purseOf cX7_purseOf 5 (some .int) ∈ wsL_law := ⟨(bg 24 5 rfl), (bg 24 6 rfl), (bg 0 5 rfl), (bg 24 7 rfl)⟩
theorem hd_X7_purseOf : yX7_purseOf.cls = RX7 ∧ yX7_purseOf.cls ≠ "java/lang/invoke/MethodHandle" ∧ yX7_purseOf.cls ≠ "java/lang/invoke/VarHandle" ∧ (parseMethodDescriptor yX7_purseOf.desc).map (fun d => d.parameters.length) = some 2 := by decide +kernel
set_option maxRecDepth 100000 in
set_option maxHeartbeats 4000000 in
theorem ct_X7_purseOf (N : Nat) (l : Launch) (G : va_G) (cI cZ cO : ClassId) (q : Nat → Nat) (I : Nat → Int32) (A : Nat → Nat → Int32) (L : Int64) (x1 : Int32) (x2 : Int32) (r : Int32) (hf : fX7_purseOf N I A x1 x2 = some r) : RtI l yX7_purseOf cX7_purseOf 5 .int rmX7_purseOf G cI cZ cO [.ref (q 0), .int x1, .int x2] (wX7 q cI cZ cO I A L) r := by
  refine mkRI (by decide) (Nat.le_of_ble_eq_true rfl) ?_
  intro p e s m below meth cd Q hC hP hE fin ls hl
  obtain ⟨hx, hb, hml, hown, hts⟩ := hC
  have hown : s.vm.findClass RX7 = some m.cls := hown
  have hl : lv_has ls 5 [(0, .ref (q 0)), (1, .int x1), (2, .int x2)] := hl
  have b_5 : ∀ n : Nat, ∀ (u1 : Int32) (u2 : Int32) (u3 : Int32) (u4 : Int32), ∀ ls : Array Slot, lv_has ls 5 [(0, .ref (q 0)), (1, .int u1), (2, .int u2), (3, .int u3), (4, .int u4)] → fX7_purseOf_5 N n I A u1 u2 u3 u4 = some r → W p l e rmX7_purseOf s m [.ref (q 0), .int x1, .int x2].toArray below meth cd s.heap [] 0 0 Q (F0 m 5 ls []) := by
    intro n
    induction n with
    | zero =>
      intro u1 u2 u3 u4 ls hl hf
      cases hf
    | succ n hk_5 =>
      intro u1 u2 u3 u4 ls hl hf
      replace hf : fX7_purseOf_5s N (fX7_purseOf_5 N n) I A u1 u2 u3 u4 = some r := hf
      generalize fX7_purseOf_5 N n = k_5 at hf hk_5
      unfold fX7_purseOf_5s at hf
      refine lv_iload hx hb dX7_purseOf_5 (lv_at hl 4 rfl) ?_
      refine lv_aload_n hx hb dX7_purseOf_7 rfl (lv_at hl 0 rfl) ?_
      refine va_get (D := G) (ci := 7) (v := .int ((I 0))) (C := RX7) (T := TX7) (N := 33) hx hb hts inlX7 hown hE.1 hP 0 rfl rfl 0 (by decide) (hts _ (bg 4 12 rfl)) (fun _ h9 => h9) rfl dX7_purseOf_8 ?_
      refine lv_icmp_ge (tgt := 44) hx hb dX7_purseOf_11 (by decide) (fun c1 => ?_) (fun c1 => ?_)
      · rw [if_pos c1] at hf
        refine lv_iload_n hx hb dX7_purseOf_44 rfl (lv_at hl 3 rfl) ?_
        have e9 := Option.some.inj hf
        exact fin 45 ls _ e9 (nar_i _) dX7_purseOf_45
      · rw [if_neg c1] at hf
        refine lv_iload_n hx hb dX7_purseOf_14 rfl (lv_at hl 3 rfl) ?_
        refine lv_aload_n hx hb dX7_purseOf_15 rfl (lv_at hl 0 rfl) ?_
        refine va_get (D := G) (ci := 7) (v := .ref (q 6)) (C := RX7) (T := TX7) (N := 33) hx hb hts inlX7 hown hE.1 hP 0 rfl rfl 7 (by decide) (hts _ (bg 3 19 rfl)) (fun _ h9 => h9) rfl dX7_purseOf_16 ?_
        refine lv_aload_n hx hb dX7_purseOf_19 rfl (lv_at hl 0 rfl) ?_
        refine lv_iload_n hx hb dX7_purseOf_20 rfl (lv_at hl 1 rfl) ?_
        refine lv_iload_n hx hb dX7_purseOf_21 rfl (lv_at hl 2 rfl) ?_
        refine lv_iload hx hb dX7_purseOf_22 (lv_at hl 4 rfl) ?_
        obtain ⟨z2, hz2, hf⟩ := bnd hf
        refine x_rdV (C := RX7) (n := 3) (ci := 7) hx hb hml hown hts hE (ct_X7_coinAt N l G cI cZ cO q I A L u1 u2 u4 z2 hz2) (bg 14 19 rfl) mb_X7_coinAt.1 mb_X7_coinAt.2.1 mb_X7_coinAt.2.2.1 mb_X7_coinAt.2.2.2 hd_X7_coinAt rfl (by decide) hP rfl rfl rfl rfl hl.1 (Nat.le_of_ble_eq_true rfl) ⟨Nat.zero_le _, Nat.zero_le _⟩ dX7_purseOf_24 ?_
        obtain ⟨v3, hv3, hf⟩ := bnd hf
        refine x_iald hx hb hE.1 hP 6 0 rfl rfl hv3 dX7_purseOf_27 ?_
        refine lv_aload_n hx hb dX7_purseOf_28 rfl (lv_at hl 0 rfl) ?_
        refine lv_iload_n hx hb dX7_purseOf_29 rfl (lv_at hl 1 rfl) ?_
        refine lv_iload hx hb dX7_purseOf_30 (lv_at hl 4 rfl) ?_
        obtain ⟨z4, hz4, hf⟩ := bnd hf
        refine x_rdV (C := RX7) (n := 2) (ci := 7) hx hb hml hown hts hE (ct_X7_worthOf N l G cI cZ cO q I A L u1 u4 z4 hz4) (bg 21 15 rfl) mb_X7_worthOf.1 mb_X7_worthOf.2.1 mb_X7_worthOf.2.2.1 mb_X7_worthOf.2.2.2 hd_X7_worthOf rfl (by decide) hP rfl rfl rfl rfl hl.1 (Nat.le_of_ble_eq_true rfl) ⟨Nat.zero_le _, Nat.zero_le _⟩ dX7_purseOf_32 ?_
        refine lv_imul hx hb dX7_purseOf_35 ?_
        refine lv_iadd hx hb dX7_purseOf_36 ?_
        refine lv_istore_n (lv' := [(3, .int (u3 + (v3 * z4))), (0, .ref (q 0)), (1, .int u1), (2, .int u2), (4, .int u4)]) hx hb dX7_purseOf_37 rfl hl (by decide) rfl (fun ls hl => ?_)
        refine lv_iinc (v := u4 + 1) (lv' := [(4, .int (u4 + 1)), (3, .int (u3 + (v3 * z4))), (0, .ref (q 0)), (1, .int u1), (2, .int u2)]) hx hb dX7_purseOf_38 hl (k := 4) rfl rfl (by decide) rfl (fun ls hl => ?_)
        refine lv_goto (tgt := 5) hx hb dX7_purseOf_41 (by decide) ?_
        exact hk_5 u1 u2 (u3 + (v3 * z4)) (u4 + 1) ls (lv_sub hl [2, 3, 4, 1, 0] rfl) hf
  unfold fX7_purseOf at hf
  refine lv_iconst (v := 0) hx hb dX7_purseOf_0 (by decide) ?_
  refine lv_istore_n (lv' := [(3, .int 0), (0, .ref (q 0)), (1, .int x1), (2, .int x2)]) hx hb dX7_purseOf_1 rfl hl (by decide) rfl (fun ls hl => ?_)
  refine lv_iconst (v := 0) hx hb dX7_purseOf_2 (by decide) ?_
  refine lv_istore (lv' := [(4, .int 0), (3, .int 0), (0, .ref (q 0)), (1, .int x1), (2, .int x2)]) hx hb dX7_purseOf_3 hl (by decide) rfl (fun ls hl => ?_)
  exact b_5 N x1 x2 0 0 ls (lv_sub hl [2, 3, 4, 1, 0] rfl) hf
def fX7_purse (N : Nat) (I : Nat → Int32) (A : Nat → Nat → Int32) (x1 : Int32) (x2 : Int32) : Option (Int32 × (Nat → Nat → Int32)) := (fX7_isPerson N I x1).bind fun z1 => if z1 = 0 then some ((-1), A) else (fX7_in N (Int32.toInt64 x2) 0 8).bind fun z3 => if z3 = 0 then some ((-2), A) else (fX7_layTrial N A).bind fun z5 => (fX7_dawnTrial N I z5 x2).bind fun z6 => (fX7_purseOf N I z6 1 x1).bind fun z7 => some (z7, z6)
def rmX7_purse : Room := { frames := 3, cells := 0, slots := 0, locals := 71 }
theorem mb_X7_purse : Cond.instanceMethod yX7_purse ∈ wsL_law ∧ Cond.selects RX7 yX7_purse yX7_purse ∈ wsL_law ∧ Cond.initialized RX7 ∈ wsL_law ∧ Cond.code yX7_purse cX7_purse 3 (some .int) ∈ wsL_law := ⟨(bg 24 1 rfl), (bg 24 2 rfl), (bg 0 5 rfl), (bg 24 3 rfl)⟩
theorem hd_X7_purse : yX7_purse.cls = RX7 ∧ yX7_purse.cls ≠ "java/lang/invoke/MethodHandle" ∧ yX7_purse.cls ≠ "java/lang/invoke/VarHandle" ∧ (parseMethodDescriptor yX7_purse.desc).map (fun d => d.parameters.length) = some 2 := by decide +kernel
set_option maxRecDepth 100000 in
set_option maxHeartbeats 4000000 in
theorem ct_X7_purse (N : Nat) (l : Launch) (G : va_G) (cI cZ cO : ClassId) (q : Nat → Nat) (I : Nat → Int32) (A : Nat → Nat → Int32) (L : Int64) (x1 : Int32) (x2 : Int32) (r : Int32) (Az : Nat → Nat → Int32) (hf : fX7_purse N I A x1 x2 = some (r, Az)) : CtI l yX7_purse cX7_purse 3 .int rmX7_purse G cI cZ cO [.ref (q 0), .int x1, .int x2] (wX7 q cI cZ cO I A L) (wX7 q cI cZ cO I Az L) r := by
  refine mkCI (by decide) (Nat.le_of_ble_eq_true rfl) ?_
  intro p e s m below meth cd Q Z hC hP hE hD hA fin ls hl
  obtain ⟨hx, hb, hml, hown, hts⟩ := hC
  have hown : s.vm.findClass RX7 = some m.cls := hown
  have hl : lv_has ls 3 [(0, .ref (q 0)), (1, .int x1), (2, .int x2)] := hl
  unfold fX7_purse at hf
  have hS : va_S Z s.heap s.heap [] := va_S.rf
  obtain ⟨H, hH⟩ : ∃ H, H = s.heap := ⟨_, rfl⟩
  obtain ⟨locs, hlocs⟩ : ∃ locs : List Loc, locs = [] := ⟨_, rfl⟩
  rw [← hlocs]
  rw [← hlocs] at hS
  suffices hW : ∀ H : Heap, va_P G vwCl (wX7 q cI cZ cO I A L) H → va_S Z s.heap H locs → W p l e rmX7_purse s m [.ref (q 0), .int x1, .int x2].toArray below meth cd H locs 0 0 Q (F0 m 0 ls []) from hW s.heap hP hS
  clear hP hS hH H
  intro H hP hS
  refine lv_aload_n hx hb dX7_purse_0 rfl (lv_at hl 0 rfl) ?_
  refine lv_iload_n hx hb dX7_purse_1 rfl (lv_at hl 1 rfl) ?_
  obtain ⟨z1, hz1, hf⟩ := bnd hf
  refine x_rdV (C := RX7) (n := 1) (ci := 7) hx hb hml hown hts hE (ct_X7_isPerson N l G cI cZ cO q I A L x1 z1 hz1) (bg 14 3 rfl) mb_X7_isPerson.1 mb_X7_isPerson.2.1 mb_X7_isPerson.2.2.1 mb_X7_isPerson.2.2.2 hd_X7_isPerson rfl (by decide) hP rfl rfl rfl rfl hl.1 (Nat.le_of_ble_eq_true rfl) ⟨Nat.zero_le _, Nat.zero_le _⟩ dX7_purse_2 ?_
  refine lv_if_ne (tgt := 10) hx hb dX7_purse_5 (by decide) (fun c2 => ?_) (fun c2 => ?_)
  · rw [if_neg c2] at hf
    refine lv_iload_n hx hb dX7_purse_10 rfl (lv_at hl 2 rfl) ?_
    refine lv_i2l (v := Int32.toInt64 x2) hx hb dX7_purse_11 rfl ?_
    refine lv_lconst (v := 0) hx hb dX7_purse_12 (by decide) ?_
    refine lv_ldc2 hx hb hown (hts _ (bg 23 1 rfl)) dX7_purse_13 ?_
    obtain ⟨z3, hz3, hf⟩ := bnd hf
    refine x_rdS (n := 3) hx hb hml hown hts hE (ct_X7_in N l G cI cZ cO (Int32.toInt64 x2) 0 8 z3 hz3) (bg 5 9 rfl) mb_X7_in.1 mb_X7_in.2.1 mb_X7_in.2.2 hd_X7_in rfl (by decide) va_P_nil rfl hl.1 (Nat.le_of_ble_eq_true rfl) ⟨Nat.zero_le _, Nat.zero_le _⟩ dX7_purse_16 ?_
    refine lv_if_ne (tgt := 25) hx hb dX7_purse_19 (by decide) (fun c4 => ?_) (fun c4 => ?_)
    · rw [if_neg c4] at hf
      refine lv_aload_n hx hb dX7_purse_25 rfl (lv_at hl 0 rfl) ?_
      obtain ⟨z5, hz5, hf⟩ := bnd hf
      refine x_wwVv (C := RX7) (n := 0) (ci := 7) hx hb hml hown hts hE (ct_X7_layTrial N l G cI cZ cO q I A L z5 hz5) (bg 23 2 rfl) mb_X7_layTrial.1 mb_X7_layTrial.2.1 mb_X7_layTrial.2.2.1 mb_X7_layTrial.2.2.2 hd_X7_layTrial rfl (by decide) hP hD hS hA rfl rfl rfl rfl rfl hl.1 (Nat.le_of_ble_eq_true rfl) ⟨Nat.zero_le _, Nat.zero_le _⟩ dX7_purse_26 (fun H locs hP hD hS => ?_)
      have hP : va_P G vwCl (wX7 q cI cZ cO I z5 L) H := hP
      have hD : va_D Z (wX7 q cI cZ cO I z5 L) := hD
      refine lv_aload_n hx hb dX7_purse_29 rfl (lv_at hl 0 rfl) ?_
      refine lv_iload_n hx hb dX7_purse_30 rfl (lv_at hl 2 rfl) ?_
      obtain ⟨z6, hz6, hf⟩ := bnd hf
      refine x_wwVv (C := RX7) (n := 1) (ci := 7) hx hb hml hown hts hE (ct_X7_dawnTrial N l G cI cZ cO q I z5 L x2 z6 hz6) (bg 23 6 rfl) mb_X7_dawnTrial.1 mb_X7_dawnTrial.2.1 mb_X7_dawnTrial.2.2.1 mb_X7_dawnTrial.2.2.2 hd_X7_dawnTrial rfl (by decide) hP hD hS hA rfl rfl rfl rfl rfl hl.1 (Nat.le_of_ble_eq_true rfl) ⟨Nat.zero_le _, Nat.zero_le _⟩ dX7_purse_31 (fun H locs hP hD hS => ?_)
      have hP : va_P G vwCl (wX7 q cI cZ cO I z6 L) H := hP
      have hD : va_D Z (wX7 q cI cZ cO I z6 L) := hD
      refine lv_aload_n hx hb dX7_purse_34 rfl (lv_at hl 0 rfl) ?_
      refine lv_iconst (v := 1) hx hb dX7_purse_35 (by decide) ?_
      refine lv_iload_n hx hb dX7_purse_36 rfl (lv_at hl 1 rfl) ?_
      obtain ⟨z7, hz7, hf⟩ := bnd hf
      refine x_rdV (C := RX7) (n := 2) (ci := 7) hx hb hml hown hts hE (ct_X7_purseOf N l G cI cZ cO q I z6 L 1 x1 z7 hz7) (bg 24 4 rfl) mb_X7_purseOf.1 mb_X7_purseOf.2.1 mb_X7_purseOf.2.2.1 mb_X7_purseOf.2.2.2 hd_X7_purseOf rfl (by decide) hP rfl rfl rfl rfl hl.1 (Nat.le_of_ble_eq_true rfl) ⟨Nat.zero_le _, Nat.zero_le _⟩ dX7_purse_37 ?_
      have e9 := Option.some.inj hf
      exact fin H locs 40 ls _ (Prod.mk.inj e9).1 (nar_i _) (by rw [← (Prod.mk.inj e9).2]; exact hP) hS dX7_purse_40
    · rw [if_pos c4] at hf
      refine lv_bipush (v := (-2)) hx hb dX7_purse_22 (by decide) ?_
      have e9 := Option.some.inj hf
      exact fin H locs 24 ls _ (Prod.mk.inj e9).1 (nar_i _) (by rw [← (Prod.mk.inj e9).2]; exact hP) hS dX7_purse_24
  · rw [if_pos c2] at hf
    refine lv_iconst (v := (-1)) hx hb dX7_purse_8 (by decide) ?_
    have e9 := Option.some.inj hf
    exact fin H locs 9 ls _ (Prod.mk.inj e9).1 (nar_i _) (by rw [← (Prod.mk.inj e9).2]; exact hP) hS dX7_purse_9
def fX7_bestDay_76 (N : Nat) (k_26 : (Nat → Int32) → (Nat → Nat → Int32) → Int32 → Int32 → Int32 → Int32 → Option (Int32 × (Nat → Nat → Int32))) (I : Nat → Int32) (A : Nat → Nat → Int32) (u1 : Int32) (u2 : Int32) (u4 : Int32) (y0 : Int32) : Option (Int32 × (Nat → Nat → Int32)) := k_26 I A u1 u2 y0 (u4 + 1)
def fX7_bestDay_55 (N : Nat) (k_26 : (Nat → Int32) → (Nat → Nat → Int32) → Int32 → Int32 → Int32 → Int32 → Option (Int32 × (Nat → Nat → Int32))) (I : Nat → Int32) (A : Nat → Nat → Int32) (u1 : Int32) (u3 : Int32) (u4 : Int32) (y0 : Int32) : Option (Int32 × (Nat → Nat → Int32)) := (fX7_purseOf N I A 1 u1).bind fun z1 => if z1 ≤ u3 then fX7_bestDay_76 N k_26 I A u1 y0 u4 u3 else (fX7_purseOf N I A 1 u1).bind fun z3 => fX7_bestDay_76 N k_26 I A u1 y0 u4 z3
def fX7_bestDay_26s (N : Nat) (k_26 : (Nat → Int32) → (Nat → Nat → Int32) → Int32 → Int32 → Int32 → Int32 → Option (Int32 × (Nat → Nat → Int32))) (I : Nat → Int32) (A : Nat → Nat → Int32) (u1 : Int32) (u2 : Int32) (u3 : Int32) (u4 : Int32) : Option (Int32 × (Nat → Nat → Int32)) := if 8 < u4 then some (u2, A) else (fX7_dawnOn N I A 1).bind fun z2 => (fX7_purseOf N I z2.2 1 u1).bind fun z3 => if z3 ≤ u3 then fX7_bestDay_55 N k_26 I z2.2 u1 u3 u4 u2 else fX7_bestDay_55 N k_26 I z2.2 u1 u3 u4 u4
def fX7_bestDay_26 (N : Nat) : Nat → (Nat → Int32) → (Nat → Nat → Int32) → Int32 → Int32 → Int32 → Int32 → Option (Int32 × (Nat → Nat → Int32))
  | 0 => fun _ _ _ _ _ _ => none
  | n + 1 => fX7_bestDay_26s N (fX7_bestDay_26 N n)
def fX7_bestDay (N : Nat) (I : Nat → Int32) (A : Nat → Nat → Int32) (x1 : Int32) : Option (Int32 × (Nat → Nat → Int32)) := (fX7_isPerson N I x1).bind fun z1 => if z1 = 0 then some ((-1), A) else (fX7_layTrial N A).bind fun z3 => (fX7_purseOf N I z3 1 x1).bind fun z4 => fX7_bestDay_26 N N I z3 x1 0 z4 1
def rmX7_bestDay : Room := { frames := 3, cells := 0, slots := 0, locals := 69 }
theorem mb_X7_bestDay : Cond.instanceMethod yX7_bestDay ∈ wsL_law ∧ Cond.selects RX7 yX7_bestDay yX7_bestDay ∈ wsL_law ∧ Cond.initialized RX7 ∈ wsL_law ∧ Cond.code yX7_bestDay cX7_bestDay 5 (some .int) ∈ wsL_law := ⟨(bg 25 1 rfl), (bg 25 2 rfl), (bg 0 5 rfl), (bg 25 3 rfl)⟩
theorem hd_X7_bestDay : yX7_bestDay.cls = RX7 ∧ yX7_bestDay.cls ≠ "java/lang/invoke/MethodHandle" ∧ yX7_bestDay.cls ≠ "java/lang/invoke/VarHandle" ∧ (parseMethodDescriptor yX7_bestDay.desc).map (fun d => d.parameters.length) = some 1 := by decide +kernel
set_option maxRecDepth 100000 in
set_option maxHeartbeats 4000000 in
theorem ct_X7_bestDay (N : Nat) (l : Launch) (G : va_G) (cI cZ cO : ClassId) (q : Nat → Nat) (I : Nat → Int32) (A : Nat → Nat → Int32) (L : Int64) (x1 : Int32) (r : Int32) (Az : Nat → Nat → Int32) (hf : fX7_bestDay N I A x1 = some (r, Az)) : CtI l yX7_bestDay cX7_bestDay 5 .int rmX7_bestDay G cI cZ cO [.ref (q 0), .int x1] (wX7 q cI cZ cO I A L) (wX7 q cI cZ cO I Az L) r := by
  refine mkCI (by decide) (Nat.le_of_ble_eq_true rfl) ?_
  intro p e s m below meth cd Q Z hC hP hE hD hA fin ls hl
  obtain ⟨hx, hb, hml, hown, hts⟩ := hC
  have hown : s.vm.findClass RX7 = some m.cls := hown
  have hl : lv_has ls 5 [(0, .ref (q 0)), (1, .int x1)] := hl
  have b_76 : ∀ (k_26 : (Nat → Int32) → (Nat → Nat → Int32) → Int32 → Int32 → Int32 → Int32 → Option (Int32 × (Nat → Nat → Int32))) (hk_26 : ∀ (A : Nat → Nat → Int32) (u1 : Int32) (u2 : Int32) (u3 : Int32) (u4 : Int32), ∀ (H : Heap) (locs : List Loc), va_P G vwCl (wX7 q cI cZ cO I A L) H → va_D Z (wX7 q cI cZ cO I A L) → va_S Z s.heap H locs → ∀ ls : Array Slot, lv_has ls 5 [(0, .ref (q 0)), (1, .int u1), (2, .int u2), (3, .int u3), (4, .int u4)] → k_26 I A u1 u2 u3 u4 = some (r, Az) → W p l e rmX7_bestDay s m [.ref (q 0), .int x1].toArray below meth cd H locs 0 0 Q (F0 m 26 ls [])), ∀ (A : Nat → Nat → Int32) (u1 : Int32) (u2 : Int32) (u4 : Int32) (y0 : Int32), ∀ (H : Heap) (locs : List Loc), va_P G vwCl (wX7 q cI cZ cO I A L) H → va_D Z (wX7 q cI cZ cO I A L) → va_S Z s.heap H locs → ∀ ls : Array Slot, lv_has ls 5 [(0, .ref (q 0)), (1, .int u1), (2, .int u2), (4, .int u4)] → fX7_bestDay_76 N k_26 I A u1 u2 u4 y0 = some (r, Az) → W p l e rmX7_bestDay s m [.ref (q 0), .int x1].toArray below meth cd H locs 0 0 Q (F0 m 76 ls [.int y0]) := by
    intro k_26 hk_26 A u1 u2 u4 y0 H locs hP hD hS ls hl hf
    unfold fX7_bestDay_76 at hf
    refine lv_istore_n (lv' := [(3, .int y0), (0, .ref (q 0)), (1, .int u1), (2, .int u2), (4, .int u4)]) hx hb dX7_bestDay_76 rfl hl (by decide) rfl (fun ls hl => ?_)
    refine lv_iinc (v := u4 + 1) (lv' := [(4, .int (u4 + 1)), (3, .int y0), (0, .ref (q 0)), (1, .int u1), (2, .int u2)]) hx hb dX7_bestDay_77 hl (k := 4) rfl rfl (by decide) rfl (fun ls hl => ?_)
    refine lv_goto (tgt := 26) hx hb dX7_bestDay_80 (by decide) ?_
    exact hk_26 A u1 u2 y0 (u4 + 1) H locs hP hD hS ls (lv_sub hl [2, 3, 4, 1, 0] rfl) hf
  have b_55 : ∀ (k_26 : (Nat → Int32) → (Nat → Nat → Int32) → Int32 → Int32 → Int32 → Int32 → Option (Int32 × (Nat → Nat → Int32))) (hk_26 : ∀ (A : Nat → Nat → Int32) (u1 : Int32) (u2 : Int32) (u3 : Int32) (u4 : Int32), ∀ (H : Heap) (locs : List Loc), va_P G vwCl (wX7 q cI cZ cO I A L) H → va_D Z (wX7 q cI cZ cO I A L) → va_S Z s.heap H locs → ∀ ls : Array Slot, lv_has ls 5 [(0, .ref (q 0)), (1, .int u1), (2, .int u2), (3, .int u3), (4, .int u4)] → k_26 I A u1 u2 u3 u4 = some (r, Az) → W p l e rmX7_bestDay s m [.ref (q 0), .int x1].toArray below meth cd H locs 0 0 Q (F0 m 26 ls [])), ∀ (A : Nat → Nat → Int32) (u1 : Int32) (u3 : Int32) (u4 : Int32) (y0 : Int32), ∀ (H : Heap) (locs : List Loc), va_P G vwCl (wX7 q cI cZ cO I A L) H → va_D Z (wX7 q cI cZ cO I A L) → va_S Z s.heap H locs → ∀ ls : Array Slot, lv_has ls 5 [(0, .ref (q 0)), (1, .int u1), (3, .int u3), (4, .int u4)] → fX7_bestDay_55 N k_26 I A u1 u3 u4 y0 = some (r, Az) → W p l e rmX7_bestDay s m [.ref (q 0), .int x1].toArray below meth cd H locs 0 0 Q (F0 m 55 ls [.int y0]) := by
    intro k_26 hk_26 A u1 u3 u4 y0 H locs hP hD hS ls hl hf
    unfold fX7_bestDay_55 at hf
    refine lv_istore_n (lv' := [(2, .int y0), (0, .ref (q 0)), (1, .int u1), (3, .int u3), (4, .int u4)]) hx hb dX7_bestDay_55 rfl hl (by decide) rfl (fun ls hl => ?_)
    refine lv_aload_n hx hb dX7_bestDay_56 rfl (lv_at hl 1 rfl) ?_
    refine lv_iconst (v := 1) hx hb dX7_bestDay_57 (by decide) ?_
    refine lv_iload_n hx hb dX7_bestDay_58 rfl (lv_at hl 2 rfl) ?_
    obtain ⟨z1, hz1, hf⟩ := bnd hf
    refine x_rdV (C := RX7) (n := 2) (ci := 7) hx hb hml hown hts hE (ct_X7_purseOf N l G cI cZ cO q I A L 1 u1 z1 hz1) (bg 24 4 rfl) mb_X7_purseOf.1 mb_X7_purseOf.2.1 mb_X7_purseOf.2.2.1 mb_X7_purseOf.2.2.2 hd_X7_purseOf rfl (by decide) hP rfl rfl rfl rfl hl.1 (Nat.le_of_ble_eq_true rfl) ⟨Nat.zero_le _, Nat.zero_le _⟩ dX7_bestDay_59 ?_
    refine lv_iload_n hx hb dX7_bestDay_62 rfl (lv_at hl 3 rfl) ?_
    refine lv_icmp_le (tgt := 75) hx hb dX7_bestDay_63 (by decide) (fun c2 => ?_) (fun c2 => ?_)
    · rw [if_pos c2] at hf
      refine lv_iload_n hx hb dX7_bestDay_75 rfl (lv_at hl 3 rfl) ?_
      exact b_76 k_26 hk_26 A u1 y0 u4 u3 H locs hP hD hS ls (lv_sub hl [1, 2, 0, 4] rfl) hf
    · rw [if_neg c2] at hf
      refine lv_aload_n hx hb dX7_bestDay_66 rfl (lv_at hl 1 rfl) ?_
      refine lv_iconst (v := 1) hx hb dX7_bestDay_67 (by decide) ?_
      refine lv_iload_n hx hb dX7_bestDay_68 rfl (lv_at hl 2 rfl) ?_
      obtain ⟨z3, hz3, hf⟩ := bnd hf
      refine x_rdV (C := RX7) (n := 2) (ci := 7) hx hb hml hown hts hE (ct_X7_purseOf N l G cI cZ cO q I A L 1 u1 z3 hz3) (bg 24 4 rfl) mb_X7_purseOf.1 mb_X7_purseOf.2.1 mb_X7_purseOf.2.2.1 mb_X7_purseOf.2.2.2 hd_X7_purseOf rfl (by decide) hP rfl rfl rfl rfl hl.1 (Nat.le_of_ble_eq_true rfl) ⟨Nat.zero_le _, Nat.zero_le _⟩ dX7_bestDay_69 ?_
      refine lv_goto (tgt := 76) hx hb dX7_bestDay_72 (by decide) ?_
      exact b_76 k_26 hk_26 A u1 y0 u4 z3 H locs hP hD hS ls (lv_sub hl [1, 2, 0, 4] rfl) hf
  have b_26 : ∀ n : Nat, ∀ (A : Nat → Nat → Int32) (u1 : Int32) (u2 : Int32) (u3 : Int32) (u4 : Int32), ∀ (H : Heap) (locs : List Loc), va_P G vwCl (wX7 q cI cZ cO I A L) H → va_D Z (wX7 q cI cZ cO I A L) → va_S Z s.heap H locs → ∀ ls : Array Slot, lv_has ls 5 [(0, .ref (q 0)), (1, .int u1), (2, .int u2), (3, .int u3), (4, .int u4)] → fX7_bestDay_26 N n I A u1 u2 u3 u4 = some (r, Az) → W p l e rmX7_bestDay s m [.ref (q 0), .int x1].toArray below meth cd H locs 0 0 Q (F0 m 26 ls []) := by
    intro n
    induction n with
    | zero =>
      intro A u1 u2 u3 u4 H locs hP hD hS ls hl hf
      cases hf
    | succ n hk_26 =>
      intro A u1 u2 u3 u4 H locs hP hD hS ls hl hf
      replace hf : fX7_bestDay_26s N (fX7_bestDay_26 N n) I A u1 u2 u3 u4 = some (r, Az) := hf
      generalize fX7_bestDay_26 N n = k_26 at hf hk_26
      unfold fX7_bestDay_26s at hf
      refine lv_iload hx hb dX7_bestDay_26 (lv_at hl 4 rfl) ?_
      refine lv_bipush (v := 8) hx hb dX7_bestDay_28 (by decide) ?_
      refine lv_icmp_gt (tgt := 83) hx hb dX7_bestDay_30 (by decide) (fun c1 => ?_) (fun c1 => ?_)
      · rw [if_pos c1] at hf
        refine lv_iload_n hx hb dX7_bestDay_83 rfl (lv_at hl 2 rfl) ?_
        have e9 := Option.some.inj hf
        exact fin H locs 84 ls _ (Prod.mk.inj e9).1 (nar_i _) (by rw [← (Prod.mk.inj e9).2]; exact hP) hS dX7_bestDay_84
      · rw [if_neg c1] at hf
        refine lv_aload_n hx hb dX7_bestDay_33 rfl (lv_at hl 0 rfl) ?_
        refine lv_iconst (v := 1) hx hb dX7_bestDay_34 (by decide) ?_
        obtain ⟨z2, hz2, hf⟩ := bnd hf
        refine x_wwV (C := RX7) (n := 1) (ci := 7) hx hb hml hown hts hE (ct_X7_dawnOn N l G cI cZ cO q I A L 1 z2.1 z2.2 hz2) (bg 17 7 rfl) mb_X7_dawnOn.1 mb_X7_dawnOn.2.1 mb_X7_dawnOn.2.2.1 mb_X7_dawnOn.2.2.2 hd_X7_dawnOn rfl (by decide) hP hD hS hA rfl rfl rfl rfl rfl hl.1 (Nat.le_of_ble_eq_true rfl) ⟨Nat.zero_le _, Nat.zero_le _⟩ dX7_bestDay_35 (fun H locs hP hD hS => ?_)
        have hP : va_P G vwCl (wX7 q cI cZ cO I z2.2 L) H := hP
        have hD : va_D Z (wX7 q cI cZ cO I z2.2 L) := hD
        refine lv_pop hx hb dX7_bestDay_38 rfl ?_
        refine lv_aload_n hx hb dX7_bestDay_39 rfl (lv_at hl 0 rfl) ?_
        refine lv_iconst (v := 1) hx hb dX7_bestDay_40 (by decide) ?_
        refine lv_iload_n hx hb dX7_bestDay_41 rfl (lv_at hl 1 rfl) ?_
        obtain ⟨z3, hz3, hf⟩ := bnd hf
        refine x_rdV (C := RX7) (n := 2) (ci := 7) hx hb hml hown hts hE (ct_X7_purseOf N l G cI cZ cO q I z2.2 L 1 u1 z3 hz3) (bg 24 4 rfl) mb_X7_purseOf.1 mb_X7_purseOf.2.1 mb_X7_purseOf.2.2.1 mb_X7_purseOf.2.2.2 hd_X7_purseOf rfl (by decide) hP rfl rfl rfl rfl hl.1 (Nat.le_of_ble_eq_true rfl) ⟨Nat.zero_le _, Nat.zero_le _⟩ dX7_bestDay_42 ?_
        refine lv_iload_n hx hb dX7_bestDay_45 rfl (lv_at hl 3 rfl) ?_
        refine lv_icmp_le (tgt := 54) hx hb dX7_bestDay_46 (by decide) (fun c4 => ?_) (fun c4 => ?_)
        · rw [if_pos c4] at hf
          refine lv_iload_n hx hb dX7_bestDay_54 rfl (lv_at hl 2 rfl) ?_
          exact b_55 k_26 hk_26 z2.2 u1 u3 u4 u2 H locs hP hD hS ls (lv_sub hl [0, 1, 3, 4] rfl) hf
        · rw [if_neg c4] at hf
          refine lv_iload hx hb dX7_bestDay_49 (lv_at hl 4 rfl) ?_
          refine lv_goto (tgt := 55) hx hb dX7_bestDay_51 (by decide) ?_
          exact b_55 k_26 hk_26 z2.2 u1 u3 u4 u4 H locs hP hD hS ls (lv_sub hl [0, 1, 3, 4] rfl) hf
  unfold fX7_bestDay at hf
  have hS : va_S Z s.heap s.heap [] := va_S.rf
  obtain ⟨H, hH⟩ : ∃ H, H = s.heap := ⟨_, rfl⟩
  obtain ⟨locs, hlocs⟩ : ∃ locs : List Loc, locs = [] := ⟨_, rfl⟩
  rw [← hlocs]
  rw [← hlocs] at hS
  suffices hW : ∀ H : Heap, va_P G vwCl (wX7 q cI cZ cO I A L) H → va_S Z s.heap H locs → W p l e rmX7_bestDay s m [.ref (q 0), .int x1].toArray below meth cd H locs 0 0 Q (F0 m 0 ls []) from hW s.heap hP hS
  clear hP hS hH H
  intro H hP hS
  refine lv_aload_n hx hb dX7_bestDay_0 rfl (lv_at hl 0 rfl) ?_
  refine lv_iload_n hx hb dX7_bestDay_1 rfl (lv_at hl 1 rfl) ?_
  obtain ⟨z1, hz1, hf⟩ := bnd hf
  refine x_rdV (C := RX7) (n := 1) (ci := 7) hx hb hml hown hts hE (ct_X7_isPerson N l G cI cZ cO q I A L x1 z1 hz1) (bg 14 3 rfl) mb_X7_isPerson.1 mb_X7_isPerson.2.1 mb_X7_isPerson.2.2.1 mb_X7_isPerson.2.2.2 hd_X7_isPerson rfl (by decide) hP rfl rfl rfl rfl hl.1 (Nat.le_of_ble_eq_true rfl) ⟨Nat.zero_le _, Nat.zero_le _⟩ dX7_bestDay_2 ?_
  refine lv_if_ne (tgt := 10) hx hb dX7_bestDay_5 (by decide) (fun c2 => ?_) (fun c2 => ?_)
  · rw [if_neg c2] at hf
    refine lv_aload_n hx hb dX7_bestDay_10 rfl (lv_at hl 0 rfl) ?_
    obtain ⟨z3, hz3, hf⟩ := bnd hf
    refine x_wwVv (C := RX7) (n := 0) (ci := 7) hx hb hml hown hts hE (ct_X7_layTrial N l G cI cZ cO q I A L z3 hz3) (bg 23 2 rfl) mb_X7_layTrial.1 mb_X7_layTrial.2.1 mb_X7_layTrial.2.2.1 mb_X7_layTrial.2.2.2 hd_X7_layTrial rfl (by decide) hP hD hS hA rfl rfl rfl rfl rfl hl.1 (Nat.le_of_ble_eq_true rfl) ⟨Nat.zero_le _, Nat.zero_le _⟩ dX7_bestDay_11 (fun H locs hP hD hS => ?_)
    have hP : va_P G vwCl (wX7 q cI cZ cO I z3 L) H := hP
    have hD : va_D Z (wX7 q cI cZ cO I z3 L) := hD
    refine lv_iconst (v := 0) hx hb dX7_bestDay_14 (by decide) ?_
    refine lv_istore_n (lv' := [(2, .int 0), (0, .ref (q 0)), (1, .int x1)]) hx hb dX7_bestDay_15 rfl hl (by decide) rfl (fun ls hl => ?_)
    refine lv_aload_n hx hb dX7_bestDay_16 rfl (lv_at hl 1 rfl) ?_
    refine lv_iconst (v := 1) hx hb dX7_bestDay_17 (by decide) ?_
    refine lv_iload_n hx hb dX7_bestDay_18 rfl (lv_at hl 2 rfl) ?_
    obtain ⟨z4, hz4, hf⟩ := bnd hf
    refine x_rdV (C := RX7) (n := 2) (ci := 7) hx hb hml hown hts hE (ct_X7_purseOf N l G cI cZ cO q I z3 L 1 x1 z4 hz4) (bg 24 4 rfl) mb_X7_purseOf.1 mb_X7_purseOf.2.1 mb_X7_purseOf.2.2.1 mb_X7_purseOf.2.2.2 hd_X7_purseOf rfl (by decide) hP rfl rfl rfl rfl hl.1 (Nat.le_of_ble_eq_true rfl) ⟨Nat.zero_le _, Nat.zero_le _⟩ dX7_bestDay_19 ?_
    refine lv_istore_n (lv' := [(3, .int z4), (2, .int 0), (0, .ref (q 0)), (1, .int x1)]) hx hb dX7_bestDay_22 rfl hl (by decide) rfl (fun ls hl => ?_)
    refine lv_iconst (v := 1) hx hb dX7_bestDay_23 (by decide) ?_
    refine lv_istore (lv' := [(4, .int 1), (3, .int z4), (2, .int 0), (0, .ref (q 0)), (1, .int x1)]) hx hb dX7_bestDay_24 hl (by decide) rfl (fun ls hl => ?_)
    exact b_26 N z3 x1 0 z4 1 H locs hP hD hS ls (lv_sub hl [3, 4, 2, 1, 0] rfl) hf
  · rw [if_pos c2] at hf
    refine lv_iconst (v := (-1)) hx hb dX7_bestDay_8 (by decide) ?_
    have e9 := Option.some.inj hf
    exact fin H locs 9 ls _ (Prod.mk.inj e9).1 (nar_i _) (by rw [← (Prod.mk.inj e9).2]; exact hP) hS dX7_bestDay_9
def fX7_reach_26s (N : Nat) (k_26 : (Nat → Int32) → (Nat → Nat → Int32) → Int32 → Int32 → Int32 → Option (Int32 × (Nat → Nat → Int32))) (I : Nat → Int32) (A : Nat → Nat → Int32) (u1 : Int32) (u2 : Int32) (u3 : Int32) : Option (Int32 × (Nat → Nat → Int32)) := if 8 < u3 then some ((-9), A) else (rd 62 (A 5) (31 + u1)).bind fun v2 => (fX7_has N v2 u2).bind fun z3 => if z3 = 0 then (fX7_dawnOn N I A 1).bind fun z5 => k_26 I z5.2 u1 u2 (u3 + 1) else some (u3, A)
def fX7_reach_26 (N : Nat) : Nat → (Nat → Int32) → (Nat → Nat → Int32) → Int32 → Int32 → Int32 → Option (Int32 × (Nat → Nat → Int32))
  | 0 => fun _ _ _ _ _ => none
  | n + 1 => fX7_reach_26s N (fX7_reach_26 N n)
def fX7_reach (N : Nat) (I : Nat → Int32) (A : Nat → Nat → Int32) (x1 : Int32) (x2 : Int32) : Option (Int32 × (Nat → Nat → Int32)) := (fX7_isRumour N I x1).bind fun z1 => if z1 = 0 then some ((-1), A) else (fX7_isTable N x2).bind fun z3 => if z3 = 0 then some ((-2), A) else (fX7_layTrial N A).bind fun z5 => fX7_reach_26 N N I z5 x1 x2 0
def rmX7_reach : Room := { frames := 2, cells := 0, slots := 0, locals := 49 }
theorem mb_X7_reach : Cond.instanceMethod yX7_reach ∈ wsL_law ∧ Cond.selects RX7 yX7_reach yX7_reach ∈ wsL_law ∧ Cond.initialized RX7 ∈ wsL_law ∧ Cond.code yX7_reach cX7_reach 4 (some .int) ∈ wsL_law := ⟨(bg 25 9 rfl), (bg 25 10 rfl), (bg 0 5 rfl), (bg 25 11 rfl)⟩
theorem hd_X7_reach : yX7_reach.cls = RX7 ∧ yX7_reach.cls ≠ "java/lang/invoke/MethodHandle" ∧ yX7_reach.cls ≠ "java/lang/invoke/VarHandle" ∧ (parseMethodDescriptor yX7_reach.desc).map (fun d => d.parameters.length) = some 2 := by decide +kernel
set_option maxRecDepth 100000 in
set_option maxHeartbeats 4000000 in
theorem ct_X7_reach (N : Nat) (l : Launch) (G : va_G) (cI cZ cO : ClassId) (q : Nat → Nat) (I : Nat → Int32) (A : Nat → Nat → Int32) (L : Int64) (x1 : Int32) (x2 : Int32) (r : Int32) (Az : Nat → Nat → Int32) (hf : fX7_reach N I A x1 x2 = some (r, Az)) : CtI l yX7_reach cX7_reach 4 .int rmX7_reach G cI cZ cO [.ref (q 0), .int x1, .int x2] (wX7 q cI cZ cO I A L) (wX7 q cI cZ cO I Az L) r := by
  refine mkCI (by decide) (Nat.le_of_ble_eq_true rfl) ?_
  intro p e s m below meth cd Q Z hC hP hE hD hA fin ls hl
  obtain ⟨hx, hb, hml, hown, hts⟩ := hC
  have hown : s.vm.findClass RX7 = some m.cls := hown
  have hl : lv_has ls 4 [(0, .ref (q 0)), (1, .int x1), (2, .int x2)] := hl
  have b_26 : ∀ n : Nat, ∀ (A : Nat → Nat → Int32) (u1 : Int32) (u2 : Int32) (u3 : Int32), ∀ (H : Heap) (locs : List Loc), va_P G vwCl (wX7 q cI cZ cO I A L) H → va_D Z (wX7 q cI cZ cO I A L) → va_S Z s.heap H locs → ∀ ls : Array Slot, lv_has ls 4 [(0, .ref (q 0)), (1, .int u1), (2, .int u2), (3, .int u3)] → fX7_reach_26 N n I A u1 u2 u3 = some (r, Az) → W p l e rmX7_reach s m [.ref (q 0), .int x1, .int x2].toArray below meth cd H locs 0 0 Q (F0 m 26 ls []) := by
    intro n
    induction n with
    | zero =>
      intro A u1 u2 u3 H locs hP hD hS ls hl hf
      cases hf
    | succ n hk_26 =>
      intro A u1 u2 u3 H locs hP hD hS ls hl hf
      replace hf : fX7_reach_26s N (fX7_reach_26 N n) I A u1 u2 u3 = some (r, Az) := hf
      generalize fX7_reach_26 N n = k_26 at hf hk_26
      unfold fX7_reach_26s at hf
      refine lv_iload_n hx hb dX7_reach_26 rfl (lv_at hl 3 rfl) ?_
      refine lv_bipush (v := 8) hx hb dX7_reach_27 (by decide) ?_
      refine lv_icmp_gt (tgt := 62) hx hb dX7_reach_29 (by decide) (fun c1 => ?_) (fun c1 => ?_)
      · rw [if_pos c1] at hf
        refine lv_bipush (v := (-9)) hx hb dX7_reach_62 (by decide) ?_
        have e9 := Option.some.inj hf
        exact fin H locs 64 ls _ (Prod.mk.inj e9).1 (nar_i _) (by rw [← (Prod.mk.inj e9).2]; exact hP) hS dX7_reach_64
      · rw [if_neg c1] at hf
        refine lv_aload_n hx hb dX7_reach_32 rfl (lv_at hl 0 rfl) ?_
        refine va_get (D := G) (ci := 7) (v := .ref (q 6)) (C := RX7) (T := TX7) (N := 33) hx hb hts inlX7 hown hE.1 hP 0 rfl rfl 7 (by decide) (hts _ (bg 3 19 rfl)) (fun _ h9 => h9) rfl dX7_reach_33 ?_
        refine lv_bipush (v := 31) hx hb dX7_reach_36 (by decide) ?_
        refine lv_iload_n hx hb dX7_reach_38 rfl (lv_at hl 1 rfl) ?_
        refine lv_iadd hx hb dX7_reach_39 ?_
        obtain ⟨v2, hv2, hf⟩ := bnd hf
        refine x_iald hx hb hE.1 hP 6 0 rfl rfl hv2 dX7_reach_40 ?_
        refine lv_iload_n hx hb dX7_reach_41 rfl (lv_at hl 2 rfl) ?_
        obtain ⟨z3, hz3, hf⟩ := bnd hf
        refine x_rdS (n := 2) hx hb hml hown hts hE (ct_X7_has N l G cI cZ cO v2 u2 z3 hz3) (bg 10 12 rfl) mb_X7_has.1 mb_X7_has.2.1 mb_X7_has.2.2 hd_X7_has rfl (by decide) va_P_nil rfl hl.1 (Nat.le_of_ble_eq_true rfl) ⟨Nat.zero_le _, Nat.zero_le _⟩ dX7_reach_42 ?_
        refine lv_if_eq (tgt := 50) hx hb dX7_reach_45 (by decide) (fun c4 => ?_) (fun c4 => ?_)
        · rw [if_pos c4] at hf
          refine lv_aload_n hx hb dX7_reach_50 rfl (lv_at hl 0 rfl) ?_
          refine lv_iconst (v := 1) hx hb dX7_reach_51 (by decide) ?_
          obtain ⟨z5, hz5, hf⟩ := bnd hf
          refine x_wwV (C := RX7) (n := 1) (ci := 7) hx hb hml hown hts hE (ct_X7_dawnOn N l G cI cZ cO q I A L 1 z5.1 z5.2 hz5) (bg 17 7 rfl) mb_X7_dawnOn.1 mb_X7_dawnOn.2.1 mb_X7_dawnOn.2.2.1 mb_X7_dawnOn.2.2.2 hd_X7_dawnOn rfl (by decide) hP hD hS hA rfl rfl rfl rfl rfl hl.1 (Nat.le_of_ble_eq_true rfl) ⟨Nat.zero_le _, Nat.zero_le _⟩ dX7_reach_52 (fun H locs hP hD hS => ?_)
          have hP : va_P G vwCl (wX7 q cI cZ cO I z5.2 L) H := hP
          have hD : va_D Z (wX7 q cI cZ cO I z5.2 L) := hD
          refine lv_pop hx hb dX7_reach_55 rfl ?_
          refine lv_iinc (v := u3 + 1) (lv' := [(3, .int (u3 + 1)), (0, .ref (q 0)), (1, .int u1), (2, .int u2)]) hx hb dX7_reach_56 hl (k := 3) rfl rfl (by decide) rfl (fun ls hl => ?_)
          refine lv_goto (tgt := 26) hx hb dX7_reach_59 (by decide) ?_
          exact hk_26 z5.2 u1 u2 (u3 + 1) H locs hP hD hS ls (lv_sub hl [1, 2, 3, 0] rfl) hf
        · rw [if_neg c4] at hf
          refine lv_iload_n hx hb dX7_reach_48 rfl (lv_at hl 3 rfl) ?_
          have e9 := Option.some.inj hf
          exact fin H locs 49 ls _ (Prod.mk.inj e9).1 (nar_i _) (by rw [← (Prod.mk.inj e9).2]; exact hP) hS dX7_reach_49
  unfold fX7_reach at hf
  have hS : va_S Z s.heap s.heap [] := va_S.rf
  obtain ⟨H, hH⟩ : ∃ H, H = s.heap := ⟨_, rfl⟩
  obtain ⟨locs, hlocs⟩ : ∃ locs : List Loc, locs = [] := ⟨_, rfl⟩
  rw [← hlocs]
  rw [← hlocs] at hS
  suffices hW : ∀ H : Heap, va_P G vwCl (wX7 q cI cZ cO I A L) H → va_S Z s.heap H locs → W p l e rmX7_reach s m [.ref (q 0), .int x1, .int x2].toArray below meth cd H locs 0 0 Q (F0 m 0 ls []) from hW s.heap hP hS
  clear hP hS hH H
  intro H hP hS
  refine lv_aload_n hx hb dX7_reach_0 rfl (lv_at hl 0 rfl) ?_
  refine lv_iload_n hx hb dX7_reach_1 rfl (lv_at hl 1 rfl) ?_
  obtain ⟨z1, hz1, hf⟩ := bnd hf
  refine x_rdV (C := RX7) (n := 1) (ci := 7) hx hb hml hown hts hE (ct_X7_isRumour N l G cI cZ cO q I A L x1 z1 hz1) (bg 13 6 rfl) mb_X7_isRumour.1 mb_X7_isRumour.2.1 mb_X7_isRumour.2.2.1 mb_X7_isRumour.2.2.2 hd_X7_isRumour rfl (by decide) hP rfl rfl rfl rfl hl.1 (Nat.le_of_ble_eq_true rfl) ⟨Nat.zero_le _, Nat.zero_le _⟩ dX7_reach_2 ?_
  refine lv_if_ne (tgt := 10) hx hb dX7_reach_5 (by decide) (fun c2 => ?_) (fun c2 => ?_)
  · rw [if_neg c2] at hf
    refine lv_iload_n hx hb dX7_reach_10 rfl (lv_at hl 2 rfl) ?_
    obtain ⟨z3, hz3, hf⟩ := bnd hf
    refine x_rdS (n := 1) hx hb hml hown hts hE (ct_X7_isTable N l G cI cZ cO x2 z3 hz3) (bg 18 13 rfl) mb_X7_isTable.1 mb_X7_isTable.2.1 mb_X7_isTable.2.2 hd_X7_isTable rfl (by decide) va_P_nil rfl hl.1 (Nat.le_of_ble_eq_true rfl) ⟨Nat.zero_le _, Nat.zero_le _⟩ dX7_reach_11 ?_
    refine lv_if_ne (tgt := 20) hx hb dX7_reach_14 (by decide) (fun c4 => ?_) (fun c4 => ?_)
    · rw [if_neg c4] at hf
      refine lv_aload_n hx hb dX7_reach_20 rfl (lv_at hl 0 rfl) ?_
      obtain ⟨z5, hz5, hf⟩ := bnd hf
      refine x_wwVv (C := RX7) (n := 0) (ci := 7) hx hb hml hown hts hE (ct_X7_layTrial N l G cI cZ cO q I A L z5 hz5) (bg 23 2 rfl) mb_X7_layTrial.1 mb_X7_layTrial.2.1 mb_X7_layTrial.2.2.1 mb_X7_layTrial.2.2.2 hd_X7_layTrial rfl (by decide) hP hD hS hA rfl rfl rfl rfl rfl hl.1 (Nat.le_of_ble_eq_true rfl) ⟨Nat.zero_le _, Nat.zero_le _⟩ dX7_reach_21 (fun H locs hP hD hS => ?_)
      have hP : va_P G vwCl (wX7 q cI cZ cO I z5 L) H := hP
      have hD : va_D Z (wX7 q cI cZ cO I z5 L) := hD
      refine lv_iconst (v := 0) hx hb dX7_reach_24 (by decide) ?_
      refine lv_istore_n (lv' := [(3, .int 0), (0, .ref (q 0)), (1, .int x1), (2, .int x2)]) hx hb dX7_reach_25 rfl hl (by decide) rfl (fun ls hl => ?_)
      exact b_26 N z5 x1 x2 0 H locs hP hD hS ls (lv_sub hl [1, 2, 3, 0] rfl) hf
    · rw [if_pos c4] at hf
      refine lv_bipush (v := (-2)) hx hb dX7_reach_17 (by decide) ?_
      have e9 := Option.some.inj hf
      exact fin H locs 19 ls _ (Prod.mk.inj e9).1 (nar_i _) (by rw [← (Prod.mk.inj e9).2]; exact hP) hS dX7_reach_19
  · rw [if_pos c2] at hf
    refine lv_iconst (v := (-1)) hx hb dX7_reach_8 (by decide) ?_
    have e9 := Option.some.inj hf
    exact fin H locs 9 ls _ (Prod.mk.inj e9).1 (nar_i _) (by rw [← (Prod.mk.inj e9).2]; exact hP) hS dX7_reach_9
def fX7_sayTrial_50 (N : Nat) (I : Nat → Int32) (A : Nat → Nat → Int32) (u3 : Int32) : Option (Int32 × (Nat → Nat → Int32)) := (bz u3).bind fun v1 => some (v1, A)
def fX7_sayTrial_30 (N : Nat) (I : Nat → Int32) (A : Nat → Nat → Int32) (u1 : Int32) (u2 : Int32) (y0 : Int32) : Option (Int32 × (Nat → Nat → Int32)) := if y0 = 0 then fX7_sayTrial_50 N I A y0 else (rd 62 (A 5) (31 + u1)).bind fun v2 => (wr 62 (A 5) (31 + u1) (v2 ||| (shl 1 u2))).bind fun g3 => fX7_sayTrial_50 N I (va_up A 5 g3) y0
def fX7_sayTrial_29 (N : Nat) (I : Nat → Int32) (A : Nat → Nat → Int32) (u1 : Int32) (u2 : Int32) : Option (Int32 × (Nat → Nat → Int32)) := fX7_sayTrial_30 N I A u1 u2 0
def fX7_sayTrial (N : Nat) (I : Nat → Int32) (A : Nat → Nat → Int32) (x1 : Int32) (x2 : Int32) : Option (Int32 × (Nat → Nat → Int32)) := (fX7_isRumour N I x1).bind fun z1 => if z1 = 0 then fX7_sayTrial_29 N I A x1 x2 else (fX7_isTable N x2).bind fun z3 => if z3 = 0 then fX7_sayTrial_29 N I A x1 x2 else (fX7_canSay N A 1 x1 x2).bind fun z5 => if z5 = 0 then fX7_sayTrial_29 N I A x1 x2 else fX7_sayTrial_30 N I A x1 x2 1
def rmX7_sayTrial : Room := { frames := 2, cells := 0, slots := 0, locals := 46 }
theorem mb_X7_sayTrial : Cond.instanceMethod yX7_sayTrial ∈ wsL_law ∧ Cond.selects RX7 yX7_sayTrial yX7_sayTrial ∈ wsL_law ∧ Cond.initialized RX7 ∈ wsL_law ∧ Cond.code yX7_sayTrial cX7_sayTrial 4 (some .boolean) ∈ wsL_law := ⟨(bg 27 1 rfl), (bg 27 2 rfl), (bg 0 5 rfl), (bg 27 3 rfl)⟩
theorem hd_X7_sayTrial : yX7_sayTrial.cls = RX7 ∧ yX7_sayTrial.cls ≠ "java/lang/invoke/MethodHandle" ∧ yX7_sayTrial.cls ≠ "java/lang/invoke/VarHandle" ∧ (parseMethodDescriptor yX7_sayTrial.desc).map (fun d => d.parameters.length) = some 2 := by decide +kernel
set_option maxRecDepth 100000 in
set_option maxHeartbeats 4000000 in
theorem ct_X7_sayTrial (N : Nat) (l : Launch) (G : va_G) (cI cZ cO : ClassId) (q : Nat → Nat) (I : Nat → Int32) (A : Nat → Nat → Int32) (L : Int64) (x1 : Int32) (x2 : Int32) (r : Int32) (Az : Nat → Nat → Int32) (hf : fX7_sayTrial N I A x1 x2 = some (r, Az)) : CtI l yX7_sayTrial cX7_sayTrial 4 .boolean rmX7_sayTrial G cI cZ cO [.ref (q 0), .int x1, .int x2] (wX7 q cI cZ cO I A L) (wX7 q cI cZ cO I Az L) r := by
  refine mkCI (by decide) (Nat.le_of_ble_eq_true rfl) ?_
  intro p e s m below meth cd Q Z hC hP hE hD hA fin ls hl
  obtain ⟨hx, hb, hml, hown, hts⟩ := hC
  have hown : s.vm.findClass RX7 = some m.cls := hown
  have hl : lv_has ls 4 [(0, .ref (q 0)), (1, .int x1), (2, .int x2)] := hl
  have b_50 : ∀ (A : Nat → Nat → Int32) (u3 : Int32), ∀ (H : Heap) (locs : List Loc), va_P G vwCl (wX7 q cI cZ cO I A L) H → va_D Z (wX7 q cI cZ cO I A L) → va_S Z s.heap H locs → ∀ ls : Array Slot, lv_has ls 4 [(3, .int u3)] → fX7_sayTrial_50 N I A u3 = some (r, Az) → W p l e rmX7_sayTrial s m [.ref (q 0), .int x1, .int x2].toArray below meth cd H locs 0 0 Q (F0 m 50 ls []) := by
    intro A u3 H locs hP hD hS ls hl hf
    unfold fX7_sayTrial_50 at hf
    refine lv_iload_n hx hb dX7_sayTrial_50 rfl (lv_at hl 0 rfl) ?_
    obtain ⟨v1, hv1, hf⟩ := bnd hf
    obtain ⟨ev1, hv1⟩ := bz_in hv1
    rw [ev1]
    have e9 := Option.some.inj hf
    exact fin H locs 51 ls _ (Prod.mk.inj e9).1 (nar_z (by rw [← (Prod.mk.inj e9).1]; exact hv1)) (by rw [← (Prod.mk.inj e9).2]; exact hP) hS dX7_sayTrial_51
  have b_30 : ∀ (A : Nat → Nat → Int32) (u1 : Int32) (u2 : Int32) (y0 : Int32), ∀ (H : Heap) (locs : List Loc), va_P G vwCl (wX7 q cI cZ cO I A L) H → va_D Z (wX7 q cI cZ cO I A L) → va_S Z s.heap H locs → ∀ ls : Array Slot, lv_has ls 4 [(0, .ref (q 0)), (1, .int u1), (2, .int u2)] → fX7_sayTrial_30 N I A u1 u2 y0 = some (r, Az) → W p l e rmX7_sayTrial s m [.ref (q 0), .int x1, .int x2].toArray below meth cd H locs 0 0 Q (F0 m 30 ls [.int y0]) := by
    intro A u1 u2 y0 H locs hP hD hS ls hl hf
    unfold fX7_sayTrial_30 at hf
    refine lv_istore_n (lv' := [(3, .int y0), (0, .ref (q 0)), (1, .int u1), (2, .int u2)]) hx hb dX7_sayTrial_30 rfl hl (by decide) rfl (fun ls hl => ?_)
    refine lv_iload_n hx hb dX7_sayTrial_31 rfl (lv_at hl 0 rfl) ?_
    refine lv_if_eq (tgt := 50) hx hb dX7_sayTrial_32 (by decide) (fun c1 => ?_) (fun c1 => ?_)
    · rw [if_pos c1] at hf
      exact b_50 A y0 H locs hP hD hS ls (lv_sub hl [0] rfl) hf
    · rw [if_neg c1] at hf
      refine lv_aload_n hx hb dX7_sayTrial_35 rfl (lv_at hl 1 rfl) ?_
      refine va_get (D := G) (ci := 7) (v := .ref (q 6)) (C := RX7) (T := TX7) (N := 33) hx hb hts inlX7 hown hE.1 hP 0 rfl rfl 7 (by decide) (hts _ (bg 3 19 rfl)) (fun _ h9 => h9) rfl dX7_sayTrial_36 ?_
      refine lv_bipush (v := 31) hx hb dX7_sayTrial_39 (by decide) ?_
      refine lv_iload_n hx hb dX7_sayTrial_41 rfl (lv_at hl 2 rfl) ?_
      refine lv_iadd hx hb dX7_sayTrial_42 ?_
      refine lv_dup2_11 hx hb dX7_sayTrial_43 rfl rfl ?_
      obtain ⟨v2, hv2, hf⟩ := bnd hf
      refine x_iald hx hb hE.1 hP 6 0 rfl rfl hv2 dX7_sayTrial_44 ?_
      refine lv_iconst (v := 1) hx hb dX7_sayTrial_45 (by decide) ?_
      refine lv_iload_n hx hb dX7_sayTrial_46 rfl (lv_at hl 3 rfl) ?_
      refine x_ishl hx hb dX7_sayTrial_47 ?_
      refine lv_ior hx hb dX7_sayTrial_48 ?_
      obtain ⟨g3, hg3, hf⟩ := bnd hf
      refine x_iast hx hb hE.1 hP hD hS 6 0 rfl rfl hg3 dX7_sayTrial_49 (fun H locs hP hD hS => ?_)
      have hP : va_P G vwCl (wX7 q cI cZ cO I (va_up A 5 g3) L) H := hP
      have hD : va_D Z (wX7 q cI cZ cO I (va_up A 5 g3) L) := hD
      exact b_50 (va_up A 5 g3) y0 H locs hP hD hS ls (lv_sub hl [0] rfl) hf
  have b_29 : ∀ (A : Nat → Nat → Int32) (u1 : Int32) (u2 : Int32), ∀ (H : Heap) (locs : List Loc), va_P G vwCl (wX7 q cI cZ cO I A L) H → va_D Z (wX7 q cI cZ cO I A L) → va_S Z s.heap H locs → ∀ ls : Array Slot, lv_has ls 4 [(0, .ref (q 0)), (1, .int u1), (2, .int u2)] → fX7_sayTrial_29 N I A u1 u2 = some (r, Az) → W p l e rmX7_sayTrial s m [.ref (q 0), .int x1, .int x2].toArray below meth cd H locs 0 0 Q (F0 m 29 ls []) := by
    intro A u1 u2 H locs hP hD hS ls hl hf
    unfold fX7_sayTrial_29 at hf
    refine lv_iconst (v := 0) hx hb dX7_sayTrial_29 (by decide) ?_
    exact b_30 A u1 u2 0 H locs hP hD hS ls (lv_sub hl [0, 1, 2] rfl) hf
  unfold fX7_sayTrial at hf
  have hS : va_S Z s.heap s.heap [] := va_S.rf
  obtain ⟨H, hH⟩ : ∃ H, H = s.heap := ⟨_, rfl⟩
  obtain ⟨locs, hlocs⟩ : ∃ locs : List Loc, locs = [] := ⟨_, rfl⟩
  rw [← hlocs]
  rw [← hlocs] at hS
  suffices hW : ∀ H : Heap, va_P G vwCl (wX7 q cI cZ cO I A L) H → va_S Z s.heap H locs → W p l e rmX7_sayTrial s m [.ref (q 0), .int x1, .int x2].toArray below meth cd H locs 0 0 Q (F0 m 0 ls []) from hW s.heap hP hS
  clear hP hS hH H
  intro H hP hS
  refine lv_aload_n hx hb dX7_sayTrial_0 rfl (lv_at hl 0 rfl) ?_
  refine lv_iload_n hx hb dX7_sayTrial_1 rfl (lv_at hl 1 rfl) ?_
  obtain ⟨z1, hz1, hf⟩ := bnd hf
  refine x_rdV (C := RX7) (n := 1) (ci := 7) hx hb hml hown hts hE (ct_X7_isRumour N l G cI cZ cO q I A L x1 z1 hz1) (bg 13 6 rfl) mb_X7_isRumour.1 mb_X7_isRumour.2.1 mb_X7_isRumour.2.2.1 mb_X7_isRumour.2.2.2 hd_X7_isRumour rfl (by decide) hP rfl rfl rfl rfl hl.1 (Nat.le_of_ble_eq_true rfl) ⟨Nat.zero_le _, Nat.zero_le _⟩ dX7_sayTrial_2 ?_
  refine lv_if_eq (tgt := 29) hx hb dX7_sayTrial_5 (by decide) (fun c2 => ?_) (fun c2 => ?_)
  · rw [if_pos c2] at hf
    exact b_29 A x1 x2 H locs hP hD hS ls (lv_sub hl [0, 1, 2] rfl) hf
  · rw [if_neg c2] at hf
    refine lv_iload_n hx hb dX7_sayTrial_8 rfl (lv_at hl 2 rfl) ?_
    obtain ⟨z3, hz3, hf⟩ := bnd hf
    refine x_rdS (n := 1) hx hb hml hown hts hE (ct_X7_isTable N l G cI cZ cO x2 z3 hz3) (bg 18 13 rfl) mb_X7_isTable.1 mb_X7_isTable.2.1 mb_X7_isTable.2.2 hd_X7_isTable rfl (by decide) va_P_nil rfl hl.1 (Nat.le_of_ble_eq_true rfl) ⟨Nat.zero_le _, Nat.zero_le _⟩ dX7_sayTrial_9 ?_
    refine lv_if_eq (tgt := 29) hx hb dX7_sayTrial_12 (by decide) (fun c4 => ?_) (fun c4 => ?_)
    · rw [if_pos c4] at hf
      exact b_29 A x1 x2 H locs hP hD hS ls (lv_sub hl [0, 1, 2] rfl) hf
    · rw [if_neg c4] at hf
      refine lv_aload_n hx hb dX7_sayTrial_15 rfl (lv_at hl 0 rfl) ?_
      refine lv_iconst (v := 1) hx hb dX7_sayTrial_16 (by decide) ?_
      refine lv_iload_n hx hb dX7_sayTrial_17 rfl (lv_at hl 1 rfl) ?_
      refine lv_iload_n hx hb dX7_sayTrial_18 rfl (lv_at hl 2 rfl) ?_
      obtain ⟨z5, hz5, hf⟩ := bnd hf
      refine x_rdV (C := RX7) (n := 3) (ci := 7) hx hb hml hown hts hE (ct_X7_canSay N l G cI cZ cO q I A L 1 x1 x2 z5 hz5) (bg 18 17 rfl) mb_X7_canSay.1 mb_X7_canSay.2.1 mb_X7_canSay.2.2.1 mb_X7_canSay.2.2.2 hd_X7_canSay rfl (by decide) hP rfl rfl rfl rfl hl.1 (Nat.le_of_ble_eq_true rfl) ⟨Nat.zero_le _, Nat.zero_le _⟩ dX7_sayTrial_19 ?_
      refine lv_if_eq (tgt := 29) hx hb dX7_sayTrial_22 (by decide) (fun c6 => ?_) (fun c6 => ?_)
      · rw [if_pos c6] at hf
        exact b_29 A x1 x2 H locs hP hD hS ls (lv_sub hl [0, 1, 2] rfl) hf
      · rw [if_neg c6] at hf
        refine lv_iconst (v := 1) hx hb dX7_sayTrial_25 (by decide) ?_
        refine lv_goto (tgt := 30) hx hb dX7_sayTrial_26 (by decide) ?_
        exact b_30 A x1 x2 1 H locs hP hD hS ls (lv_sub hl [0, 1, 2] rfl) hf
def fX7_planned_97 (N : Nat) (I : Nat → Int32) (A : Nat → Nat → Int32) (y0 : Int32) : Option (Int32 × (Nat → Nat → Int32)) := some (y0, A)
def fX7_planned_74 (N : Nat) (I : Nat → Int32) (A : Nat → Nat → Int32) (u1 : Int32) (u2 : Int32) (y0 : Int32) : Option (Int32 × (Nat → Nat → Int32)) := (fX7_dawnTrial N I A u2).bind fun z1 => if y0 = 0 then fX7_planned_97 N I z1 (-9) else (fX7_purseOf N I z1 1 u1).bind fun z3 => fX7_planned_97 N I z1 z3
def fX7_planned_73 (N : Nat) (I : Nat → Int32) (A : Nat → Nat → Int32) (u1 : Int32) (u2 : Int32) : Option (Int32 × (Nat → Nat → Int32)) := fX7_planned_74 N I A u1 u2 0
def fX7_planned_69 (N : Nat) (I : Nat → Int32) (A : Nat → Nat → Int32) (u1 : Int32) (u2 : Int32) : Option (Int32 × (Nat → Nat → Int32)) := fX7_planned_74 N I A u1 u2 1
def fX7_planned_38 (N : Nat) (I : Nat → Int32) (A : Nat → Nat → Int32) (u1 : Int32) (u2 : Int32) (u3 : Int32) (y0 : Int32) : Option (Int32 × (Nat → Nat → Int32)) := if y0 = 0 then fX7_planned_73 N I A u1 u2 else if u3 < 100 then fX7_planned_69 N I A u1 u2 else (fX7_sayTrial N I A (rem (u3 / 10) 10) (rem u3 10)).bind fun z3 => if z3.1 = 0 then fX7_planned_73 N I z3.2 u1 u2 else fX7_planned_69 N I z3.2 u1 u2
def fX7_planned_33 (N : Nat) (I : Nat → Int32) (A : Nat → Nat → Int32) (u1 : Int32) (u2 : Int32) (u3 : Int32) : Option (Int32 × (Nat → Nat → Int32)) := fX7_planned_38 N I A u1 u2 u3 1
def fX7_planned (N : Nat) (I : Nat → Int32) (A : Nat → Nat → Int32) (x1 : Int32) (x2 : Int32) (x3 : Int32) : Option (Int32 × (Nat → Nat → Int32)) := (fX7_layTrial N A).bind fun z1 => if x3 < 10000 then fX7_planned_33 N I z1 x1 x2 x3 else (fX7_sayTrial N I z1 (rem (x3 / 1000) 10) (rem (x3 / 100) 10)).bind fun z3 => if z3.1 = 0 then fX7_planned_38 N I z3.2 x1 x2 x3 0 else fX7_planned_33 N I z3.2 x1 x2 x3
def rmX7_planned : Room := { frames := 3, cells := 0, slots := 0, locals := 71 }
theorem mb_X7_planned : Cond.instanceMethod yX7_planned ∈ wsL_law ∧ Cond.selects RX7 yX7_planned yX7_planned ∈ wsL_law ∧ Cond.initialized RX7 ∈ wsL_law ∧ Cond.code yX7_planned cX7_planned 5 (some .int) ∈ wsL_law := ⟨(bg 26 21 rfl), (bg 26 22 rfl), (bg 0 5 rfl), (bg 26 23 rfl)⟩
theorem hd_X7_planned : yX7_planned.cls = RX7 ∧ yX7_planned.cls ≠ "java/lang/invoke/MethodHandle" ∧ yX7_planned.cls ≠ "java/lang/invoke/VarHandle" ∧ (parseMethodDescriptor yX7_planned.desc).map (fun d => d.parameters.length) = some 3 := by decide +kernel
set_option maxRecDepth 100000 in
set_option maxHeartbeats 4000000 in
theorem ct_X7_planned (N : Nat) (l : Launch) (G : va_G) (cI cZ cO : ClassId) (q : Nat → Nat) (I : Nat → Int32) (A : Nat → Nat → Int32) (L : Int64) (x1 : Int32) (x2 : Int32) (x3 : Int32) (r : Int32) (Az : Nat → Nat → Int32) (hf : fX7_planned N I A x1 x2 x3 = some (r, Az)) : CtI l yX7_planned cX7_planned 5 .int rmX7_planned G cI cZ cO [.ref (q 0), .int x1, .int x2, .int x3] (wX7 q cI cZ cO I A L) (wX7 q cI cZ cO I Az L) r := by
  refine mkCI (by decide) (Nat.le_of_ble_eq_true rfl) ?_
  intro p e s m below meth cd Q Z hC hP hE hD hA fin ls hl
  obtain ⟨hx, hb, hml, hown, hts⟩ := hC
  have hown : s.vm.findClass RX7 = some m.cls := hown
  have hl : lv_has ls 5 [(0, .ref (q 0)), (1, .int x1), (2, .int x2), (3, .int x3)] := hl
  have b_97 : ∀ (A : Nat → Nat → Int32) (y0 : Int32), ∀ (H : Heap) (locs : List Loc), va_P G vwCl (wX7 q cI cZ cO I A L) H → va_D Z (wX7 q cI cZ cO I A L) → va_S Z s.heap H locs → ∀ ls : Array Slot, lv_has ls 5 [] → fX7_planned_97 N I A y0 = some (r, Az) → W p l e rmX7_planned s m [.ref (q 0), .int x1, .int x2, .int x3].toArray below meth cd H locs 0 0 Q (F0 m 97 ls [.int y0]) := by
    intro A y0 H locs hP hD hS ls hl hf
    unfold fX7_planned_97 at hf
    have e9 := Option.some.inj hf
    exact fin H locs 97 ls _ (Prod.mk.inj e9).1 (nar_i _) (by rw [← (Prod.mk.inj e9).2]; exact hP) hS dX7_planned_97
  have b_74 : ∀ (A : Nat → Nat → Int32) (u1 : Int32) (u2 : Int32) (y0 : Int32), ∀ (H : Heap) (locs : List Loc), va_P G vwCl (wX7 q cI cZ cO I A L) H → va_D Z (wX7 q cI cZ cO I A L) → va_S Z s.heap H locs → ∀ ls : Array Slot, lv_has ls 5 [(0, .ref (q 0)), (1, .int u1), (2, .int u2)] → fX7_planned_74 N I A u1 u2 y0 = some (r, Az) → W p l e rmX7_planned s m [.ref (q 0), .int x1, .int x2, .int x3].toArray below meth cd H locs 0 0 Q (F0 m 74 ls [.int y0]) := by
    intro A u1 u2 y0 H locs hP hD hS ls hl hf
    unfold fX7_planned_74 at hf
    refine lv_istore (lv' := [(4, .int y0), (0, .ref (q 0)), (1, .int u1), (2, .int u2)]) hx hb dX7_planned_74 hl (by decide) rfl (fun ls hl => ?_)
    refine lv_aload_n hx hb dX7_planned_76 rfl (lv_at hl 1 rfl) ?_
    refine lv_iload_n hx hb dX7_planned_77 rfl (lv_at hl 3 rfl) ?_
    obtain ⟨z1, hz1, hf⟩ := bnd hf
    refine x_wwVv (C := RX7) (n := 1) (ci := 7) hx hb hml hown hts hE (ct_X7_dawnTrial N l G cI cZ cO q I A L u2 z1 hz1) (bg 23 6 rfl) mb_X7_dawnTrial.1 mb_X7_dawnTrial.2.1 mb_X7_dawnTrial.2.2.1 mb_X7_dawnTrial.2.2.2 hd_X7_dawnTrial rfl (by decide) hP hD hS hA rfl rfl rfl rfl rfl hl.1 (Nat.le_of_ble_eq_true rfl) ⟨Nat.zero_le _, Nat.zero_le _⟩ dX7_planned_78 (fun H locs hP hD hS => ?_)
    have hP : va_P G vwCl (wX7 q cI cZ cO I z1 L) H := hP
    have hD : va_D Z (wX7 q cI cZ cO I z1 L) := hD
    refine lv_iload hx hb dX7_planned_81 (lv_at hl 0 rfl) ?_
    refine lv_if_eq (tgt := 95) hx hb dX7_planned_83 (by decide) (fun c2 => ?_) (fun c2 => ?_)
    · rw [if_pos c2] at hf
      refine lv_bipush (v := (-9)) hx hb dX7_planned_95 (by decide) ?_
      exact b_97 z1 (-9) H locs hP hD hS ls (lv_sub hl [] rfl) hf
    · rw [if_neg c2] at hf
      refine lv_aload_n hx hb dX7_planned_86 rfl (lv_at hl 1 rfl) ?_
      refine lv_iconst (v := 1) hx hb dX7_planned_87 (by decide) ?_
      refine lv_iload_n hx hb dX7_planned_88 rfl (lv_at hl 2 rfl) ?_
      obtain ⟨z3, hz3, hf⟩ := bnd hf
      refine x_rdV (C := RX7) (n := 2) (ci := 7) hx hb hml hown hts hE (ct_X7_purseOf N l G cI cZ cO q I z1 L 1 u1 z3 hz3) (bg 24 4 rfl) mb_X7_purseOf.1 mb_X7_purseOf.2.1 mb_X7_purseOf.2.2.1 mb_X7_purseOf.2.2.2 hd_X7_purseOf rfl (by decide) hP rfl rfl rfl rfl hl.1 (Nat.le_of_ble_eq_true rfl) ⟨Nat.zero_le _, Nat.zero_le _⟩ dX7_planned_89 ?_
      refine lv_goto (tgt := 97) hx hb dX7_planned_92 (by decide) ?_
      exact b_97 z1 z3 H locs hP hD hS ls (lv_sub hl [] rfl) hf
  have b_73 : ∀ (A : Nat → Nat → Int32) (u1 : Int32) (u2 : Int32), ∀ (H : Heap) (locs : List Loc), va_P G vwCl (wX7 q cI cZ cO I A L) H → va_D Z (wX7 q cI cZ cO I A L) → va_S Z s.heap H locs → ∀ ls : Array Slot, lv_has ls 5 [(0, .ref (q 0)), (1, .int u1), (2, .int u2)] → fX7_planned_73 N I A u1 u2 = some (r, Az) → W p l e rmX7_planned s m [.ref (q 0), .int x1, .int x2, .int x3].toArray below meth cd H locs 0 0 Q (F0 m 73 ls []) := by
    intro A u1 u2 H locs hP hD hS ls hl hf
    unfold fX7_planned_73 at hf
    refine lv_iconst (v := 0) hx hb dX7_planned_73 (by decide) ?_
    exact b_74 A u1 u2 0 H locs hP hD hS ls (lv_sub hl [0, 1, 2] rfl) hf
  have b_69 : ∀ (A : Nat → Nat → Int32) (u1 : Int32) (u2 : Int32), ∀ (H : Heap) (locs : List Loc), va_P G vwCl (wX7 q cI cZ cO I A L) H → va_D Z (wX7 q cI cZ cO I A L) → va_S Z s.heap H locs → ∀ ls : Array Slot, lv_has ls 5 [(0, .ref (q 0)), (1, .int u1), (2, .int u2)] → fX7_planned_69 N I A u1 u2 = some (r, Az) → W p l e rmX7_planned s m [.ref (q 0), .int x1, .int x2, .int x3].toArray below meth cd H locs 0 0 Q (F0 m 69 ls []) := by
    intro A u1 u2 H locs hP hD hS ls hl hf
    unfold fX7_planned_69 at hf
    refine lv_iconst (v := 1) hx hb dX7_planned_69 (by decide) ?_
    refine lv_goto (tgt := 74) hx hb dX7_planned_70 (by decide) ?_
    exact b_74 A u1 u2 1 H locs hP hD hS ls (lv_sub hl [0, 1, 2] rfl) hf
  have b_38 : ∀ (A : Nat → Nat → Int32) (u1 : Int32) (u2 : Int32) (u3 : Int32) (y0 : Int32), ∀ (H : Heap) (locs : List Loc), va_P G vwCl (wX7 q cI cZ cO I A L) H → va_D Z (wX7 q cI cZ cO I A L) → va_S Z s.heap H locs → ∀ ls : Array Slot, lv_has ls 5 [(0, .ref (q 0)), (1, .int u1), (2, .int u2), (3, .int u3)] → fX7_planned_38 N I A u1 u2 u3 y0 = some (r, Az) → W p l e rmX7_planned s m [.ref (q 0), .int x1, .int x2, .int x3].toArray below meth cd H locs 0 0 Q (F0 m 38 ls [.int y0]) := by
    intro A u1 u2 u3 y0 H locs hP hD hS ls hl hf
    unfold fX7_planned_38 at hf
    refine lv_istore (lv' := [(4, .int y0), (0, .ref (q 0)), (1, .int u1), (2, .int u2), (3, .int u3)]) hx hb dX7_planned_38 hl (by decide) rfl (fun ls hl => ?_)
    refine lv_iload hx hb dX7_planned_40 (lv_at hl 0 rfl) ?_
    refine lv_if_eq (tgt := 73) hx hb dX7_planned_42 (by decide) (fun c1 => ?_) (fun c1 => ?_)
    · rw [if_pos c1] at hf
      exact b_73 A u1 u2 H locs hP hD hS ls (lv_sub hl [1, 2, 3] rfl) hf
    · rw [if_neg c1] at hf
      refine lv_iload_n hx hb dX7_planned_45 rfl (lv_at hl 4 rfl) ?_
      refine lv_bipush (v := 100) hx hb dX7_planned_46 (by decide) ?_
      refine lv_icmp_lt (tgt := 69) hx hb dX7_planned_48 (by decide) (fun c2 => ?_) (fun c2 => ?_)
      · rw [if_pos c2] at hf
        exact b_69 A u1 u2 H locs hP hD hS ls (lv_sub hl [1, 2, 3] rfl) hf
      · rw [if_neg c2] at hf
        refine lv_aload_n hx hb dX7_planned_51 rfl (lv_at hl 1 rfl) ?_
        refine lv_iload_n hx hb dX7_planned_52 rfl (lv_at hl 4 rfl) ?_
        refine lv_bipush (v := 10) hx hb dX7_planned_53 (by decide) ?_
        refine lv_idiv hx hb dX7_planned_55 (by decide) ?_
        refine lv_bipush (v := 10) hx hb dX7_planned_56 (by decide) ?_
        refine x_irem hx hb dX7_planned_58 (by decide) ?_
        refine lv_iload_n hx hb dX7_planned_59 rfl (lv_at hl 4 rfl) ?_
        refine lv_bipush (v := 10) hx hb dX7_planned_60 (by decide) ?_
        refine x_irem hx hb dX7_planned_62 (by decide) ?_
        obtain ⟨z3, hz3, hf⟩ := bnd hf
        refine x_wwV (C := RX7) (n := 2) (ci := 7) hx hb hml hown hts hE (ct_X7_sayTrial N l G cI cZ cO q I A L (rem (u3 / 10) 10) (rem u3 10) z3.1 z3.2 hz3) (bg 27 0 rfl) mb_X7_sayTrial.1 mb_X7_sayTrial.2.1 mb_X7_sayTrial.2.2.1 mb_X7_sayTrial.2.2.2 hd_X7_sayTrial rfl (by decide) hP hD hS hA rfl rfl rfl rfl rfl hl.1 (Nat.le_of_ble_eq_true rfl) ⟨Nat.zero_le _, Nat.zero_le _⟩ dX7_planned_63 (fun H locs hP hD hS => ?_)
        have hP : va_P G vwCl (wX7 q cI cZ cO I z3.2 L) H := hP
        have hD : va_D Z (wX7 q cI cZ cO I z3.2 L) := hD
        refine lv_if_eq (tgt := 73) hx hb dX7_planned_66 (by decide) (fun c4 => ?_) (fun c4 => ?_)
        · rw [if_pos c4] at hf
          exact b_73 z3.2 u1 u2 H locs hP hD hS ls (lv_sub hl [1, 2, 3] rfl) hf
        · rw [if_neg c4] at hf
          exact b_69 z3.2 u1 u2 H locs hP hD hS ls (lv_sub hl [1, 2, 3] rfl) hf
  have b_33 : ∀ (A : Nat → Nat → Int32) (u1 : Int32) (u2 : Int32) (u3 : Int32), ∀ (H : Heap) (locs : List Loc), va_P G vwCl (wX7 q cI cZ cO I A L) H → va_D Z (wX7 q cI cZ cO I A L) → va_S Z s.heap H locs → ∀ ls : Array Slot, lv_has ls 5 [(0, .ref (q 0)), (1, .int u1), (2, .int u2), (3, .int u3)] → fX7_planned_33 N I A u1 u2 u3 = some (r, Az) → W p l e rmX7_planned s m [.ref (q 0), .int x1, .int x2, .int x3].toArray below meth cd H locs 0 0 Q (F0 m 33 ls []) := by
    intro A u1 u2 u3 H locs hP hD hS ls hl hf
    unfold fX7_planned_33 at hf
    refine lv_iconst (v := 1) hx hb dX7_planned_33 (by decide) ?_
    refine lv_goto (tgt := 38) hx hb dX7_planned_34 (by decide) ?_
    exact b_38 A u1 u2 u3 1 H locs hP hD hS ls (lv_sub hl [0, 1, 2, 3] rfl) hf
  unfold fX7_planned at hf
  have hS : va_S Z s.heap s.heap [] := va_S.rf
  obtain ⟨H, hH⟩ : ∃ H, H = s.heap := ⟨_, rfl⟩
  obtain ⟨locs, hlocs⟩ : ∃ locs : List Loc, locs = [] := ⟨_, rfl⟩
  rw [← hlocs]
  rw [← hlocs] at hS
  suffices hW : ∀ H : Heap, va_P G vwCl (wX7 q cI cZ cO I A L) H → va_S Z s.heap H locs → W p l e rmX7_planned s m [.ref (q 0), .int x1, .int x2, .int x3].toArray below meth cd H locs 0 0 Q (F0 m 0 ls []) from hW s.heap hP hS
  clear hP hS hH H
  intro H hP hS
  refine lv_aload_n hx hb dX7_planned_0 rfl (lv_at hl 0 rfl) ?_
  obtain ⟨z1, hz1, hf⟩ := bnd hf
  refine x_wwVv (C := RX7) (n := 0) (ci := 7) hx hb hml hown hts hE (ct_X7_layTrial N l G cI cZ cO q I A L z1 hz1) (bg 23 2 rfl) mb_X7_layTrial.1 mb_X7_layTrial.2.1 mb_X7_layTrial.2.2.1 mb_X7_layTrial.2.2.2 hd_X7_layTrial rfl (by decide) hP hD hS hA rfl rfl rfl rfl rfl hl.1 (Nat.le_of_ble_eq_true rfl) ⟨Nat.zero_le _, Nat.zero_le _⟩ dX7_planned_1 (fun H locs hP hD hS => ?_)
  have hP : va_P G vwCl (wX7 q cI cZ cO I z1 L) H := hP
  have hD : va_D Z (wX7 q cI cZ cO I z1 L) := hD
  refine lv_iload_n hx hb dX7_planned_4 rfl (lv_at hl 3 rfl) ?_
  refine lv_sipush (v := 10000) hx hb dX7_planned_5 (by decide) ?_
  refine lv_icmp_lt (tgt := 33) hx hb dX7_planned_8 (by decide) (fun c2 => ?_) (fun c2 => ?_)
  · rw [if_pos c2] at hf
    exact b_33 z1 x1 x2 x3 H locs hP hD hS ls (lv_sub hl [0, 1, 2, 3] rfl) hf
  · rw [if_neg c2] at hf
    refine lv_aload_n hx hb dX7_planned_11 rfl (lv_at hl 0 rfl) ?_
    refine lv_iload_n hx hb dX7_planned_12 rfl (lv_at hl 3 rfl) ?_
    refine lv_sipush (v := 1000) hx hb dX7_planned_13 (by decide) ?_
    refine lv_idiv hx hb dX7_planned_16 (by decide) ?_
    refine lv_bipush (v := 10) hx hb dX7_planned_17 (by decide) ?_
    refine x_irem hx hb dX7_planned_19 (by decide) ?_
    refine lv_iload_n hx hb dX7_planned_20 rfl (lv_at hl 3 rfl) ?_
    refine lv_bipush (v := 100) hx hb dX7_planned_21 (by decide) ?_
    refine lv_idiv hx hb dX7_planned_23 (by decide) ?_
    refine lv_bipush (v := 10) hx hb dX7_planned_24 (by decide) ?_
    refine x_irem hx hb dX7_planned_26 (by decide) ?_
    obtain ⟨z3, hz3, hf⟩ := bnd hf
    refine x_wwV (C := RX7) (n := 2) (ci := 7) hx hb hml hown hts hE (ct_X7_sayTrial N l G cI cZ cO q I z1 L (rem (x3 / 1000) 10) (rem (x3 / 100) 10) z3.1 z3.2 hz3) (bg 27 0 rfl) mb_X7_sayTrial.1 mb_X7_sayTrial.2.1 mb_X7_sayTrial.2.2.1 mb_X7_sayTrial.2.2.2 hd_X7_sayTrial rfl (by decide) hP hD hS hA rfl rfl rfl rfl rfl hl.1 (Nat.le_of_ble_eq_true rfl) ⟨Nat.zero_le _, Nat.zero_le _⟩ dX7_planned_27 (fun H locs hP hD hS => ?_)
    have hP : va_P G vwCl (wX7 q cI cZ cO I z3.2 L) H := hP
    have hD : va_D Z (wX7 q cI cZ cO I z3.2 L) := hD
    refine lv_if_eq (tgt := 37) hx hb dX7_planned_30 (by decide) (fun c4 => ?_) (fun c4 => ?_)
    · rw [if_pos c4] at hf
      refine lv_iconst (v := 0) hx hb dX7_planned_37 (by decide) ?_
      exact b_38 z3.2 x1 x2 x3 0 H locs hP hD hS ls (lv_sub hl [0, 1, 2, 3] rfl) hf
    · rw [if_neg c4] at hf
      exact b_33 z3.2 x1 x2 x3 H locs hP hD hS ls (lv_sub hl [0, 1, 2, 3] rfl) hf
def fX7_plan_133 (N : Nat) (I : Nat → Int32) (A : Nat → Nat → Int32) (y0 : Int32) : Option (Int32 × (Nat → Nat → Int32)) := some (y0, A)
def fX7_plan_114 (N : Nat) (k_40 : (Nat → Int32) → (Nat → Nat → Int32) → Int32 → Int32 → Int32 → Int32 → Int32 → Int32 → Option (Int32 × (Nat → Nat → Int32))) (I : Nat → Int32) (A : Nat → Nat → Int32) (u1 : Int32) (u2 : Int32) (u3 : Int32) (u4 : Int32) (u6 : Int32) (y0 : Int32) : Option (Int32 × (Nat → Nat → Int32)) := k_40 I A u1 u2 u3 u4 y0 (u6 + 1)
def fX7_plan_98 (N : Nat) (k_40 : (Nat → Int32) → (Nat → Nat → Int32) → Int32 → Int32 → Int32 → Int32 → Int32 → Int32 → Option (Int32 × (Nat → Nat → Int32))) (I : Nat → Int32) (A : Nat → Nat → Int32) (u1 : Int32) (u2 : Int32) (u3 : Int32) (u5 : Int32) (u6 : Int32) (u8 : Int32) (y0 : Int32) : Option (Int32 × (Nat → Nat → Int32)) := if u8 ≤ u5 then fX7_plan_114 N k_40 I A u1 u2 u3 y0 u6 u5 else fX7_plan_114 N k_40 I A u1 u2 u3 y0 u6 u8
def fX7_plan_72 (N : Nat) (k_40 : (Nat → Int32) → (Nat → Nat → Int32) → Int32 → Int32 → Int32 → Int32 → Int32 → Int32 → Option (Int32 × (Nat → Nat → Int32))) (I : Nat → Int32) (A : Nat → Nat → Int32) (u1 : Int32) (u2 : Int32) (u3 : Int32) (u4 : Int32) (u5 : Int32) (u6 : Int32) (y0 : Int32) : Option (Int32 × (Nat → Nat → Int32)) := (fX7_planned N I A u1 u2 y0).bind fun z1 => if z1.1 ≤ u5 then fX7_plan_98 N k_40 I z1.2 u1 u2 u3 u5 u6 z1.1 u4 else fX7_plan_98 N k_40 I z1.2 u1 u2 u3 u5 u6 z1.1 y0
def fX7_plan_40s (N : Nat) (k_40 : (Nat → Int32) → (Nat → Nat → Int32) → Int32 → Int32 → Int32 → Int32 → Int32 → Int32 → Option (Int32 × (Nat → Nat → Int32))) (I : Nat → Int32) (A : Nat → Nat → Int32) (u1 : Int32) (u2 : Int32) (u3 : Int32) (u4 : Int32) (u5 : Int32) (u6 : Int32) : Option (Int32 × (Nat → Nat → Int32)) := if 10100 ≤ u6 then if u3 = 0 then fX7_plan_133 N I A u5 else fX7_plan_133 N I A u4 else if 100 ≤ u6 then fX7_plan_72 N k_40 I A u1 u2 u3 u4 u5 u6 ((10000 + u6) - 100) else fX7_plan_72 N k_40 I A u1 u2 u3 u4 u5 u6 (100 + u6)
def fX7_plan_40 (N : Nat) : Nat → (Nat → Int32) → (Nat → Nat → Int32) → Int32 → Int32 → Int32 → Int32 → Int32 → Int32 → Option (Int32 × (Nat → Nat → Int32))
  | 0 => fun _ _ _ _ _ _ _ _ => none
  | n + 1 => fX7_plan_40s N (fX7_plan_40 N n)
def fX7_plan (N : Nat) (I : Nat → Int32) (A : Nat → Nat → Int32) (x1 : Int32) (x2 : Int32) (x3 : Int32) : Option (Int32 × (Nat → Nat → Int32)) := (fX7_isPerson N I x1).bind fun z1 => if z1 = 0 then some ((-1), A) else (fX7_in N (Int32.toInt64 x2) 0 8).bind fun z3 => if z3 = 0 then some ((-2), A) else (fX7_planned N I A x1 x2 1).bind fun z5 => fX7_plan_40 N N I z5.2 x1 x2 x3 1 z5.1 0
def rmX7_plan : Room := { frames := 4, cells := 0, slots := 0, locals := 95 }
theorem mb_X7_plan : Cond.instanceMethod yX7_plan ∈ wsL_law ∧ Cond.selects RX7 yX7_plan yX7_plan ∈ wsL_law ∧ Cond.initialized RX7 ∈ wsL_law ∧ Cond.code yX7_plan cX7_plan 9 (some .int) ∈ wsL_law := ⟨(bg 26 17 rfl), (bg 26 18 rfl), (bg 0 5 rfl), (bg 26 19 rfl)⟩
theorem hd_X7_plan : yX7_plan.cls = RX7 ∧ yX7_plan.cls ≠ "java/lang/invoke/MethodHandle" ∧ yX7_plan.cls ≠ "java/lang/invoke/VarHandle" ∧ (parseMethodDescriptor yX7_plan.desc).map (fun d => d.parameters.length) = some 3 := by decide +kernel
set_option maxRecDepth 100000 in
set_option maxHeartbeats 4000000 in
theorem ct_X7_plan (N : Nat) (l : Launch) (G : va_G) (cI cZ cO : ClassId) (q : Nat → Nat) (I : Nat → Int32) (A : Nat → Nat → Int32) (L : Int64) (x1 : Int32) (x2 : Int32) (x3 : Int32) (r : Int32) (Az : Nat → Nat → Int32) (hf : fX7_plan N I A x1 x2 x3 = some (r, Az)) : CtI l yX7_plan cX7_plan 9 .int rmX7_plan G cI cZ cO [.ref (q 0), .int x1, .int x2, .int x3] (wX7 q cI cZ cO I A L) (wX7 q cI cZ cO I Az L) r := by
  refine mkCI (by decide) (Nat.le_of_ble_eq_true rfl) ?_
  intro p e s m below meth cd Q Z hC hP hE hD hA fin ls hl
  obtain ⟨hx, hb, hml, hown, hts⟩ := hC
  have hown : s.vm.findClass RX7 = some m.cls := hown
  have hl : lv_has ls 9 [(0, .ref (q 0)), (1, .int x1), (2, .int x2), (3, .int x3)] := hl
  have b_133 : ∀ (A : Nat → Nat → Int32) (y0 : Int32), ∀ (H : Heap) (locs : List Loc), va_P G vwCl (wX7 q cI cZ cO I A L) H → va_D Z (wX7 q cI cZ cO I A L) → va_S Z s.heap H locs → ∀ ls : Array Slot, lv_has ls 9 [] → fX7_plan_133 N I A y0 = some (r, Az) → W p l e rmX7_plan s m [.ref (q 0), .int x1, .int x2, .int x3].toArray below meth cd H locs 0 0 Q (F0 m 133 ls [.int y0]) := by
    intro A y0 H locs hP hD hS ls hl hf
    unfold fX7_plan_133 at hf
    have e9 := Option.some.inj hf
    exact fin H locs 133 ls _ (Prod.mk.inj e9).1 (nar_i _) (by rw [← (Prod.mk.inj e9).2]; exact hP) hS dX7_plan_133
  have b_114 : ∀ (k_40 : (Nat → Int32) → (Nat → Nat → Int32) → Int32 → Int32 → Int32 → Int32 → Int32 → Int32 → Option (Int32 × (Nat → Nat → Int32))) (hk_40 : ∀ (A : Nat → Nat → Int32) (u1 : Int32) (u2 : Int32) (u3 : Int32) (u4 : Int32) (u5 : Int32) (u6 : Int32), ∀ (H : Heap) (locs : List Loc), va_P G vwCl (wX7 q cI cZ cO I A L) H → va_D Z (wX7 q cI cZ cO I A L) → va_S Z s.heap H locs → ∀ ls : Array Slot, lv_has ls 9 [(0, .ref (q 0)), (1, .int u1), (2, .int u2), (3, .int u3), (4, .int u4), (5, .int u5), (6, .int u6)] → k_40 I A u1 u2 u3 u4 u5 u6 = some (r, Az) → W p l e rmX7_plan s m [.ref (q 0), .int x1, .int x2, .int x3].toArray below meth cd H locs 0 0 Q (F0 m 40 ls [])), ∀ (A : Nat → Nat → Int32) (u1 : Int32) (u2 : Int32) (u3 : Int32) (u4 : Int32) (u6 : Int32) (y0 : Int32), ∀ (H : Heap) (locs : List Loc), va_P G vwCl (wX7 q cI cZ cO I A L) H → va_D Z (wX7 q cI cZ cO I A L) → va_S Z s.heap H locs → ∀ ls : Array Slot, lv_has ls 9 [(0, .ref (q 0)), (1, .int u1), (2, .int u2), (3, .int u3), (4, .int u4), (6, .int u6)] → fX7_plan_114 N k_40 I A u1 u2 u3 u4 u6 y0 = some (r, Az) → W p l e rmX7_plan s m [.ref (q 0), .int x1, .int x2, .int x3].toArray below meth cd H locs 0 0 Q (F0 m 114 ls [.int y0]) := by
    intro k_40 hk_40 A u1 u2 u3 u4 u6 y0 H locs hP hD hS ls hl hf
    unfold fX7_plan_114 at hf
    refine lv_istore (lv' := [(5, .int y0), (0, .ref (q 0)), (1, .int u1), (2, .int u2), (3, .int u3), (4, .int u4), (6, .int u6)]) hx hb dX7_plan_114 hl (by decide) rfl (fun ls hl => ?_)
    refine lv_iinc (v := u6 + 1) (lv' := [(6, .int (u6 + 1)), (5, .int y0), (0, .ref (q 0)), (1, .int u1), (2, .int u2), (3, .int u3), (4, .int u4)]) hx hb dX7_plan_116 hl (k := 6) rfl rfl (by decide) rfl (fun ls hl => ?_)
    refine lv_goto (tgt := 40) hx hb dX7_plan_119 (by decide) ?_
    exact hk_40 A u1 u2 u3 u4 y0 (u6 + 1) H locs hP hD hS ls (lv_sub hl [2, 3, 4, 5, 6, 1, 0] rfl) hf
  have b_98 : ∀ (k_40 : (Nat → Int32) → (Nat → Nat → Int32) → Int32 → Int32 → Int32 → Int32 → Int32 → Int32 → Option (Int32 × (Nat → Nat → Int32))) (hk_40 : ∀ (A : Nat → Nat → Int32) (u1 : Int32) (u2 : Int32) (u3 : Int32) (u4 : Int32) (u5 : Int32) (u6 : Int32), ∀ (H : Heap) (locs : List Loc), va_P G vwCl (wX7 q cI cZ cO I A L) H → va_D Z (wX7 q cI cZ cO I A L) → va_S Z s.heap H locs → ∀ ls : Array Slot, lv_has ls 9 [(0, .ref (q 0)), (1, .int u1), (2, .int u2), (3, .int u3), (4, .int u4), (5, .int u5), (6, .int u6)] → k_40 I A u1 u2 u3 u4 u5 u6 = some (r, Az) → W p l e rmX7_plan s m [.ref (q 0), .int x1, .int x2, .int x3].toArray below meth cd H locs 0 0 Q (F0 m 40 ls [])), ∀ (A : Nat → Nat → Int32) (u1 : Int32) (u2 : Int32) (u3 : Int32) (u5 : Int32) (u6 : Int32) (u8 : Int32) (y0 : Int32), ∀ (H : Heap) (locs : List Loc), va_P G vwCl (wX7 q cI cZ cO I A L) H → va_D Z (wX7 q cI cZ cO I A L) → va_S Z s.heap H locs → ∀ ls : Array Slot, lv_has ls 9 [(0, .ref (q 0)), (1, .int u1), (2, .int u2), (3, .int u3), (5, .int u5), (6, .int u6), (8, .int u8)] → fX7_plan_98 N k_40 I A u1 u2 u3 u5 u6 u8 y0 = some (r, Az) → W p l e rmX7_plan s m [.ref (q 0), .int x1, .int x2, .int x3].toArray below meth cd H locs 0 0 Q (F0 m 98 ls [.int y0]) := by
    intro k_40 hk_40 A u1 u2 u3 u5 u6 u8 y0 H locs hP hD hS ls hl hf
    unfold fX7_plan_98 at hf
    refine lv_istore (lv' := [(4, .int y0), (0, .ref (q 0)), (1, .int u1), (2, .int u2), (3, .int u3), (5, .int u5), (6, .int u6), (8, .int u8)]) hx hb dX7_plan_98 hl (by decide) rfl (fun ls hl => ?_)
    refine lv_iload hx hb dX7_plan_100 (lv_at hl 7 rfl) ?_
    refine lv_iload hx hb dX7_plan_102 (lv_at hl 5 rfl) ?_
    refine lv_icmp_le (tgt := 112) hx hb dX7_plan_104 (by decide) (fun c1 => ?_) (fun c1 => ?_)
    · rw [if_pos c1] at hf
      refine lv_iload hx hb dX7_plan_112 (lv_at hl 5 rfl) ?_
      exact b_114 k_40 hk_40 A u1 u2 u3 y0 u6 u5 H locs hP hD hS ls (lv_sub hl [1, 2, 3, 4, 0, 6] rfl) hf
    · rw [if_neg c1] at hf
      refine lv_iload hx hb dX7_plan_107 (lv_at hl 7 rfl) ?_
      refine lv_goto (tgt := 114) hx hb dX7_plan_109 (by decide) ?_
      exact b_114 k_40 hk_40 A u1 u2 u3 y0 u6 u8 H locs hP hD hS ls (lv_sub hl [1, 2, 3, 4, 0, 6] rfl) hf
  have b_72 : ∀ (k_40 : (Nat → Int32) → (Nat → Nat → Int32) → Int32 → Int32 → Int32 → Int32 → Int32 → Int32 → Option (Int32 × (Nat → Nat → Int32))) (hk_40 : ∀ (A : Nat → Nat → Int32) (u1 : Int32) (u2 : Int32) (u3 : Int32) (u4 : Int32) (u5 : Int32) (u6 : Int32), ∀ (H : Heap) (locs : List Loc), va_P G vwCl (wX7 q cI cZ cO I A L) H → va_D Z (wX7 q cI cZ cO I A L) → va_S Z s.heap H locs → ∀ ls : Array Slot, lv_has ls 9 [(0, .ref (q 0)), (1, .int u1), (2, .int u2), (3, .int u3), (4, .int u4), (5, .int u5), (6, .int u6)] → k_40 I A u1 u2 u3 u4 u5 u6 = some (r, Az) → W p l e rmX7_plan s m [.ref (q 0), .int x1, .int x2, .int x3].toArray below meth cd H locs 0 0 Q (F0 m 40 ls [])), ∀ (A : Nat → Nat → Int32) (u1 : Int32) (u2 : Int32) (u3 : Int32) (u4 : Int32) (u5 : Int32) (u6 : Int32) (y0 : Int32), ∀ (H : Heap) (locs : List Loc), va_P G vwCl (wX7 q cI cZ cO I A L) H → va_D Z (wX7 q cI cZ cO I A L) → va_S Z s.heap H locs → ∀ ls : Array Slot, lv_has ls 9 [(0, .ref (q 0)), (1, .int u1), (2, .int u2), (3, .int u3), (4, .int u4), (5, .int u5), (6, .int u6)] → fX7_plan_72 N k_40 I A u1 u2 u3 u4 u5 u6 y0 = some (r, Az) → W p l e rmX7_plan s m [.ref (q 0), .int x1, .int x2, .int x3].toArray below meth cd H locs 0 0 Q (F0 m 72 ls [.int y0]) := by
    intro k_40 hk_40 A u1 u2 u3 u4 u5 u6 y0 H locs hP hD hS ls hl hf
    unfold fX7_plan_72 at hf
    refine lv_istore (lv' := [(7, .int y0), (0, .ref (q 0)), (1, .int u1), (2, .int u2), (3, .int u3), (4, .int u4), (5, .int u5), (6, .int u6)]) hx hb dX7_plan_72 hl (by decide) rfl (fun ls hl => ?_)
    refine lv_aload_n hx hb dX7_plan_74 rfl (lv_at hl 1 rfl) ?_
    refine lv_iload_n hx hb dX7_plan_75 rfl (lv_at hl 2 rfl) ?_
    refine lv_iload_n hx hb dX7_plan_76 rfl (lv_at hl 3 rfl) ?_
    refine lv_iload hx hb dX7_plan_77 (lv_at hl 0 rfl) ?_
    obtain ⟨z1, hz1, hf⟩ := bnd hf
    refine x_wwV (C := RX7) (n := 3) (ci := 7) hx hb hml hown hts hE (ct_X7_planned N l G cI cZ cO q I A L u1 u2 y0 z1.1 z1.2 hz1) (bg 26 20 rfl) mb_X7_planned.1 mb_X7_planned.2.1 mb_X7_planned.2.2.1 mb_X7_planned.2.2.2 hd_X7_planned rfl (by decide) hP hD hS hA rfl rfl rfl rfl rfl hl.1 (Nat.le_of_ble_eq_true rfl) ⟨Nat.zero_le _, Nat.zero_le _⟩ dX7_plan_79 (fun H locs hP hD hS => ?_)
    have hP : va_P G vwCl (wX7 q cI cZ cO I z1.2 L) H := hP
    have hD : va_D Z (wX7 q cI cZ cO I z1.2 L) := hD
    refine lv_istore (lv' := [(8, .int z1.1), (7, .int y0), (0, .ref (q 0)), (1, .int u1), (2, .int u2), (3, .int u3), (4, .int u4), (5, .int u5), (6, .int u6)]) hx hb dX7_plan_82 hl (by decide) rfl (fun ls hl => ?_)
    refine lv_iload hx hb dX7_plan_84 (lv_at hl 0 rfl) ?_
    refine lv_iload hx hb dX7_plan_86 (lv_at hl 7 rfl) ?_
    refine lv_icmp_le (tgt := 96) hx hb dX7_plan_88 (by decide) (fun c2 => ?_) (fun c2 => ?_)
    · rw [if_pos c2] at hf
      refine lv_iload hx hb dX7_plan_96 (lv_at hl 6 rfl) ?_
      exact b_98 k_40 hk_40 z1.2 u1 u2 u3 u5 u6 z1.1 u4 H locs hP hD hS ls (lv_sub hl [2, 3, 4, 5, 7, 8, 0] rfl) hf
    · rw [if_neg c2] at hf
      refine lv_iload hx hb dX7_plan_91 (lv_at hl 1 rfl) ?_
      refine lv_goto (tgt := 98) hx hb dX7_plan_93 (by decide) ?_
      exact b_98 k_40 hk_40 z1.2 u1 u2 u3 u5 u6 z1.1 y0 H locs hP hD hS ls (lv_sub hl [2, 3, 4, 5, 7, 8, 0] rfl) hf
  have b_40 : ∀ n : Nat, ∀ (A : Nat → Nat → Int32) (u1 : Int32) (u2 : Int32) (u3 : Int32) (u4 : Int32) (u5 : Int32) (u6 : Int32), ∀ (H : Heap) (locs : List Loc), va_P G vwCl (wX7 q cI cZ cO I A L) H → va_D Z (wX7 q cI cZ cO I A L) → va_S Z s.heap H locs → ∀ ls : Array Slot, lv_has ls 9 [(0, .ref (q 0)), (1, .int u1), (2, .int u2), (3, .int u3), (4, .int u4), (5, .int u5), (6, .int u6)] → fX7_plan_40 N n I A u1 u2 u3 u4 u5 u6 = some (r, Az) → W p l e rmX7_plan s m [.ref (q 0), .int x1, .int x2, .int x3].toArray below meth cd H locs 0 0 Q (F0 m 40 ls []) := by
    intro n
    induction n with
    | zero =>
      intro A u1 u2 u3 u4 u5 u6 H locs hP hD hS ls hl hf
      cases hf
    | succ n hk_40 =>
      intro A u1 u2 u3 u4 u5 u6 H locs hP hD hS ls hl hf
      replace hf : fX7_plan_40s N (fX7_plan_40 N n) I A u1 u2 u3 u4 u5 u6 = some (r, Az) := hf
      generalize fX7_plan_40 N n = k_40 at hf hk_40
      unfold fX7_plan_40s at hf
      refine lv_iload hx hb dX7_plan_40 (lv_at hl 6 rfl) ?_
      refine lv_sipush (v := 10100) hx hb dX7_plan_42 (by decide) ?_
      refine lv_icmp_ge (tgt := 122) hx hb dX7_plan_45 (by decide) (fun c1 => ?_) (fun c1 => ?_)
      · rw [if_pos c1] at hf
        refine lv_iload_n hx hb dX7_plan_122 rfl (lv_at hl 3 rfl) ?_
        refine lv_if_eq (tgt := 131) hx hb dX7_plan_123 (by decide) (fun c2 => ?_) (fun c2 => ?_)
        · rw [if_pos c2] at hf
          refine lv_iload hx hb dX7_plan_131 (lv_at hl 5 rfl) ?_
          exact b_133 A u5 H locs hP hD hS ls (lv_sub hl [] rfl) hf
        · rw [if_neg c2] at hf
          refine lv_iload hx hb dX7_plan_126 (lv_at hl 4 rfl) ?_
          refine lv_goto (tgt := 133) hx hb dX7_plan_128 (by decide) ?_
          exact b_133 A u4 H locs hP hD hS ls (lv_sub hl [] rfl) hf
      · rw [if_neg c1] at hf
        refine lv_iload hx hb dX7_plan_48 (lv_at hl 6 rfl) ?_
        refine lv_bipush (v := 100) hx hb dX7_plan_50 (by decide) ?_
        refine lv_icmp_ge (tgt := 63) hx hb dX7_plan_52 (by decide) (fun c3 => ?_) (fun c3 => ?_)
        · rw [if_pos c3] at hf
          refine lv_sipush (v := 10000) hx hb dX7_plan_63 (by decide) ?_
          refine lv_iload hx hb dX7_plan_66 (lv_at hl 6 rfl) ?_
          refine lv_iadd hx hb dX7_plan_68 ?_
          refine lv_bipush (v := 100) hx hb dX7_plan_69 (by decide) ?_
          refine lv_isub hx hb dX7_plan_71 ?_
          exact b_72 k_40 hk_40 A u1 u2 u3 u4 u5 u6 ((10000 + u6) - 100) H locs hP hD hS ls (lv_sub hl [0, 1, 2, 3, 4, 5, 6] rfl) hf
        · rw [if_neg c3] at hf
          refine lv_bipush (v := 100) hx hb dX7_plan_55 (by decide) ?_
          refine lv_iload hx hb dX7_plan_57 (lv_at hl 6 rfl) ?_
          refine lv_iadd hx hb dX7_plan_59 ?_
          refine lv_goto (tgt := 72) hx hb dX7_plan_60 (by decide) ?_
          exact b_72 k_40 hk_40 A u1 u2 u3 u4 u5 u6 (100 + u6) H locs hP hD hS ls (lv_sub hl [0, 1, 2, 3, 4, 5, 6] rfl) hf
  unfold fX7_plan at hf
  have hS : va_S Z s.heap s.heap [] := va_S.rf
  obtain ⟨H, hH⟩ : ∃ H, H = s.heap := ⟨_, rfl⟩
  obtain ⟨locs, hlocs⟩ : ∃ locs : List Loc, locs = [] := ⟨_, rfl⟩
  rw [← hlocs]
  rw [← hlocs] at hS
  suffices hW : ∀ H : Heap, va_P G vwCl (wX7 q cI cZ cO I A L) H → va_S Z s.heap H locs → W p l e rmX7_plan s m [.ref (q 0), .int x1, .int x2, .int x3].toArray below meth cd H locs 0 0 Q (F0 m 0 ls []) from hW s.heap hP hS
  clear hP hS hH H
  intro H hP hS
  refine lv_aload_n hx hb dX7_plan_0 rfl (lv_at hl 0 rfl) ?_
  refine lv_iload_n hx hb dX7_plan_1 rfl (lv_at hl 1 rfl) ?_
  obtain ⟨z1, hz1, hf⟩ := bnd hf
  refine x_rdV (C := RX7) (n := 1) (ci := 7) hx hb hml hown hts hE (ct_X7_isPerson N l G cI cZ cO q I A L x1 z1 hz1) (bg 14 3 rfl) mb_X7_isPerson.1 mb_X7_isPerson.2.1 mb_X7_isPerson.2.2.1 mb_X7_isPerson.2.2.2 hd_X7_isPerson rfl (by decide) hP rfl rfl rfl rfl hl.1 (Nat.le_of_ble_eq_true rfl) ⟨Nat.zero_le _, Nat.zero_le _⟩ dX7_plan_2 ?_
  refine lv_if_ne (tgt := 10) hx hb dX7_plan_5 (by decide) (fun c2 => ?_) (fun c2 => ?_)
  · rw [if_neg c2] at hf
    refine lv_iload_n hx hb dX7_plan_10 rfl (lv_at hl 2 rfl) ?_
    refine lv_i2l (v := Int32.toInt64 x2) hx hb dX7_plan_11 rfl ?_
    refine lv_lconst (v := 0) hx hb dX7_plan_12 (by decide) ?_
    refine lv_ldc2 hx hb hown (hts _ (bg 23 1 rfl)) dX7_plan_13 ?_
    obtain ⟨z3, hz3, hf⟩ := bnd hf
    refine x_rdS (n := 3) hx hb hml hown hts hE (ct_X7_in N l G cI cZ cO (Int32.toInt64 x2) 0 8 z3 hz3) (bg 5 9 rfl) mb_X7_in.1 mb_X7_in.2.1 mb_X7_in.2.2 hd_X7_in rfl (by decide) va_P_nil rfl hl.1 (Nat.le_of_ble_eq_true rfl) ⟨Nat.zero_le _, Nat.zero_le _⟩ dX7_plan_16 ?_
    refine lv_if_ne (tgt := 25) hx hb dX7_plan_19 (by decide) (fun c4 => ?_) (fun c4 => ?_)
    · rw [if_neg c4] at hf
      refine lv_iconst (v := 1) hx hb dX7_plan_25 (by decide) ?_
      refine lv_istore (lv' := [(4, .int 1), (0, .ref (q 0)), (1, .int x1), (2, .int x2), (3, .int x3)]) hx hb dX7_plan_26 hl (by decide) rfl (fun ls hl => ?_)
      refine lv_aload_n hx hb dX7_plan_28 rfl (lv_at hl 1 rfl) ?_
      refine lv_iload_n hx hb dX7_plan_29 rfl (lv_at hl 2 rfl) ?_
      refine lv_iload_n hx hb dX7_plan_30 rfl (lv_at hl 3 rfl) ?_
      refine lv_iconst (v := 1) hx hb dX7_plan_31 (by decide) ?_
      obtain ⟨z5, hz5, hf⟩ := bnd hf
      refine x_wwV (C := RX7) (n := 3) (ci := 7) hx hb hml hown hts hE (ct_X7_planned N l G cI cZ cO q I A L x1 x2 1 z5.1 z5.2 hz5) (bg 26 20 rfl) mb_X7_planned.1 mb_X7_planned.2.1 mb_X7_planned.2.2.1 mb_X7_planned.2.2.2 hd_X7_planned rfl (by decide) hP hD hS hA rfl rfl rfl rfl rfl hl.1 (Nat.le_of_ble_eq_true rfl) ⟨Nat.zero_le _, Nat.zero_le _⟩ dX7_plan_32 (fun H locs hP hD hS => ?_)
      have hP : va_P G vwCl (wX7 q cI cZ cO I z5.2 L) H := hP
      have hD : va_D Z (wX7 q cI cZ cO I z5.2 L) := hD
      refine lv_istore (lv' := [(5, .int z5.1), (4, .int 1), (0, .ref (q 0)), (1, .int x1), (2, .int x2), (3, .int x3)]) hx hb dX7_plan_35 hl (by decide) rfl (fun ls hl => ?_)
      refine lv_iconst (v := 0) hx hb dX7_plan_37 (by decide) ?_
      refine lv_istore (lv' := [(6, .int 0), (5, .int z5.1), (4, .int 1), (0, .ref (q 0)), (1, .int x1), (2, .int x2), (3, .int x3)]) hx hb dX7_plan_38 hl (by decide) rfl (fun ls hl => ?_)
      exact b_40 N z5.2 x1 x2 x3 1 z5.1 0 H locs hP hD hS ls (lv_sub hl [3, 4, 5, 6, 2, 1, 0] rfl) hf
    · rw [if_pos c4] at hf
      refine lv_bipush (v := (-2)) hx hb dX7_plan_22 (by decide) ?_
      have e9 := Option.some.inj hf
      exact fin H locs 24 ls _ (Prod.mk.inj e9).1 (nar_i _) (by rw [← (Prod.mk.inj e9).2]; exact hP) hS dX7_plan_24
  · rw [if_pos c2] at hf
    refine lv_iconst (v := (-1)) hx hb dX7_plan_8 (by decide) ?_
    have e9 := Option.some.inj hf
    exact fin H locs 9 ls _ (Prod.mk.inj e9).1 (nar_i _) (by rw [← (Prod.mk.inj e9).2]; exact hP) hS dX7_plan_9
def fX7_canBe_40 (N : Nat) (k_4 : (Nat → Int32) → (Nat → Nat → Int32) → Int32 → Int32 → Int32 → Option (Int32)) (I : Nat → Int32) (A : Nat → Nat → Int32) (u1 : Int32) (u3 : Int32) (y0 : Int32) : Option (Int32) := k_4 I A u1 y0 (u3 + 1)
def fX7_canBe_39 (N : Nat) (k_4 : (Nat → Int32) → (Nat → Nat → Int32) → Int32 → Int32 → Int32 → Option (Int32)) (I : Nat → Int32) (A : Nat → Nat → Int32) (u1 : Int32) (u3 : Int32) : Option (Int32) := fX7_canBe_40 N k_4 I A u1 u3 0
def fX7_canBe_35 (N : Nat) (k_4 : (Nat → Int32) → (Nat → Nat → Int32) → Int32 → Int32 → Int32 → Option (Int32)) (I : Nat → Int32) (A : Nat → Nat → Int32) (u1 : Int32) (u3 : Int32) : Option (Int32) := fX7_canBe_40 N k_4 I A u1 u3 1
def fX7_canBe_4s (N : Nat) (k_4 : (Nat → Int32) → (Nat → Nat → Int32) → Int32 → Int32 → Int32 → Option (Int32)) (I : Nat → Int32) (A : Nat → Nat → Int32) (u1 : Int32) (u2 : Int32) (u3 : Int32) : Option (Int32) := if (I 0) ≤ u3 then (bz u2).bind fun v2 => some v2 else if u2 = 0 then fX7_canBe_39 N k_4 I A u1 u3 else (fX7_has N u1 u3).bind fun z4 => if z4 = 0 then fX7_canBe_35 N k_4 I A u1 u3 else (rd 5 (A 3) u3).bind fun v6 => if (v6 &&& u1) = 0 then fX7_canBe_35 N k_4 I A u1 u3 else fX7_canBe_39 N k_4 I A u1 u3
def fX7_canBe_4 (N : Nat) : Nat → (Nat → Int32) → (Nat → Nat → Int32) → Int32 → Int32 → Int32 → Option (Int32)
  | 0 => fun _ _ _ _ _ => none
  | n + 1 => fX7_canBe_4s N (fX7_canBe_4 N n)
def fX7_canBe (N : Nat) (I : Nat → Int32) (A : Nat → Nat → Int32) (x1 : Int32) : Option (Int32) := fX7_canBe_4 N N I A x1 1 0
def rmX7_canBe : Room := { frames := 1, cells := 0, slots := 0, locals := 21 }
theorem mb_X7_canBe : Cond.instanceMethod yX7_canBe ∈ wsL_law ∧ Cond.selects RX7 yX7_canBe yX7_canBe ∈ wsL_law ∧ Cond.initialized RX7 ∈ wsL_law ∧ Cond.code yX7_canBe cX7_canBe 4 (some .boolean) ∈ wsL_law := ⟨(bg 27 22 rfl), (bg 27 23 rfl), (bg 0 5 rfl), (bg 28 0 rfl)⟩
theorem hd_X7_canBe : yX7_canBe.cls = RX7 ∧ yX7_canBe.cls ≠ "java/lang/invoke/MethodHandle" ∧ yX7_canBe.cls ≠ "java/lang/invoke/VarHandle" ∧ (parseMethodDescriptor yX7_canBe.desc).map (fun d => d.parameters.length) = some 1 := by decide +kernel
set_option maxRecDepth 100000 in
set_option maxHeartbeats 4000000 in
theorem ct_X7_canBe (N : Nat) (l : Launch) (G : va_G) (cI cZ cO : ClassId) (q : Nat → Nat) (I : Nat → Int32) (A : Nat → Nat → Int32) (L : Int64) (x1 : Int32) (r : Int32) (hf : fX7_canBe N I A x1 = some r) : RtI l yX7_canBe cX7_canBe 4 .boolean rmX7_canBe G cI cZ cO [.ref (q 0), .int x1] (wX7 q cI cZ cO I A L) r := by
  refine mkRI (by decide) (Nat.le_of_ble_eq_true rfl) ?_
  intro p e s m below meth cd Q hC hP hE fin ls hl
  obtain ⟨hx, hb, hml, hown, hts⟩ := hC
  have hown : s.vm.findClass RX7 = some m.cls := hown
  have hl : lv_has ls 4 [(0, .ref (q 0)), (1, .int x1)] := hl
  have b_40 : ∀ (k_4 : (Nat → Int32) → (Nat → Nat → Int32) → Int32 → Int32 → Int32 → Option (Int32)) (hk_4 : ∀ (u1 : Int32) (u2 : Int32) (u3 : Int32), ∀ ls : Array Slot, lv_has ls 4 [(0, .ref (q 0)), (1, .int u1), (2, .int u2), (3, .int u3)] → k_4 I A u1 u2 u3 = some r → W p l e rmX7_canBe s m [.ref (q 0), .int x1].toArray below meth cd s.heap [] 0 0 Q (F0 m 4 ls [])), ∀ (u1 : Int32) (u3 : Int32) (y0 : Int32), ∀ ls : Array Slot, lv_has ls 4 [(0, .ref (q 0)), (1, .int u1), (3, .int u3)] → fX7_canBe_40 N k_4 I A u1 u3 y0 = some r → W p l e rmX7_canBe s m [.ref (q 0), .int x1].toArray below meth cd s.heap [] 0 0 Q (F0 m 40 ls [.int y0]) := by
    intro k_4 hk_4 u1 u3 y0 ls hl hf
    unfold fX7_canBe_40 at hf
    refine lv_istore_n (lv' := [(2, .int y0), (0, .ref (q 0)), (1, .int u1), (3, .int u3)]) hx hb dX7_canBe_40 rfl hl (by decide) rfl (fun ls hl => ?_)
    refine lv_iinc (v := u3 + 1) (lv' := [(3, .int (u3 + 1)), (2, .int y0), (0, .ref (q 0)), (1, .int u1)]) hx hb dX7_canBe_41 hl (k := 3) rfl rfl (by decide) rfl (fun ls hl => ?_)
    refine lv_goto (tgt := 4) hx hb dX7_canBe_44 (by decide) ?_
    exact hk_4 u1 y0 (u3 + 1) ls (lv_sub hl [2, 3, 1, 0] rfl) hf
  have b_39 : ∀ (k_4 : (Nat → Int32) → (Nat → Nat → Int32) → Int32 → Int32 → Int32 → Option (Int32)) (hk_4 : ∀ (u1 : Int32) (u2 : Int32) (u3 : Int32), ∀ ls : Array Slot, lv_has ls 4 [(0, .ref (q 0)), (1, .int u1), (2, .int u2), (3, .int u3)] → k_4 I A u1 u2 u3 = some r → W p l e rmX7_canBe s m [.ref (q 0), .int x1].toArray below meth cd s.heap [] 0 0 Q (F0 m 4 ls [])), ∀ (u1 : Int32) (u3 : Int32), ∀ ls : Array Slot, lv_has ls 4 [(0, .ref (q 0)), (1, .int u1), (3, .int u3)] → fX7_canBe_39 N k_4 I A u1 u3 = some r → W p l e rmX7_canBe s m [.ref (q 0), .int x1].toArray below meth cd s.heap [] 0 0 Q (F0 m 39 ls []) := by
    intro k_4 hk_4 u1 u3 ls hl hf
    unfold fX7_canBe_39 at hf
    refine lv_iconst (v := 0) hx hb dX7_canBe_39 (by decide) ?_
    exact b_40 k_4 hk_4 u1 u3 0 ls (lv_sub hl [0, 1, 2] rfl) hf
  have b_35 : ∀ (k_4 : (Nat → Int32) → (Nat → Nat → Int32) → Int32 → Int32 → Int32 → Option (Int32)) (hk_4 : ∀ (u1 : Int32) (u2 : Int32) (u3 : Int32), ∀ ls : Array Slot, lv_has ls 4 [(0, .ref (q 0)), (1, .int u1), (2, .int u2), (3, .int u3)] → k_4 I A u1 u2 u3 = some r → W p l e rmX7_canBe s m [.ref (q 0), .int x1].toArray below meth cd s.heap [] 0 0 Q (F0 m 4 ls [])), ∀ (u1 : Int32) (u3 : Int32), ∀ ls : Array Slot, lv_has ls 4 [(0, .ref (q 0)), (1, .int u1), (3, .int u3)] → fX7_canBe_35 N k_4 I A u1 u3 = some r → W p l e rmX7_canBe s m [.ref (q 0), .int x1].toArray below meth cd s.heap [] 0 0 Q (F0 m 35 ls []) := by
    intro k_4 hk_4 u1 u3 ls hl hf
    unfold fX7_canBe_35 at hf
    refine lv_iconst (v := 1) hx hb dX7_canBe_35 (by decide) ?_
    refine lv_goto (tgt := 40) hx hb dX7_canBe_36 (by decide) ?_
    exact b_40 k_4 hk_4 u1 u3 1 ls (lv_sub hl [0, 1, 2] rfl) hf
  have b_4 : ∀ n : Nat, ∀ (u1 : Int32) (u2 : Int32) (u3 : Int32), ∀ ls : Array Slot, lv_has ls 4 [(0, .ref (q 0)), (1, .int u1), (2, .int u2), (3, .int u3)] → fX7_canBe_4 N n I A u1 u2 u3 = some r → W p l e rmX7_canBe s m [.ref (q 0), .int x1].toArray below meth cd s.heap [] 0 0 Q (F0 m 4 ls []) := by
    intro n
    induction n with
    | zero =>
      intro u1 u2 u3 ls hl hf
      cases hf
    | succ n hk_4 =>
      intro u1 u2 u3 ls hl hf
      replace hf : fX7_canBe_4s N (fX7_canBe_4 N n) I A u1 u2 u3 = some r := hf
      generalize fX7_canBe_4 N n = k_4 at hf hk_4
      unfold fX7_canBe_4s at hf
      refine lv_iload_n hx hb dX7_canBe_4 rfl (lv_at hl 3 rfl) ?_
      refine lv_aload_n hx hb dX7_canBe_5 rfl (lv_at hl 0 rfl) ?_
      refine va_get (D := G) (ci := 7) (v := .int ((I 0))) (C := RX7) (T := TX7) (N := 33) hx hb hts inlX7 hown hE.1 hP 0 rfl rfl 0 (by decide) (hts _ (bg 4 12 rfl)) (fun _ h9 => h9) rfl dX7_canBe_6 ?_
      refine lv_icmp_ge (tgt := 47) hx hb dX7_canBe_9 (by decide) (fun c1 => ?_) (fun c1 => ?_)
      · rw [if_pos c1] at hf
        refine lv_iload_n hx hb dX7_canBe_47 rfl (lv_at hl 2 rfl) ?_
        obtain ⟨v2, hv2, hf⟩ := bnd hf
        obtain ⟨ev2, hv2⟩ := bz_in hv2
        rw [ev2]
        have e9 := Option.some.inj hf
        exact fin 48 ls _ e9 (nar_z (by rw [← e9]; exact hv2)) dX7_canBe_48
      · rw [if_neg c1] at hf
        refine lv_iload_n hx hb dX7_canBe_12 rfl (lv_at hl 2 rfl) ?_
        refine lv_if_eq (tgt := 39) hx hb dX7_canBe_13 (by decide) (fun c3 => ?_) (fun c3 => ?_)
        · rw [if_pos c3] at hf
          exact b_39 k_4 hk_4 u1 u3 ls (lv_sub hl [0, 1, 3] rfl) hf
        · rw [if_neg c3] at hf
          refine lv_iload_n hx hb dX7_canBe_16 rfl (lv_at hl 1 rfl) ?_
          refine lv_iload_n hx hb dX7_canBe_17 rfl (lv_at hl 3 rfl) ?_
          obtain ⟨z4, hz4, hf⟩ := bnd hf
          refine x_rdS (n := 2) hx hb hml hown hts hE (ct_X7_has N l G cI cZ cO u1 u3 z4 hz4) (bg 10 12 rfl) mb_X7_has.1 mb_X7_has.2.1 mb_X7_has.2.2 hd_X7_has rfl (by decide) va_P_nil rfl hl.1 (Nat.le_of_ble_eq_true rfl) ⟨Nat.zero_le _, Nat.zero_le _⟩ dX7_canBe_18 ?_
          refine lv_if_eq (tgt := 35) hx hb dX7_canBe_21 (by decide) (fun c5 => ?_) (fun c5 => ?_)
          · rw [if_pos c5] at hf
            exact b_35 k_4 hk_4 u1 u3 ls (lv_sub hl [0, 1, 3] rfl) hf
          · rw [if_neg c5] at hf
            refine lv_aload_n hx hb dX7_canBe_24 rfl (lv_at hl 0 rfl) ?_
            refine va_get (D := G) (ci := 7) (v := .ref (q 4)) (C := RX7) (T := TX7) (N := 33) hx hb hts inlX7 hown hE.1 hP 0 rfl rfl 5 (by decide) (hts _ (bg 3 17 rfl)) (fun _ h9 => h9) rfl dX7_canBe_25 ?_
            refine lv_iload_n hx hb dX7_canBe_28 rfl (lv_at hl 3 rfl) ?_
            obtain ⟨v6, hv6, hf⟩ := bnd hf
            refine x_iald hx hb hE.1 hP 4 0 rfl rfl hv6 dX7_canBe_29 ?_
            refine lv_iload_n hx hb dX7_canBe_30 rfl (lv_at hl 1 rfl) ?_
            refine lv_iand hx hb dX7_canBe_31 ?_
            refine lv_if_ne (tgt := 39) hx hb dX7_canBe_32 (by decide) (fun c7 => ?_) (fun c7 => ?_)
            · rw [if_neg c7] at hf
              exact b_39 k_4 hk_4 u1 u3 ls (lv_sub hl [0, 1, 3] rfl) hf
            · rw [if_pos c7] at hf
              exact b_35 k_4 hk_4 u1 u3 ls (lv_sub hl [0, 1, 3] rfl) hf
  unfold fX7_canBe at hf
  refine lv_iconst (v := 1) hx hb dX7_canBe_0 (by decide) ?_
  refine lv_istore_n (lv' := [(2, .int 1), (0, .ref (q 0)), (1, .int x1)]) hx hb dX7_canBe_1 rfl hl (by decide) rfl (fun ls hl => ?_)
  refine lv_iconst (v := 0) hx hb dX7_canBe_2 (by decide) ?_
  refine lv_istore_n (lv' := [(3, .int 0), (2, .int 1), (0, .ref (q 0)), (1, .int x1)]) hx hb dX7_canBe_3 rfl hl (by decide) rfl (fun ls hl => ?_)
  exact b_4 N x1 1 0 ls (lv_sub hl [2, 3, 1, 0] rfl) hf
def fX7_holds_174 (N : Nat) (I : Nat → Int32) (A : Nat → Nat → Int32) (y0 : Int32) : Option (Int32) := some y0
def fX7_holds_156 (N : Nat) (k_18 : (Nat → Int32) → (Nat → Nat → Int32) → Int32 → Int32 → Int32 → Int32 → Int32 → Option (Int32)) (I : Nat → Int32) (A : Nat → Nat → Int32) (u1 : Int32) (u2 : Int32) (u3 : Int32) (u5 : Int32) (y0 : Int32) : Option (Int32) := k_18 I A u1 u2 u3 y0 (u5 + 1)
def fX7_holds_143 (N : Nat) (k_18 : (Nat → Int32) → (Nat → Nat → Int32) → Int32 → Int32 → Int32 → Int32 → Int32 → Option (Int32)) (I : Nat → Int32) (A : Nat → Nat → Int32) (u1 : Int32) (u2 : Int32) (u4 : Int32) (u5 : Int32) (u6 : Int32) (u7 : Int32) (y0 : Int32) : Option (Int32) := if u7 = 0 then fX7_holds_156 N k_18 I A u1 u2 y0 u5 u4 else fX7_holds_156 N k_18 I A u1 u2 y0 u5 u6
def fX7_holds_130 (N : Nat) (k_18 : (Nat → Int32) → (Nat → Nat → Int32) → Int32 → Int32 → Int32 → Int32 → Int32 → Option (Int32)) (I : Nat → Int32) (A : Nat → Nat → Int32) (u1 : Int32) (u2 : Int32) (u3 : Int32) (u4 : Int32) (u5 : Int32) (u6 : Int32) (y0 : Int32) : Option (Int32) := if y0 = 0 then fX7_holds_143 N k_18 I A u1 u2 u4 u5 u6 y0 u3 else fX7_holds_143 N k_18 I A u1 u2 u4 u5 u6 y0 u5
def fX7_holds_129 (N : Nat) (k_18 : (Nat → Int32) → (Nat → Nat → Int32) → Int32 → Int32 → Int32 → Int32 → Int32 → Option (Int32)) (I : Nat → Int32) (A : Nat → Nat → Int32) (u1 : Int32) (u2 : Int32) (u3 : Int32) (u4 : Int32) (u5 : Int32) (u6 : Int32) : Option (Int32) := fX7_holds_130 N k_18 I A u1 u2 u3 u4 u5 u6 0
def fX7_holds_125 (N : Nat) (k_18 : (Nat → Int32) → (Nat → Nat → Int32) → Int32 → Int32 → Int32 → Int32 → Int32 → Option (Int32)) (I : Nat → Int32) (A : Nat → Nat → Int32) (u1 : Int32) (u2 : Int32) (u3 : Int32) (u4 : Int32) (u5 : Int32) (u6 : Int32) : Option (Int32) := fX7_holds_130 N k_18 I A u1 u2 u3 u4 u5 u6 1
def fX7_holds_81 (N : Nat) (k_18 : (Nat → Int32) → (Nat → Nat → Int32) → Int32 → Int32 → Int32 → Int32 → Int32 → Option (Int32)) (k_35 : (Nat → Int32) → (Nat → Nat → Int32) → Int32 → Int32 → Int32 → Int32 → Int32 → Int32 → Int32 → Option (Int32)) (I : Nat → Int32) (A : Nat → Nat → Int32) (u1 : Int32) (u2 : Int32) (u3 : Int32) (u4 : Int32) (u5 : Int32) (u7 : Int32) (y0 : Int32) (y1 : Int32) : Option (Int32) := k_35 I A u1 u2 u3 u4 u5 (y0 + y1) (u7 + 1)
def fX7_holds_35s (N : Nat) (k_18 : (Nat → Int32) → (Nat → Nat → Int32) → Int32 → Int32 → Int32 → Int32 → Int32 → Option (Int32)) (k_35 : (Nat → Int32) → (Nat → Nat → Int32) → Int32 → Int32 → Int32 → Int32 → Int32 → Int32 → Int32 → Option (Int32)) (I : Nat → Int32) (A : Nat → Nat → Int32) (u1 : Int32) (u2 : Int32) (u3 : Int32) (u4 : Int32) (u5 : Int32) (u6 : Int32) (u7 : Int32) : Option (Int32) := if (I 0) ≤ u7 then (fX7_canBe N I A u5).bind fun z2 => if z2 = 0 then fX7_holds_129 N k_18 I A u1 u2 u3 u4 u5 u6 else if u4 < u6 then fX7_holds_125 N k_18 I A u1 u2 u3 u4 u5 u6 else if u6 = u4 then (fX7_ones N u5).bind fun z6 => (fX7_ones N u3).bind fun z7 => if z7 ≤ z6 then fX7_holds_129 N k_18 I A u1 u2 u3 u4 u5 u6 else fX7_holds_125 N k_18 I A u1 u2 u3 u4 u5 u6 else fX7_holds_129 N k_18 I A u1 u2 u3 u4 u5 u6 else (fX7_has N u5 u7).bind fun z9 => if z9 = 0 then fX7_holds_81 N k_18 k_35 I A u1 u2 u3 u4 u5 u7 u6 0 else (fX7_coinAt N 0 u1 u7).bind fun z11 => (rd 62 (A 5) z11).bind fun v12 => (fX7_worthOf N A 0 u7).bind fun z13 => fX7_holds_81 N k_18 k_35 I A u1 u2 u3 u4 u5 u7 u6 (v12 * z13)
def fX7_holds_35 (N : Nat) (k_18 : (Nat → Int32) → (Nat → Nat → Int32) → Int32 → Int32 → Int32 → Int32 → Int32 → Option (Int32)) : Nat → (Nat → Int32) → (Nat → Nat → Int32) → Int32 → Int32 → Int32 → Int32 → Int32 → Int32 → Int32 → Option (Int32)
  | 0 => fun _ _ _ _ _ _ _ _ _ => none
  | n + 1 => fX7_holds_35s N k_18 (fX7_holds_35 N k_18 n)
def fX7_holds_18s (N : Nat) (k_18 : (Nat → Int32) → (Nat → Nat → Int32) → Int32 → Int32 → Int32 → Int32 → Int32 → Option (Int32)) (I : Nat → Int32) (A : Nat → Nat → Int32) (u1 : Int32) (u2 : Int32) (u3 : Int32) (u4 : Int32) (u5 : Int32) : Option (Int32) := if (shl 1 (I 0)) ≤ u5 then if u2 = 0 then fX7_holds_174 N I A u4 else fX7_holds_174 N I A u3 else fX7_holds_35 N k_18 N I A u1 u2 u3 u4 u5 0 0
def fX7_holds_18 (N : Nat) : Nat → (Nat → Int32) → (Nat → Nat → Int32) → Int32 → Int32 → Int32 → Int32 → Int32 → Option (Int32)
  | 0 => fun _ _ _ _ _ _ _ => none
  | n + 1 => fX7_holds_18s N (fX7_holds_18 N n)
def fX7_holds (N : Nat) (I : Nat → Int32) (A : Nat → Nat → Int32) (x1 : Int32) (x2 : Int32) : Option (Int32) := (fX7_isPerson N I x1).bind fun z1 => if z1 = 0 then some (-1) else fX7_holds_18 N N I A x1 x2 0 0 1
def rmX7_holds : Room := { frames := 2, cells := 0, slots := 0, locals := 46 }
theorem mb_X7_holds : Cond.instanceMethod yX7_holds ∈ wsL_law ∧ Cond.selects RX7 yX7_holds yX7_holds ∈ wsL_law ∧ Cond.initialized RX7 ∈ wsL_law ∧ Cond.code yX7_holds cX7_holds 8 (some .int) ∈ wsL_law := ⟨(bg 27 18 rfl), (bg 27 19 rfl), (bg 0 5 rfl), (bg 27 20 rfl)⟩
theorem hd_X7_holds : yX7_holds.cls = RX7 ∧ yX7_holds.cls ≠ "java/lang/invoke/MethodHandle" ∧ yX7_holds.cls ≠ "java/lang/invoke/VarHandle" ∧ (parseMethodDescriptor yX7_holds.desc).map (fun d => d.parameters.length) = some 2 := by decide +kernel
set_option maxRecDepth 100000 in
set_option maxHeartbeats 4000000 in
theorem ct_X7_holds (N : Nat) (l : Launch) (G : va_G) (cI cZ cO : ClassId) (q : Nat → Nat) (I : Nat → Int32) (A : Nat → Nat → Int32) (L : Int64) (x1 : Int32) (x2 : Int32) (r : Int32) (hf : fX7_holds N I A x1 x2 = some r) : RtI l yX7_holds cX7_holds 8 .int rmX7_holds G cI cZ cO [.ref (q 0), .int x1, .int x2] (wX7 q cI cZ cO I A L) r := by
  refine mkRI (by decide) (Nat.le_of_ble_eq_true rfl) ?_
  intro p e s m below meth cd Q hC hP hE fin ls hl
  obtain ⟨hx, hb, hml, hown, hts⟩ := hC
  have hown : s.vm.findClass RX7 = some m.cls := hown
  have hl : lv_has ls 8 [(0, .ref (q 0)), (1, .int x1), (2, .int x2)] := hl
  have b_174 : ∀ (y0 : Int32), ∀ ls : Array Slot, lv_has ls 8 [] → fX7_holds_174 N I A y0 = some r → W p l e rmX7_holds s m [.ref (q 0), .int x1, .int x2].toArray below meth cd s.heap [] 0 0 Q (F0 m 174 ls [.int y0]) := by
    intro y0 ls hl hf
    unfold fX7_holds_174 at hf
    have e9 := Option.some.inj hf
    exact fin 174 ls _ e9 (nar_i _) dX7_holds_174
  have b_156 : ∀ (k_18 : (Nat → Int32) → (Nat → Nat → Int32) → Int32 → Int32 → Int32 → Int32 → Int32 → Option (Int32)) (hk_18 : ∀ (u1 : Int32) (u2 : Int32) (u3 : Int32) (u4 : Int32) (u5 : Int32), ∀ ls : Array Slot, lv_has ls 8 [(0, .ref (q 0)), (1, .int u1), (2, .int u2), (3, .int u3), (4, .int u4), (5, .int u5)] → k_18 I A u1 u2 u3 u4 u5 = some r → W p l e rmX7_holds s m [.ref (q 0), .int x1, .int x2].toArray below meth cd s.heap [] 0 0 Q (F0 m 18 ls [])), ∀ (u1 : Int32) (u2 : Int32) (u3 : Int32) (u5 : Int32) (y0 : Int32), ∀ ls : Array Slot, lv_has ls 8 [(0, .ref (q 0)), (1, .int u1), (2, .int u2), (3, .int u3), (5, .int u5)] → fX7_holds_156 N k_18 I A u1 u2 u3 u5 y0 = some r → W p l e rmX7_holds s m [.ref (q 0), .int x1, .int x2].toArray below meth cd s.heap [] 0 0 Q (F0 m 156 ls [.int y0]) := by
    intro k_18 hk_18 u1 u2 u3 u5 y0 ls hl hf
    unfold fX7_holds_156 at hf
    refine lv_istore (lv' := [(4, .int y0), (0, .ref (q 0)), (1, .int u1), (2, .int u2), (3, .int u3), (5, .int u5)]) hx hb dX7_holds_156 hl (by decide) rfl (fun ls hl => ?_)
    refine lv_iinc (v := u5 + 1) (lv' := [(5, .int (u5 + 1)), (4, .int y0), (0, .ref (q 0)), (1, .int u1), (2, .int u2), (3, .int u3)]) hx hb dX7_holds_158 hl (k := 5) rfl rfl (by decide) rfl (fun ls hl => ?_)
    refine lv_goto (tgt := 18) hx hb dX7_holds_161 (by decide) ?_
    exact hk_18 u1 u2 u3 y0 (u5 + 1) ls (lv_sub hl [2, 3, 4, 5, 1, 0] rfl) hf
  have b_143 : ∀ (k_18 : (Nat → Int32) → (Nat → Nat → Int32) → Int32 → Int32 → Int32 → Int32 → Int32 → Option (Int32)) (hk_18 : ∀ (u1 : Int32) (u2 : Int32) (u3 : Int32) (u4 : Int32) (u5 : Int32), ∀ ls : Array Slot, lv_has ls 8 [(0, .ref (q 0)), (1, .int u1), (2, .int u2), (3, .int u3), (4, .int u4), (5, .int u5)] → k_18 I A u1 u2 u3 u4 u5 = some r → W p l e rmX7_holds s m [.ref (q 0), .int x1, .int x2].toArray below meth cd s.heap [] 0 0 Q (F0 m 18 ls [])), ∀ (u1 : Int32) (u2 : Int32) (u4 : Int32) (u5 : Int32) (u6 : Int32) (u7 : Int32) (y0 : Int32), ∀ ls : Array Slot, lv_has ls 8 [(0, .ref (q 0)), (1, .int u1), (2, .int u2), (4, .int u4), (5, .int u5), (6, .int u6), (7, .int u7)] → fX7_holds_143 N k_18 I A u1 u2 u4 u5 u6 u7 y0 = some r → W p l e rmX7_holds s m [.ref (q 0), .int x1, .int x2].toArray below meth cd s.heap [] 0 0 Q (F0 m 143 ls [.int y0]) := by
    intro k_18 hk_18 u1 u2 u4 u5 u6 u7 y0 ls hl hf
    unfold fX7_holds_143 at hf
    refine lv_istore_n (lv' := [(3, .int y0), (0, .ref (q 0)), (1, .int u1), (2, .int u2), (4, .int u4), (5, .int u5), (6, .int u6), (7, .int u7)]) hx hb dX7_holds_143 rfl hl (by decide) rfl (fun ls hl => ?_)
    refine lv_iload hx hb dX7_holds_144 (lv_at hl 7 rfl) ?_
    refine lv_if_eq (tgt := 154) hx hb dX7_holds_146 (by decide) (fun c1 => ?_) (fun c1 => ?_)
    · rw [if_pos c1] at hf
      refine lv_iload hx hb dX7_holds_154 (lv_at hl 4 rfl) ?_
      exact b_156 k_18 hk_18 u1 u2 y0 u5 u4 ls (lv_sub hl [1, 2, 3, 0, 5] rfl) hf
    · rw [if_neg c1] at hf
      refine lv_iload hx hb dX7_holds_149 (lv_at hl 6 rfl) ?_
      refine lv_goto (tgt := 156) hx hb dX7_holds_151 (by decide) ?_
      exact b_156 k_18 hk_18 u1 u2 y0 u5 u6 ls (lv_sub hl [1, 2, 3, 0, 5] rfl) hf
  have b_130 : ∀ (k_18 : (Nat → Int32) → (Nat → Nat → Int32) → Int32 → Int32 → Int32 → Int32 → Int32 → Option (Int32)) (hk_18 : ∀ (u1 : Int32) (u2 : Int32) (u3 : Int32) (u4 : Int32) (u5 : Int32), ∀ ls : Array Slot, lv_has ls 8 [(0, .ref (q 0)), (1, .int u1), (2, .int u2), (3, .int u3), (4, .int u4), (5, .int u5)] → k_18 I A u1 u2 u3 u4 u5 = some r → W p l e rmX7_holds s m [.ref (q 0), .int x1, .int x2].toArray below meth cd s.heap [] 0 0 Q (F0 m 18 ls [])), ∀ (u1 : Int32) (u2 : Int32) (u3 : Int32) (u4 : Int32) (u5 : Int32) (u6 : Int32) (y0 : Int32), ∀ ls : Array Slot, lv_has ls 8 [(0, .ref (q 0)), (1, .int u1), (2, .int u2), (3, .int u3), (4, .int u4), (5, .int u5), (6, .int u6)] → fX7_holds_130 N k_18 I A u1 u2 u3 u4 u5 u6 y0 = some r → W p l e rmX7_holds s m [.ref (q 0), .int x1, .int x2].toArray below meth cd s.heap [] 0 0 Q (F0 m 130 ls [.int y0]) := by
    intro k_18 hk_18 u1 u2 u3 u4 u5 u6 y0 ls hl hf
    unfold fX7_holds_130 at hf
    refine lv_istore (lv' := [(7, .int y0), (0, .ref (q 0)), (1, .int u1), (2, .int u2), (3, .int u3), (4, .int u4), (5, .int u5), (6, .int u6)]) hx hb dX7_holds_130 hl (by decide) rfl (fun ls hl => ?_)
    refine lv_iload hx hb dX7_holds_132 (lv_at hl 0 rfl) ?_
    refine lv_if_eq (tgt := 142) hx hb dX7_holds_134 (by decide) (fun c1 => ?_) (fun c1 => ?_)
    · rw [if_pos c1] at hf
      refine lv_iload_n hx hb dX7_holds_142 rfl (lv_at hl 4 rfl) ?_
      exact b_143 k_18 hk_18 u1 u2 u4 u5 u6 y0 u3 ls (lv_sub hl [1, 2, 3, 5, 6, 7, 0] rfl) hf
    · rw [if_neg c1] at hf
      refine lv_iload hx hb dX7_holds_137 (lv_at hl 6 rfl) ?_
      refine lv_goto (tgt := 143) hx hb dX7_holds_139 (by decide) ?_
      exact b_143 k_18 hk_18 u1 u2 u4 u5 u6 y0 u5 ls (lv_sub hl [1, 2, 3, 5, 6, 7, 0] rfl) hf
  have b_129 : ∀ (k_18 : (Nat → Int32) → (Nat → Nat → Int32) → Int32 → Int32 → Int32 → Int32 → Int32 → Option (Int32)) (hk_18 : ∀ (u1 : Int32) (u2 : Int32) (u3 : Int32) (u4 : Int32) (u5 : Int32), ∀ ls : Array Slot, lv_has ls 8 [(0, .ref (q 0)), (1, .int u1), (2, .int u2), (3, .int u3), (4, .int u4), (5, .int u5)] → k_18 I A u1 u2 u3 u4 u5 = some r → W p l e rmX7_holds s m [.ref (q 0), .int x1, .int x2].toArray below meth cd s.heap [] 0 0 Q (F0 m 18 ls [])), ∀ (u1 : Int32) (u2 : Int32) (u3 : Int32) (u4 : Int32) (u5 : Int32) (u6 : Int32), ∀ ls : Array Slot, lv_has ls 8 [(0, .ref (q 0)), (1, .int u1), (2, .int u2), (3, .int u3), (4, .int u4), (5, .int u5), (6, .int u6)] → fX7_holds_129 N k_18 I A u1 u2 u3 u4 u5 u6 = some r → W p l e rmX7_holds s m [.ref (q 0), .int x1, .int x2].toArray below meth cd s.heap [] 0 0 Q (F0 m 129 ls []) := by
    intro k_18 hk_18 u1 u2 u3 u4 u5 u6 ls hl hf
    unfold fX7_holds_129 at hf
    refine lv_iconst (v := 0) hx hb dX7_holds_129 (by decide) ?_
    exact b_130 k_18 hk_18 u1 u2 u3 u4 u5 u6 0 ls (lv_sub hl [0, 1, 2, 3, 4, 5, 6] rfl) hf
  have b_125 : ∀ (k_18 : (Nat → Int32) → (Nat → Nat → Int32) → Int32 → Int32 → Int32 → Int32 → Int32 → Option (Int32)) (hk_18 : ∀ (u1 : Int32) (u2 : Int32) (u3 : Int32) (u4 : Int32) (u5 : Int32), ∀ ls : Array Slot, lv_has ls 8 [(0, .ref (q 0)), (1, .int u1), (2, .int u2), (3, .int u3), (4, .int u4), (5, .int u5)] → k_18 I A u1 u2 u3 u4 u5 = some r → W p l e rmX7_holds s m [.ref (q 0), .int x1, .int x2].toArray below meth cd s.heap [] 0 0 Q (F0 m 18 ls [])), ∀ (u1 : Int32) (u2 : Int32) (u3 : Int32) (u4 : Int32) (u5 : Int32) (u6 : Int32), ∀ ls : Array Slot, lv_has ls 8 [(0, .ref (q 0)), (1, .int u1), (2, .int u2), (3, .int u3), (4, .int u4), (5, .int u5), (6, .int u6)] → fX7_holds_125 N k_18 I A u1 u2 u3 u4 u5 u6 = some r → W p l e rmX7_holds s m [.ref (q 0), .int x1, .int x2].toArray below meth cd s.heap [] 0 0 Q (F0 m 125 ls []) := by
    intro k_18 hk_18 u1 u2 u3 u4 u5 u6 ls hl hf
    unfold fX7_holds_125 at hf
    refine lv_iconst (v := 1) hx hb dX7_holds_125 (by decide) ?_
    refine lv_goto (tgt := 130) hx hb dX7_holds_126 (by decide) ?_
    exact b_130 k_18 hk_18 u1 u2 u3 u4 u5 u6 1 ls (lv_sub hl [0, 1, 2, 3, 4, 5, 6] rfl) hf
  have b_81 : ∀ (k_18 : (Nat → Int32) → (Nat → Nat → Int32) → Int32 → Int32 → Int32 → Int32 → Int32 → Option (Int32)) (hk_18 : ∀ (u1 : Int32) (u2 : Int32) (u3 : Int32) (u4 : Int32) (u5 : Int32), ∀ ls : Array Slot, lv_has ls 8 [(0, .ref (q 0)), (1, .int u1), (2, .int u2), (3, .int u3), (4, .int u4), (5, .int u5)] → k_18 I A u1 u2 u3 u4 u5 = some r → W p l e rmX7_holds s m [.ref (q 0), .int x1, .int x2].toArray below meth cd s.heap [] 0 0 Q (F0 m 18 ls [])), ∀ (k_35 : (Nat → Int32) → (Nat → Nat → Int32) → Int32 → Int32 → Int32 → Int32 → Int32 → Int32 → Int32 → Option (Int32)) (hk_35 : ∀ (u1 : Int32) (u2 : Int32) (u3 : Int32) (u4 : Int32) (u5 : Int32) (u6 : Int32) (u7 : Int32), ∀ ls : Array Slot, lv_has ls 8 [(0, .ref (q 0)), (1, .int u1), (2, .int u2), (3, .int u3), (4, .int u4), (5, .int u5), (6, .int u6), (7, .int u7)] → k_35 I A u1 u2 u3 u4 u5 u6 u7 = some r → W p l e rmX7_holds s m [.ref (q 0), .int x1, .int x2].toArray below meth cd s.heap [] 0 0 Q (F0 m 35 ls [])), ∀ (u1 : Int32) (u2 : Int32) (u3 : Int32) (u4 : Int32) (u5 : Int32) (u7 : Int32) (y0 : Int32) (y1 : Int32), ∀ ls : Array Slot, lv_has ls 8 [(0, .ref (q 0)), (1, .int u1), (2, .int u2), (3, .int u3), (4, .int u4), (5, .int u5), (7, .int u7)] → fX7_holds_81 N k_18 k_35 I A u1 u2 u3 u4 u5 u7 y0 y1 = some r → W p l e rmX7_holds s m [.ref (q 0), .int x1, .int x2].toArray below meth cd s.heap [] 0 0 Q (F0 m 81 ls [.int y1, .int y0]) := by
    intro k_18 hk_18 k_35 hk_35 u1 u2 u3 u4 u5 u7 y0 y1 ls hl hf
    unfold fX7_holds_81 at hf
    refine lv_iadd hx hb dX7_holds_81 ?_
    refine lv_istore (lv' := [(6, .int (y0 + y1)), (0, .ref (q 0)), (1, .int u1), (2, .int u2), (3, .int u3), (4, .int u4), (5, .int u5), (7, .int u7)]) hx hb dX7_holds_82 hl (by decide) rfl (fun ls hl => ?_)
    refine lv_iinc (v := u7 + 1) (lv' := [(7, .int (u7 + 1)), (6, .int (y0 + y1)), (0, .ref (q 0)), (1, .int u1), (2, .int u2), (3, .int u3), (4, .int u4), (5, .int u5)]) hx hb dX7_holds_84 hl (k := 7) rfl rfl (by decide) rfl (fun ls hl => ?_)
    refine lv_goto (tgt := 35) hx hb dX7_holds_87 (by decide) ?_
    exact hk_35 u1 u2 u3 u4 u5 (y0 + y1) (u7 + 1) ls (lv_sub hl [2, 3, 4, 5, 6, 7, 1, 0] rfl) hf
  have b_35 : ∀ (k_18 : (Nat → Int32) → (Nat → Nat → Int32) → Int32 → Int32 → Int32 → Int32 → Int32 → Option (Int32)) (hk_18 : ∀ (u1 : Int32) (u2 : Int32) (u3 : Int32) (u4 : Int32) (u5 : Int32), ∀ ls : Array Slot, lv_has ls 8 [(0, .ref (q 0)), (1, .int u1), (2, .int u2), (3, .int u3), (4, .int u4), (5, .int u5)] → k_18 I A u1 u2 u3 u4 u5 = some r → W p l e rmX7_holds s m [.ref (q 0), .int x1, .int x2].toArray below meth cd s.heap [] 0 0 Q (F0 m 18 ls [])), ∀ n : Nat, ∀ (u1 : Int32) (u2 : Int32) (u3 : Int32) (u4 : Int32) (u5 : Int32) (u6 : Int32) (u7 : Int32), ∀ ls : Array Slot, lv_has ls 8 [(0, .ref (q 0)), (1, .int u1), (2, .int u2), (3, .int u3), (4, .int u4), (5, .int u5), (6, .int u6), (7, .int u7)] → fX7_holds_35 N k_18 n I A u1 u2 u3 u4 u5 u6 u7 = some r → W p l e rmX7_holds s m [.ref (q 0), .int x1, .int x2].toArray below meth cd s.heap [] 0 0 Q (F0 m 35 ls []) := by
    intro k_18 hk_18
    intro n
    induction n with
    | zero =>
      intro u1 u2 u3 u4 u5 u6 u7 ls hl hf
      cases hf
    | succ n hk_35 =>
      intro u1 u2 u3 u4 u5 u6 u7 ls hl hf
      replace hf : fX7_holds_35s N k_18 (fX7_holds_35 N k_18 n) I A u1 u2 u3 u4 u5 u6 u7 = some r := hf
      generalize fX7_holds_35 N k_18 n = k_35 at hf hk_35
      unfold fX7_holds_35s at hf
      refine lv_iload hx hb dX7_holds_35 (lv_at hl 7 rfl) ?_
      refine lv_aload_n hx hb dX7_holds_37 rfl (lv_at hl 0 rfl) ?_
      refine va_get (D := G) (ci := 7) (v := .int ((I 0))) (C := RX7) (T := TX7) (N := 33) hx hb hts inlX7 hown hE.1 hP 0 rfl rfl 0 (by decide) (hts _ (bg 4 12 rfl)) (fun _ h9 => h9) rfl dX7_holds_38 ?_
      refine lv_icmp_ge (tgt := 90) hx hb dX7_holds_41 (by decide) (fun c1 => ?_) (fun c1 => ?_)
      · rw [if_pos c1] at hf
        refine lv_aload_n hx hb dX7_holds_90 rfl (lv_at hl 0 rfl) ?_
        refine lv_iload hx hb dX7_holds_91 (lv_at hl 5 rfl) ?_
        obtain ⟨z2, hz2, hf⟩ := bnd hf
        refine x_rdV (C := RX7) (n := 1) (ci := 7) hx hb hml hown hts hE (ct_X7_canBe N l G cI cZ cO q I A L u5 z2 hz2) (bg 27 21 rfl) mb_X7_canBe.1 mb_X7_canBe.2.1 mb_X7_canBe.2.2.1 mb_X7_canBe.2.2.2 hd_X7_canBe rfl (by decide) hP rfl rfl rfl rfl hl.1 (Nat.le_of_ble_eq_true rfl) ⟨Nat.zero_le _, Nat.zero_le _⟩ dX7_holds_93 ?_
        refine lv_if_eq (tgt := 129) hx hb dX7_holds_96 (by decide) (fun c3 => ?_) (fun c3 => ?_)
        · rw [if_pos c3] at hf
          exact b_129 k_18 hk_18 u1 u2 u3 u4 u5 u6 ls (lv_sub hl [0, 1, 2, 3, 4, 5, 6] rfl) hf
        · rw [if_neg c3] at hf
          refine lv_iload hx hb dX7_holds_99 (lv_at hl 6 rfl) ?_
          refine lv_iload hx hb dX7_holds_101 (lv_at hl 4 rfl) ?_
          refine lv_icmp_gt (tgt := 125) hx hb dX7_holds_103 (by decide) (fun c4 => ?_) (fun c4 => ?_)
          · rw [if_pos c4] at hf
            exact b_125 k_18 hk_18 u1 u2 u3 u4 u5 u6 ls (lv_sub hl [0, 1, 2, 3, 4, 5, 6] rfl) hf
          · rw [if_neg c4] at hf
            refine lv_iload hx hb dX7_holds_106 (lv_at hl 6 rfl) ?_
            refine lv_iload hx hb dX7_holds_108 (lv_at hl 4 rfl) ?_
            refine lv_icmp_ne (tgt := 129) hx hb dX7_holds_110 (by decide) (fun c5 => ?_) (fun c5 => ?_)
            · rw [if_neg c5] at hf
              exact b_129 k_18 hk_18 u1 u2 u3 u4 u5 u6 ls (lv_sub hl [0, 1, 2, 3, 4, 5, 6] rfl) hf
            · rw [if_pos c5] at hf
              refine lv_iload hx hb dX7_holds_113 (lv_at hl 5 rfl) ?_
              obtain ⟨z6, hz6, hf⟩ := bnd hf
              refine x_rdS (n := 1) hx hb hml hown hts hE (ct_X7_ones N l G cI cZ cO u5 z6 hz6) (bg 18 21 rfl) mb_X7_ones.1 mb_X7_ones.2.1 mb_X7_ones.2.2 hd_X7_ones rfl (by decide) va_P_nil rfl hl.1 (Nat.le_of_ble_eq_true rfl) ⟨Nat.zero_le _, Nat.zero_le _⟩ dX7_holds_115 ?_
              refine lv_iload_n hx hb dX7_holds_118 rfl (lv_at hl 3 rfl) ?_
              obtain ⟨z7, hz7, hf⟩ := bnd hf
              refine x_rdS (n := 1) hx hb hml hown hts hE (ct_X7_ones N l G cI cZ cO u3 z7 hz7) (bg 18 21 rfl) mb_X7_ones.1 mb_X7_ones.2.1 mb_X7_ones.2.2 hd_X7_ones rfl (by decide) va_P_nil rfl hl.1 (Nat.le_of_ble_eq_true rfl) ⟨Nat.zero_le _, Nat.zero_le _⟩ dX7_holds_119 ?_
              refine lv_icmp_ge (tgt := 129) hx hb dX7_holds_122 (by decide) (fun c8 => ?_) (fun c8 => ?_)
              · rw [if_pos c8] at hf
                exact b_129 k_18 hk_18 u1 u2 u3 u4 u5 u6 ls (lv_sub hl [0, 1, 2, 3, 4, 5, 6] rfl) hf
              · rw [if_neg c8] at hf
                exact b_125 k_18 hk_18 u1 u2 u3 u4 u5 u6 ls (lv_sub hl [0, 1, 2, 3, 4, 5, 6] rfl) hf
      · rw [if_neg c1] at hf
        refine lv_iload hx hb dX7_holds_44 (lv_at hl 6 rfl) ?_
        refine lv_iload hx hb dX7_holds_46 (lv_at hl 5 rfl) ?_
        refine lv_iload hx hb dX7_holds_48 (lv_at hl 7 rfl) ?_
        obtain ⟨z9, hz9, hf⟩ := bnd hf
        refine x_rdS (n := 2) hx hb hml hown hts hE (ct_X7_has N l G cI cZ cO u5 u7 z9 hz9) (bg 10 12 rfl) mb_X7_has.1 mb_X7_has.2.1 mb_X7_has.2.2 hd_X7_has rfl (by decide) va_P_nil rfl hl.1 (Nat.le_of_ble_eq_true rfl) ⟨Nat.zero_le _, Nat.zero_le _⟩ dX7_holds_50 ?_
        refine lv_if_eq (tgt := 80) hx hb dX7_holds_53 (by decide) (fun c10 => ?_) (fun c10 => ?_)
        · rw [if_pos c10] at hf
          refine lv_iconst (v := 0) hx hb dX7_holds_80 (by decide) ?_
          exact b_81 k_18 hk_18 k_35 hk_35 u1 u2 u3 u4 u5 u7 u6 0 ls (lv_sub hl [0, 1, 2, 3, 4, 5, 7] rfl) hf
        · rw [if_neg c10] at hf
          refine lv_aload_n hx hb dX7_holds_56 rfl (lv_at hl 0 rfl) ?_
          refine va_get (D := G) (ci := 7) (v := .ref (q 6)) (C := RX7) (T := TX7) (N := 33) hx hb hts inlX7 hown hE.1 hP 0 rfl rfl 7 (by decide) (hts _ (bg 3 19 rfl)) (fun _ h9 => h9) rfl dX7_holds_57 ?_
          refine lv_aload_n hx hb dX7_holds_60 rfl (lv_at hl 0 rfl) ?_
          refine lv_iconst (v := 0) hx hb dX7_holds_61 (by decide) ?_
          refine lv_iload_n hx hb dX7_holds_62 rfl (lv_at hl 1 rfl) ?_
          refine lv_iload hx hb dX7_holds_63 (lv_at hl 7 rfl) ?_
          obtain ⟨z11, hz11, hf⟩ := bnd hf
          refine x_rdV (C := RX7) (n := 3) (ci := 7) hx hb hml hown hts hE (ct_X7_coinAt N l G cI cZ cO q I A L 0 u1 u7 z11 hz11) (bg 14 19 rfl) mb_X7_coinAt.1 mb_X7_coinAt.2.1 mb_X7_coinAt.2.2.1 mb_X7_coinAt.2.2.2 hd_X7_coinAt rfl (by decide) hP rfl rfl rfl rfl hl.1 (Nat.le_of_ble_eq_true rfl) ⟨Nat.zero_le _, Nat.zero_le _⟩ dX7_holds_65 ?_
          obtain ⟨v12, hv12, hf⟩ := bnd hf
          refine x_iald hx hb hE.1 hP 6 0 rfl rfl hv12 dX7_holds_68 ?_
          refine lv_aload_n hx hb dX7_holds_69 rfl (lv_at hl 0 rfl) ?_
          refine lv_iconst (v := 0) hx hb dX7_holds_70 (by decide) ?_
          refine lv_iload hx hb dX7_holds_71 (lv_at hl 7 rfl) ?_
          obtain ⟨z13, hz13, hf⟩ := bnd hf
          refine x_rdV (C := RX7) (n := 2) (ci := 7) hx hb hml hown hts hE (ct_X7_worthOf N l G cI cZ cO q I A L 0 u7 z13 hz13) (bg 21 15 rfl) mb_X7_worthOf.1 mb_X7_worthOf.2.1 mb_X7_worthOf.2.2.1 mb_X7_worthOf.2.2.2 hd_X7_worthOf rfl (by decide) hP rfl rfl rfl rfl hl.1 (Nat.le_of_ble_eq_true rfl) ⟨Nat.zero_le _, Nat.zero_le _⟩ dX7_holds_73 ?_
          refine lv_imul hx hb dX7_holds_76 ?_
          refine lv_goto (tgt := 81) hx hb dX7_holds_77 (by decide) ?_
          exact b_81 k_18 hk_18 k_35 hk_35 u1 u2 u3 u4 u5 u7 u6 (v12 * z13) ls (lv_sub hl [0, 1, 2, 3, 4, 5, 7] rfl) hf
  have b_18 : ∀ n : Nat, ∀ (u1 : Int32) (u2 : Int32) (u3 : Int32) (u4 : Int32) (u5 : Int32), ∀ ls : Array Slot, lv_has ls 8 [(0, .ref (q 0)), (1, .int u1), (2, .int u2), (3, .int u3), (4, .int u4), (5, .int u5)] → fX7_holds_18 N n I A u1 u2 u3 u4 u5 = some r → W p l e rmX7_holds s m [.ref (q 0), .int x1, .int x2].toArray below meth cd s.heap [] 0 0 Q (F0 m 18 ls []) := by
    intro n
    induction n with
    | zero =>
      intro u1 u2 u3 u4 u5 ls hl hf
      cases hf
    | succ n hk_18 =>
      intro u1 u2 u3 u4 u5 ls hl hf
      replace hf : fX7_holds_18s N (fX7_holds_18 N n) I A u1 u2 u3 u4 u5 = some r := hf
      generalize fX7_holds_18 N n = k_18 at hf hk_18
      unfold fX7_holds_18s at hf
      refine lv_iload hx hb dX7_holds_18 (lv_at hl 5 rfl) ?_
      refine lv_iconst (v := 1) hx hb dX7_holds_20 (by decide) ?_
      refine lv_aload_n hx hb dX7_holds_21 rfl (lv_at hl 0 rfl) ?_
      refine va_get (D := G) (ci := 7) (v := .int ((I 0))) (C := RX7) (T := TX7) (N := 33) hx hb hts inlX7 hown hE.1 hP 0 rfl rfl 0 (by decide) (hts _ (bg 4 12 rfl)) (fun _ h9 => h9) rfl dX7_holds_22 ?_
      refine x_ishl hx hb dX7_holds_25 ?_
      refine lv_icmp_ge (tgt := 164) hx hb dX7_holds_26 (by decide) (fun c1 => ?_) (fun c1 => ?_)
      · rw [if_pos c1] at hf
        refine lv_iload_n hx hb dX7_holds_164 rfl (lv_at hl 2 rfl) ?_
        refine lv_if_eq (tgt := 172) hx hb dX7_holds_165 (by decide) (fun c2 => ?_) (fun c2 => ?_)
        · rw [if_pos c2] at hf
          refine lv_iload hx hb dX7_holds_172 (lv_at hl 4 rfl) ?_
          exact b_174 u4 ls (lv_sub hl [] rfl) hf
        · rw [if_neg c2] at hf
          refine lv_iload_n hx hb dX7_holds_168 rfl (lv_at hl 3 rfl) ?_
          refine lv_goto (tgt := 174) hx hb dX7_holds_169 (by decide) ?_
          exact b_174 u3 ls (lv_sub hl [] rfl) hf
      · rw [if_neg c1] at hf
        refine lv_iconst (v := 0) hx hb dX7_holds_29 (by decide) ?_
        refine lv_istore (lv' := [(6, .int 0), (0, .ref (q 0)), (1, .int u1), (2, .int u2), (3, .int u3), (4, .int u4), (5, .int u5)]) hx hb dX7_holds_30 hl (by decide) rfl (fun ls hl => ?_)
        refine lv_iconst (v := 0) hx hb dX7_holds_32 (by decide) ?_
        refine lv_istore (lv' := [(7, .int 0), (6, .int 0), (0, .ref (q 0)), (1, .int u1), (2, .int u2), (3, .int u3), (4, .int u4), (5, .int u5)]) hx hb dX7_holds_33 hl (by decide) rfl (fun ls hl => ?_)
        exact b_35 k_18 hk_18 N u1 u2 u3 u4 u5 0 0 ls (lv_sub hl [2, 3, 4, 5, 6, 7, 1, 0] rfl) hf
  unfold fX7_holds at hf
  refine lv_aload_n hx hb dX7_holds_0 rfl (lv_at hl 0 rfl) ?_
  refine lv_iload_n hx hb dX7_holds_1 rfl (lv_at hl 1 rfl) ?_
  obtain ⟨z1, hz1, hf⟩ := bnd hf
  refine x_rdV (C := RX7) (n := 1) (ci := 7) hx hb hml hown hts hE (ct_X7_isPerson N l G cI cZ cO q I A L x1 z1 hz1) (bg 14 3 rfl) mb_X7_isPerson.1 mb_X7_isPerson.2.1 mb_X7_isPerson.2.2.1 mb_X7_isPerson.2.2.2 hd_X7_isPerson rfl (by decide) hP rfl rfl rfl rfl hl.1 (Nat.le_of_ble_eq_true rfl) ⟨Nat.zero_le _, Nat.zero_le _⟩ dX7_holds_2 ?_
  refine lv_if_ne (tgt := 10) hx hb dX7_holds_5 (by decide) (fun c2 => ?_) (fun c2 => ?_)
  · rw [if_neg c2] at hf
    refine lv_iconst (v := 0) hx hb dX7_holds_10 (by decide) ?_
    refine lv_istore_n (lv' := [(3, .int 0), (0, .ref (q 0)), (1, .int x1), (2, .int x2)]) hx hb dX7_holds_11 rfl hl (by decide) rfl (fun ls hl => ?_)
    refine lv_iconst (v := 0) hx hb dX7_holds_12 (by decide) ?_
    refine lv_istore (lv' := [(4, .int 0), (3, .int 0), (0, .ref (q 0)), (1, .int x1), (2, .int x2)]) hx hb dX7_holds_13 hl (by decide) rfl (fun ls hl => ?_)
    refine lv_iconst (v := 1) hx hb dX7_holds_15 (by decide) ?_
    refine lv_istore (lv' := [(5, .int 1), (4, .int 0), (3, .int 0), (0, .ref (q 0)), (1, .int x1), (2, .int x2)]) hx hb dX7_holds_16 hl (by decide) rfl (fun ls hl => ?_)
    exact b_18 N x1 x2 0 0 1 ls (lv_sub hl [3, 4, 5, 2, 1, 0] rfl) hf
  · rw [if_pos c2] at hf
    refine lv_iconst (v := (-1)) hx hb dX7_holds_8 (by decide) ?_
    have e9 := Option.some.inj hf
    exact fin 9 ls _ e9 (nar_i _) dX7_holds_9
