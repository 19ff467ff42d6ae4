def fX7_tenTo_4s (N : Nat) (k_4 : Int32 → Int64 → Int32 → Option (Int64)) (u0 : Int32) (u1 : Int64) (u3 : Int32) : Option (Int64) := if u0 ≤ u3 then some u1 else k_4 u0 (u1 * 10) (u3 + 1)
def fX7_tenTo_4 (N : Nat) : Nat → Int32 → Int64 → Int32 → Option (Int64)
  | 0 => fun _ _ _ => none
  | n + 1 => fX7_tenTo_4s N (fX7_tenTo_4 N n)
def fX7_tenTo (N : Nat) (x0 : Int32) : Option (Int64) := fX7_tenTo_4 N N x0 1 0
def rmX7_tenTo : Room := { frames := 0, cells := 0, slots := 0, locals := 0 }
theorem mb_X7_tenTo : Cond.static yX7_tenTo ∈ wsL_law ∧ Cond.initialized yX7_tenTo.cls ∈ wsL_law ∧ Cond.code yX7_tenTo cX7_tenTo 4 (some .long) ∈ wsL_law := ⟨(bg 29 6 rfl), (bg 0 5 rfl), (bg 29 7 rfl)⟩
theorem hd_X7_tenTo : yX7_tenTo.cls ≠ "java/lang/invoke/MethodHandle" ∧ yX7_tenTo.cls ≠ "java/lang/invoke/VarHandle" ∧ (parseMethodDescriptor yX7_tenTo.desc).map (fun d => d.parameters.length) = some 1 := by decide +kernel
set_option maxRecDepth 100000 in
set_option maxHeartbeats 4000000 in
theorem ct_X7_tenTo (N : Nat) (l : Launch) (G : va_G) (cI cZ cO : ClassId) (x0 : Int32) (r : Int64) (hf : fX7_tenTo N x0 = some r) : RtL l yX7_tenTo cX7_tenTo 4 rmX7_tenTo G cI cZ cO [.int x0] [] r := by
  refine mkRL (by decide) (Nat.le_of_ble_eq_true rfl) ?_
  intro p e s m below meth cd Q hC hP hE fin ls hl
  obtain ⟨hx, hb, hml, hown, hts⟩ := hC
  have hown : s.vm.findClass RX7 = some m.cls := hown
  have hl : lv_has ls 4 [(0, .int x0)] := hl
  have b_4 : ∀ n : Nat, ∀ (u0 : Int32) (u1 : Int64) (u3 : Int32), ∀ ls : Array Slot, lv_has ls 4 [(0, .int u0), (1, .long u1), (3, .int u3)] → fX7_tenTo_4 N n u0 u1 u3 = some r → W p l e rmX7_tenTo s m [.int x0].toArray below meth cd s.heap [] 0 0 Q (F0 m 4 ls []) := by
    intro n
    induction n with
    | zero =>
      intro u0 u1 u3 ls hl hf
      cases hf
    | succ n hk_4 =>
      intro u0 u1 u3 ls hl hf
      replace hf : fX7_tenTo_4s N (fX7_tenTo_4 N n) u0 u1 u3 = some r := hf
      generalize fX7_tenTo_4 N n = k_4 at hf hk_4
      unfold fX7_tenTo_4s at hf
      refine lv_iload_n hx hb dX7_tenTo_4 rfl (lv_at hl 2 rfl) ?_
      refine lv_iload_n hx hb dX7_tenTo_5 rfl (lv_at hl 0 rfl) ?_
      refine lv_icmp_ge (tgt := 21) hx hb dX7_tenTo_6 (by decide) (fun c1 => ?_) (fun c1 => ?_)
      · rw [if_pos c1] at hf
        refine lv_lload_n hx hb dX7_tenTo_21 rfl (lv_at hl 1 rfl) ?_
        have e9 := Option.some.inj hf
        exact fin 22 ls _ e9 dX7_tenTo_22
      · rw [if_neg c1] at hf
        refine lv_lload_n hx hb dX7_tenTo_9 rfl (lv_at hl 1 rfl) ?_
        refine lv_ldc2 hx hb hown (hts _ (bg 29 8 rfl)) dX7_tenTo_10 ?_
        refine lv_lmul hx hb dX7_tenTo_13 ?_
        refine lv_lstore_n (lv' := [(1, .long (u1 * 10)), (0, .int u0), (3, .int u3)]) hx hb dX7_tenTo_14 rfl hl (by decide) rfl (fun ls hl => ?_)
        refine lv_iinc (v := u3 + 1) (lv' := [(3, .int (u3 + 1)), (1, .long (u1 * 10)), (0, .int u0)]) hx hb dX7_tenTo_15 hl (k := 2) rfl rfl (by decide) rfl (fun ls hl => ?_)
        refine lv_goto (tgt := 4) hx hb dX7_tenTo_18 (by decide) ?_
        exact hk_4 u0 (u1 * 10) (u3 + 1) ls (lv_sub hl [2, 1, 0] rfl) hf
  unfold fX7_tenTo at hf
  refine lv_lconst (v := 1) hx hb dX7_tenTo_0 (by decide) ?_
  refine lv_lstore_n (lv' := [(1, .long 1), (0, .int x0)]) hx hb dX7_tenTo_1 rfl hl (by decide) rfl (fun ls hl => ?_)
  refine lv_iconst (v := 0) hx hb dX7_tenTo_2 (by decide) ?_
  refine lv_istore_n (lv' := [(3, .int 0), (1, .long 1), (0, .int x0)]) hx hb dX7_tenTo_3 rfl hl (by decide) rfl (fun ls hl => ?_)
  exact b_4 N x0 1 0 ls (lv_sub hl [2, 1, 0] rfl) hf
def fX7_allWorth_4s (N : Nat) (k_4 : (Nat → Int32) → (Nat → Nat → Int32) → Int32 → Int32 → Int32 → Option (Int32)) (I : Nat → Int32) (A : Nat → Nat → Int32) (u1 : Int32) (u2 : Int32) (u3 : Int32) : Option (Int32) := if (I 0) ≤ u3 then some u2 else (fX7_worthOf N A u1 u3).bind fun z2 => k_4 I A u1 (u2 + z2) (u3 + 1)
def fX7_allWorth_4 (N : Nat) : Nat → (Nat → Int32) → (Nat → Nat → Int32) → Int32 → Int32 → Int32 → Option (Int32)
  | 0 => fun _ _ _ _ _ => none
  | n + 1 => fX7_allWorth_4s N (fX7_allWorth_4 N n)
def fX7_allWorth (N : Nat) (I : Nat → Int32) (A : Nat → Nat → Int32) (x1 : Int32) : Option (Int32) := fX7_allWorth_4 N N I A x1 0 0
def rmX7_allWorth : Room := { frames := 2, cells := 0, slots := 0, locals := 45 }
theorem mb_X7_allWorth : Cond.instanceMethod yX7_allWorth ∈ wsL_law ∧ Cond.selects RX7 yX7_allWorth yX7_allWorth ∈ wsL_law ∧ Cond.initialized RX7 ∈ wsL_law ∧ Cond.code yX7_allWorth cX7_allWorth 4 (some .int) ∈ wsL_law := ⟨(bg 29 10 rfl), (bg 29 11 rfl), (bg 0 5 rfl), (bg 29 12 rfl)⟩
theorem hd_X7_allWorth : yX7_allWorth.cls = RX7 ∧ yX7_allWorth.cls ≠ "java/lang/invoke/MethodHandle" ∧ yX7_allWorth.cls ≠ "java/lang/invoke/VarHandle" ∧ (parseMethodDescriptor yX7_allWorth.desc).map (fun d => d.parameters.length) = some 1 := by decide +kernel
set_option maxRecDepth 100000 in
set_option maxHeartbeats 4000000 in
theorem ct_X7_allWorth (N : Nat) (l : Launch) (G : va_G) (cI cZ cO : ClassId) (q : Nat → Nat) (I : Nat → Int32) (A : Nat → Nat → Int32) (L : Int64) (x1 : Int32) (r : Int32) (hf : fX7_allWorth N I A x1 = some r) : RtI l yX7_allWorth cX7_allWorth 4 .int rmX7_allWorth G cI cZ cO [.ref (q 0), .int x1] (wX7 q cI cZ cO I A L) r := by
  refine mkRI (by decide) (Nat.le_of_ble_eq_true rfl) ?_
  intro p e s m below meth cd Q hC hP hE fin ls hl
  obtain ⟨hx, hb, hml, hown, hts⟩ := hC
  have hown : s.vm.findClass RX7 = some m.cls := hown
  have hl : lv_has ls 4 [(0, .ref (q 0)), (1, .int x1)] := hl
  have b_4 : ∀ n : Nat, ∀ (u1 : Int32) (u2 : Int32) (u3 : Int32), ∀ ls : Array Slot, lv_has ls 4 [(0, .ref (q 0)), (1, .int u1), (2, .int u2), (3, .int u3)] → fX7_allWorth_4 N n I A u1 u2 u3 = some r → W p l e rmX7_allWorth s m [.ref (q 0), .int x1].toArray below meth cd s.heap [] 0 0 Q (F0 m 4 ls []) := by
    intro n
    induction n with
    | zero =>
      intro u1 u2 u3 ls hl hf
      cases hf
    | succ n hk_4 =>
      intro u1 u2 u3 ls hl hf
      replace hf : fX7_allWorth_4s N (fX7_allWorth_4 N n) I A u1 u2 u3 = some r := hf
      generalize fX7_allWorth_4 N n = k_4 at hf hk_4
      unfold fX7_allWorth_4s at hf
      refine lv_iload_n hx hb dX7_allWorth_4 rfl (lv_at hl 3 rfl) ?_
      refine lv_aload_n hx hb dX7_allWorth_5 rfl (lv_at hl 0 rfl) ?_
      refine va_get (D := G) (ci := 7) (v := .int ((I 0))) (C := RX7) (T := TX7) (N := 33) hx hb hts inlX7 hown hE.1 hP 0 rfl rfl 0 (by decide) (hts _ (bg 4 12 rfl)) (fun _ h9 => h9) rfl dX7_allWorth_6 ?_
      refine lv_icmp_ge (tgt := 27) hx hb dX7_allWorth_9 (by decide) (fun c1 => ?_) (fun c1 => ?_)
      · rw [if_pos c1] at hf
        refine lv_iload_n hx hb dX7_allWorth_27 rfl (lv_at hl 2 rfl) ?_
        have e9 := Option.some.inj hf
        exact fin 28 ls _ e9 (nar_i _) dX7_allWorth_28
      · rw [if_neg c1] at hf
        refine lv_iload_n hx hb dX7_allWorth_12 rfl (lv_at hl 2 rfl) ?_
        refine lv_aload_n hx hb dX7_allWorth_13 rfl (lv_at hl 0 rfl) ?_
        refine lv_iload_n hx hb dX7_allWorth_14 rfl (lv_at hl 1 rfl) ?_
        refine lv_iload_n hx hb dX7_allWorth_15 rfl (lv_at hl 3 rfl) ?_
        obtain ⟨z2, hz2, hf⟩ := bnd hf
        refine x_rdV (C := RX7) (n := 2) (ci := 7) hx hb hml hown hts hE (ct_X7_worthOf N l G cI cZ cO q I A L u1 u3 z2 hz2) (bg 21 15 rfl) mb_X7_worthOf.1 mb_X7_worthOf.2.1 mb_X7_worthOf.2.2.1 mb_X7_worthOf.2.2.2 hd_X7_worthOf rfl (by decide) hP rfl rfl rfl rfl hl.1 (Nat.le_of_ble_eq_true rfl) ⟨Nat.zero_le _, Nat.zero_le _⟩ dX7_allWorth_16 ?_
        refine lv_iadd hx hb dX7_allWorth_19 ?_
        refine lv_istore_n (lv' := [(2, .int (u2 + z2)), (0, .ref (q 0)), (1, .int u1), (3, .int u3)]) hx hb dX7_allWorth_20 rfl hl (by decide) rfl (fun ls hl => ?_)
        refine lv_iinc (v := u3 + 1) (lv' := [(3, .int (u3 + 1)), (2, .int (u2 + z2)), (0, .ref (q 0)), (1, .int u1)]) hx hb dX7_allWorth_21 hl (k := 3) rfl rfl (by decide) rfl (fun ls hl => ?_)
        refine lv_goto (tgt := 4) hx hb dX7_allWorth_24 (by decide) ?_
        exact hk_4 u1 (u2 + z2) (u3 + 1) ls (lv_sub hl [2, 3, 1, 0] rfl) hf
  unfold fX7_allWorth at hf
  refine lv_iconst (v := 0) hx hb dX7_allWorth_0 (by decide) ?_
  refine lv_istore_n (lv' := [(2, .int 0), (0, .ref (q 0)), (1, .int x1)]) hx hb dX7_allWorth_1 rfl hl (by decide) rfl (fun ls hl => ?_)
  refine lv_iconst (v := 0) hx hb dX7_allWorth_2 (by decide) ?_
  refine lv_istore_n (lv' := [(3, .int 0), (2, .int 0), (0, .ref (q 0)), (1, .int x1)]) hx hb dX7_allWorth_3 rfl hl (by decide) rfl (fun ls hl => ?_)
  exact b_4 N x1 0 0 ls (lv_sub hl [2, 3, 1, 0] rfl) hf
def fX7_tryThing_95 (N : Nat) (I : Nat → Int32) (A : Nat → Nat → Int32) (u4 : Int32) : Option (Int32 × (Nat → Nat → Int32)) := (bz u4).bind fun v1 => some (v1, A)
def fX7_tryThing_81 (N : Nat) (I : Nat → Int32) (A : Nat → Nat → Int32) (u2 : Int32) (u3 : Int32) (y0 : Int32) : Option (Int32 × (Nat → Nat → Int32)) := if y0 = 0 then fX7_tryThing_95 N I A y0 else (fX7_denyOn N A 1 u2 u3).bind fun z2 => fX7_tryThing_95 N I z2 y0
def fX7_tryThing_80 (N : Nat) (I : Nat → Int32) (A : Nat → Nat → Int32) (u2 : Int32) (u3 : Int32) : Option (Int32 × (Nat → Nat → Int32)) := fX7_tryThing_81 N I A u2 u3 0
def fX7_tryThing (N : Nat) (I : Nat → Int32) (A : Nat → Nat → Int32) (x1 : Int32) : Option (Int32 × (Nat → Nat → Int32)) := if (x1 / 100) = 2 then (fX7_dawnOn N I A 1).bind fun z12 => some (1, z12.2) else if (x1 / 100) = 0 then (fX7_sayTrial N I A (rem (x1 / 10) 10) (rem x1 10)).bind fun z10 => (bz z10.1).bind fun v11 => some (v11, z10.2) else if (x1 / 100) = 1 then (fX7_isRumour N I (rem (x1 / 10) 10)).bind fun z4 => if z4 = 0 then fX7_tryThing_80 N I A (rem (x1 / 10) 10) (rem x1 10) else (fX7_isTable N (rem x1 10)).bind fun z6 => if z6 = 0 then fX7_tryThing_80 N I A (rem (x1 / 10) 10) (rem x1 10) else (fX7_canDeny N A 1 (rem (x1 / 10) 10) (rem x1 10)).bind fun z8 => if z8 = 0 then fX7_tryThing_80 N I A (rem (x1 / 10) 10) (rem x1 10) else fX7_tryThing_81 N I A (rem (x1 / 10) 10) (rem x1 10) 1 else fX7_tryThing_80 N I A (rem (x1 / 10) 10) (rem x1 10)
def rmX7_tryThing : Room := { frames := 3, cells := 0, slots := 0, locals := 69 }
theorem mb_X7_tryThing : Cond.instanceMethod yX7_tryThing ∈ wsL_law ∧ Cond.selects RX7 yX7_tryThing yX7_tryThing ∈ wsL_law ∧ Cond.initialized RX7 ∈ wsL_law ∧ Cond.code yX7_tryThing cX7_tryThing 5 (some .boolean) ∈ wsL_law := ⟨(bg 29 14 rfl), (bg 29 15 rfl), (bg 0 5 rfl), (bg 29 16 rfl)⟩
theorem hd_X7_tryThing : yX7_tryThing.cls = RX7 ∧ yX7_tryThing.cls ≠ "java/lang/invoke/MethodHandle" ∧ yX7_tryThing.cls ≠ "java/lang/invoke/VarHandle" ∧ (parseMethodDescriptor yX7_tryThing.desc).map (fun d => d.parameters.length) = some 1 := by decide +kernel
set_option maxRecDepth 100000 in
set_option maxHeartbeats 4000000 in
theorem ct_X7_tryThing (N : Nat) (l : Launch) (G : va_G) (cI cZ cO : ClassId) (q : Nat → Nat) (I : Nat → Int32) (A : Nat → Nat → Int32) (L : Int64) (x1 : Int32) (r : Int32) (Az : Nat → Nat → Int32) (hf : fX7_tryThing N I A x1 = some (r, Az)) : CtI l yX7_tryThing cX7_tryThing 5 .boolean rmX7_tryThing G cI cZ cO [.ref (q 0), .int x1] (wX7 q cI cZ cO I A L) (wX7 q cI cZ cO I Az L) r := by
  refine mkCI (by decide) (Nat.le_of_ble_eq_true rfl) ?_
  intro p e s m below meth cd Q Z hC hP hE hD hA fin ls hl
  obtain ⟨hx, hb, hml, hown, hts⟩ := hC
  have hown : s.vm.findClass RX7 = some m.cls := hown
  have hl : lv_has ls 5 [(0, .ref (q 0)), (1, .int x1)] := hl
  have b_95 : ∀ (A : Nat → Nat → Int32) (u4 : Int32), ∀ (H : Heap) (locs : List Loc), va_P G vwCl (wX7 q cI cZ cO I A L) H → va_D Z (wX7 q cI cZ cO I A L) → va_S Z s.heap H locs → ∀ ls : Array Slot, lv_has ls 5 [(4, .int u4)] → fX7_tryThing_95 N I A u4 = some (r, Az) → W p l e rmX7_tryThing s m [.ref (q 0), .int x1].toArray below meth cd H locs 0 0 Q (F0 m 95 ls []) := by
    intro A u4 H locs hP hD hS ls hl hf
    unfold fX7_tryThing_95 at hf
    refine lv_iload hx hb dX7_tryThing_95 (lv_at hl 0 rfl) ?_
    obtain ⟨v1, hv1, hf⟩ := bnd hf
    obtain ⟨ev1, hv1⟩ := bz_in hv1
    rw [ev1]
    have e9 := Option.some.inj hf
    exact fin H locs 97 ls _ (Prod.mk.inj e9).1 (nar_z (by rw [← (Prod.mk.inj e9).1]; exact hv1)) (by rw [← (Prod.mk.inj e9).2]; exact hP) hS dX7_tryThing_97
  have b_81 : ∀ (A : Nat → Nat → Int32) (u2 : Int32) (u3 : Int32) (y0 : Int32), ∀ (H : Heap) (locs : List Loc), va_P G vwCl (wX7 q cI cZ cO I A L) H → va_D Z (wX7 q cI cZ cO I A L) → va_S Z s.heap H locs → ∀ ls : Array Slot, lv_has ls 5 [(0, .ref (q 0)), (2, .int u2), (3, .int u3)] → fX7_tryThing_81 N I A u2 u3 y0 = some (r, Az) → W p l e rmX7_tryThing s m [.ref (q 0), .int x1].toArray below meth cd H locs 0 0 Q (F0 m 81 ls [.int y0]) := by
    intro A u2 u3 y0 H locs hP hD hS ls hl hf
    unfold fX7_tryThing_81 at hf
    refine lv_istore (lv' := [(4, .int y0), (0, .ref (q 0)), (2, .int u2), (3, .int u3)]) hx hb dX7_tryThing_81 hl (by decide) rfl (fun ls hl => ?_)
    refine lv_iload hx hb dX7_tryThing_83 (lv_at hl 0 rfl) ?_
    refine lv_if_eq (tgt := 95) hx hb dX7_tryThing_85 (by decide) (fun c1 => ?_) (fun c1 => ?_)
    · rw [if_pos c1] at hf
      exact b_95 A y0 H locs hP hD hS ls (lv_sub hl [0] rfl) hf
    · rw [if_neg c1] at hf
      refine lv_aload_n hx hb dX7_tryThing_88 rfl (lv_at hl 1 rfl) ?_
      refine lv_iconst (v := 1) hx hb dX7_tryThing_89 (by decide) ?_
      refine lv_iload_n hx hb dX7_tryThing_90 rfl (lv_at hl 2 rfl) ?_
      refine lv_iload_n hx hb dX7_tryThing_91 rfl (lv_at hl 3 rfl) ?_
      obtain ⟨z2, hz2, hf⟩ := bnd hf
      refine x_wwVv (C := RX7) (n := 3) (ci := 7) hx hb hml hown hts hE (ct_X7_denyOn N l G cI cZ cO q I A L 1 u2 u3 z2 hz2) (bg 20 0 rfl) mb_X7_denyOn.1 mb_X7_denyOn.2.1 mb_X7_denyOn.2.2.1 mb_X7_denyOn.2.2.2 hd_X7_denyOn rfl (by decide) hP hD hS hA rfl rfl rfl rfl rfl hl.1 (Nat.le_of_ble_eq_true rfl) ⟨Nat.zero_le _, Nat.zero_le _⟩ dX7_tryThing_92 (fun H locs hP hD hS => ?_)
      have hP : va_P G vwCl (wX7 q cI cZ cO I z2 L) H := hP
      have hD : va_D Z (wX7 q cI cZ cO I z2 L) := hD
      exact b_95 z2 y0 H locs hP hD hS ls (lv_sub hl [0] rfl) hf
  have b_80 : ∀ (A : Nat → Nat → Int32) (u2 : Int32) (u3 : Int32), ∀ (H : Heap) (locs : List Loc), va_P G vwCl (wX7 q cI cZ cO I A L) H → va_D Z (wX7 q cI cZ cO I A L) → va_S Z s.heap H locs → ∀ ls : Array Slot, lv_has ls 5 [(0, .ref (q 0)), (2, .int u2), (3, .int u3)] → fX7_tryThing_80 N I A u2 u3 = some (r, Az) → W p l e rmX7_tryThing s m [.ref (q 0), .int x1].toArray below meth cd H locs 0 0 Q (F0 m 80 ls []) := by
    intro A u2 u3 H locs hP hD hS ls hl hf
    unfold fX7_tryThing_80 at hf
    refine lv_iconst (v := 0) hx hb dX7_tryThing_80 (by decide) ?_
    exact b_81 A u2 u3 0 H locs hP hD hS ls (lv_sub hl [0, 1, 2] rfl) hf
  unfold fX7_tryThing at hf
  have hS : va_S Z s.heap s.heap [] := va_S.rf
  obtain ⟨H, hH⟩ : ∃ H, H = s.heap := ⟨_, rfl⟩
  obtain ⟨locs, hlocs⟩ : ∃ locs : List Loc, locs = [] := ⟨_, rfl⟩
  rw [← hlocs]
  rw [← hlocs] at hS
  suffices hW : ∀ H : Heap, va_P G vwCl (wX7 q cI cZ cO I A L) H → va_S Z s.heap H locs → W p l e rmX7_tryThing s m [.ref (q 0), .int x1].toArray below meth cd H locs 0 0 Q (F0 m 0 ls []) from hW s.heap hP hS
  clear hP hS hH H
  intro H hP hS
  refine lv_iload_n hx hb dX7_tryThing_0 rfl (lv_at hl 1 rfl) ?_
  refine lv_bipush (v := 10) hx hb dX7_tryThing_1 (by decide) ?_
  refine lv_idiv hx hb dX7_tryThing_3 (by decide) ?_
  refine lv_bipush (v := 10) hx hb dX7_tryThing_4 (by decide) ?_
  refine x_irem hx hb dX7_tryThing_6 (by decide) ?_
  refine lv_istore_n (lv' := [(2, .int (rem (x1 / 10) 10)), (0, .ref (q 0)), (1, .int x1)]) hx hb dX7_tryThing_7 rfl hl (by decide) rfl (fun ls hl => ?_)
  refine lv_iload_n hx hb dX7_tryThing_8 rfl (lv_at hl 2 rfl) ?_
  refine lv_bipush (v := 10) hx hb dX7_tryThing_9 (by decide) ?_
  refine x_irem hx hb dX7_tryThing_11 (by decide) ?_
  refine lv_istore_n (lv' := [(3, .int (rem x1 10)), (2, .int (rem (x1 / 10) 10)), (0, .ref (q 0)), (1, .int x1)]) hx hb dX7_tryThing_12 rfl hl (by decide) rfl (fun ls hl => ?_)
  refine lv_iload_n hx hb dX7_tryThing_13 rfl (lv_at hl 3 rfl) ?_
  refine lv_bipush (v := 100) hx hb dX7_tryThing_14 (by decide) ?_
  refine lv_idiv hx hb dX7_tryThing_16 (by decide) ?_
  refine lv_iconst (v := 2) hx hb dX7_tryThing_17 (by decide) ?_
  refine lv_icmp_ne (tgt := 29) hx hb dX7_tryThing_18 (by decide) (fun c1 => ?_) (fun c1 => ?_)
  · rw [if_neg c1] at hf
    refine lv_iload_n hx hb dX7_tryThing_29 rfl (lv_at hl 3 rfl) ?_
    refine lv_bipush (v := 100) hx hb dX7_tryThing_30 (by decide) ?_
    refine lv_idiv hx hb dX7_tryThing_32 (by decide) ?_
    refine lv_if_ne (tgt := 43) hx hb dX7_tryThing_33 (by decide) (fun c2 => ?_) (fun c2 => ?_)
    · rw [if_neg c2] at hf
      refine lv_iload_n hx hb dX7_tryThing_43 rfl (lv_at hl 3 rfl) ?_
      refine lv_bipush (v := 100) hx hb dX7_tryThing_44 (by decide) ?_
      refine lv_idiv hx hb dX7_tryThing_46 (by decide) ?_
      refine lv_iconst (v := 1) hx hb dX7_tryThing_47 (by decide) ?_
      refine lv_icmp_ne (tgt := 80) hx hb dX7_tryThing_48 (by decide) (fun c3 => ?_) (fun c3 => ?_)
      · rw [if_neg c3] at hf
        exact b_80 A (rem (x1 / 10) 10) (rem x1 10) H locs hP hD hS ls (lv_sub hl [2, 1, 0] rfl) hf
      · rw [if_pos c3] at hf
        refine lv_aload_n hx hb dX7_tryThing_51 rfl (lv_at hl 2 rfl) ?_
        refine lv_iload_n hx hb dX7_tryThing_52 rfl (lv_at hl 1 rfl) ?_
        obtain ⟨z4, hz4, hf⟩ := bnd hf
        refine x_rdV (C := RX7) (n := 1) (ci := 7) hx hb hml hown hts hE (ct_X7_isRumour N l G cI cZ cO q I A L (rem (x1 / 10) 10) z4 hz4) (bg 13 6 rfl) mb_X7_isRumour.1 mb_X7_isRumour.2.1 mb_X7_isRumour.2.2.1 mb_X7_isRumour.2.2.2 hd_X7_isRumour rfl (by decide) hP rfl rfl rfl rfl hl.1 (Nat.le_of_ble_eq_true rfl) ⟨Nat.zero_le _, Nat.zero_le _⟩ dX7_tryThing_53 ?_
        refine lv_if_eq (tgt := 80) hx hb dX7_tryThing_56 (by decide) (fun c5 => ?_) (fun c5 => ?_)
        · rw [if_pos c5] at hf
          exact b_80 A (rem (x1 / 10) 10) (rem x1 10) H locs hP hD hS ls (lv_sub hl [2, 1, 0] rfl) hf
        · rw [if_neg c5] at hf
          refine lv_iload_n hx hb dX7_tryThing_59 rfl (lv_at hl 0 rfl) ?_
          obtain ⟨z6, hz6, hf⟩ := bnd hf
          refine x_rdS (n := 1) hx hb hml hown hts hE (ct_X7_isTable N l G cI cZ cO (rem x1 10) z6 hz6) (bg 18 13 rfl) mb_X7_isTable.1 mb_X7_isTable.2.1 mb_X7_isTable.2.2 hd_X7_isTable rfl (by decide) va_P_nil rfl hl.1 (Nat.le_of_ble_eq_true rfl) ⟨Nat.zero_le _, Nat.zero_le _⟩ dX7_tryThing_60 ?_
          refine lv_if_eq (tgt := 80) hx hb dX7_tryThing_63 (by decide) (fun c7 => ?_) (fun c7 => ?_)
          · rw [if_pos c7] at hf
            exact b_80 A (rem (x1 / 10) 10) (rem x1 10) H locs hP hD hS ls (lv_sub hl [2, 1, 0] rfl) hf
          · rw [if_neg c7] at hf
            refine lv_aload_n hx hb dX7_tryThing_66 rfl (lv_at hl 2 rfl) ?_
            refine lv_iconst (v := 1) hx hb dX7_tryThing_67 (by decide) ?_
            refine lv_iload_n hx hb dX7_tryThing_68 rfl (lv_at hl 1 rfl) ?_
            refine lv_iload_n hx hb dX7_tryThing_69 rfl (lv_at hl 0 rfl) ?_
            obtain ⟨z8, hz8, hf⟩ := bnd hf
            refine x_rdV (C := RX7) (n := 3) (ci := 7) hx hb hml hown hts hE (ct_X7_canDeny N l G cI cZ cO q I A L 1 (rem (x1 / 10) 10) (rem x1 10) z8 hz8) (bg 19 20 rfl) mb_X7_canDeny.1 mb_X7_canDeny.2.1 mb_X7_canDeny.2.2.1 mb_X7_canDeny.2.2.2 hd_X7_canDeny rfl (by decide) hP rfl rfl rfl rfl hl.1 (Nat.le_of_ble_eq_true rfl) ⟨Nat.zero_le _, Nat.zero_le _⟩ dX7_tryThing_70 ?_
            refine lv_if_eq (tgt := 80) hx hb dX7_tryThing_73 (by decide) (fun c9 => ?_) (fun c9 => ?_)
            · rw [if_pos c9] at hf
              exact b_80 A (rem (x1 / 10) 10) (rem x1 10) H locs hP hD hS ls (lv_sub hl [2, 1, 0] rfl) hf
            · rw [if_neg c9] at hf
              refine lv_iconst (v := 1) hx hb dX7_tryThing_76 (by decide) ?_
              refine lv_goto (tgt := 81) hx hb dX7_tryThing_77 (by decide) ?_
              exact b_81 A (rem (x1 / 10) 10) (rem x1 10) 1 H locs hP hD hS ls (lv_sub hl [2, 1, 0] rfl) hf
    · rw [if_pos c2] at hf
      refine lv_aload_n hx hb dX7_tryThing_36 rfl (lv_at hl 2 rfl) ?_
      refine lv_iload_n hx hb dX7_tryThing_37 rfl (lv_at hl 1 rfl) ?_
      refine lv_iload_n hx hb dX7_tryThing_38 rfl (lv_at hl 0 rfl) ?_
      obtain ⟨z10, hz10, hf⟩ := bnd hf
      refine x_wwV (C := RX7) (n := 2) (ci := 7) hx hb hml hown hts hE (ct_X7_sayTrial N l G cI cZ cO q I A L (rem (x1 / 10) 10) (rem x1 10) z10.1 z10.2 hz10) (bg 27 0 rfl) mb_X7_sayTrial.1 mb_X7_sayTrial.2.1 mb_X7_sayTrial.2.2.1 mb_X7_sayTrial.2.2.2 hd_X7_sayTrial rfl (by decide) hP hD hS hA rfl rfl rfl rfl rfl hl.1 (Nat.le_of_ble_eq_true rfl) ⟨Nat.zero_le _, Nat.zero_le _⟩ dX7_tryThing_39 (fun H locs hP hD hS => ?_)
      have hP : va_P G vwCl (wX7 q cI cZ cO I z10.2 L) H := hP
      have hD : va_D Z (wX7 q cI cZ cO I z10.2 L) := hD
      obtain ⟨v11, hv11, hf⟩ := bnd hf
      obtain ⟨ev11, hv11⟩ := bz_in hv11
      rw [ev11]
      have e9 := Option.some.inj hf
      exact fin H locs 42 ls _ (Prod.mk.inj e9).1 (nar_z (by rw [← (Prod.mk.inj e9).1]; exact hv11)) (by rw [← (Prod.mk.inj e9).2]; exact hP) hS dX7_tryThing_42
  · rw [if_pos c1] at hf
    refine lv_aload_n hx hb dX7_tryThing_21 rfl (lv_at hl 2 rfl) ?_
    refine lv_iconst (v := 1) hx hb dX7_tryThing_22 (by decide) ?_
    obtain ⟨z12, hz12, hf⟩ := bnd hf
    refine x_wwV (C := RX7) (n := 1) (ci := 7) hx hb hml hown hts hE (ct_X7_dawnOn N l G cI cZ cO q I A L 1 z12.1 z12.2 hz12) (bg 17 7 rfl) mb_X7_dawnOn.1 mb_X7_dawnOn.2.1 mb_X7_dawnOn.2.2.1 mb_X7_dawnOn.2.2.2 hd_X7_dawnOn rfl (by decide) hP hD hS hA rfl rfl rfl rfl rfl hl.1 (Nat.le_of_ble_eq_true rfl) ⟨Nat.zero_le _, Nat.zero_le _⟩ dX7_tryThing_23 (fun H locs hP hD hS => ?_)
    have hP : va_P G vwCl (wX7 q cI cZ cO I z12.2 L) H := hP
    have hD : va_D Z (wX7 q cI cZ cO I z12.2 L) := hD
    refine lv_pop hx hb dX7_tryThing_26 rfl ?_
    refine lv_iconst (v := 1) hx hb dX7_tryThing_27 (by decide) ?_
    have e9 := Option.some.inj hf
    exact fin H locs 28 ls _ (Prod.mk.inj e9).1 (nar_z (Or.inr (Prod.mk.inj e9).1.symm)) (by rw [← (Prod.mk.inj e9).2]; exact hP) hS dX7_tryThing_28
def fX7_judge_86 (N : Nat) (I : Nat → Int32) (A : Nat → Nat → Int32) (u4 : Int32) : Option (Int32 × (Nat → Nat → Int32)) := some (u4, A)
def fX7_judge_38s (N : Nat) (k_38 : (Nat → Int32) → (Nat → Nat → Int32) → Int32 → Int64 → Int32 → Option (Int32 × (Nat → Nat → Int32))) (I : Nat → Int32) (A : Nat → Nat → Int32) (u1 : Int32) (u2 : Int64) (u4 : Int32) : Option (Int32 × (Nat → Nat → Int32)) := if u1 ≤ u4 then some ((-9), A) else (fX7_allWorth N I A 1).bind fun z2 => (fX7_tenTo N (3 * ((u1 - 1) - u4))).bind fun z3 => (nzL z3).bind fun v4 => (fX7_tryThing N I A (Int64.toInt32 (remL (u2 / v4) 1000))).bind fun z5 => if z5.1 = 0 then fX7_judge_86 N I z5.2 u4 else (fX7_allWorth N I z5.2 1).bind fun z7 => if z2 ≤ z7 then k_38 I z5.2 u1 u2 (u4 + 1) else fX7_judge_86 N I z5.2 u4
def fX7_judge_38 (N : Nat) : Nat → (Nat → Int32) → (Nat → Nat → Int32) → Int32 → Int64 → Int32 → Option (Int32 × (Nat → Nat → Int32))
  | 0 => fun _ _ _ _ _ => none
  | n + 1 => fX7_judge_38s N (fX7_judge_38 N n)
def fX7_judge_28 (N : Nat) (I : Nat → Int32) (A : Nat → Nat → Int32) : Option (Int32 × (Nat → Nat → Int32)) := some ((-2), A)
def fX7_judge (N : Nat) (I : Nat → Int32) (A : Nat → Nat → Int32) (x1 : Int32) (x2 : Int64) : Option (Int32 × (Nat → Nat → Int32)) := (fX7_in N (Int32.toInt64 x1) 1 4).bind fun z1 => if z1 = 0 then fX7_judge_28 N I A else (fX7_tenTo N (3 * x1)).bind fun z3 => (fX7_in N x2 0 (z3 - 1)).bind fun z4 => if z4 = 0 then fX7_judge_28 N I A else (fX7_layTrial N A).bind fun z6 => fX7_judge_38 N N I z6 x1 x2 0
def rmX7_judge : Room := { frames := 4, cells := 0, slots := 0, locals := 93 }
theorem mb_X7_judge : Cond.instanceMethod yX7_judge ∈ wsL_law ∧ Cond.selects RX7 yX7_judge yX7_judge ∈ wsL_law ∧ Cond.initialized RX7 ∈ wsL_law ∧ Cond.code yX7_judge cX7_judge 6 (some .int) ∈ wsL_law := ⟨(bg 29 0 rfl), (bg 29 1 rfl), (bg 0 5 rfl), (bg 29 2 rfl)⟩
theorem hd_X7_judge : yX7_judge.cls = RX7 ∧ yX7_judge.cls ≠ "java/lang/invoke/MethodHandle" ∧ yX7_judge.cls ≠ "java/lang/invoke/VarHandle" ∧ (parseMethodDescriptor yX7_judge.desc).map (fun d => d.parameters.length) = some 2 := by decide +kernel
set_option maxRecDepth 100000 in
set_option maxHeartbeats 4000000 in
theorem ct_X7_judge (N : Nat) (l : Launch) (G : va_G) (cI cZ cO : ClassId) (q : Nat → Nat) (I : Nat → Int32) (A : Nat → Nat → Int32) (L : Int64) (x1 : Int32) (x2 : Int64) (r : Int32) (Az : Nat → Nat → Int32) (hf : fX7_judge N I A x1 x2 = some (r, Az)) : CtI l yX7_judge cX7_judge 6 .int rmX7_judge G cI cZ cO [.ref (q 0), .int x1, .long x2] (wX7 q cI cZ cO I A L) (wX7 q cI cZ cO I Az L) r := by
  refine mkCI (by decide) (Nat.le_of_ble_eq_true rfl) ?_
  intro p e s m below meth cd Q Z hC hP hE hD hA fin ls hl
  obtain ⟨hx, hb, hml, hown, hts⟩ := hC
  have hown : s.vm.findClass RX7 = some m.cls := hown
  have hl : lv_has ls 6 [(0, .ref (q 0)), (1, .int x1), (2, .long x2)] := hl
  have b_86 : ∀ (A : Nat → Nat → Int32) (u4 : Int32), ∀ (H : Heap) (locs : List Loc), va_P G vwCl (wX7 q cI cZ cO I A L) H → va_D Z (wX7 q cI cZ cO I A L) → va_S Z s.heap H locs → ∀ ls : Array Slot, lv_has ls 6 [(4, .int u4)] → fX7_judge_86 N I A u4 = some (r, Az) → W p l e rmX7_judge s m [.ref (q 0), .int x1, .long x2].toArray below meth cd H locs 0 0 Q (F0 m 86 ls []) := by
    intro A u4 H locs hP hD hS ls hl hf
    unfold fX7_judge_86 at hf
    refine lv_iload hx hb dX7_judge_86 (lv_at hl 0 rfl) ?_
    have e9 := Option.some.inj hf
    exact fin H locs 88 ls _ (Prod.mk.inj e9).1 (nar_i _) (by rw [← (Prod.mk.inj e9).2]; exact hP) hS dX7_judge_88
  have b_38 : ∀ n : Nat, ∀ (A : Nat → Nat → Int32) (u1 : Int32) (u2 : Int64) (u4 : Int32), ∀ (H : Heap) (locs : List Loc), va_P G vwCl (wX7 q cI cZ cO I A L) H → va_D Z (wX7 q cI cZ cO I A L) → va_S Z s.heap H locs → ∀ ls : Array Slot, lv_has ls 6 [(0, .ref (q 0)), (1, .int u1), (2, .long u2), (4, .int u4)] → fX7_judge_38 N n I A u1 u2 u4 = some (r, Az) → W p l e rmX7_judge s m [.ref (q 0), .int x1, .long x2].toArray below meth cd H locs 0 0 Q (F0 m 38 ls []) := by
    intro n
    induction n with
    | zero =>
      intro A u1 u2 u4 H locs hP hD hS ls hl hf
      cases hf
    | succ n hk_38 =>
      intro A u1 u2 u4 H locs hP hD hS ls hl hf
      replace hf : fX7_judge_38s N (fX7_judge_38 N n) I A u1 u2 u4 = some (r, Az) := hf
      generalize fX7_judge_38 N n = k_38 at hf hk_38
      unfold fX7_judge_38s at hf
      refine lv_iload hx hb dX7_judge_38 (lv_at hl 3 rfl) ?_
      refine lv_iload_n hx hb dX7_judge_40 rfl (lv_at hl 1 rfl) ?_
      refine lv_icmp_ge (tgt := 95) hx hb dX7_judge_41 (by decide) (fun c1 => ?_) (fun c1 => ?_)
      · rw [if_pos c1] at hf
        refine lv_bipush (v := (-9)) hx hb dX7_judge_95 (by decide) ?_
        have e9 := Option.some.inj hf
        exact fin H locs 97 ls _ (Prod.mk.inj e9).1 (nar_i _) (by rw [← (Prod.mk.inj e9).2]; exact hP) hS dX7_judge_97
      · rw [if_neg c1] at hf
        refine lv_aload_n hx hb dX7_judge_44 rfl (lv_at hl 0 rfl) ?_
        refine lv_iconst (v := 1) hx hb dX7_judge_45 (by decide) ?_
        obtain ⟨z2, hz2, hf⟩ := bnd hf
        refine x_rdV (C := RX7) (n := 1) (ci := 7) hx hb hml hown hts hE (ct_X7_allWorth N l G cI cZ cO q I A L 1 z2 hz2) (bg 29 9 rfl) mb_X7_allWorth.1 mb_X7_allWorth.2.1 mb_X7_allWorth.2.2.1 mb_X7_allWorth.2.2.2 hd_X7_allWorth rfl (by decide) hP rfl rfl rfl rfl hl.1 (Nat.le_of_ble_eq_true rfl) ⟨Nat.zero_le _, Nat.zero_le _⟩ dX7_judge_46 ?_
        refine lv_istore (lv' := [(5, .int z2), (0, .ref (q 0)), (1, .int u1), (2, .long u2), (4, .int u4)]) hx hb dX7_judge_49 hl (by decide) rfl (fun ls hl => ?_)
        refine lv_aload_n hx hb dX7_judge_51 rfl (lv_at hl 1 rfl) ?_
        refine lv_lload_n hx hb dX7_judge_52 rfl (lv_at hl 3 rfl) ?_
        refine lv_iconst (v := 3) hx hb dX7_judge_53 (by decide) ?_
        refine lv_iload_n hx hb dX7_judge_54 rfl (lv_at hl 2 rfl) ?_
        refine lv_iconst (v := 1) hx hb dX7_judge_55 (by decide) ?_
        refine lv_isub hx hb dX7_judge_56 ?_
        refine lv_iload hx hb dX7_judge_57 (lv_at hl 4 rfl) ?_
        refine lv_isub hx hb dX7_judge_59 ?_
        refine lv_imul hx hb dX7_judge_60 ?_
        obtain ⟨z3, hz3, hf⟩ := bnd hf
        refine x_rdSL (n := 1) hx hb hml hown hts hE (ct_X7_tenTo N l G cI cZ cO (3 * ((u1 - 1) - u4)) z3 hz3) (bg 29 5 rfl) mb_X7_tenTo.1 mb_X7_tenTo.2.1 mb_X7_tenTo.2.2 hd_X7_tenTo rfl (by decide) va_P_nil rfl hl.1 (Nat.le_of_ble_eq_true rfl) ⟨Nat.zero_le _, Nat.zero_le _⟩ dX7_judge_61 ?_
        obtain ⟨v4, hv4, hf⟩ := bnd hf
        obtain ⟨ev4, hv4⟩ := nzL_in hv4
        rw [ev4]
        refine lv_ldiv hx hb dX7_judge_64 hv4 ?_
        refine lv_ldc2 hx hb hown (hts _ (bg 29 4 rfl)) dX7_judge_65 ?_
        refine x_lrem hx hb dX7_judge_68 (by decide) ?_
        refine lv_l2i (v := Int64.toInt32 (remL (u2 / v4) 1000)) hx hb dX7_judge_69 rfl ?_
        obtain ⟨z5, hz5, hf⟩ := bnd hf
        refine x_wwV (C := RX7) (n := 1) (ci := 7) hx hb hml hown hts hE (ct_X7_tryThing N l G cI cZ cO q I A L (Int64.toInt32 (remL (u2 / v4) 1000)) z5.1 z5.2 hz5) (bg 29 13 rfl) mb_X7_tryThing.1 mb_X7_tryThing.2.1 mb_X7_tryThing.2.2.1 mb_X7_tryThing.2.2.2 hd_X7_tryThing rfl (by decide) hP hD hS hA rfl rfl rfl rfl rfl hl.1 (Nat.le_of_ble_eq_true rfl) ⟨Nat.zero_le _, Nat.zero_le _⟩ dX7_judge_70 (fun H locs hP hD hS => ?_)
        have hP : va_P G vwCl (wX7 q cI cZ cO I z5.2 L) H := hP
        have hD : va_D Z (wX7 q cI cZ cO I z5.2 L) := hD
        refine lv_if_eq (tgt := 86) hx hb dX7_judge_73 (by decide) (fun c6 => ?_) (fun c6 => ?_)
        · rw [if_pos c6] at hf
          exact b_86 z5.2 u4 H locs hP hD hS ls (lv_sub hl [4] rfl) hf
        · rw [if_neg c6] at hf
          refine lv_aload_n hx hb dX7_judge_76 rfl (lv_at hl 1 rfl) ?_
          refine lv_iconst (v := 1) hx hb dX7_judge_77 (by decide) ?_
          obtain ⟨z7, hz7, hf⟩ := bnd hf
          refine x_rdV (C := RX7) (n := 1) (ci := 7) hx hb hml hown hts hE (ct_X7_allWorth N l G cI cZ cO q I z5.2 L 1 z7 hz7) (bg 29 9 rfl) mb_X7_allWorth.1 mb_X7_allWorth.2.1 mb_X7_allWorth.2.2.1 mb_X7_allWorth.2.2.2 hd_X7_allWorth rfl (by decide) hP rfl rfl rfl rfl hl.1 (Nat.le_of_ble_eq_true rfl) ⟨Nat.zero_le _, Nat.zero_le _⟩ dX7_judge_78 ?_
          refine lv_iload hx hb dX7_judge_81 (lv_at hl 0 rfl) ?_
          refine lv_icmp_ge (tgt := 89) hx hb dX7_judge_83 (by decide) (fun c8 => ?_) (fun c8 => ?_)
          · rw [if_pos c8] at hf
            refine lv_iinc (v := u4 + 1) (lv' := [(4, .int (u4 + 1)), (5, .int z2), (0, .ref (q 0)), (1, .int u1), (2, .long u2)]) hx hb dX7_judge_89 hl (k := 4) rfl rfl (by decide) rfl (fun ls hl => ?_)
            refine lv_goto (tgt := 38) hx hb dX7_judge_92 (by decide) ?_
            exact hk_38 z5.2 u1 u2 (u4 + 1) H locs hP hD hS ls (lv_sub hl [2, 3, 4, 0] rfl) hf
          · rw [if_neg c8] at hf
            exact b_86 z5.2 u4 H locs hP hD hS ls (lv_sub hl [4] rfl) hf
  have b_28 : ∀ (A : Nat → Nat → Int32), ∀ (H : Heap) (locs : List Loc), va_P G vwCl (wX7 q cI cZ cO I A L) H → va_D Z (wX7 q cI cZ cO I A L) → va_S Z s.heap H locs → ∀ ls : Array Slot, lv_has ls 6 [] → fX7_judge_28 N I A = some (r, Az) → W p l e rmX7_judge s m [.ref (q 0), .int x1, .long x2].toArray below meth cd H locs 0 0 Q (F0 m 28 ls []) := by
    intro A H locs hP hD hS ls hl hf
    unfold fX7_judge_28 at hf
    refine lv_bipush (v := (-2)) hx hb dX7_judge_28 (by decide) ?_
    have e9 := Option.some.inj hf
    exact fin H locs 30 ls _ (Prod.mk.inj e9).1 (nar_i _) (by rw [← (Prod.mk.inj e9).2]; exact hP) hS dX7_judge_30
  unfold fX7_judge at hf
  have hS : va_S Z s.heap s.heap [] := va_S.rf
  obtain ⟨H, hH⟩ : ∃ H, H = s.heap := ⟨_, rfl⟩
  obtain ⟨locs, hlocs⟩ : ∃ locs : List Loc, locs = [] := ⟨_, rfl⟩
  rw [← hlocs]
  rw [← hlocs] at hS
  suffices hW : ∀ H : Heap, va_P G vwCl (wX7 q cI cZ cO I A L) H → va_S Z s.heap H locs → W p l e rmX7_judge s m [.ref (q 0), .int x1, .long x2].toArray below meth cd H locs 0 0 Q (F0 m 0 ls []) from hW s.heap hP hS
  clear hP hS hH H
  intro H hP hS
  refine lv_iload_n hx hb dX7_judge_0 rfl (lv_at hl 1 rfl) ?_
  refine lv_i2l (v := Int32.toInt64 x1) hx hb dX7_judge_1 rfl ?_
  refine lv_lconst (v := 1) hx hb dX7_judge_2 (by decide) ?_
  refine lv_ldc2 hx hb hown (hts _ (bg 29 3 rfl)) dX7_judge_3 ?_
  obtain ⟨z1, hz1, hf⟩ := bnd hf
  refine x_rdS (n := 3) hx hb hml hown hts hE (ct_X7_in N l G cI cZ cO (Int32.toInt64 x1) 1 4 z1 hz1) (bg 5 9 rfl) mb_X7_in.1 mb_X7_in.2.1 mb_X7_in.2.2 hd_X7_in rfl (by decide) va_P_nil rfl hl.1 (Nat.le_of_ble_eq_true rfl) ⟨Nat.zero_le _, Nat.zero_le _⟩ dX7_judge_6 ?_
  refine lv_if_eq (tgt := 28) hx hb dX7_judge_9 (by decide) (fun c2 => ?_) (fun c2 => ?_)
  · rw [if_pos c2] at hf
    exact b_28 A H locs hP hD hS ls (lv_sub hl [] rfl) hf
  · rw [if_neg c2] at hf
    refine lv_lload_n hx hb dX7_judge_12 rfl (lv_at hl 2 rfl) ?_
    refine lv_lconst (v := 0) hx hb dX7_judge_13 (by decide) ?_
    refine lv_iconst (v := 3) hx hb dX7_judge_14 (by decide) ?_
    refine lv_iload_n hx hb dX7_judge_15 rfl (lv_at hl 1 rfl) ?_
    refine lv_imul hx hb dX7_judge_16 ?_
    obtain ⟨z3, hz3, hf⟩ := bnd hf
    refine x_rdSL (n := 1) hx hb hml hown hts hE (ct_X7_tenTo N l G cI cZ cO (3 * x1) z3 hz3) (bg 29 5 rfl) mb_X7_tenTo.1 mb_X7_tenTo.2.1 mb_X7_tenTo.2.2 hd_X7_tenTo rfl (by decide) va_P_nil rfl hl.1 (Nat.le_of_ble_eq_true rfl) ⟨Nat.zero_le _, Nat.zero_le _⟩ dX7_judge_17 ?_
    refine lv_lconst (v := 1) hx hb dX7_judge_20 (by decide) ?_
    refine lv_lsub hx hb dX7_judge_21 ?_
    obtain ⟨z4, hz4, hf⟩ := bnd hf
    refine x_rdS (n := 3) hx hb hml hown hts hE (ct_X7_in N l G cI cZ cO x2 0 (z3 - 1) z4 hz4) (bg 5 9 rfl) mb_X7_in.1 mb_X7_in.2.1 mb_X7_in.2.2 hd_X7_in rfl (by decide) va_P_nil rfl hl.1 (Nat.le_of_ble_eq_true rfl) ⟨Nat.zero_le _, Nat.zero_le _⟩ dX7_judge_22 ?_
    refine lv_if_ne (tgt := 31) hx hb dX7_judge_25 (by decide) (fun c5 => ?_) (fun c5 => ?_)
    · rw [if_neg c5] at hf
      refine lv_aload_n hx hb dX7_judge_31 rfl (lv_at hl 0 rfl) ?_
      obtain ⟨z6, hz6, hf⟩ := bnd hf
      refine x_wwVv (C := RX7) (n := 0) (ci := 7) hx hb hml hown hts hE (ct_X7_layTrial N l G cI cZ cO q I A L z6 hz6) (bg 23 2 rfl) mb_X7_layTrial.1 mb_X7_layTrial.2.1 mb_X7_layTrial.2.2.1 mb_X7_layTrial.2.2.2 hd_X7_layTrial rfl (by decide) hP hD hS hA rfl rfl rfl rfl rfl hl.1 (Nat.le_of_ble_eq_true rfl) ⟨Nat.zero_le _, Nat.zero_le _⟩ dX7_judge_32 (fun H locs hP hD hS => ?_)
      have hP : va_P G vwCl (wX7 q cI cZ cO I z6 L) H := hP
      have hD : va_D Z (wX7 q cI cZ cO I z6 L) := hD
      refine lv_iconst (v := 0) hx hb dX7_judge_35 (by decide) ?_
      refine lv_istore (lv' := [(4, .int 0), (0, .ref (q 0)), (1, .int x1), (2, .long x2)]) hx hb dX7_judge_36 hl (by decide) rfl (fun ls hl => ?_)
      exact b_38 N z6 x1 x2 0 H locs hP hD hS ls (lv_sub hl [1, 2, 3, 0] rfl) hf
    · rw [if_pos c5] at hf
      exact b_28 A H locs hP hD hS ls (lv_sub hl [] rfl) hf
def fX7_hear_29 (N : Nat) (I : Nat → Int32) (A : Nat → Nat → Int32) : Option (Int32 × (Nat → Int32) × (Nat → Nat → Int32)) := some ((-2), I, A)
def fX7_hear (N : Nat) (I : Nat → Int32) (A : Nat → Nat → Int32) (x1 : Int32) (x2 : Int32) (x3 : Int32) (x4 : Int32) : Option (Int32 × (Nat → Int32) × (Nat → Nat → Int32)) := (fX7_isRumour N I x1).bind fun z1 => if z1 = 0 then some ((-1), I, A) else (fX7_isTable N x2).bind fun z3 => if z3 = 0 then fX7_hear_29 N I A else (fX7_in N (Int32.toInt64 x3) 0 8).bind fun z5 => if z5 = 0 then fX7_hear_29 N I A else if (I 9) = 6 then some ((-4), I, A) else (wr 6 (A 14) (I 9) x1).bind fun g8 => (wr 6 (A 15) (I 9) x2).bind fun g9 => (wr 6 (A 16) (I 9) x3).bind fun g10 => (wrZ 6 (A 17) (I 9) x4).bind fun g11 => some ((I 9) + 1, upd I 9 ((I 9) + 1), va_up (va_up (va_up (va_up A 14 g8) 15 g9) 16 g10) 17 g11)
def rmX7_hear : Room := { frames := 2, cells := 0, slots := 0, locals := 46 }
theorem mb_X7_hear : Cond.instanceMethod yX7_hear ∈ wsL_law ∧ Cond.selects RX7 yX7_hear yX7_hear ∈ wsL_law ∧ Cond.initialized RX7 ∈ wsL_law ∧ Cond.code yX7_hear cX7_hear 5 (some .int) ∈ wsL_law := ⟨(bg 30 3 rfl), (bg 30 4 rfl), (bg 0 5 rfl), (bg 30 5 rfl)⟩
theorem hd_X7_hear : yX7_hear.cls = RX7 ∧ yX7_hear.cls ≠ "java/lang/invoke/MethodHandle" ∧ yX7_hear.cls ≠ "java/lang/invoke/VarHandle" ∧ (parseMethodDescriptor yX7_hear.desc).map (fun d => d.parameters.length) = some 4 := by decide +kernel
set_option maxRecDepth 100000 in
set_option maxHeartbeats 4000000 in
theorem ct_X7_hear (N : Nat) (l : Launch) (G : va_G) (cI cZ cO : ClassId) (q : Nat → Nat) (I : Nat → Int32) (A : Nat → Nat → Int32) (L : Int64) (x1 : Int32) (x2 : Int32) (x3 : Int32) (x4 : Int32) (r : Int32) (Iz : Nat → Int32) (Az : Nat → Nat → Int32) (hf : fX7_hear N I A x1 x2 x3 x4 = some (r, Iz, Az)) : CtI l yX7_hear cX7_hear 5 .int rmX7_hear G cI cZ cO [.ref (q 0), .int x1, .int x2, .int x3, .int x4] (wX7 q cI cZ cO I A L) (wX7 q cI cZ cO Iz Az L) r := by
  refine mkCI (by decide) (Nat.le_of_ble_eq_true rfl) ?_
  intro p e s m below meth cd Q Z hC hP hE hD hA fin ls hl
  obtain ⟨hx, hb, hml, hown, hts⟩ := hC
  have hown : s.vm.findClass RX7 = some m.cls := hown
  have hl : lv_has ls 5 [(0, .ref (q 0)), (1, .int x1), (2, .int x2), (3, .int x3), (4, .int x4)] := hl
  have b_29 : ∀ (I : Nat → Int32) (A : Nat → Nat → Int32), ∀ (H : Heap) (locs : List Loc), va_P G vwCl (wX7 q cI cZ cO I A L) H → va_D Z (wX7 q cI cZ cO I A L) → va_S Z s.heap H locs → ∀ ls : Array Slot, lv_has ls 5 [] → fX7_hear_29 N I A = some (r, Iz, Az) → W p l e rmX7_hear s m [.ref (q 0), .int x1, .int x2, .int x3, .int x4].toArray below meth cd H locs 0 0 Q (F0 m 29 ls []) := by
    intro I A H locs hP hD hS ls hl hf
    unfold fX7_hear_29 at hf
    refine lv_bipush (v := (-2)) hx hb dX7_hear_29 (by decide) ?_
    have e9 := Option.some.inj hf
    exact fin H locs 31 ls _ (Prod.mk.inj e9).1 (nar_i _) (by rw [← (Prod.mk.inj (Prod.mk.inj e9).2).1, ← (Prod.mk.inj (Prod.mk.inj e9).2).2]; exact hP) hS dX7_hear_31
  unfold fX7_hear at hf
  have hS : va_S Z s.heap s.heap [] := va_S.rf
  obtain ⟨H, hH⟩ : ∃ H, H = s.heap := ⟨_, rfl⟩
  obtain ⟨locs, hlocs⟩ : ∃ locs : List Loc, locs = [] := ⟨_, rfl⟩
  rw [← hlocs]
  rw [← hlocs] at hS
  suffices hW : ∀ H : Heap, va_P G vwCl (wX7 q cI cZ cO I A L) H → va_S Z s.heap H locs → W p l e rmX7_hear s m [.ref (q 0), .int x1, .int x2, .int x3, .int x4].toArray below meth cd H locs 0 0 Q (F0 m 0 ls []) from hW s.heap hP hS
  clear hP hS hH H
  intro H hP hS
  refine lv_aload_n hx hb dX7_hear_0 rfl (lv_at hl 0 rfl) ?_
  refine lv_iload_n hx hb dX7_hear_1 rfl (lv_at hl 1 rfl) ?_
  obtain ⟨z1, hz1, hf⟩ := bnd hf
  refine x_rdV (C := RX7) (n := 1) (ci := 7) hx hb hml hown hts hE (ct_X7_isRumour N l G cI cZ cO q I A L x1 z1 hz1) (bg 13 6 rfl) mb_X7_isRumour.1 mb_X7_isRumour.2.1 mb_X7_isRumour.2.2.1 mb_X7_isRumour.2.2.2 hd_X7_isRumour rfl (by decide) hP rfl rfl rfl rfl hl.1 (Nat.le_of_ble_eq_true rfl) ⟨Nat.zero_le _, Nat.zero_le _⟩ dX7_hear_2 ?_
  refine lv_if_ne (tgt := 10) hx hb dX7_hear_5 (by decide) (fun c2 => ?_) (fun c2 => ?_)
  · rw [if_neg c2] at hf
    refine lv_iload_n hx hb dX7_hear_10 rfl (lv_at hl 2 rfl) ?_
    obtain ⟨z3, hz3, hf⟩ := bnd hf
    refine x_rdS (n := 1) hx hb hml hown hts hE (ct_X7_isTable N l G cI cZ cO x2 z3 hz3) (bg 18 13 rfl) mb_X7_isTable.1 mb_X7_isTable.2.1 mb_X7_isTable.2.2 hd_X7_isTable rfl (by decide) va_P_nil rfl hl.1 (Nat.le_of_ble_eq_true rfl) ⟨Nat.zero_le _, Nat.zero_le _⟩ dX7_hear_11 ?_
    refine lv_if_eq (tgt := 29) hx hb dX7_hear_14 (by decide) (fun c4 => ?_) (fun c4 => ?_)
    · rw [if_pos c4] at hf
      exact b_29 I A H locs hP hD hS ls (lv_sub hl [] rfl) hf
    · rw [if_neg c4] at hf
      refine lv_iload_n hx hb dX7_hear_17 rfl (lv_at hl 3 rfl) ?_
      refine lv_i2l (v := Int32.toInt64 x3) hx hb dX7_hear_18 rfl ?_
      refine lv_lconst (v := 0) hx hb dX7_hear_19 (by decide) ?_
      refine lv_ldc2 hx hb hown (hts _ (bg 23 1 rfl)) dX7_hear_20 ?_
      obtain ⟨z5, hz5, hf⟩ := bnd hf
      refine x_rdS (n := 3) hx hb hml hown hts hE (ct_X7_in N l G cI cZ cO (Int32.toInt64 x3) 0 8 z5 hz5) (bg 5 9 rfl) mb_X7_in.1 mb_X7_in.2.1 mb_X7_in.2.2 hd_X7_in rfl (by decide) va_P_nil rfl hl.1 (Nat.le_of_ble_eq_true rfl) ⟨Nat.zero_le _, Nat.zero_le _⟩ dX7_hear_23 ?_
      refine lv_if_ne (tgt := 32) hx hb dX7_hear_26 (by decide) (fun c6 => ?_) (fun c6 => ?_)
      · rw [if_neg c6] at hf
        refine lv_aload_n hx hb dX7_hear_32 rfl (lv_at hl 0 rfl) ?_
        refine va_get (D := G) (ci := 7) (v := .int ((I 9))) (C := RX7) (T := TX7) (N := 33) hx hb hts inlX7 hown hE.1 hP 0 rfl rfl 23 (by decide) (hts _ (bg 30 6 rfl)) (fun _ h9 => h9) rfl dX7_hear_33 ?_
        refine lv_bipush (v := 6) hx hb dX7_hear_36 (by decide) ?_
        refine lv_icmp_ne (tgt := 44) hx hb dX7_hear_38 (by decide) (fun c7 => ?_) (fun c7 => ?_)
        · rw [if_neg c7] at hf
          refine lv_aload_n hx hb dX7_hear_44 rfl (lv_at hl 0 rfl) ?_
          refine va_get (D := G) (ci := 7) (v := .ref (q 15)) (C := RX7) (T := TX7) (N := 33) hx hb hts inlX7 hown hE.1 hP 0 rfl rfl 24 (by decide) (hts _ (bg 4 4 rfl)) (fun _ h9 => h9) rfl dX7_hear_45 ?_
          refine lv_aload_n hx hb dX7_hear_48 rfl (lv_at hl 0 rfl) ?_
          refine va_get (D := G) (ci := 7) (v := .int ((I 9))) (C := RX7) (T := TX7) (N := 33) hx hb hts inlX7 hown hE.1 hP 0 rfl rfl 23 (by decide) (hts _ (bg 30 6 rfl)) (fun _ h9 => h9) rfl dX7_hear_49 ?_
          refine lv_iload_n hx hb dX7_hear_52 rfl (lv_at hl 1 rfl) ?_
          obtain ⟨g8, hg8, hf⟩ := bnd hf
          refine x_iast hx hb hE.1 hP hD hS 15 0 rfl rfl hg8 dX7_hear_53 (fun H locs hP hD hS => ?_)
          have hP : va_P G vwCl (wX7 q cI cZ cO I (va_up A 14 g8) L) H := hP
          have hD : va_D Z (wX7 q cI cZ cO I (va_up A 14 g8) L) := hD
          refine lv_aload_n hx hb dX7_hear_54 rfl (lv_at hl 0 rfl) ?_
          refine va_get (D := G) (ci := 7) (v := .ref (q 16)) (C := RX7) (T := TX7) (N := 33) hx hb hts inlX7 hown hE.1 hP 0 rfl rfl 25 (by decide) (hts _ (bg 4 5 rfl)) (fun _ h9 => h9) rfl dX7_hear_55 ?_
          refine lv_aload_n hx hb dX7_hear_58 rfl (lv_at hl 0 rfl) ?_
          refine va_get (D := G) (ci := 7) (v := .int ((I 9))) (C := RX7) (T := TX7) (N := 33) hx hb hts inlX7 hown hE.1 hP 0 rfl rfl 23 (by decide) (hts _ (bg 30 6 rfl)) (fun _ h9 => h9) rfl dX7_hear_59 ?_
          refine lv_iload_n hx hb dX7_hear_62 rfl (lv_at hl 2 rfl) ?_
          obtain ⟨g9, hg9, hf⟩ := bnd hf
          refine x_iast hx hb hE.1 hP hD hS 16 0 rfl rfl hg9 dX7_hear_63 (fun H locs hP hD hS => ?_)
          have hP : va_P G vwCl (wX7 q cI cZ cO I (va_up (va_up A 14 g8) 15 g9) L) H := hP
          have hD : va_D Z (wX7 q cI cZ cO I (va_up (va_up A 14 g8) 15 g9) L) := hD
          refine lv_aload_n hx hb dX7_hear_64 rfl (lv_at hl 0 rfl) ?_
          refine va_get (D := G) (ci := 7) (v := .ref (q 17)) (C := RX7) (T := TX7) (N := 33) hx hb hts inlX7 hown hE.1 hP 0 rfl rfl 26 (by decide) (hts _ (bg 4 6 rfl)) (fun _ h9 => h9) rfl dX7_hear_65 ?_
          refine lv_aload_n hx hb dX7_hear_68 rfl (lv_at hl 0 rfl) ?_
          refine va_get (D := G) (ci := 7) (v := .int ((I 9))) (C := RX7) (T := TX7) (N := 33) hx hb hts inlX7 hown hE.1 hP 0 rfl rfl 23 (by decide) (hts _ (bg 30 6 rfl)) (fun _ h9 => h9) rfl dX7_hear_69 ?_
          refine lv_iload_n hx hb dX7_hear_72 rfl (lv_at hl 3 rfl) ?_
          obtain ⟨g10, hg10, hf⟩ := bnd hf
          refine x_iast hx hb hE.1 hP hD hS 17 0 rfl rfl hg10 dX7_hear_73 (fun H locs hP hD hS => ?_)
          have hP : va_P G vwCl (wX7 q cI cZ cO I (va_up (va_up (va_up A 14 g8) 15 g9) 16 g10) L) H := hP
          have hD : va_D Z (wX7 q cI cZ cO I (va_up (va_up (va_up A 14 g8) 15 g9) 16 g10) L) := hD
          refine lv_aload_n hx hb dX7_hear_74 rfl (lv_at hl 0 rfl) ?_
          refine va_get (D := G) (ci := 7) (v := .ref (q 18)) (C := RX7) (T := TX7) (N := 33) hx hb hts inlX7 hown hE.1 hP 0 rfl rfl 27 (by decide) (hts _ (bg 4 7 rfl)) (fun _ h9 => h9) rfl dX7_hear_75 ?_
          refine lv_aload_n hx hb dX7_hear_78 rfl (lv_at hl 0 rfl) ?_
          refine va_get (D := G) (ci := 7) (v := .int ((I 9))) (C := RX7) (T := TX7) (N := 33) hx hb hts inlX7 hown hE.1 hP 0 rfl rfl 23 (by decide) (hts _ (bg 30 6 rfl)) (fun _ h9 => h9) rfl dX7_hear_79 ?_
          refine lv_iload hx hb dX7_hear_82 (lv_at hl 4 rfl) ?_
          obtain ⟨g11, hg11, hf⟩ := bnd hf
          refine x_zast hx hb hE.1 hP hD hS 18 1 rfl rfl hg11 dX7_hear_84 (fun H locs hP hD hS => ?_)
          have hP : va_P G vwCl (wX7 q cI cZ cO I (va_up (va_up (va_up (va_up A 14 g8) 15 g9) 16 g10) 17 g11) L) H := hP
          have hD : va_D Z (wX7 q cI cZ cO I (va_up (va_up (va_up (va_up A 14 g8) 15 g9) 16 g10) 17 g11) L) := hD
          refine lv_aload_n hx hb dX7_hear_85 rfl (lv_at hl 0 rfl) ?_
          refine lv_dup hx hb dX7_hear_86 rfl ?_
          refine va_get (D := G) (ci := 7) (v := .int ((I 9))) (C := RX7) (T := TX7) (N := 33) hx hb hts inlX7 hown hE.1 hP 0 rfl rfl 23 (by decide) (hts _ (bg 30 6 rfl)) (fun _ h9 => h9) rfl dX7_hear_87 ?_
          refine lv_iconst (v := 1) hx hb dX7_hear_90 (by decide) ?_
          refine lv_iadd hx hb dX7_hear_91 ?_
          refine va_put (D := G) (ci := 7) (v := .int ((I 9) + 1)) (ty := .int) (C := RX7) (T := TX7) (N := 33) hx hb hts inlX7 tyX7 tyX7_ok nmX7 hown hE.1 hP hD hS 0 rfl rfl 23 (by decide) (hts _ (bg 30 6 rfl)) (fun _ h9 => h9) rfl (by decide +kernel) rfl rfl (Nat.le_of_ble_eq_true rfl) dX7_hear_92 (fun H locs hP hD hS => ?_)
          have hP : va_P G vwCl (wX7 q cI cZ cO (upd I 9 ((I 9) + 1)) (va_up (va_up (va_up (va_up A 14 g8) 15 g9) 16 g10) 17 g11) L) H := hP
          have hD : va_D Z (wX7 q cI cZ cO (upd I 9 ((I 9) + 1)) (va_up (va_up (va_up (va_up A 14 g8) 15 g9) 16 g10) 17 g11) L) := hD
          refine lv_aload_n hx hb dX7_hear_95 rfl (lv_at hl 0 rfl) ?_
          refine va_get (D := G) (ci := 7) (v := .int ((I 9) + 1)) (C := RX7) (T := TX7) (N := 33) hx hb hts inlX7 hown hE.1 hP 0 rfl rfl 23 (by decide) (hts _ (bg 30 6 rfl)) (fun _ h9 => h9) rfl dX7_hear_96 ?_
          have e9 := Option.some.inj hf
          exact fin H locs 99 ls _ (Prod.mk.inj e9).1 (nar_i _) (by rw [← (Prod.mk.inj (Prod.mk.inj e9).2).1, ← (Prod.mk.inj (Prod.mk.inj e9).2).2]; exact hP) hS dX7_hear_99
        · rw [if_pos c7] at hf
          refine lv_bipush (v := (-4)) hx hb dX7_hear_41 (by decide) ?_
          have e9 := Option.some.inj hf
          exact fin H locs 43 ls _ (Prod.mk.inj e9).1 (nar_i _) (by rw [← (Prod.mk.inj (Prod.mk.inj e9).2).1, ← (Prod.mk.inj (Prod.mk.inj e9).2).2]; exact hP) hS dX7_hear_43
      · rw [if_pos c6] at hf
        exact b_29 I A H locs hP hD hS ls (lv_sub hl [] rfl) hf
  · rw [if_pos c2] at hf
    refine lv_iconst (v := (-1)) hx hb dX7_hear_8 (by decide) ?_
    have e9 := Option.some.inj hf
    exact fin H locs 9 ls _ (Prod.mk.inj e9).1 (nar_i _) (by rw [← (Prod.mk.inj (Prod.mk.inj e9).2).1, ← (Prod.mk.inj (Prod.mk.inj e9).2).2]; exact hP) hS dX7_hear_9
def fX7_unhear (N : Nat) (I : Nat → Int32) : Option (Int32 × (Nat → Int32)) := some ((I 9), upd I 9 0)
def rmX7_unhear : Room := { frames := 0, cells := 0, slots := 0, locals := 0 }
theorem mb_X7_unhear : Cond.instanceMethod yX7_unhear ∈ wsL_law ∧ Cond.selects RX7 yX7_unhear yX7_unhear ∈ wsL_law ∧ Cond.initialized RX7 ∈ wsL_law ∧ Cond.code yX7_unhear cX7_unhear 2 (some .int) ∈ wsL_law := ⟨(bg 30 13 rfl), (bg 30 14 rfl), (bg 0 5 rfl), (bg 30 15 rfl)⟩
theorem hd_X7_unhear : yX7_unhear.cls = RX7 ∧ yX7_unhear.cls ≠ "java/lang/invoke/MethodHandle" ∧ yX7_unhear.cls ≠ "java/lang/invoke/VarHandle" ∧ (parseMethodDescriptor yX7_unhear.desc).map (fun d => d.parameters.length) = some 0 := by decide +kernel
set_option maxRecDepth 100000 in
set_option maxHeartbeats 4000000 in
theorem ct_X7_unhear (N : Nat) (l : Launch) (G : va_G) (cI cZ cO : ClassId) (q : Nat → Nat) (I : Nat → Int32) (A : Nat → Nat → Int32) (L : Int64) (r : Int32) (Iz : Nat → Int32) (hf : fX7_unhear N I = some (r, Iz)) : CtI l yX7_unhear cX7_unhear 2 .int rmX7_unhear G cI cZ cO [.ref (q 0)] (wX7 q cI cZ cO I A L) (wX7 q cI cZ cO Iz A L) r := by
  refine mkCI (by decide) (Nat.le_of_ble_eq_true rfl) ?_
  intro p e s m below meth cd Q Z hC hP hE hD hA fin ls hl
  obtain ⟨hx, hb, hml, hown, hts⟩ := hC
  have hown : s.vm.findClass RX7 = some m.cls := hown
  have hl : lv_has ls 2 [(0, .ref (q 0))] := hl
  unfold fX7_unhear at hf
  have hS : va_S Z s.heap s.heap [] := va_S.rf
  obtain ⟨H, hH⟩ : ∃ H, H = s.heap := ⟨_, rfl⟩
  obtain ⟨locs, hlocs⟩ : ∃ locs : List Loc, locs = [] := ⟨_, rfl⟩
  rw [← hlocs]
  rw [← hlocs] at hS
  suffices hW : ∀ H : Heap, va_P G vwCl (wX7 q cI cZ cO I A L) H → va_S Z s.heap H locs → W p l e rmX7_unhear s m [.ref (q 0)].toArray below meth cd H locs 0 0 Q (F0 m 0 ls []) from hW s.heap hP hS
  clear hP hS hH H
  intro H hP hS
  refine lv_aload_n hx hb dX7_unhear_0 rfl (lv_at hl 0 rfl) ?_
  refine va_get (D := G) (ci := 7) (v := .int ((I 9))) (C := RX7) (T := TX7) (N := 33) hx hb hts inlX7 hown hE.1 hP 0 rfl rfl 23 (by decide) (hts _ (bg 30 6 rfl)) (fun _ h9 => h9) rfl dX7_unhear_1 ?_
  refine lv_istore_n (lv' := [(1, .int ((I 9))), (0, .ref (q 0))]) hx hb dX7_unhear_4 rfl hl (by decide) rfl (fun ls hl => ?_)
  refine lv_aload_n hx hb dX7_unhear_5 rfl (lv_at hl 1 rfl) ?_
  refine lv_iconst (v := 0) hx hb dX7_unhear_6 (by decide) ?_
  refine va_put (D := G) (ci := 7) (v := .int 0) (ty := .int) (C := RX7) (T := TX7) (N := 33) hx hb hts inlX7 tyX7 tyX7_ok nmX7 hown hE.1 hP hD hS 0 rfl rfl 23 (by decide) (hts _ (bg 30 6 rfl)) (fun _ h9 => h9) rfl (by decide +kernel) rfl rfl (Nat.le_of_ble_eq_true rfl) dX7_unhear_7 (fun H locs hP hD hS => ?_)
  have hP : va_P G vwCl (wX7 q cI cZ cO (upd I 9 0) A L) H := hP
  have hD : va_D Z (wX7 q cI cZ cO (upd I 9 0) A L) := hD
  refine lv_iload_n hx hb dX7_unhear_10 rfl (lv_at hl 0 rfl) ?_
  have e9 := Option.some.inj hf
  exact fin H locs 11 ls _ (Prod.mk.inj e9).1 (nar_i _) (by rw [← (Prod.mk.inj e9).2]; exact hP) hS dX7_unhear_11
def fX7_isHeard_111 (N : Nat) (k_19 : (Nat → Int32) → (Nat → Nat → Int32) → Int32 → Int32 → Int32 → Option (Int32 × (Nat → Nat → Int32))) (k_29 : (Nat → Int32) → (Nat → Nat → Int32) → Int32 → Int32 → Int32 → Int32 → Option (Int32 × (Nat → Nat → Int32))) (I : Nat → Int32) (A : Nat → Nat → Int32) (u1 : Int32) (u4 : Int32) (u5 : Int32) (y0 : Int32) : Option (Int32 × (Nat → Nat → Int32)) := k_29 I A u1 y0 u4 (u5 + 1)
def fX7_isHeard_110 (N : Nat) (k_19 : (Nat → Int32) → (Nat → Nat → Int32) → Int32 → Int32 → Int32 → Option (Int32 × (Nat → Nat → Int32))) (k_29 : (Nat → Int32) → (Nat → Nat → Int32) → Int32 → Int32 → Int32 → Int32 → Option (Int32 × (Nat → Nat → Int32))) (I : Nat → Int32) (A : Nat → Nat → Int32) (u1 : Int32) (u4 : Int32) (u5 : Int32) : Option (Int32 × (Nat → Nat → Int32)) := fX7_isHeard_111 N k_19 k_29 I A u1 u4 u5 0
def fX7_isHeard_106 (N : Nat) (k_19 : (Nat → Int32) → (Nat → Nat → Int32) → Int32 → Int32 → Int32 → Option (Int32 × (Nat → Nat → Int32))) (k_29 : (Nat → Int32) → (Nat → Nat → Int32) → Int32 → Int32 → Int32 → Int32 → Option (Int32 × (Nat → Nat → Int32))) (I : Nat → Int32) (A : Nat → Nat → Int32) (u1 : Int32) (u4 : Int32) (u5 : Int32) : Option (Int32 × (Nat → Nat → Int32)) := fX7_isHeard_111 N k_19 k_29 I A u1 u4 u5 1
def fX7_isHeard_66 (N : Nat) (k_19 : (Nat → Int32) → (Nat → Nat → Int32) → Int32 → Int32 → Int32 → Option (Int32 × (Nat → Nat → Int32))) (k_29 : (Nat → Int32) → (Nat → Nat → Int32) → Int32 → Int32 → Int32 → Int32 → Option (Int32 × (Nat → Nat → Int32))) (I : Nat → Int32) (A : Nat → Nat → Int32) (u1 : Int32) (u3 : Int32) (u4 : Int32) (u5 : Int32) (y0 : Int32) : Option (Int32 × (Nat → Nat → Int32)) := if u3 = 0 then fX7_isHeard_110 N k_19 k_29 I A u1 u4 u5 else if y0 = 0 then fX7_isHeard_106 N k_19 k_29 I A u1 u4 u5 else (rd 62 (A 5) (31 + u1)).bind fun v3 => (rd 6 (A 15) u5).bind fun v4 => (fX7_has N v3 v4).bind fun z5 => (rd 6 (A 17) u5).bind fun v6 => if z5 = v6 then fX7_isHeard_106 N k_19 k_29 I A u1 u4 u5 else fX7_isHeard_110 N k_19 k_29 I A u1 u4 u5
def fX7_isHeard_65 (N : Nat) (k_19 : (Nat → Int32) → (Nat → Nat → Int32) → Int32 → Int32 → Int32 → Option (Int32 × (Nat → Nat → Int32))) (k_29 : (Nat → Int32) → (Nat → Nat → Int32) → Int32 → Int32 → Int32 → Int32 → Option (Int32 × (Nat → Nat → Int32))) (I : Nat → Int32) (A : Nat → Nat → Int32) (u1 : Int32) (u3 : Int32) (u4 : Int32) (u5 : Int32) : Option (Int32 × (Nat → Nat → Int32)) := fX7_isHeard_66 N k_19 k_29 I A u1 u3 u4 u5 0
def fX7_isHeard_29s (N : Nat) (k_19 : (Nat → Int32) → (Nat → Nat → Int32) → Int32 → Int32 → Int32 → Option (Int32 × (Nat → Nat → Int32))) (k_29 : (Nat → Int32) → (Nat → Nat → Int32) → Int32 → Int32 → Int32 → Int32 → Option (Int32 × (Nat → Nat → Int32))) (I : Nat → Int32) (A : Nat → Nat → Int32) (u1 : Int32) (u3 : Int32) (u4 : Int32) (u5 : Int32) : Option (Int32 × (Nat → Nat → Int32)) := if (I 9) ≤ u5 then (fX7_dawnOn N I A 1).bind fun z2 => k_19 I z2.2 u1 u3 (u4 + 1) else (rd 6 (A 14) u5).bind fun v3 => if v3 = u1 then (rd 6 (A 16) u5).bind fun v5 => if v5 = u4 then fX7_isHeard_66 N k_19 k_29 I A u1 u3 u4 u5 1 else fX7_isHeard_65 N k_19 k_29 I A u1 u3 u4 u5 else fX7_isHeard_65 N k_19 k_29 I A u1 u3 u4 u5
def fX7_isHeard_29 (N : Nat) (k_19 : (Nat → Int32) → (Nat → Nat → Int32) → Int32 → Int32 → Int32 → Option (Int32 × (Nat → Nat → Int32))) : Nat → (Nat → Int32) → (Nat → Nat → Int32) → Int32 → Int32 → Int32 → Int32 → Option (Int32 × (Nat → Nat → Int32))
  | 0 => fun _ _ _ _ _ _ => none
  | n + 1 => fX7_isHeard_29s N k_19 (fX7_isHeard_29 N k_19 n)
def fX7_isHeard_19s (N : Nat) (k_19 : (Nat → Int32) → (Nat → Nat → Int32) → Int32 → Int32 → Int32 → Option (Int32 × (Nat → Nat → Int32))) (I : Nat → Int32) (A : Nat → Nat → Int32) (u1 : Int32) (u3 : Int32) (u4 : Int32) : Option (Int32 × (Nat → Nat → Int32)) := if 8 < u4 then (bz u3).bind fun v2 => some (v2, A) else fX7_isHeard_29 N k_19 N I A u1 u3 u4 0
def fX7_isHeard_19 (N : Nat) : Nat → (Nat → Int32) → (Nat → Nat → Int32) → Int32 → Int32 → Int32 → Option (Int32 × (Nat → Nat → Int32))
  | 0 => fun _ _ _ _ _ => none
  | n + 1 => fX7_isHeard_19s N (fX7_isHeard_19 N n)
def fX7_isHeard (N : Nat) (I : Nat → Int32) (A : Nat → Nat → Int32) (x1 : Int32) (x2 : Int32) : Option (Int32 × (Nat → Nat → Int32)) := (fX7_layTrial N A).bind fun z1 => (wr 62 (z1 5) (31 + x1) x2).bind fun g2 => fX7_isHeard_19 N N I (va_up z1 5 g2) x1 1 0
def rmX7_isHeard : Room := { frames := 2, cells := 0, slots := 0, locals := 49 }
theorem mb_X7_isHeard : Cond.instanceMethod yX7_isHeard ∈ wsL_law ∧ Cond.selects RX7 yX7_isHeard yX7_isHeard ∈ wsL_law ∧ Cond.initialized RX7 ∈ wsL_law ∧ Cond.code yX7_isHeard cX7_isHeard 7 (some .boolean) ∈ wsL_law := ⟨(bg 31 10 rfl), (bg 31 11 rfl), (bg 0 5 rfl), (bg 31 12 rfl)⟩
theorem hd_X7_isHeard : yX7_isHeard.cls = RX7 ∧ yX7_isHeard.cls ≠ "java/lang/invoke/MethodHandle" ∧ yX7_isHeard.cls ≠ "java/lang/invoke/VarHandle" ∧ (parseMethodDescriptor yX7_isHeard.desc).map (fun d => d.parameters.length) = some 2 := by decide +kernel
set_option maxRecDepth 100000 in
set_option maxHeartbeats 4000000 in
theorem ct_X7_isHeard (N : Nat) (l : Launch) (G : va_G) (cI cZ cO : ClassId) (q : Nat → Nat) (I : Nat → Int32) (A : Nat → Nat → Int32) (L : Int64) (x1 : Int32) (x2 : Int32) (r : Int32) (Az : Nat → Nat → Int32) (hf : fX7_isHeard N I A x1 x2 = some (r, Az)) : CtI l yX7_isHeard cX7_isHeard 7 .boolean rmX7_isHeard G cI cZ cO [.ref (q 0), .int x1, .int x2] (wX7 q cI cZ cO I A L) (wX7 q cI cZ cO I Az L) r := by
  refine mkCI (by decide) (Nat.le_of_ble_eq_true rfl) ?_
  intro p e s m below meth cd Q Z hC hP hE hD hA fin ls hl
  obtain ⟨hx, hb, hml, hown, hts⟩ := hC
  have hown : s.vm.findClass RX7 = some m.cls := hown
  have hl : lv_has ls 7 [(0, .ref (q 0)), (1, .int x1), (2, .int x2)] := hl
  have b_111 : ∀ (k_19 : (Nat → Int32) → (Nat → Nat → Int32) → Int32 → Int32 → Int32 → Option (Int32 × (Nat → Nat → Int32))) (hk_19 : ∀ (A : Nat → Nat → Int32) (u1 : Int32) (u3 : Int32) (u4 : Int32), ∀ (H : Heap) (locs : List Loc), va_P G vwCl (wX7 q cI cZ cO I A L) H → va_D Z (wX7 q cI cZ cO I A L) → va_S Z s.heap H locs → ∀ ls : Array Slot, lv_has ls 7 [(0, .ref (q 0)), (1, .int u1), (3, .int u3), (4, .int u4)] → k_19 I A u1 u3 u4 = some (r, Az) → W p l e rmX7_isHeard s m [.ref (q 0), .int x1, .int x2].toArray below meth cd H locs 0 0 Q (F0 m 19 ls [])), ∀ (k_29 : (Nat → Int32) → (Nat → Nat → Int32) → Int32 → Int32 → Int32 → Int32 → Option (Int32 × (Nat → Nat → Int32))) (hk_29 : ∀ (A : Nat → Nat → Int32) (u1 : Int32) (u3 : Int32) (u4 : Int32) (u5 : Int32), ∀ (H : Heap) (locs : List Loc), va_P G vwCl (wX7 q cI cZ cO I A L) H → va_D Z (wX7 q cI cZ cO I A L) → va_S Z s.heap H locs → ∀ ls : Array Slot, lv_has ls 7 [(0, .ref (q 0)), (1, .int u1), (3, .int u3), (4, .int u4), (5, .int u5)] → k_29 I A u1 u3 u4 u5 = some (r, Az) → W p l e rmX7_isHeard s m [.ref (q 0), .int x1, .int x2].toArray below meth cd H locs 0 0 Q (F0 m 29 ls [])), ∀ (A : Nat → Nat → Int32) (u1 : Int32) (u4 : Int32) (u5 : Int32) (y0 : Int32), ∀ (H : Heap) (locs : List Loc), va_P G vwCl (wX7 q cI cZ cO I A L) H → va_D Z (wX7 q cI cZ cO I A L) → va_S Z s.heap H locs → ∀ ls : Array Slot, lv_has ls 7 [(0, .ref (q 0)), (1, .int u1), (4, .int u4), (5, .int u5)] → fX7_isHeard_111 N k_19 k_29 I A u1 u4 u5 y0 = some (r, Az) → W p l e rmX7_isHeard s m [.ref (q 0), .int x1, .int x2].toArray below meth cd H locs 0 0 Q (F0 m 111 ls [.int y0]) := by
    intro k_19 hk_19 k_29 hk_29 A u1 u4 u5 y0 H locs hP hD hS ls hl hf
    unfold fX7_isHeard_111 at hf
    refine lv_istore_n (lv' := [(3, .int y0), (0, .ref (q 0)), (1, .int u1), (4, .int u4), (5, .int u5)]) hx hb dX7_isHeard_111 rfl hl (by decide) rfl (fun ls hl => ?_)
    refine lv_iinc (v := u5 + 1) (lv' := [(5, .int (u5 + 1)), (3, .int y0), (0, .ref (q 0)), (1, .int u1), (4, .int u4)]) hx hb dX7_isHeard_112 hl (k := 4) rfl rfl (by decide) rfl (fun ls hl => ?_)
    refine lv_goto (tgt := 29) hx hb dX7_isHeard_115 (by decide) ?_
    exact hk_29 A u1 y0 u4 (u5 + 1) H locs hP hD hS ls (lv_sub hl [2, 3, 1, 4, 0] rfl) hf
  have b_110 : ∀ (k_19 : (Nat → Int32) → (Nat → Nat → Int32) → Int32 → Int32 → Int32 → Option (Int32 × (Nat → Nat → Int32))) (hk_19 : ∀ (A : Nat → Nat → Int32) (u1 : Int32) (u3 : Int32) (u4 : Int32), ∀ (H : Heap) (locs : List Loc), va_P G vwCl (wX7 q cI cZ cO I A L) H → va_D Z (wX7 q cI cZ cO I A L) → va_S Z s.heap H locs → ∀ ls : Array Slot, lv_has ls 7 [(0, .ref (q 0)), (1, .int u1), (3, .int u3), (4, .int u4)] → k_19 I A u1 u3 u4 = some (r, Az) → W p l e rmX7_isHeard s m [.ref (q 0), .int x1, .int x2].toArray below meth cd H locs 0 0 Q (F0 m 19 ls [])), ∀ (k_29 : (Nat → Int32) → (Nat → Nat → Int32) → Int32 → Int32 → Int32 → Int32 → Option (Int32 × (Nat → Nat → Int32))) (hk_29 : ∀ (A : Nat → Nat → Int32) (u1 : Int32) (u3 : Int32) (u4 : Int32) (u5 : Int32), ∀ (H : Heap) (locs : List Loc), va_P G vwCl (wX7 q cI cZ cO I A L) H → va_D Z (wX7 q cI cZ cO I A L) → va_S Z s.heap H locs → ∀ ls : Array Slot, lv_has ls 7 [(0, .ref (q 0)), (1, .int u1), (3, .int u3), (4, .int u4), (5, .int u5)] → k_29 I A u1 u3 u4 u5 = some (r, Az) → W p l e rmX7_isHeard s m [.ref (q 0), .int x1, .int x2].toArray below meth cd H locs 0 0 Q (F0 m 29 ls [])), ∀ (A : Nat → Nat → Int32) (u1 : Int32) (u4 : Int32) (u5 : Int32), ∀ (H : Heap) (locs : List Loc), va_P G vwCl (wX7 q cI cZ cO I A L) H → va_D Z (wX7 q cI cZ cO I A L) → va_S Z s.heap H locs → ∀ ls : Array Slot, lv_has ls 7 [(0, .ref (q 0)), (1, .int u1), (4, .int u4), (5, .int u5)] → fX7_isHeard_110 N k_19 k_29 I A u1 u4 u5 = some (r, Az) → W p l e rmX7_isHeard s m [.ref (q 0), .int x1, .int x2].toArray below meth cd H locs 0 0 Q (F0 m 110 ls []) := by
    intro k_19 hk_19 k_29 hk_29 A u1 u4 u5 H locs hP hD hS ls hl hf
    unfold fX7_isHeard_110 at hf
    refine lv_iconst (v := 0) hx hb dX7_isHeard_110 (by decide) ?_
    exact b_111 k_19 hk_19 k_29 hk_29 A u1 u4 u5 0 H locs hP hD hS ls (lv_sub hl [0, 1, 2, 3] rfl) hf
  have b_106 : ∀ (k_19 : (Nat → Int32) → (Nat → Nat → Int32) → Int32 → Int32 → Int32 → Option (Int32 × (Nat → Nat → Int32))) (hk_19 : ∀ (A : Nat → Nat → Int32) (u1 : Int32) (u3 : Int32) (u4 : Int32), ∀ (H : Heap) (locs : List Loc), va_P G vwCl (wX7 q cI cZ cO I A L) H → va_D Z (wX7 q cI cZ cO I A L) → va_S Z s.heap H locs → ∀ ls : Array Slot, lv_has ls 7 [(0, .ref (q 0)), (1, .int u1), (3, .int u3), (4, .int u4)] → k_19 I A u1 u3 u4 = some (r, Az) → W p l e rmX7_isHeard s m [.ref (q 0), .int x1, .int x2].toArray below meth cd H locs 0 0 Q (F0 m 19 ls [])), ∀ (k_29 : (Nat → Int32) → (Nat → Nat → Int32) → Int32 → Int32 → Int32 → Int32 → Option (Int32 × (Nat → Nat → Int32))) (hk_29 : ∀ (A : Nat → Nat → Int32) (u1 : Int32) (u3 : Int32) (u4 : Int32) (u5 : Int32), ∀ (H : Heap) (locs : List Loc), va_P G vwCl (wX7 q cI cZ cO I A L) H → va_D Z (wX7 q cI cZ cO I A L) → va_S Z s.heap H locs → ∀ ls : Array Slot, lv_has ls 7 [(0, .ref (q 0)), (1, .int u1), (3, .int u3), (4, .int u4), (5, .int u5)] → k_29 I A u1 u3 u4 u5 = some (r, Az) → W p l e rmX7_isHeard s m [.ref (q 0), .int x1, .int x2].toArray below meth cd H locs 0 0 Q (F0 m 29 ls [])), ∀ (A : Nat → Nat → Int32) (u1 : Int32) (u4 : Int32) (u5 : Int32), ∀ (H : Heap) (locs : List Loc), va_P G vwCl (wX7 q cI cZ cO I A L) H → va_D Z (wX7 q cI cZ cO I A L) → va_S Z s.heap H locs → ∀ ls : Array Slot, lv_has ls 7 [(0, .ref (q 0)), (1, .int u1), (4, .int u4), (5, .int u5)] → fX7_isHeard_106 N k_19 k_29 I A u1 u4 u5 = some (r, Az) → W p l e rmX7_isHeard s m [.ref (q 0), .int x1, .int x2].toArray below meth cd H locs 0 0 Q (F0 m 106 ls []) := by
    intro k_19 hk_19 k_29 hk_29 A u1 u4 u5 H locs hP hD hS ls hl hf
    unfold fX7_isHeard_106 at hf
    refine lv_iconst (v := 1) hx hb dX7_isHeard_106 (by decide) ?_
    refine lv_goto (tgt := 111) hx hb dX7_isHeard_107 (by decide) ?_
    exact b_111 k_19 hk_19 k_29 hk_29 A u1 u4 u5 1 H locs hP hD hS ls (lv_sub hl [0, 1, 2, 3] rfl) hf
  have b_66 : ∀ (k_19 : (Nat → Int32) → (Nat → Nat → Int32) → Int32 → Int32 → Int32 → Option (Int32 × (Nat → Nat → Int32))) (hk_19 : ∀ (A : Nat → Nat → Int32) (u1 : Int32) (u3 : Int32) (u4 : Int32), ∀ (H : Heap) (locs : List Loc), va_P G vwCl (wX7 q cI cZ cO I A L) H → va_D Z (wX7 q cI cZ cO I A L) → va_S Z s.heap H locs → ∀ ls : Array Slot, lv_has ls 7 [(0, .ref (q 0)), (1, .int u1), (3, .int u3), (4, .int u4)] → k_19 I A u1 u3 u4 = some (r, Az) → W p l e rmX7_isHeard s m [.ref (q 0), .int x1, .int x2].toArray below meth cd H locs 0 0 Q (F0 m 19 ls [])), ∀ (k_29 : (Nat → Int32) → (Nat → Nat → Int32) → Int32 → Int32 → Int32 → Int32 → Option (Int32 × (Nat → Nat → Int32))) (hk_29 : ∀ (A : Nat → Nat → Int32) (u1 : Int32) (u3 : Int32) (u4 : Int32) (u5 : Int32), ∀ (H : Heap) (locs : List Loc), va_P G vwCl (wX7 q cI cZ cO I A L) H → va_D Z (wX7 q cI cZ cO I A L) → va_S Z s.heap H locs → ∀ ls : Array Slot, lv_has ls 7 [(0, .ref (q 0)), (1, .int u1), (3, .int u3), (4, .int u4), (5, .int u5)] → k_29 I A u1 u3 u4 u5 = some (r, Az) → W p l e rmX7_isHeard s m [.ref (q 0), .int x1, .int x2].toArray below meth cd H locs 0 0 Q (F0 m 29 ls [])), ∀ (A : Nat → Nat → Int32) (u1 : Int32) (u3 : Int32) (u4 : Int32) (u5 : Int32) (y0 : Int32), ∀ (H : Heap) (locs : List Loc), va_P G vwCl (wX7 q cI cZ cO I A L) H → va_D Z (wX7 q cI cZ cO I A L) → va_S Z s.heap H locs → ∀ ls : Array Slot, lv_has ls 7 [(0, .ref (q 0)), (1, .int u1), (3, .int u3), (4, .int u4), (5, .int u5)] → fX7_isHeard_66 N k_19 k_29 I A u1 u3 u4 u5 y0 = some (r, Az) → W p l e rmX7_isHeard s m [.ref (q 0), .int x1, .int x2].toArray below meth cd H locs 0 0 Q (F0 m 66 ls [.int y0]) := by
    intro k_19 hk_19 k_29 hk_29 A u1 u3 u4 u5 y0 H locs hP hD hS ls hl hf
    unfold fX7_isHeard_66 at hf
    refine lv_istore (lv' := [(6, .int y0), (0, .ref (q 0)), (1, .int u1), (3, .int u3), (4, .int u4), (5, .int u5)]) hx hb dX7_isHeard_66 hl (by decide) rfl (fun ls hl => ?_)
    refine lv_iload_n hx hb dX7_isHeard_68 rfl (lv_at hl 3 rfl) ?_
    refine lv_if_eq (tgt := 110) hx hb dX7_isHeard_69 (by decide) (fun c1 => ?_) (fun c1 => ?_)
    · rw [if_pos c1] at hf
      exact b_110 k_19 hk_19 k_29 hk_29 A u1 u4 u5 H locs hP hD hS ls (lv_sub hl [1, 2, 4, 5] rfl) hf
    · rw [if_neg c1] at hf
      refine lv_iload hx hb dX7_isHeard_72 (lv_at hl 0 rfl) ?_
      refine lv_if_eq (tgt := 106) hx hb dX7_isHeard_74 (by decide) (fun c2 => ?_) (fun c2 => ?_)
      · rw [if_pos c2] at hf
        exact b_106 k_19 hk_19 k_29 hk_29 A u1 u4 u5 H locs hP hD hS ls (lv_sub hl [1, 2, 4, 5] rfl) hf
      · rw [if_neg c2] at hf
        refine lv_aload_n hx hb dX7_isHeard_77 rfl (lv_at hl 1 rfl) ?_
        refine va_get (D := G) (ci := 7) (v := .ref (q 6)) (C := RX7) (T := TX7) (N := 33) hx hb hts inlX7 hown hE.1 hP 0 rfl rfl 7 (by decide) (hts _ (bg 3 19 rfl)) (fun _ h9 => h9) rfl dX7_isHeard_78 ?_
        refine lv_bipush (v := 31) hx hb dX7_isHeard_81 (by decide) ?_
        refine lv_iload_n hx hb dX7_isHeard_83 rfl (lv_at hl 2 rfl) ?_
        refine lv_iadd hx hb dX7_isHeard_84 ?_
        obtain ⟨v3, hv3, hf⟩ := bnd hf
        refine x_iald hx hb hE.1 hP 6 0 rfl rfl hv3 dX7_isHeard_85 ?_
        refine lv_aload_n hx hb dX7_isHeard_86 rfl (lv_at hl 1 rfl) ?_
        refine va_get (D := G) (ci := 7) (v := .ref (q 16)) (C := RX7) (T := TX7) (N := 33) hx hb hts inlX7 hown hE.1 hP 0 rfl rfl 25 (by decide) (hts _ (bg 4 5 rfl)) (fun _ h9 => h9) rfl dX7_isHeard_87 ?_
        refine lv_iload hx hb dX7_isHeard_90 (lv_at hl 5 rfl) ?_
        obtain ⟨v4, hv4, hf⟩ := bnd hf
        refine x_iald hx hb hE.1 hP 16 0 rfl rfl hv4 dX7_isHeard_92 ?_
        obtain ⟨z5, hz5, hf⟩ := bnd hf
        refine x_rdS (n := 2) hx hb hml hown hts hE (ct_X7_has N l G cI cZ cO v3 v4 z5 hz5) (bg 10 12 rfl) mb_X7_has.1 mb_X7_has.2.1 mb_X7_has.2.2 hd_X7_has rfl (by decide) va_P_nil rfl hl.1 (Nat.le_of_ble_eq_true rfl) ⟨Nat.zero_le _, Nat.zero_le _⟩ dX7_isHeard_93 ?_
        refine lv_aload_n hx hb dX7_isHeard_96 rfl (lv_at hl 1 rfl) ?_
        refine va_get (D := G) (ci := 7) (v := .ref (q 18)) (C := RX7) (T := TX7) (N := 33) hx hb hts inlX7 hown hE.1 hP 0 rfl rfl 27 (by decide) (hts _ (bg 4 7 rfl)) (fun _ h9 => h9) rfl dX7_isHeard_97 ?_
        refine lv_iload hx hb dX7_isHeard_100 (lv_at hl 5 rfl) ?_
        obtain ⟨v6, hv6, hf⟩ := bnd hf
        refine x_zald hx hb hE.1 hP 18 1 rfl rfl hv6 dX7_isHeard_102 ?_
        refine lv_icmp_ne (tgt := 110) hx hb dX7_isHeard_103 (by decide) (fun c7 => ?_) (fun c7 => ?_)
        · rw [if_neg c7] at hf
          exact b_110 k_19 hk_19 k_29 hk_29 A u1 u4 u5 H locs hP hD hS ls (lv_sub hl [1, 2, 4, 5] rfl) hf
        · rw [if_pos c7] at hf
          exact b_106 k_19 hk_19 k_29 hk_29 A u1 u4 u5 H locs hP hD hS ls (lv_sub hl [1, 2, 4, 5] rfl) hf
  have b_65 : ∀ (k_19 : (Nat → Int32) → (Nat → Nat → Int32) → Int32 → Int32 → Int32 → Option (Int32 × (Nat → Nat → Int32))) (hk_19 : ∀ (A : Nat → Nat → Int32) (u1 : Int32) (u3 : Int32) (u4 : Int32), ∀ (H : Heap) (locs : List Loc), va_P G vwCl (wX7 q cI cZ cO I A L) H → va_D Z (wX7 q cI cZ cO I A L) → va_S Z s.heap H locs → ∀ ls : Array Slot, lv_has ls 7 [(0, .ref (q 0)), (1, .int u1), (3, .int u3), (4, .int u4)] → k_19 I A u1 u3 u4 = some (r, Az) → W p l e rmX7_isHeard s m [.ref (q 0), .int x1, .int x2].toArray below meth cd H locs 0 0 Q (F0 m 19 ls [])), ∀ (k_29 : (Nat → Int32) → (Nat → Nat → Int32) → Int32 → Int32 → Int32 → Int32 → Option (Int32 × (Nat → Nat → Int32))) (hk_29 : ∀ (A : Nat → Nat → Int32) (u1 : Int32) (u3 : Int32) (u4 : Int32) (u5 : Int32), ∀ (H : Heap) (locs : List Loc), va_P G vwCl (wX7 q cI cZ cO I A L) H → va_D Z (wX7 q cI cZ cO I A L) → va_S Z s.heap H locs → ∀ ls : Array Slot, lv_has ls 7 [(0, .ref (q 0)), (1, .int u1), (3, .int u3), (4, .int u4), (5, .int u5)] → k_29 I A u1 u3 u4 u5 = some (r, Az) → W p l e rmX7_isHeard s m [.ref (q 0), .int x1, .int x2].toArray below meth cd H locs 0 0 Q (F0 m 29 ls [])), ∀ (A : Nat → Nat → Int32) (u1 : Int32) (u3 : Int32) (u4 : Int32) (u5 : Int32), ∀ (H : Heap) (locs : List Loc), va_P G vwCl (wX7 q cI cZ cO I A L) H → va_D Z (wX7 q cI cZ cO I A L) → va_S Z s.heap H locs → ∀ ls : Array Slot, lv_has ls 7 [(0, .ref (q 0)), (1, .int u1), (3, .int u3), (4, .int u4), (5, .int u5)] → fX7_isHeard_65 N k_19 k_29 I A u1 u3 u4 u5 = some (r, Az) → W p l e rmX7_isHeard s m [.ref (q 0), .int x1, .int x2].toArray below meth cd H locs 0 0 Q (F0 m 65 ls []) := by
    intro k_19 hk_19 k_29 hk_29 A u1 u3 u4 u5 H locs hP hD hS ls hl hf
    unfold fX7_isHeard_65 at hf
    refine lv_iconst (v := 0) hx hb dX7_isHeard_65 (by decide) ?_
    exact b_66 k_19 hk_19 k_29 hk_29 A u1 u3 u4 u5 0 H locs hP hD hS ls (lv_sub hl [0, 1, 2, 3, 4] rfl) hf
  have b_29 : ∀ (k_19 : (Nat → Int32) → (Nat → Nat → Int32) → Int32 → Int32 → Int32 → Option (Int32 × (Nat → Nat → Int32))) (hk_19 : ∀ (A : Nat → Nat → Int32) (u1 : Int32) (u3 : Int32) (u4 : Int32), ∀ (H : Heap) (locs : List Loc), va_P G vwCl (wX7 q cI cZ cO I A L) H → va_D Z (wX7 q cI cZ cO I A L) → va_S Z s.heap H locs → ∀ ls : Array Slot, lv_has ls 7 [(0, .ref (q 0)), (1, .int u1), (3, .int u3), (4, .int u4)] → k_19 I A u1 u3 u4 = some (r, Az) → W p l e rmX7_isHeard s m [.ref (q 0), .int x1, .int x2].toArray below meth cd H locs 0 0 Q (F0 m 19 ls [])), ∀ n : Nat, ∀ (A : Nat → Nat → Int32) (u1 : Int32) (u3 : Int32) (u4 : Int32) (u5 : Int32), ∀ (H : Heap) (locs : List Loc), va_P G vwCl (wX7 q cI cZ cO I A L) H → va_D Z (wX7 q cI cZ cO I A L) → va_S Z s.heap H locs → ∀ ls : Array Slot, lv_has ls 7 [(0, .ref (q 0)), (1, .int u1), (3, .int u3), (4, .int u4), (5, .int u5)] → fX7_isHeard_29 N k_19 n I A u1 u3 u4 u5 = some (r, Az) → W p l e rmX7_isHeard s m [.ref (q 0), .int x1, .int x2].toArray below meth cd H locs 0 0 Q (F0 m 29 ls []) := by
    intro k_19 hk_19
    intro n
    induction n with
    | zero =>
      intro A u1 u3 u4 u5 H locs hP hD hS ls hl hf
      cases hf
    | succ n hk_29 =>
      intro A u1 u3 u4 u5 H locs hP hD hS ls hl hf
      replace hf : fX7_isHeard_29s N k_19 (fX7_isHeard_29 N k_19 n) I A u1 u3 u4 u5 = some (r, Az) := hf
      generalize fX7_isHeard_29 N k_19 n = k_29 at hf hk_29
      unfold fX7_isHeard_29s at hf
      refine lv_iload hx hb dX7_isHeard_29 (lv_at hl 4 rfl) ?_
      refine lv_aload_n hx hb dX7_isHeard_31 rfl (lv_at hl 0 rfl) ?_
      refine va_get (D := G) (ci := 7) (v := .int ((I 9))) (C := RX7) (T := TX7) (N := 33) hx hb hts inlX7 hown hE.1 hP 0 rfl rfl 23 (by decide) (hts _ (bg 30 6 rfl)) (fun _ h9 => h9) rfl dX7_isHeard_32 ?_
      refine lv_icmp_ge (tgt := 118) hx hb dX7_isHeard_35 (by decide) (fun c1 => ?_) (fun c1 => ?_)
      · rw [if_pos c1] at hf
        refine lv_aload_n hx hb dX7_isHeard_118 rfl (lv_at hl 0 rfl) ?_
        refine lv_iconst (v := 1) hx hb dX7_isHeard_119 (by decide) ?_
        obtain ⟨z2, hz2, hf⟩ := bnd hf
        refine x_wwV (C := RX7) (n := 1) (ci := 7) hx hb hml hown hts hE (ct_X7_dawnOn N l G cI cZ cO q I A L 1 z2.1 z2.2 hz2) (bg 17 7 rfl) mb_X7_dawnOn.1 mb_X7_dawnOn.2.1 mb_X7_dawnOn.2.2.1 mb_X7_dawnOn.2.2.2 hd_X7_dawnOn rfl (by decide) hP hD hS hA rfl rfl rfl rfl rfl hl.1 (Nat.le_of_ble_eq_true rfl) ⟨Nat.zero_le _, Nat.zero_le _⟩ dX7_isHeard_120 (fun H locs hP hD hS => ?_)
        have hP : va_P G vwCl (wX7 q cI cZ cO I z2.2 L) H := hP
        have hD : va_D Z (wX7 q cI cZ cO I z2.2 L) := hD
        refine lv_pop hx hb dX7_isHeard_123 rfl ?_
        refine lv_iinc (v := u4 + 1) (lv' := [(4, .int (u4 + 1)), (0, .ref (q 0)), (1, .int u1), (3, .int u3), (5, .int u5)]) hx hb dX7_isHeard_124 hl (k := 3) rfl rfl (by decide) rfl (fun ls hl => ?_)
        refine lv_goto (tgt := 19) hx hb dX7_isHeard_127 (by decide) ?_
        exact hk_19 z2.2 u1 u3 (u4 + 1) H locs hP hD hS ls (lv_sub hl [1, 2, 3, 0] rfl) hf
      · rw [if_neg c1] at hf
        refine lv_aload_n hx hb dX7_isHeard_38 rfl (lv_at hl 0 rfl) ?_
        refine va_get (D := G) (ci := 7) (v := .ref (q 15)) (C := RX7) (T := TX7) (N := 33) hx hb hts inlX7 hown hE.1 hP 0 rfl rfl 24 (by decide) (hts _ (bg 4 4 rfl)) (fun _ h9 => h9) rfl dX7_isHeard_39 ?_
        refine lv_iload hx hb dX7_isHeard_42 (lv_at hl 4 rfl) ?_
        obtain ⟨v3, hv3, hf⟩ := bnd hf
        refine x_iald hx hb hE.1 hP 15 0 rfl rfl hv3 dX7_isHeard_44 ?_
        refine lv_iload_n hx hb dX7_isHeard_45 rfl (lv_at hl 1 rfl) ?_
        refine lv_icmp_ne (tgt := 65) hx hb dX7_isHeard_46 (by decide) (fun c4 => ?_) (fun c4 => ?_)
        · rw [if_neg c4] at hf
          exact b_65 k_19 hk_19 k_29 hk_29 A u1 u3 u4 u5 H locs hP hD hS ls (lv_sub hl [0, 1, 2, 3, 4] rfl) hf
        · rw [if_pos c4] at hf
          refine lv_aload_n hx hb dX7_isHeard_49 rfl (lv_at hl 0 rfl) ?_
          refine va_get (D := G) (ci := 7) (v := .ref (q 17)) (C := RX7) (T := TX7) (N := 33) hx hb hts inlX7 hown hE.1 hP 0 rfl rfl 26 (by decide) (hts _ (bg 4 6 rfl)) (fun _ h9 => h9) rfl dX7_isHeard_50 ?_
          refine lv_iload hx hb dX7_isHeard_53 (lv_at hl 4 rfl) ?_
          obtain ⟨v5, hv5, hf⟩ := bnd hf
          refine x_iald hx hb hE.1 hP 17 0 rfl rfl hv5 dX7_isHeard_55 ?_
          refine lv_iload hx hb dX7_isHeard_56 (lv_at hl 3 rfl) ?_
          refine lv_icmp_ne (tgt := 65) hx hb dX7_isHeard_58 (by decide) (fun c6 => ?_) (fun c6 => ?_)
          · rw [if_neg c6] at hf
            exact b_65 k_19 hk_19 k_29 hk_29 A u1 u3 u4 u5 H locs hP hD hS ls (lv_sub hl [0, 1, 2, 3, 4] rfl) hf
          · rw [if_pos c6] at hf
            refine lv_iconst (v := 1) hx hb dX7_isHeard_61 (by decide) ?_
            refine lv_goto (tgt := 66) hx hb dX7_isHeard_62 (by decide) ?_
            exact b_66 k_19 hk_19 k_29 hk_29 A u1 u3 u4 u5 1 H locs hP hD hS ls (lv_sub hl [0, 1, 2, 3, 4] rfl) hf
  have b_19 : ∀ n : Nat, ∀ (A : Nat → Nat → Int32) (u1 : Int32) (u3 : Int32) (u4 : Int32), ∀ (H : Heap) (locs : List Loc), va_P G vwCl (wX7 q cI cZ cO I A L) H → va_D Z (wX7 q cI cZ cO I A L) → va_S Z s.heap H locs → ∀ ls : Array Slot, lv_has ls 7 [(0, .ref (q 0)), (1, .int u1), (3, .int u3), (4, .int u4)] → fX7_isHeard_19 N n I A u1 u3 u4 = some (r, Az) → W p l e rmX7_isHeard s m [.ref (q 0), .int x1, .int x2].toArray below meth cd H locs 0 0 Q (F0 m 19 ls []) := by
    intro n
    induction n with
    | zero =>
      intro A u1 u3 u4 H locs hP hD hS ls hl hf
      cases hf
    | succ n hk_19 =>
      intro A u1 u3 u4 H locs hP hD hS ls hl hf
      replace hf : fX7_isHeard_19s N (fX7_isHeard_19 N n) I A u1 u3 u4 = some (r, Az) := hf
      generalize fX7_isHeard_19 N n = k_19 at hf hk_19
      unfold fX7_isHeard_19s at hf
      refine lv_iload hx hb dX7_isHeard_19 (lv_at hl 3 rfl) ?_
      refine lv_bipush (v := 8) hx hb dX7_isHeard_21 (by decide) ?_
      refine lv_icmp_gt (tgt := 130) hx hb dX7_isHeard_23 (by decide) (fun c1 => ?_) (fun c1 => ?_)
      · rw [if_pos c1] at hf
        refine lv_iload_n hx hb dX7_isHeard_130 rfl (lv_at hl 2 rfl) ?_
        obtain ⟨v2, hv2, hf⟩ := bnd hf
        obtain ⟨ev2, hv2⟩ := bz_in hv2
        rw [ev2]
        have e9 := Option.some.inj hf
        exact fin H locs 131 ls _ (Prod.mk.inj e9).1 (nar_z (by rw [← (Prod.mk.inj e9).1]; exact hv2)) (by rw [← (Prod.mk.inj e9).2]; exact hP) hS dX7_isHeard_131
      · rw [if_neg c1] at hf
        refine lv_iconst (v := 0) hx hb dX7_isHeard_26 (by decide) ?_
        refine lv_istore (lv' := [(5, .int 0), (0, .ref (q 0)), (1, .int u1), (3, .int u3), (4, .int u4)]) hx hb dX7_isHeard_27 hl (by decide) rfl (fun ls hl => ?_)
        exact b_29 k_19 hk_19 N A u1 u3 u4 0 H locs hP hD hS ls (lv_sub hl [1, 2, 3, 4, 0] rfl) hf
  unfold fX7_isHeard at hf
  have hS : va_S Z s.heap s.heap [] := va_S.rf
  obtain ⟨H, hH⟩ : ∃ H, H = s.heap := ⟨_, rfl⟩
  obtain ⟨locs, hlocs⟩ : ∃ locs : List Loc, locs = [] := ⟨_, rfl⟩
  rw [← hlocs]
  rw [← hlocs] at hS
  suffices hW : ∀ H : Heap, va_P G vwCl (wX7 q cI cZ cO I A L) H → va_S Z s.heap H locs → W p l e rmX7_isHeard s m [.ref (q 0), .int x1, .int x2].toArray below meth cd H locs 0 0 Q (F0 m 0 ls []) from hW s.heap hP hS
  clear hP hS hH H
  intro H hP hS
  refine lv_aload_n hx hb dX7_isHeard_0 rfl (lv_at hl 0 rfl) ?_
  obtain ⟨z1, hz1, hf⟩ := bnd hf
  refine x_wwVv (C := RX7) (n := 0) (ci := 7) hx hb hml hown hts hE (ct_X7_layTrial N l G cI cZ cO q I A L z1 hz1) (bg 23 2 rfl) mb_X7_layTrial.1 mb_X7_layTrial.2.1 mb_X7_layTrial.2.2.1 mb_X7_layTrial.2.2.2 hd_X7_layTrial rfl (by decide) hP hD hS hA rfl rfl rfl rfl rfl hl.1 (Nat.le_of_ble_eq_true rfl) ⟨Nat.zero_le _, Nat.zero_le _⟩ dX7_isHeard_1 (fun H locs hP hD hS => ?_)
  have hP : va_P G vwCl (wX7 q cI cZ cO I z1 L) H := hP
  have hD : va_D Z (wX7 q cI cZ cO I z1 L) := hD
  refine lv_aload_n hx hb dX7_isHeard_4 rfl (lv_at hl 0 rfl) ?_
  refine va_get (D := G) (ci := 7) (v := .ref (q 6)) (C := RX7) (T := TX7) (N := 33) hx hb hts inlX7 hown hE.1 hP 0 rfl rfl 7 (by decide) (hts _ (bg 3 19 rfl)) (fun _ h9 => h9) rfl dX7_isHeard_5 ?_
  refine lv_bipush (v := 31) hx hb dX7_isHeard_8 (by decide) ?_
  refine lv_iload_n hx hb dX7_isHeard_10 rfl (lv_at hl 1 rfl) ?_
  refine lv_iadd hx hb dX7_isHeard_11 ?_
  refine lv_iload_n hx hb dX7_isHeard_12 rfl (lv_at hl 2 rfl) ?_
  obtain ⟨g2, hg2, hf⟩ := bnd hf
  refine x_iast hx hb hE.1 hP hD hS 6 0 rfl rfl hg2 dX7_isHeard_13 (fun H locs hP hD hS => ?_)
  have hP : va_P G vwCl (wX7 q cI cZ cO I (va_up z1 5 g2) L) H := hP
  have hD : va_D Z (wX7 q cI cZ cO I (va_up z1 5 g2) L) := hD
  refine lv_iconst (v := 1) hx hb dX7_isHeard_14 (by decide) ?_
  refine lv_istore_n (lv' := [(3, .int 1), (0, .ref (q 0)), (1, .int x1), (2, .int x2)]) hx hb dX7_isHeard_15 rfl hl (by decide) rfl (fun ls hl => ?_)
  refine lv_iconst (v := 0) hx hb dX7_isHeard_16 (by decide) ?_
  refine lv_istore (lv' := [(4, .int 0), (3, .int 1), (0, .ref (q 0)), (1, .int x1), (2, .int x2)]) hx hb dX7_isHeard_17 hl (by decide) rfl (fun ls hl => ?_)
  exact b_19 N (va_up z1 5 g2) x1 1 0 H locs hP hD hS ls (lv_sub hl [2, 3, 1, 0] rfl) hf
def fX7_where_125 (N : Nat) (I : Nat → Int32) (A : Nat → Nat → Int32) (y0 : Int32) : Option (Int32 × (Nat → Nat → Int32)) := some (y0, A)
def fX7_where_85 (N : Nat) (k_37 : (Nat → Int32) → (Nat → Nat → Int32) → Int32 → Int32 → Int32 → Int32 → Int32 → Int32 → Option (Int32 × (Nat → Nat → Int32))) (I : Nat → Int32) (A : Nat → Nat → Int32) (u1 : Int32) (u2 : Int32) (u3 : Int32) (u4 : Int32) (u5 : Int32) (u6 : Int32) : Option (Int32 × (Nat → Nat → Int32)) := k_37 I A u1 u2 u3 u4 u5 (u6 + 1)
def fX7_where_37s (N : Nat) (k_37 : (Nat → Int32) → (Nat → Nat → Int32) → Int32 → Int32 → Int32 → Int32 → Int32 → Int32 → Option (Int32 × (Nat → Nat → Int32))) (I : Nat → Int32) (A : Nat → Nat → Int32) (u1 : Int32) (u2 : Int32) (u3 : Int32) (u4 : Int32) (u5 : Int32) (u6 : Int32) : Option (Int32 × (Nat → Nat → Int32)) := if 63 < u6 then if u2 = 0 then fX7_where_125 N I A u3 else if u3 = 0 then fX7_where_125 N I A (-9) else if u2 = 1 then fX7_where_125 N I A u4 else fX7_where_125 N I A (63 &&& (u5 ^^^ (-1))) else (rd 62 (A 5) (5 + u1)).bind fun v5 => if (u6 &&& v5) = 0 then (fX7_isHeard N I A u1 u6).bind fun z7 => if z7.1 = 0 then fX7_where_85 N k_37 I z7.2 u1 u2 u3 u4 u5 u6 else fX7_where_85 N k_37 I z7.2 u1 u2 (u3 + 1) (u4 &&& u6) (u5 ||| u6) u6 else fX7_where_85 N k_37 I A u1 u2 u3 u4 u5 u6
def fX7_where_37 (N : Nat) : Nat → (Nat → Int32) → (Nat → Nat → Int32) → Int32 → Int32 → Int32 → Int32 → Int32 → Int32 → Option (Int32 × (Nat → Nat → Int32))
  | 0 => fun _ _ _ _ _ _ _ _ => none
  | n + 1 => fX7_where_37s N (fX7_where_37 N n)
def fX7_where (N : Nat) (I : Nat → Int32) (A : Nat → Nat → Int32) (x1 : Int32) (x2 : Int32) : Option (Int32 × (Nat → Nat → Int32)) := (fX7_isRumour N I x1).bind fun z1 => if z1 = 0 then some ((-1), A) else (fX7_in N (Int32.toInt64 x2) 0 2).bind fun z3 => if z3 = 0 then some ((-2), A) else fX7_where_37 N N I A x1 x2 0 63 0 0
def rmX7_where : Room := { frames := 3, cells := 0, slots := 0, locals := 75 }
theorem mb_X7_where : Cond.instanceMethod yX7_where ∈ wsL_law ∧ Cond.selects RX7 yX7_where yX7_where ∈ wsL_law ∧ Cond.initialized RX7 ∈ wsL_law ∧ Cond.code yX7_where cX7_where 7 (some .int) ∈ wsL_law := ⟨(bg 31 5 rfl), (bg 31 6 rfl), (bg 0 5 rfl), (bg 31 7 rfl)⟩
theorem hd_X7_where : yX7_where.cls = RX7 ∧ yX7_where.cls ≠ "java/lang/invoke/MethodHandle" ∧ yX7_where.cls ≠ "java/lang/invoke/VarHandle" ∧ (parseMethodDescriptor yX7_where.desc).map (fun d => d.parameters.length) = some 2 := by decide +kernel
set_option maxRecDepth 100000 in
set_option maxHeartbeats 4000000 in
theorem ct_X7_where (N : Nat) (l : Launch) (G : va_G) (cI cZ cO : ClassId) (q : Nat → Nat) (I : Nat → Int32) (A : Nat → Nat → Int32) (L : Int64) (x1 : Int32) (x2 : Int32) (r : Int32) (Az : Nat → Nat → Int32) (hf : fX7_where N I A x1 x2 = some (r, Az)) : CtI l yX7_where cX7_where 7 .int rmX7_where G cI cZ cO [.ref (q 0), .int x1, .int x2] (wX7 q cI cZ cO I A L) (wX7 q cI cZ cO I Az L) r := by
  refine mkCI (by decide) (Nat.le_of_ble_eq_true rfl) ?_
  intro p e s m below meth cd Q Z hC hP hE hD hA fin ls hl
  obtain ⟨hx, hb, hml, hown, hts⟩ := hC
  have hown : s.vm.findClass RX7 = some m.cls := hown
  have hl : lv_has ls 7 [(0, .ref (q 0)), (1, .int x1), (2, .int x2)] := hl
  have b_125 : ∀ (A : Nat → Nat → Int32) (y0 : Int32), ∀ (H : Heap) (locs : List Loc), va_P G vwCl (wX7 q cI cZ cO I A L) H → va_D Z (wX7 q cI cZ cO I A L) → va_S Z s.heap H locs → ∀ ls : Array Slot, lv_has ls 7 [] → fX7_where_125 N I A y0 = some (r, Az) → W p l e rmX7_where s m [.ref (q 0), .int x1, .int x2].toArray below meth cd H locs 0 0 Q (F0 m 125 ls [.int y0]) := by
    intro A y0 H locs hP hD hS ls hl hf
    unfold fX7_where_125 at hf
    have e9 := Option.some.inj hf
    exact fin H locs 125 ls _ (Prod.mk.inj e9).1 (nar_i _) (by rw [← (Prod.mk.inj e9).2]; exact hP) hS dX7_where_125
  have b_85 : ∀ (k_37 : (Nat → Int32) → (Nat → Nat → Int32) → Int32 → Int32 → Int32 → Int32 → Int32 → Int32 → Option (Int32 × (Nat → Nat → Int32))) (hk_37 : ∀ (A : Nat → Nat → Int32) (u1 : Int32) (u2 : Int32) (u3 : Int32) (u4 : Int32) (u5 : Int32) (u6 : Int32), ∀ (H : Heap) (locs : List Loc), va_P G vwCl (wX7 q cI cZ cO I A L) H → va_D Z (wX7 q cI cZ cO I A L) → va_S Z s.heap H locs → ∀ ls : Array Slot, lv_has ls 7 [(0, .ref (q 0)), (1, .int u1), (2, .int u2), (3, .int u3), (4, .int u4), (5, .int u5), (6, .int u6)] → k_37 I A u1 u2 u3 u4 u5 u6 = some (r, Az) → W p l e rmX7_where s m [.ref (q 0), .int x1, .int x2].toArray below meth cd H locs 0 0 Q (F0 m 37 ls [])), ∀ (A : Nat → Nat → Int32) (u1 : Int32) (u2 : Int32) (u3 : Int32) (u4 : Int32) (u5 : Int32) (u6 : Int32), ∀ (H : Heap) (locs : List Loc), va_P G vwCl (wX7 q cI cZ cO I A L) H → va_D Z (wX7 q cI cZ cO I A L) → va_S Z s.heap H locs → ∀ ls : Array Slot, lv_has ls 7 [(0, .ref (q 0)), (1, .int u1), (2, .int u2), (3, .int u3), (4, .int u4), (5, .int u5), (6, .int u6)] → fX7_where_85 N k_37 I A u1 u2 u3 u4 u5 u6 = some (r, Az) → W p l e rmX7_where s m [.ref (q 0), .int x1, .int x2].toArray below meth cd H locs 0 0 Q (F0 m 85 ls []) := by
    intro k_37 hk_37 A u1 u2 u3 u4 u5 u6 H locs hP hD hS ls hl hf
    unfold fX7_where_85 at hf
    refine lv_iinc (v := u6 + 1) (lv' := [(6, .int (u6 + 1)), (0, .ref (q 0)), (1, .int u1), (2, .int u2), (3, .int u3), (4, .int u4), (5, .int u5)]) hx hb dX7_where_85 hl (k := 6) rfl rfl (by decide) rfl (fun ls hl => ?_)
    refine lv_goto (tgt := 37) hx hb dX7_where_88 (by decide) ?_
    exact hk_37 A u1 u2 u3 u4 u5 (u6 + 1) H locs hP hD hS ls (lv_sub hl [1, 2, 3, 4, 5, 6, 0] rfl) hf
  have b_37 : ∀ n : Nat, ∀ (A : Nat → Nat → Int32) (u1 : Int32) (u2 : Int32) (u3 : Int32) (u4 : Int32) (u5 : Int32) (u6 : Int32), ∀ (H : Heap) (locs : List Loc), va_P G vwCl (wX7 q cI cZ cO I A L) H → va_D Z (wX7 q cI cZ cO I A L) → va_S Z s.heap H locs → ∀ ls : Array Slot, lv_has ls 7 [(0, .ref (q 0)), (1, .int u1), (2, .int u2), (3, .int u3), (4, .int u4), (5, .int u5), (6, .int u6)] → fX7_where_37 N n I A u1 u2 u3 u4 u5 u6 = some (r, Az) → W p l e rmX7_where s m [.ref (q 0), .int x1, .int x2].toArray below meth cd H locs 0 0 Q (F0 m 37 ls []) := by
    intro n
    induction n with
    | zero =>
      intro A u1 u2 u3 u4 u5 u6 H locs hP hD hS ls hl hf
      cases hf
    | succ n hk_37 =>
      intro A u1 u2 u3 u4 u5 u6 H locs hP hD hS ls hl hf
      replace hf : fX7_where_37s N (fX7_where_37 N n) I A u1 u2 u3 u4 u5 u6 = some (r, Az) := hf
      generalize fX7_where_37 N n = k_37 at hf hk_37
      unfold fX7_where_37s at hf
      refine lv_iload hx hb dX7_where_37 (lv_at hl 6 rfl) ?_
      refine lv_bipush (v := 63) hx hb dX7_where_39 (by decide) ?_
      refine lv_icmp_gt (tgt := 91) hx hb dX7_where_41 (by decide) (fun c1 => ?_) (fun c1 => ?_)
      · rw [if_pos c1] at hf
        refine lv_iload_n hx hb dX7_where_91 rfl (lv_at hl 2 rfl) ?_
        refine lv_if_ne (tgt := 99) hx hb dX7_where_92 (by decide) (fun c2 => ?_) (fun c2 => ?_)
        · rw [if_neg c2] at hf
          refine lv_iload_n hx hb dX7_where_99 rfl (lv_at hl 3 rfl) ?_
          refine lv_if_ne (tgt := 108) hx hb dX7_where_100 (by decide) (fun c3 => ?_) (fun c3 => ?_)
          · rw [if_neg c3] at hf
            refine lv_iload_n hx hb dX7_where_108 rfl (lv_at hl 2 rfl) ?_
            refine lv_iconst (v := 1) hx hb dX7_where_109 (by decide) ?_
            refine lv_icmp_ne (tgt := 118) hx hb dX7_where_110 (by decide) (fun c4 => ?_) (fun c4 => ?_)
            · rw [if_neg c4] at hf
              refine lv_bipush (v := 63) hx hb dX7_where_118 (by decide) ?_
              refine lv_iload hx hb dX7_where_120 (lv_at hl 5 rfl) ?_
              refine lv_iconst (v := (-1)) hx hb dX7_where_122 (by decide) ?_
              refine lv_ixor hx hb dX7_where_123 ?_
              refine lv_iand hx hb dX7_where_124 ?_
              exact b_125 A (63 &&& (u5 ^^^ (-1))) H locs hP hD hS ls (lv_sub hl [] rfl) hf
            · rw [if_pos c4] at hf
              refine lv_iload hx hb dX7_where_113 (lv_at hl 4 rfl) ?_
              refine lv_goto (tgt := 125) hx hb dX7_where_115 (by decide) ?_
              exact b_125 A u4 H locs hP hD hS ls (lv_sub hl [] rfl) hf
          · rw [if_pos c3] at hf
            refine lv_bipush (v := (-9)) hx hb dX7_where_103 (by decide) ?_
            refine lv_goto (tgt := 125) hx hb dX7_where_105 (by decide) ?_
            exact b_125 A (-9) H locs hP hD hS ls (lv_sub hl [] rfl) hf
        · rw [if_pos c2] at hf
          refine lv_iload_n hx hb dX7_where_95 rfl (lv_at hl 3 rfl) ?_
          refine lv_goto (tgt := 125) hx hb dX7_where_96 (by decide) ?_
          exact b_125 A u3 H locs hP hD hS ls (lv_sub hl [] rfl) hf
      · rw [if_neg c1] at hf
        refine lv_iload hx hb dX7_where_44 (lv_at hl 6 rfl) ?_
        refine lv_aload_n hx hb dX7_where_46 rfl (lv_at hl 0 rfl) ?_
        refine va_get (D := G) (ci := 7) (v := .ref (q 6)) (C := RX7) (T := TX7) (N := 33) hx hb hts inlX7 hown hE.1 hP 0 rfl rfl 7 (by decide) (hts _ (bg 3 19 rfl)) (fun _ h9 => h9) rfl dX7_where_47 ?_
        refine lv_iconst (v := 5) hx hb dX7_where_50 (by decide) ?_
        refine lv_iload_n hx hb dX7_where_51 rfl (lv_at hl 1 rfl) ?_
        refine lv_iadd hx hb dX7_where_52 ?_
        obtain ⟨v5, hv5, hf⟩ := bnd hf
        refine x_iald hx hb hE.1 hP 6 0 rfl rfl hv5 dX7_where_53 ?_
        refine lv_iand hx hb dX7_where_54 ?_
        refine lv_if_ne (tgt := 85) hx hb dX7_where_55 (by decide) (fun c6 => ?_) (fun c6 => ?_)
        · rw [if_neg c6] at hf
          exact b_85 k_37 hk_37 A u1 u2 u3 u4 u5 u6 H locs hP hD hS ls (lv_sub hl [0, 1, 2, 3, 4, 5, 6] rfl) hf
        · rw [if_pos c6] at hf
          refine lv_aload_n hx hb dX7_where_58 rfl (lv_at hl 0 rfl) ?_
          refine lv_iload_n hx hb dX7_where_59 rfl (lv_at hl 1 rfl) ?_
          refine lv_iload hx hb dX7_where_60 (lv_at hl 6 rfl) ?_
          obtain ⟨z7, hz7, hf⟩ := bnd hf
          refine x_wwV (C := RX7) (n := 2) (ci := 7) hx hb hml hown hts hE (ct_X7_isHeard N l G cI cZ cO q I A L u1 u6 z7.1 z7.2 hz7) (bg 31 9 rfl) mb_X7_isHeard.1 mb_X7_isHeard.2.1 mb_X7_isHeard.2.2.1 mb_X7_isHeard.2.2.2 hd_X7_isHeard rfl (by decide) hP hD hS hA rfl rfl rfl rfl rfl hl.1 (Nat.le_of_ble_eq_true rfl) ⟨Nat.zero_le _, Nat.zero_le _⟩ dX7_where_62 (fun H locs hP hD hS => ?_)
          have hP : va_P G vwCl (wX7 q cI cZ cO I z7.2 L) H := hP
          have hD : va_D Z (wX7 q cI cZ cO I z7.2 L) := hD
          refine lv_if_eq (tgt := 85) hx hb dX7_where_65 (by decide) (fun c8 => ?_) (fun c8 => ?_)
          · rw [if_pos c8] at hf
            exact b_85 k_37 hk_37 z7.2 u1 u2 u3 u4 u5 u6 H locs hP hD hS ls (lv_sub hl [0, 1, 2, 3, 4, 5, 6] rfl) hf
          · rw [if_neg c8] at hf
            refine lv_iinc (v := u3 + 1) (lv' := [(3, .int (u3 + 1)), (0, .ref (q 0)), (1, .int u1), (2, .int u2), (4, .int u4), (5, .int u5), (6, .int u6)]) hx hb dX7_where_68 hl (k := 3) rfl rfl (by decide) rfl (fun ls hl => ?_)
            refine lv_iload hx hb dX7_where_71 (lv_at hl 4 rfl) ?_
            refine lv_iload hx hb dX7_where_73 (lv_at hl 6 rfl) ?_
            refine lv_iand hx hb dX7_where_75 ?_
            refine lv_istore (lv' := [(4, .int (u4 &&& u6)), (3, .int (u3 + 1)), (0, .ref (q 0)), (1, .int u1), (2, .int u2), (5, .int u5), (6, .int u6)]) hx hb dX7_where_76 hl (by decide) rfl (fun ls hl => ?_)
            refine lv_iload hx hb dX7_where_78 (lv_at hl 5 rfl) ?_
            refine lv_iload hx hb dX7_where_80 (lv_at hl 6 rfl) ?_
            refine lv_ior hx hb dX7_where_82 ?_
            refine lv_istore (lv' := [(5, .int (u5 ||| u6)), (4, .int (u4 &&& u6)), (3, .int (u3 + 1)), (0, .ref (q 0)), (1, .int u1), (2, .int u2), (6, .int u6)]) hx hb dX7_where_83 hl (by decide) rfl (fun ls hl => ?_)
            exact b_85 k_37 hk_37 z7.2 u1 u2 (u3 + 1) (u4 &&& u6) (u5 ||| u6) u6 H locs hP hD hS ls (lv_sub hl [3, 4, 5, 2, 1, 0, 6] rfl) hf
  unfold fX7_where at hf
  have hS : va_S Z s.heap s.heap [] := va_S.rf
  obtain ⟨H, hH⟩ : ∃ H, H = s.heap := ⟨_, rfl⟩
  obtain ⟨locs, hlocs⟩ : ∃ locs : List Loc, locs = [] := ⟨_, rfl⟩
  rw [← hlocs]
  rw [← hlocs] at hS
  suffices hW : ∀ H : Heap, va_P G vwCl (wX7 q cI cZ cO I A L) H → va_S Z s.heap H locs → W p l e rmX7_where s m [.ref (q 0), .int x1, .int x2].toArray below meth cd H locs 0 0 Q (F0 m 0 ls []) from hW s.heap hP hS
  clear hP hS hH H
  intro H hP hS
  refine lv_aload_n hx hb dX7_where_0 rfl (lv_at hl 0 rfl) ?_
  refine lv_iload_n hx hb dX7_where_1 rfl (lv_at hl 1 rfl) ?_
  obtain ⟨z1, hz1, hf⟩ := bnd hf
  refine x_rdV (C := RX7) (n := 1) (ci := 7) hx hb hml hown hts hE (ct_X7_isRumour N l G cI cZ cO q I A L x1 z1 hz1) (bg 13 6 rfl) mb_X7_isRumour.1 mb_X7_isRumour.2.1 mb_X7_isRumour.2.2.1 mb_X7_isRumour.2.2.2 hd_X7_isRumour rfl (by decide) hP rfl rfl rfl rfl hl.1 (Nat.le_of_ble_eq_true rfl) ⟨Nat.zero_le _, Nat.zero_le _⟩ dX7_where_2 ?_
  refine lv_if_ne (tgt := 10) hx hb dX7_where_5 (by decide) (fun c2 => ?_) (fun c2 => ?_)
  · rw [if_neg c2] at hf
    refine lv_iload_n hx hb dX7_where_10 rfl (lv_at hl 2 rfl) ?_
    refine lv_i2l (v := Int32.toInt64 x2) hx hb dX7_where_11 rfl ?_
    refine lv_lconst (v := 0) hx hb dX7_where_12 (by decide) ?_
    refine lv_ldc2 hx hb hown (hts _ (bg 31 8 rfl)) dX7_where_13 ?_
    obtain ⟨z3, hz3, hf⟩ := bnd hf
    refine x_rdS (n := 3) hx hb hml hown hts hE (ct_X7_in N l G cI cZ cO (Int32.toInt64 x2) 0 2 z3 hz3) (bg 5 9 rfl) mb_X7_in.1 mb_X7_in.2.1 mb_X7_in.2.2 hd_X7_in rfl (by decide) va_P_nil rfl hl.1 (Nat.le_of_ble_eq_true rfl) ⟨Nat.zero_le _, Nat.zero_le _⟩ dX7_where_16 ?_
    refine lv_if_ne (tgt := 25) hx hb dX7_where_19 (by decide) (fun c4 => ?_) (fun c4 => ?_)
    · rw [if_neg c4] at hf
      refine lv_iconst (v := 0) hx hb dX7_where_25 (by decide) ?_
      refine lv_istore_n (lv' := [(3, .int 0), (0, .ref (q 0)), (1, .int x1), (2, .int x2)]) hx hb dX7_where_26 rfl hl (by decide) rfl (fun ls hl => ?_)
      refine lv_bipush (v := 63) hx hb dX7_where_27 (by decide) ?_
      refine lv_istore (lv' := [(4, .int 63), (3, .int 0), (0, .ref (q 0)), (1, .int x1), (2, .int x2)]) hx hb dX7_where_29 hl (by decide) rfl (fun ls hl => ?_)
      refine lv_iconst (v := 0) hx hb dX7_where_31 (by decide) ?_
      refine lv_istore (lv' := [(5, .int 0), (4, .int 63), (3, .int 0), (0, .ref (q 0)), (1, .int x1), (2, .int x2)]) hx hb dX7_where_32 hl (by decide) rfl (fun ls hl => ?_)
      refine lv_iconst (v := 0) hx hb dX7_where_34 (by decide) ?_
      refine lv_istore (lv' := [(6, .int 0), (5, .int 0), (4, .int 63), (3, .int 0), (0, .ref (q 0)), (1, .int x1), (2, .int x2)]) hx hb dX7_where_35 hl (by decide) rfl (fun ls hl => ?_)
      exact b_37 N A x1 x2 0 63 0 0 H locs hP hD hS ls (lv_sub hl [4, 5, 6, 3, 2, 1, 0] rfl) hf
    · rw [if_pos c4] at hf
      refine lv_bipush (v := (-2)) hx hb dX7_where_22 (by decide) ?_
      have e9 := Option.some.inj hf
      exact fin H locs 24 ls _ (Prod.mk.inj e9).1 (nar_i _) (by rw [← (Prod.mk.inj e9).2]; exact hP) hS dX7_where_24
  · rw [if_pos c2] at hf
    refine lv_iconst (v := (-1)) hx hb dX7_where_8 (by decide) ?_
    have e9 := Option.some.inj hf
    exact fin H locs 9 ls _ (Prod.mk.inj e9).1 (nar_i _) (by rw [← (Prod.mk.inj e9).2]; exact hP) hS dX7_where_9
def fX7_factorial_4s (N : Nat) (k_4 : Int32 → Int32 → Int32 → Option (Int32)) (u0 : Int32) (u1 : Int32) (u2 : Int32) : Option (Int32) := if u0 < u2 then some u1 else k_4 u0 (u1 * u2) (u2 + 1)
def fX7_factorial_4 (N : Nat) : Nat → Int32 → Int32 → Int32 → Option (Int32)
  | 0 => fun _ _ _ => none
  | n + 1 => fX7_factorial_4s N (fX7_factorial_4 N n)
def fX7_factorial (N : Nat) (x0 : Int32) : Option (Int32) := fX7_factorial_4 N N x0 1 2
def rmX7_factorial : Room := { frames := 0, cells := 0, slots := 0, locals := 0 }
theorem mb_X7_factorial : Cond.static yX7_factorial ∈ wsL_law ∧ Cond.initialized yX7_factorial.cls ∈ wsL_law ∧ Cond.code yX7_factorial cX7_factorial 3 (some .int) ∈ wsL_law := ⟨(bg 32 10 rfl), (bg 0 5 rfl), (bg 32 11 rfl)⟩
theorem hd_X7_factorial : yX7_factorial.cls ≠ "java/lang/invoke/MethodHandle" ∧ yX7_factorial.cls ≠ "java/lang/invoke/VarHandle" ∧ (parseMethodDescriptor yX7_factorial.desc).map (fun d => d.parameters.length) = some 1 := by decide +kernel
set_option maxRecDepth 100000 in
set_option maxHeartbeats 4000000 in
theorem ct_X7_factorial (N : Nat) (l : Launch) (G : va_G) (cI cZ cO : ClassId) (x0 : Int32) (r : Int32) (hf : fX7_factorial N x0 = some r) : RtI l yX7_factorial cX7_factorial 3 .int rmX7_factorial G cI cZ cO [.int x0] [] r := by
  refine mkRI (by decide) (Nat.le_of_ble_eq_true rfl) ?_
  intro p e s m below meth cd Q hC hP hE fin ls hl
  obtain ⟨hx, hb, hml, hown, hts⟩ := hC
  have hown : s.vm.findClass RX7 = some m.cls := hown
  have hl : lv_has ls 3 [(0, .int x0)] := hl
  have b_4 : ∀ n : Nat, ∀ (u0 : Int32) (u1 : Int32) (u2 : Int32), ∀ ls : Array Slot, lv_has ls 3 [(0, .int u0), (1, .int u1), (2, .int u2)] → fX7_factorial_4 N n u0 u1 u2 = some r → W p l e rmX7_factorial s m [.int x0].toArray below meth cd s.heap [] 0 0 Q (F0 m 4 ls []) := by
    intro n
    induction n with
    | zero =>
      intro u0 u1 u2 ls hl hf
      cases hf
    | succ n hk_4 =>
      intro u0 u1 u2 ls hl hf
      replace hf : fX7_factorial_4s N (fX7_factorial_4 N n) u0 u1 u2 = some r := hf
      generalize fX7_factorial_4 N n = k_4 at hf hk_4
      unfold fX7_factorial_4s at hf
      refine lv_iload_n hx hb dX7_factorial_4 rfl (lv_at hl 2 rfl) ?_
      refine lv_iload_n hx hb dX7_factorial_5 rfl (lv_at hl 0 rfl) ?_
      refine lv_icmp_gt (tgt := 19) hx hb dX7_factorial_6 (by decide) (fun c1 => ?_) (fun c1 => ?_)
      · rw [if_pos c1] at hf
        refine lv_iload_n hx hb dX7_factorial_19 rfl (lv_at hl 1 rfl) ?_
        have e9 := Option.some.inj hf
        exact fin 20 ls _ e9 (nar_i _) dX7_factorial_20
      · rw [if_neg c1] at hf
        refine lv_iload_n hx hb dX7_factorial_9 rfl (lv_at hl 1 rfl) ?_
        refine lv_iload_n hx hb dX7_factorial_10 rfl (lv_at hl 2 rfl) ?_
        refine lv_imul hx hb dX7_factorial_11 ?_
        refine lv_istore_n (lv' := [(1, .int (u1 * u2)), (0, .int u0), (2, .int u2)]) hx hb dX7_factorial_12 rfl hl (by decide) rfl (fun ls hl => ?_)
        refine lv_iinc (v := u2 + 1) (lv' := [(2, .int (u2 + 1)), (1, .int (u1 * u2)), (0, .int u0)]) hx hb dX7_factorial_13 hl (k := 2) rfl rfl (by decide) rfl (fun ls hl => ?_)
        refine lv_goto (tgt := 4) hx hb dX7_factorial_16 (by decide) ?_
        exact hk_4 u0 (u1 * u2) (u2 + 1) ls (lv_sub hl [2, 1, 0] rfl) hf
  unfold fX7_factorial at hf
  refine lv_iconst (v := 1) hx hb dX7_factorial_0 (by decide) ?_
  refine lv_istore_n (lv' := [(1, .int 1), (0, .int x0)]) hx hb dX7_factorial_1 rfl hl (by decide) rfl (fun ls hl => ?_)
  refine lv_iconst (v := 2) hx hb dX7_factorial_2 (by decide) ?_
  refine lv_istore_n (lv' := [(2, .int 2), (1, .int 1), (0, .int x0)]) hx hb dX7_factorial_3 rfl hl (by decide) rfl (fun ls hl => ?_)
  exact b_4 N x0 1 2 ls (lv_sub hl [2, 1, 0] rfl) hf
def fX7_worthBy (N : Nat) (I : Nat → Int32) (A : Nat → Nat → Int32) (x1 : Int32) (x2 : Int32) (x3 : Int32) : Option (Int32 × (Nat → Nat → Int32)) := (fX7_layTrial N A).bind fun z1 => (wr 62 (z1 5) (31 + x1) x2).bind fun g2 => (fX7_dawnTrial N I (va_up z1 5 g2) x3).bind fun z3 => (fX7_worthOf N z3 1 x1).bind fun z4 => some (z4, z3)
def rmX7_worthBy : Room := { frames := 3, cells := 0, slots := 0, locals := 71 }
theorem mb_X7_worthBy : Cond.instanceMethod yX7_worthBy ∈ wsL_law ∧ Cond.selects RX7 yX7_worthBy yX7_worthBy ∈ wsL_law ∧ Cond.initialized RX7 ∈ wsL_law ∧ Cond.code yX7_worthBy cX7_worthBy 4 (some .int) ∈ wsL_law := ⟨(bg 32 13 rfl), (bg 32 14 rfl), (bg 0 5 rfl), (bg 32 15 rfl)⟩
theorem hd_X7_worthBy : yX7_worthBy.cls = RX7 ∧ yX7_worthBy.cls ≠ "java/lang/invoke/MethodHandle" ∧ yX7_worthBy.cls ≠ "java/lang/invoke/VarHandle" ∧ (parseMethodDescriptor yX7_worthBy.desc).map (fun d => d.parameters.length) = some 3 := by decide +kernel
set_option maxRecDepth 100000 in
set_option maxHeartbeats 4000000 in
theorem ct_X7_worthBy (N : Nat) (l : Launch) (G : va_G) (cI cZ cO : ClassId) (q : Nat → Nat) (I : Nat → Int32) (A : Nat → Nat → Int32) (L : Int64) (x1 : Int32) (x2 : Int32) (x3 : Int32) (r : Int32) (Az : Nat → Nat → Int32) (hf : fX7_worthBy N I A x1 x2 x3 = some (r, Az)) : CtI l yX7_worthBy cX7_worthBy 4 .int rmX7_worthBy G cI cZ cO [.ref (q 0), .int x1, .int x2, .int x3] (wX7 q cI cZ cO I A L) (wX7 q cI cZ cO I Az L) r := by
  refine mkCI (by decide) (Nat.le_of_ble_eq_true rfl) ?_
  intro p e s m below meth cd Q Z hC hP hE hD hA fin ls hl
  obtain ⟨hx, hb, hml, hown, hts⟩ := hC
  have hown : s.vm.findClass RX7 = some m.cls := hown
  have hl : lv_has ls 4 [(0, .ref (q 0)), (1, .int x1), (2, .int x2), (3, .int x3)] := hl
  unfold fX7_worthBy at hf
  have hS : va_S Z s.heap s.heap [] := va_S.rf
  obtain ⟨H, hH⟩ : ∃ H, H = s.heap := ⟨_, rfl⟩
  obtain ⟨locs, hlocs⟩ : ∃ locs : List Loc, locs = [] := ⟨_, rfl⟩
  rw [← hlocs]
  rw [← hlocs] at hS
  suffices hW : ∀ H : Heap, va_P G vwCl (wX7 q cI cZ cO I A L) H → va_S Z s.heap H locs → W p l e rmX7_worthBy s m [.ref (q 0), .int x1, .int x2, .int x3].toArray below meth cd H locs 0 0 Q (F0 m 0 ls []) from hW s.heap hP hS
  clear hP hS hH H
  intro H hP hS
  refine lv_aload_n hx hb dX7_worthBy_0 rfl (lv_at hl 0 rfl) ?_
  obtain ⟨z1, hz1, hf⟩ := bnd hf
  refine x_wwVv (C := RX7) (n := 0) (ci := 7) hx hb hml hown hts hE (ct_X7_layTrial N l G cI cZ cO q I A L z1 hz1) (bg 23 2 rfl) mb_X7_layTrial.1 mb_X7_layTrial.2.1 mb_X7_layTrial.2.2.1 mb_X7_layTrial.2.2.2 hd_X7_layTrial rfl (by decide) hP hD hS hA rfl rfl rfl rfl rfl hl.1 (Nat.le_of_ble_eq_true rfl) ⟨Nat.zero_le _, Nat.zero_le _⟩ dX7_worthBy_1 (fun H locs hP hD hS => ?_)
  have hP : va_P G vwCl (wX7 q cI cZ cO I z1 L) H := hP
  have hD : va_D Z (wX7 q cI cZ cO I z1 L) := hD
  refine lv_aload_n hx hb dX7_worthBy_4 rfl (lv_at hl 0 rfl) ?_
  refine va_get (D := G) (ci := 7) (v := .ref (q 6)) (C := RX7) (T := TX7) (N := 33) hx hb hts inlX7 hown hE.1 hP 0 rfl rfl 7 (by decide) (hts _ (bg 3 19 rfl)) (fun _ h9 => h9) rfl dX7_worthBy_5 ?_
  refine lv_bipush (v := 31) hx hb dX7_worthBy_8 (by decide) ?_
  refine lv_iload_n hx hb dX7_worthBy_10 rfl (lv_at hl 1 rfl) ?_
  refine lv_iadd hx hb dX7_worthBy_11 ?_
  refine lv_iload_n hx hb dX7_worthBy_12 rfl (lv_at hl 2 rfl) ?_
  obtain ⟨g2, hg2, hf⟩ := bnd hf
  refine x_iast hx hb hE.1 hP hD hS 6 0 rfl rfl hg2 dX7_worthBy_13 (fun H locs hP hD hS => ?_)
  have hP : va_P G vwCl (wX7 q cI cZ cO I (va_up z1 5 g2) L) H := hP
  have hD : va_D Z (wX7 q cI cZ cO I (va_up z1 5 g2) L) := hD
  refine lv_aload_n hx hb dX7_worthBy_14 rfl (lv_at hl 0 rfl) ?_
  refine lv_iload_n hx hb dX7_worthBy_15 rfl (lv_at hl 3 rfl) ?_
  obtain ⟨z3, hz3, hf⟩ := bnd hf
  refine x_wwVv (C := RX7) (n := 1) (ci := 7) hx hb hml hown hts hE (ct_X7_dawnTrial N l G cI cZ cO q I (va_up z1 5 g2) L x3 z3 hz3) (bg 23 6 rfl) mb_X7_dawnTrial.1 mb_X7_dawnTrial.2.1 mb_X7_dawnTrial.2.2.1 mb_X7_dawnTrial.2.2.2 hd_X7_dawnTrial rfl (by decide) hP hD hS hA rfl rfl rfl rfl rfl hl.1 (Nat.le_of_ble_eq_true rfl) ⟨Nat.zero_le _, Nat.zero_le _⟩ dX7_worthBy_16 (fun H locs hP hD hS => ?_)
  have hP : va_P G vwCl (wX7 q cI cZ cO I z3 L) H := hP
  have hD : va_D Z (wX7 q cI cZ cO I z3 L) := hD
  refine lv_aload_n hx hb dX7_worthBy_19 rfl (lv_at hl 0 rfl) ?_
  refine lv_iconst (v := 1) hx hb dX7_worthBy_20 (by decide) ?_
  refine lv_iload_n hx hb dX7_worthBy_21 rfl (lv_at hl 1 rfl) ?_
  obtain ⟨z4, hz4, hf⟩ := bnd hf
  refine x_rdV (C := RX7) (n := 2) (ci := 7) hx hb hml hown hts hE (ct_X7_worthOf N l G cI cZ cO q I z3 L 1 x1 z4 hz4) (bg 21 15 rfl) mb_X7_worthOf.1 mb_X7_worthOf.2.1 mb_X7_worthOf.2.2.1 mb_X7_worthOf.2.2.2 hd_X7_worthOf rfl (by decide) hP rfl rfl rfl rfl hl.1 (Nat.le_of_ble_eq_true rfl) ⟨Nat.zero_le _, Nat.zero_le _⟩ dX7_worthBy_22 ?_
  have e9 := Option.some.inj hf
  exact fin H locs 25 ls _ (Prod.mk.inj e9).1 (nar_i _) (by rw [← (Prod.mk.inj e9).2]; exact hP) hS dX7_worthBy_25
def fX7_common_13s (N : Nat) (k_13 : Int32 → Int32 → Option (Int32)) (u2 : Int32) (u3 : Int32) : Option (Int32) := if u3 = 0 then some u2 else (nz u3).bind fun v2 => k_13 u3 (rem u2 v2)
def fX7_common_13 (N : Nat) : Nat → Int32 → Int32 → Option (Int32)
  | 0 => fun _ _ => none
  | n + 1 => fX7_common_13s N (fX7_common_13 N n)
def fX7_common_10 (N : Nat) (u1 : Int32) (y0 : Int32) : Option (Int32) := fX7_common_13 N N y0 u1
def fX7_common (N : Nat) (x0 : Int32) (x1 : Int32) : Option (Int32) := if 0 ≤ x0 then fX7_common_10 N x1 x0 else fX7_common_10 N x1 (neg x0)
def rmX7_common : Room := { frames := 0, cells := 0, slots := 0, locals := 0 }
theorem mb_X7_common : Cond.static yX7_common ∈ wsL_law ∧ Cond.initialized yX7_common.cls ∈ wsL_law ∧ Cond.code yX7_common cX7_common 5 (some .int) ∈ wsL_law := ⟨(bg 32 17 rfl), (bg 0 5 rfl), (bg 32 18 rfl)⟩
theorem hd_X7_common : yX7_common.cls ≠ "java/lang/invoke/MethodHandle" ∧ yX7_common.cls ≠ "java/lang/invoke/VarHandle" ∧ (parseMethodDescriptor yX7_common.desc).map (fun d => d.parameters.length) = some 2 := by decide +kernel
set_option maxRecDepth 100000 in
set_option maxHeartbeats 4000000 in
theorem ct_X7_common (N : Nat) (l : Launch) (G : va_G) (cI cZ cO : ClassId) (x0 : Int32) (x1 : Int32) (r : Int32) (hf : fX7_common N x0 x1 = some r) : RtI l yX7_common cX7_common 5 .int rmX7_common G cI cZ cO [.int x0, .int x1] [] r := by
  refine mkRI (by decide) (Nat.le_of_ble_eq_true rfl) ?_
  intro p e s m below meth cd Q hC hP hE fin ls hl
  obtain ⟨hx, hb, hml, hown, hts⟩ := hC
  have hown : s.vm.findClass RX7 = some m.cls := hown
  have hl : lv_has ls 5 [(0, .int x0), (1, .int x1)] := hl
  have b_13 : ∀ n : Nat, ∀ (u2 : Int32) (u3 : Int32), ∀ ls : Array Slot, lv_has ls 5 [(2, .int u2), (3, .int u3)] → fX7_common_13 N n u2 u3 = some r → W p l e rmX7_common s m [.int x0, .int x1].toArray below meth cd s.heap [] 0 0 Q (F0 m 13 ls []) := by
    intro n
    induction n with
    | zero =>
      intro u2 u3 ls hl hf
      cases hf
    | succ n hk_13 =>
      intro u2 u3 ls hl hf
      replace hf : fX7_common_13s N (fX7_common_13 N n) u2 u3 = some r := hf
      generalize fX7_common_13 N n = k_13 at hf hk_13
      unfold fX7_common_13s at hf
      refine lv_iload_n hx hb dX7_common_13 rfl (lv_at hl 1 rfl) ?_
      refine lv_if_eq (tgt := 30) hx hb dX7_common_14 (by decide) (fun c1 => ?_) (fun c1 => ?_)
      · rw [if_pos c1] at hf
        refine lv_iload_n hx hb dX7_common_30 rfl (lv_at hl 0 rfl) ?_
        have e9 := Option.some.inj hf
        exact fin 31 ls _ e9 (nar_i _) dX7_common_31
      · rw [if_neg c1] at hf
        refine lv_iload_n hx hb dX7_common_17 rfl (lv_at hl 0 rfl) ?_
        refine lv_iload_n hx hb dX7_common_18 rfl (lv_at hl 1 rfl) ?_
        obtain ⟨v2, hv2, hf⟩ := bnd hf
        obtain ⟨ev2, hv2⟩ := nz_in hv2
        rw [ev2]
        refine x_irem hx hb dX7_common_19 hv2 ?_
        refine lv_istore (lv' := [(4, .int (rem u2 v2)), (2, .int u2), (3, .int u3)]) hx hb dX7_common_20 hl (by decide) rfl (fun ls hl => ?_)
        refine lv_iload_n hx hb dX7_common_22 rfl (lv_at hl 2 rfl) ?_
        refine lv_istore_n (lv' := [(2, .int u3), (4, .int (rem u2 v2)), (3, .int u3)]) hx hb dX7_common_23 rfl hl (by decide) rfl (fun ls hl => ?_)
        refine lv_iload hx hb dX7_common_24 (lv_at hl 1 rfl) ?_
        refine lv_istore_n (lv' := [(3, .int (rem u2 v2)), (2, .int u3), (4, .int (rem u2 v2))]) hx hb dX7_common_26 rfl hl (by decide) rfl (fun ls hl => ?_)
        refine lv_goto (tgt := 13) hx hb dX7_common_27 (by decide) ?_
        exact hk_13 u3 (rem u2 v2) ls (lv_sub hl [1, 0] rfl) hf
  have b_10 : ∀ (u1 : Int32) (y0 : Int32), ∀ ls : Array Slot, lv_has ls 5 [(1, .int u1)] → fX7_common_10 N u1 y0 = some r → W p l e rmX7_common s m [.int x0, .int x1].toArray below meth cd s.heap [] 0 0 Q (F0 m 10 ls [.int y0]) := by
    intro u1 y0 ls hl hf
    unfold fX7_common_10 at hf
    refine lv_istore_n (lv' := [(2, .int y0), (1, .int u1)]) hx hb dX7_common_10 rfl hl (by decide) rfl (fun ls hl => ?_)
    refine lv_iload_n hx hb dX7_common_11 rfl (lv_at hl 1 rfl) ?_
    refine lv_istore_n (lv' := [(3, .int u1), (2, .int y0), (1, .int u1)]) hx hb dX7_common_12 rfl hl (by decide) rfl (fun ls hl => ?_)
    exact b_13 N y0 u1 ls (lv_sub hl [1, 0] rfl) hf
  unfold fX7_common at hf
  refine lv_iload_n hx hb dX7_common_0 rfl (lv_at hl 0 rfl) ?_
  refine lv_if_ge (tgt := 9) hx hb dX7_common_1 (by decide) (fun c1 => ?_) (fun c1 => ?_)
  · rw [if_pos c1] at hf
    refine lv_iload_n hx hb dX7_common_9 rfl (lv_at hl 0 rfl) ?_
    exact b_10 x1 x0 ls (lv_sub hl [1] rfl) hf
  · rw [if_neg c1] at hf
    refine lv_iload_n hx hb dX7_common_4 rfl (lv_at hl 0 rfl) ?_
    refine x_ineg hx hb dX7_common_5 ?_
    refine lv_goto (tgt := 10) hx hb dX7_common_6 (by decide) ?_
    exact b_10 x1 (neg x0) ls (lv_sub hl [1] rfl) hf
