def fX7_in_18 (N : Nat) (y0 : Int32) : Option (Int32) := (bz y0).bind fun v1 => some v1
def fX7_in_17 (N : Nat) : Option (Int32) := fX7_in_18 N 0
def fX7_in (N : Nat) (x0 : Int64) (x2 : Int64) (x4 : Int64) : Option (Int32) := if (lg_cmp x0 x2) < 0 then fX7_in_17 N else if 0 < (lg_cmp x0 x4) then fX7_in_17 N else fX7_in_18 N 1
def rmX7_in : Room := { frames := 0, cells := 0, slots := 0, locals := 0 }
theorem mb_X7_in : Cond.static yX7_in ∈ wsL_law ∧ Cond.initialized yX7_in.cls ∈ wsL_law ∧ Cond.code yX7_in cX7_in 6 (some .boolean) ∈ wsL_law := ⟨(bg 5 10 rfl), (bg 0 5 rfl), (bg 5 11 rfl)⟩
theorem hd_X7_in : yX7_in.cls ≠ "java/lang/invoke/MethodHandle" ∧ yX7_in.cls ≠ "java/lang/invoke/VarHandle" ∧ (parseMethodDescriptor yX7_in.desc).map (fun d => d.parameters.length) = some 3 := by decide +kernel
set_option maxRecDepth 100000 in
set_option maxHeartbeats 4000000 in
theorem ct_X7_in (N : Nat) (l : Launch) (G : va_G) (cI cZ cO : ClassId) (x0 : Int64) (x2 : Int64) (x4 : Int64) (r : Int32) (hf : fX7_in N x0 x2 x4 = some r) : RtI l yX7_in cX7_in 6 .boolean rmX7_in G cI cZ cO [.long x0, .long x2, .long x4] [] r := by
  refine mkRI (by decide) (Nat.le_of_ble_eq_true rfl) ?_
  intro p e s m below meth cd Q hC hP hE fin ls hl
  obtain ⟨hx, hb, hml, hown, hts⟩ := hC
  have hown : s.vm.findClass RX7 = some m.cls := hown
  have hl : lv_has ls 6 [(0, .long x0), (2, .long x2), (4, .long x4)] := hl
  have b_18 : ∀ (y0 : Int32), ∀ ls : Array Slot, lv_has ls 6 [] → fX7_in_18 N y0 = some r → W p l e rmX7_in s m [.long x0, .long x2, .long x4].toArray below meth cd s.heap [] 0 0 Q (F0 m 18 ls [.int y0]) := by
    intro y0 ls hl hf
    unfold fX7_in_18 at hf
    obtain ⟨v1, hv1, hf⟩ := bnd hf
    obtain ⟨ev1, hv1⟩ := bz_in hv1
    rw [ev1]
    have e9 := Option.some.inj hf
    exact fin 18 ls _ e9 (nar_z (by rw [← e9]; exact hv1)) dX7_in_18
  have b_17 : ∀ ls : Array Slot, lv_has ls 6 [] → fX7_in_17 N = some r → W p l e rmX7_in s m [.long x0, .long x2, .long x4].toArray below meth cd s.heap [] 0 0 Q (F0 m 17 ls []) := by
    intro ls hl hf
    unfold fX7_in_17 at hf
    refine lv_iconst (v := 0) hx hb dX7_in_17 (by decide) ?_
    exact b_18 0 ls (lv_sub hl [] rfl) hf
  unfold fX7_in at hf
  refine lv_lload_n hx hb dX7_in_0 rfl (lv_at hl 0 rfl) ?_
  refine lv_lload_n hx hb dX7_in_1 rfl (lv_at hl 1 rfl) ?_
  refine W.lcmp hx hb dX7_in_2 ?_
  refine lv_if_lt (tgt := 17) hx hb dX7_in_3 (by decide) (fun c1 => ?_) (fun c1 => ?_)
  · rw [if_pos c1] at hf
    exact b_17 ls (lv_sub hl [] rfl) hf
  · rw [if_neg c1] at hf
    refine lv_lload_n hx hb dX7_in_6 rfl (lv_at hl 0 rfl) ?_
    refine lv_lload hx hb dX7_in_7 (lv_at hl 2 rfl) ?_
    refine W.lcmp hx hb dX7_in_9 ?_
    refine lv_if_gt (tgt := 17) hx hb dX7_in_10 (by decide) (fun c2 => ?_) (fun c2 => ?_)
    · rw [if_pos c2] at hf
      exact b_17 ls (lv_sub hl [] rfl) hf
    · rw [if_neg c2] at hf
      refine lv_iconst (v := 1) hx hb dX7_in_13 (by decide) ?_
      refine lv_goto (tgt := 18) hx hb dX7_in_14 (by decide) ?_
      exact b_18 1 ls (lv_sub hl [] rfl) hf
def fX7_write (N : Nat) (I : Nat → Int32) (A : Nat → Nat → Int32) (x1 : Int32) : Option (Int32 × (Nat → Int32) × (Nat → Nat → Int32)) := (fX7_in N (Int32.toInt64 x1) 0 255).bind fun z1 => if z1 = 0 then some ((-2), I, A) else if (I 4) = 48 then some ((-4), I, A) else (wr 48 (A 12) (I 4) x1).bind fun g4 => some ((I 4) + 1, upd I 4 ((I 4) + 1), va_up A 12 g4)
def rmX7_write : Room := { frames := 1, cells := 0, slots := 0, locals := 25 }
theorem mb_X7_write : Cond.instanceMethod yX7_write ∈ wsL_law ∧ Cond.selects RX7 yX7_write yX7_write ∈ wsL_law ∧ Cond.initialized RX7 ∈ wsL_law ∧ Cond.code yX7_write cX7_write 2 (some .int) ∈ wsL_law := ⟨(bg 5 4 rfl), (bg 5 5 rfl), (bg 0 5 rfl), (bg 5 6 rfl)⟩
theorem hd_X7_write : yX7_write.cls = RX7 ∧ yX7_write.cls ≠ "java/lang/invoke/MethodHandle" ∧ yX7_write.cls ≠ "java/lang/invoke/VarHandle" ∧ (parseMethodDescriptor yX7_write.desc).map (fun d => d.parameters.length) = some 1 := by decide +kernel
set_option maxRecDepth 100000 in
set_option maxHeartbeats 4000000 in
theorem ct_X7_write (N : Nat) (l : Launch) (G : va_G) (cI cZ cO : ClassId) (q : Nat → Nat) (I : Nat → Int32) (A : Nat → Nat → Int32) (L : Int64) (x1 : Int32) (r : Int32) (Iz : Nat → Int32) (Az : Nat → Nat → Int32) (hf : fX7_write N I A x1 = some (r, Iz, Az)) : CtI l yX7_write cX7_write 2 .int rmX7_write G cI cZ cO [.ref (q 0), .int x1] (wX7 q cI cZ cO I A L) (wX7 q cI cZ cO Iz Az L) r := by
  refine mkCI (by decide) (Nat.le_of_ble_eq_true rfl) ?_
  intro p e s m below meth cd Q Z hC hP hE hD hA fin ls hl
  obtain ⟨hx, hb, hml, hown, hts⟩ := hC
  have hown : s.vm.findClass RX7 = some m.cls := hown
  have hl : lv_has ls 2 [(0, .ref (q 0)), (1, .int x1)] := hl
  unfold fX7_write at hf
  have hS : va_S Z s.heap s.heap [] := va_S.rf
  obtain ⟨H, hH⟩ : ∃ H, H = s.heap := ⟨_, rfl⟩
  obtain ⟨locs, hlocs⟩ : ∃ locs : List Loc, locs = [] := ⟨_, rfl⟩
  rw [← hlocs]
  rw [← hlocs] at hS
  suffices hW : ∀ H : Heap, va_P G vwCl (wX7 q cI cZ cO I A L) H → va_S Z s.heap H locs → W p l e rmX7_write s m [.ref (q 0), .int x1].toArray below meth cd H locs 0 0 Q (F0 m 0 ls []) from hW s.heap hP hS
  clear hP hS hH H
  intro H hP hS
  refine lv_iload_n hx hb dX7_write_0 rfl (lv_at hl 1 rfl) ?_
  refine lv_i2l (v := Int32.toInt64 x1) hx hb dX7_write_1 rfl ?_
  refine lv_lconst (v := 0) hx hb dX7_write_2 (by decide) ?_
  refine lv_ldc2 hx hb hown (hts _ (bg 5 7 rfl)) dX7_write_3 ?_
  obtain ⟨z1, hz1, hf⟩ := bnd hf
  refine x_rdS (n := 3) hx hb hml hown hts hE (ct_X7_in N l G cI cZ cO (Int32.toInt64 x1) 0 255 z1 hz1) (bg 5 9 rfl) mb_X7_in.1 mb_X7_in.2.1 mb_X7_in.2.2 hd_X7_in rfl (by decide) va_P_nil rfl hl.1 (Nat.le_of_ble_eq_true rfl) ⟨Nat.zero_le _, Nat.zero_le _⟩ dX7_write_6 ?_
  refine lv_if_ne (tgt := 15) hx hb dX7_write_9 (by decide) (fun c2 => ?_) (fun c2 => ?_)
  · rw [if_neg c2] at hf
    refine lv_aload_n hx hb dX7_write_15 rfl (lv_at hl 0 rfl) ?_
    refine va_get (D := G) (ci := 7) (v := .int ((I 4))) (C := RX7) (T := TX7) (N := 33) hx hb hts inlX7 hown hE.1 hP 0 rfl rfl 17 (by decide) (hts _ (bg 5 8 rfl)) (fun _ h9 => h9) rfl dX7_write_16 ?_
    refine lv_bipush (v := 48) hx hb dX7_write_19 (by decide) ?_
    refine lv_icmp_ne (tgt := 27) hx hb dX7_write_21 (by decide) (fun c3 => ?_) (fun c3 => ?_)
    · rw [if_neg c3] at hf
      refine lv_aload_n hx hb dX7_write_27 rfl (lv_at hl 0 rfl) ?_
      refine va_get (D := G) (ci := 7) (v := .ref (q 13)) (C := RX7) (T := TX7) (N := 33) hx hb hts inlX7 hown hE.1 hP 0 rfl rfl 16 (by decide) (hts _ (bg 4 2 rfl)) (fun _ h9 => h9) rfl dX7_write_28 ?_
      refine lv_aload_n hx hb dX7_write_31 rfl (lv_at hl 0 rfl) ?_
      refine va_get (D := G) (ci := 7) (v := .int ((I 4))) (C := RX7) (T := TX7) (N := 33) hx hb hts inlX7 hown hE.1 hP 0 rfl rfl 17 (by decide) (hts _ (bg 5 8 rfl)) (fun _ h9 => h9) rfl dX7_write_32 ?_
      refine lv_iload_n hx hb dX7_write_35 rfl (lv_at hl 1 rfl) ?_
      obtain ⟨g4, hg4, hf⟩ := bnd hf
      refine x_iast hx hb hE.1 hP hD hS 13 0 rfl rfl hg4 dX7_write_36 (fun H locs hP hD hS => ?_)
      have hP : va_P G vwCl (wX7 q cI cZ cO I (va_up A 12 g4) L) H := hP
      have hD : va_D Z (wX7 q cI cZ cO I (va_up A 12 g4) L) := hD
      refine lv_aload_n hx hb dX7_write_37 rfl (lv_at hl 0 rfl) ?_
      refine lv_dup hx hb dX7_write_38 rfl ?_
      refine va_get (D := G) (ci := 7) (v := .int ((I 4))) (C := RX7) (T := TX7) (N := 33) hx hb hts inlX7 hown hE.1 hP 0 rfl rfl 17 (by decide) (hts _ (bg 5 8 rfl)) (fun _ h9 => h9) rfl dX7_write_39 ?_
      refine lv_iconst (v := 1) hx hb dX7_write_42 (by decide) ?_
      refine lv_iadd hx hb dX7_write_43 ?_
      refine va_put (D := G) (ci := 7) (v := .int ((I 4) + 1)) (ty := .int) (C := RX7) (T := TX7) (N := 33) hx hb hts inlX7 tyX7 tyX7_ok nmX7 hown hE.1 hP hD hS 0 rfl rfl 17 (by decide) (hts _ (bg 5 8 rfl)) (fun _ h9 => h9) rfl (by decide +kernel) rfl rfl (Nat.le_of_ble_eq_true rfl) dX7_write_44 (fun H locs hP hD hS => ?_)
      have hP : va_P G vwCl (wX7 q cI cZ cO (upd I 4 ((I 4) + 1)) (va_up A 12 g4) L) H := hP
      have hD : va_D Z (wX7 q cI cZ cO (upd I 4 ((I 4) + 1)) (va_up A 12 g4) L) := hD
      refine lv_aload_n hx hb dX7_write_47 rfl (lv_at hl 0 rfl) ?_
      refine va_get (D := G) (ci := 7) (v := .int ((I 4) + 1)) (C := RX7) (T := TX7) (N := 33) hx hb hts inlX7 hown hE.1 hP 0 rfl rfl 17 (by decide) (hts _ (bg 5 8 rfl)) (fun _ h9 => h9) rfl dX7_write_48 ?_
      have e9 := Option.some.inj hf
      exact fin H locs 51 ls _ (Prod.mk.inj e9).1 (nar_i _) (by rw [← (Prod.mk.inj (Prod.mk.inj e9).2).1, ← (Prod.mk.inj (Prod.mk.inj e9).2).2]; exact hP) hS dX7_write_51
    · rw [if_pos c3] at hf
      refine lv_bipush (v := (-4)) hx hb dX7_write_24 (by decide) ?_
      have e9 := Option.some.inj hf
      exact fin H locs 26 ls _ (Prod.mk.inj e9).1 (nar_i _) (by rw [← (Prod.mk.inj (Prod.mk.inj e9).2).1, ← (Prod.mk.inj (Prod.mk.inj e9).2).2]; exact hP) hS dX7_write_26
  · rw [if_pos c2] at hf
    refine lv_bipush (v := (-2)) hx hb dX7_write_12 (by decide) ?_
    have e9 := Option.some.inj hf
    exact fin H locs 14 ls _ (Prod.mk.inj e9).1 (nar_i _) (by rw [← (Prod.mk.inj (Prod.mk.inj e9).2).1, ← (Prod.mk.inj (Prod.mk.inj e9).2).2]; exact hP) hS dX7_write_14
def fX7_wipe (N : Nat) (I : Nat → Int32) : Option (Int32 × (Nat → Int32)) := some ((I 4), upd I 4 0)
def rmX7_wipe : Room := { frames := 0, cells := 0, slots := 0, locals := 0 }
theorem mb_X7_wipe : Cond.instanceMethod yX7_wipe ∈ wsL_law ∧ Cond.selects RX7 yX7_wipe yX7_wipe ∈ wsL_law ∧ Cond.initialized RX7 ∈ wsL_law ∧ Cond.code yX7_wipe cX7_wipe 2 (some .int) ∈ wsL_law := ⟨(bg 5 18 rfl), (bg 5 19 rfl), (bg 0 5 rfl), (bg 5 20 rfl)⟩
theorem hd_X7_wipe : yX7_wipe.cls = RX7 ∧ yX7_wipe.cls ≠ "java/lang/invoke/MethodHandle" ∧ yX7_wipe.cls ≠ "java/lang/invoke/VarHandle" ∧ (parseMethodDescriptor yX7_wipe.desc).map (fun d => d.parameters.length) = some 0 := by decide +kernel
set_option maxRecDepth 100000 in
set_option maxHeartbeats 4000000 in
theorem ct_X7_wipe (N : Nat) (l : Launch) (G : va_G) (cI cZ cO : ClassId) (q : Nat → Nat) (I : Nat → Int32) (A : Nat → Nat → Int32) (L : Int64) (r : Int32) (Iz : Nat → Int32) (hf : fX7_wipe N I = some (r, Iz)) : CtI l yX7_wipe cX7_wipe 2 .int rmX7_wipe G cI cZ cO [.ref (q 0)] (wX7 q cI cZ cO I A L) (wX7 q cI cZ cO Iz A L) r := by
  refine mkCI (by decide) (Nat.le_of_ble_eq_true rfl) ?_
  intro p e s m below meth cd Q Z hC hP hE hD hA fin ls hl
  obtain ⟨hx, hb, hml, hown, hts⟩ := hC
  have hown : s.vm.findClass RX7 = some m.cls := hown
  have hl : lv_has ls 2 [(0, .ref (q 0))] := hl
  unfold fX7_wipe at hf
  have hS : va_S Z s.heap s.heap [] := va_S.rf
  obtain ⟨H, hH⟩ : ∃ H, H = s.heap := ⟨_, rfl⟩
  obtain ⟨locs, hlocs⟩ : ∃ locs : List Loc, locs = [] := ⟨_, rfl⟩
  rw [← hlocs]
  rw [← hlocs] at hS
  suffices hW : ∀ H : Heap, va_P G vwCl (wX7 q cI cZ cO I A L) H → va_S Z s.heap H locs → W p l e rmX7_wipe s m [.ref (q 0)].toArray below meth cd H locs 0 0 Q (F0 m 0 ls []) from hW s.heap hP hS
  clear hP hS hH H
  intro H hP hS
  refine lv_aload_n hx hb dX7_wipe_0 rfl (lv_at hl 0 rfl) ?_
  refine va_get (D := G) (ci := 7) (v := .int ((I 4))) (C := RX7) (T := TX7) (N := 33) hx hb hts inlX7 hown hE.1 hP 0 rfl rfl 17 (by decide) (hts _ (bg 5 8 rfl)) (fun _ h9 => h9) rfl dX7_wipe_1 ?_
  refine lv_istore_n (lv' := [(1, .int ((I 4))), (0, .ref (q 0))]) hx hb dX7_wipe_4 rfl hl (by decide) rfl (fun ls hl => ?_)
  refine lv_aload_n hx hb dX7_wipe_5 rfl (lv_at hl 1 rfl) ?_
  refine lv_iconst (v := 0) hx hb dX7_wipe_6 (by decide) ?_
  refine va_put (D := G) (ci := 7) (v := .int 0) (ty := .int) (C := RX7) (T := TX7) (N := 33) hx hb hts inlX7 tyX7 tyX7_ok nmX7 hown hE.1 hP hD hS 0 rfl rfl 17 (by decide) (hts _ (bg 5 8 rfl)) (fun _ h9 => h9) rfl (by decide +kernel) rfl rfl (Nat.le_of_ble_eq_true rfl) dX7_wipe_7 (fun H locs hP hD hS => ?_)
  have hP : va_P G vwCl (wX7 q cI cZ cO (upd I 4 0) A L) H := hP
  have hD : va_D Z (wX7 q cI cZ cO (upd I 4 0) A L) := hD
  refine lv_iload_n hx hb dX7_wipe_10 rfl (lv_at hl 0 rfl) ?_
  have e9 := Option.some.inj hf
  exact fin H locs 11 ls _ (Prod.mk.inj e9).1 (nar_i _) (by rw [← (Prod.mk.inj e9).2]; exact hP) hS dX7_wipe_11
def fX7_has_14 (N : Nat) (y0 : Int32) : Option (Int32) := (bz y0).bind fun v1 => some v1
def fX7_has (N : Nat) (x0 : Int32) (x1 : Int32) : Option (Int32) := if ((shr x0 x1) &&& 1) = 1 then fX7_has_14 N 1 else fX7_has_14 N 0
def rmX7_has : Room := { frames := 0, cells := 0, slots := 0, locals := 0 }
theorem mb_X7_has : Cond.static yX7_has ∈ wsL_law ∧ Cond.initialized yX7_has.cls ∈ wsL_law ∧ Cond.code yX7_has cX7_has 2 (some .boolean) ∈ wsL_law := ⟨(bg 10 13 rfl), (bg 0 5 rfl), (bg 10 14 rfl)⟩
theorem hd_X7_has : yX7_has.cls ≠ "java/lang/invoke/MethodHandle" ∧ yX7_has.cls ≠ "java/lang/invoke/VarHandle" ∧ (parseMethodDescriptor yX7_has.desc).map (fun d => d.parameters.length) = some 2 := by decide +kernel
set_option maxRecDepth 100000 in
set_option maxHeartbeats 4000000 in
theorem ct_X7_has (N : Nat) (l : Launch) (G : va_G) (cI cZ cO : ClassId) (x0 : Int32) (x1 : Int32) (r : Int32) (hf : fX7_has N x0 x1 = some r) : RtI l yX7_has cX7_has 2 .boolean rmX7_has G cI cZ cO [.int x0, .int x1] [] r := by
  refine mkRI (by decide) (Nat.le_of_ble_eq_true rfl) ?_
  intro p e s m below meth cd Q hC hP hE fin ls hl
  obtain ⟨hx, hb, hml, hown, hts⟩ := hC
  have hown : s.vm.findClass RX7 = some m.cls := hown
  have hl : lv_has ls 2 [(0, .int x0), (1, .int x1)] := hl
  have b_14 : ∀ (y0 : Int32), ∀ ls : Array Slot, lv_has ls 2 [] → fX7_has_14 N y0 = some r → W p l e rmX7_has s m [.int x0, .int x1].toArray below meth cd s.heap [] 0 0 Q (F0 m 14 ls [.int y0]) := by
    intro y0 ls hl hf
    unfold fX7_has_14 at hf
    obtain ⟨v1, hv1, hf⟩ := bnd hf
    obtain ⟨ev1, hv1⟩ := bz_in hv1
    rw [ev1]
    have e9 := Option.some.inj hf
    exact fin 14 ls _ e9 (nar_z (by rw [← e9]; exact hv1)) dX7_has_14
  unfold fX7_has at hf
  refine lv_iload_n hx hb dX7_has_0 rfl (lv_at hl 0 rfl) ?_
  refine lv_iload_n hx hb dX7_has_1 rfl (lv_at hl 1 rfl) ?_
  refine x_ishr hx hb dX7_has_2 ?_
  refine lv_iconst (v := 1) hx hb dX7_has_3 (by decide) ?_
  refine lv_iand hx hb dX7_has_4 ?_
  refine lv_iconst (v := 1) hx hb dX7_has_5 (by decide) ?_
  refine lv_icmp_ne (tgt := 13) hx hb dX7_has_6 (by decide) (fun c1 => ?_) (fun c1 => ?_)
  · rw [if_neg c1] at hf
    refine lv_iconst (v := 0) hx hb dX7_has_13 (by decide) ?_
    exact b_14 0 ls (lv_sub hl [] rfl) hf
  · rw [if_pos c1] at hf
    refine lv_iconst (v := 1) hx hb dX7_has_9 (by decide) ?_
    refine lv_goto (tgt := 14) hx hb dX7_has_10 (by decide) ?_
    exact b_14 1 ls (lv_sub hl [] rfl) hf
def fX7_figureOf_79 (N : Nat) (I : Nat → Int32) (A : Nat → Nat → Int32) (y1 : Int32) : Option (Int32 × (Nat → Int32)) := some (0, upd I 6 y1)
def fX7_figureOf_58 (N : Nat) (I : Nat → Int32) (A : Nat → Nat → Int32) : Option (Int32 × (Nat → Int32)) := if (I 6) = (-9) then fX7_figureOf_79 N I A (I 5) else fX7_figureOf_79 N I A (I 6)
def fX7_figureOf_37 (N : Nat) (I : Nat → Int32) (A : Nat → Nat → Int32) (u1 : Int32) (y0 : Int32) : Option (Int32 × (Nat → Int32)) := (fX7_in N (Int32.toInt64 y0) 0 9).bind fun z1 => if z1 = 0 then fX7_figureOf_58 N I A else (fX7_has N u1 y0).bind fun z3 => if z3 = 0 then fX7_figureOf_58 N I A else some (y0, upd I 5 ((I 5) + 1))
def fX7_figureOf_35 (N : Nat) (I : Nat → Int32) (A : Nat → Nat → Int32) (u1 : Int32) : Option (Int32 × (Nat → Int32)) := fX7_figureOf_37 N I A u1 (-9)
def fX7_figureOf (N : Nat) (I : Nat → Int32) (A : Nat → Nat → Int32) (x1 : Int32) : Option (Int32 × (Nat → Int32)) := if (I 6) = (-9) then if (I 4) ≤ (I 5) then fX7_figureOf_35 N I A x1 else (rd 48 (A 12) (I 5)).bind fun v3 => fX7_figureOf_37 N I A x1 (v3 - 48) else fX7_figureOf_35 N I A x1
def rmX7_figureOf : Room := { frames := 1, cells := 0, slots := 0, locals := 25 }
theorem mb_X7_figureOf : Cond.instanceMethod yX7_figureOf ∈ wsL_law ∧ Cond.selects RX7 yX7_figureOf yX7_figureOf ∈ wsL_law ∧ Cond.initialized RX7 ∈ wsL_law ∧ Cond.code yX7_figureOf cX7_figureOf 3 (some .int) ∈ wsL_law := ⟨(bg 10 8 rfl), (bg 10 9 rfl), (bg 0 5 rfl), (bg 10 10 rfl)⟩
theorem hd_X7_figureOf : yX7_figureOf.cls = RX7 ∧ yX7_figureOf.cls ≠ "java/lang/invoke/MethodHandle" ∧ yX7_figureOf.cls ≠ "java/lang/invoke/VarHandle" ∧ (parseMethodDescriptor yX7_figureOf.desc).map (fun d => d.parameters.length) = some 1 := by decide +kernel
set_option maxRecDepth 100000 in
set_option maxHeartbeats 4000000 in
theorem ct_X7_figureOf (N : Nat) (l : Launch) (G : va_G) (cI cZ cO : ClassId) (q : Nat → Nat) (I : Nat → Int32) (A : Nat → Nat → Int32) (L : Int64) (x1 : Int32) (r : Int32) (Iz : Nat → Int32) (hf : fX7_figureOf N I A x1 = some (r, Iz)) : CtI l yX7_figureOf cX7_figureOf 3 .int rmX7_figureOf G cI cZ cO [.ref (q 0), .int x1] (wX7 q cI cZ cO I A L) (wX7 q cI cZ cO Iz A L) r := by
  refine mkCI (by decide) (Nat.le_of_ble_eq_true rfl) ?_
  intro p e s m below meth cd Q Z hC hP hE hD hA fin ls hl
  obtain ⟨hx, hb, hml, hown, hts⟩ := hC
  have hown : s.vm.findClass RX7 = some m.cls := hown
  have hl : lv_has ls 3 [(0, .ref (q 0)), (1, .int x1)] := hl
  have b_79 : ∀ (I : Nat → Int32) (y1 : Int32), ∀ (H : Heap) (locs : List Loc), va_P G vwCl (wX7 q cI cZ cO I A L) H → va_D Z (wX7 q cI cZ cO I A L) → va_S Z s.heap H locs → ∀ ls : Array Slot, lv_has ls 3 [] → fX7_figureOf_79 N I A y1 = some (r, Iz) → W p l e rmX7_figureOf s m [.ref (q 0), .int x1].toArray below meth cd H locs 0 0 Q (F0 m 79 ls [.int y1, .ref (q 0)]) := by
    intro I y1 H locs hP hD hS ls hl hf
    unfold fX7_figureOf_79 at hf
    refine va_put (D := G) (ci := 7) (v := .int y1) (ty := .int) (C := RX7) (T := TX7) (N := 33) hx hb hts inlX7 tyX7 tyX7_ok nmX7 hown hE.1 hP hD hS 0 rfl rfl 19 (by decide) (hts _ (bg 10 0 rfl)) (fun _ h9 => h9) rfl (by decide +kernel) rfl rfl (Nat.le_of_ble_eq_true rfl) dX7_figureOf_79 (fun H locs hP hD hS => ?_)
    have hP : va_P G vwCl (wX7 q cI cZ cO (upd I 6 y1) A L) H := hP
    have hD : va_D Z (wX7 q cI cZ cO (upd I 6 y1) A L) := hD
    refine lv_iconst (v := 0) hx hb dX7_figureOf_82 (by decide) ?_
    have e9 := Option.some.inj hf
    exact fin H locs 83 ls _ (Prod.mk.inj e9).1 (nar_i _) (by rw [← (Prod.mk.inj e9).2]; exact hP) hS dX7_figureOf_83
  have b_58 : ∀ (I : Nat → Int32), ∀ (H : Heap) (locs : List Loc), va_P G vwCl (wX7 q cI cZ cO I A L) H → va_D Z (wX7 q cI cZ cO I A L) → va_S Z s.heap H locs → ∀ ls : Array Slot, lv_has ls 3 [(0, .ref (q 0))] → fX7_figureOf_58 N I A = some (r, Iz) → W p l e rmX7_figureOf s m [.ref (q 0), .int x1].toArray below meth cd H locs 0 0 Q (F0 m 58 ls []) := by
    intro I H locs hP hD hS ls hl hf
    unfold fX7_figureOf_58 at hf
    refine lv_aload_n hx hb dX7_figureOf_58 rfl (lv_at hl 0 rfl) ?_
    refine lv_aload_n hx hb dX7_figureOf_59 rfl (lv_at hl 0 rfl) ?_
    refine va_get (D := G) (ci := 7) (v := .int ((I 6))) (C := RX7) (T := TX7) (N := 33) hx hb hts inlX7 hown hE.1 hP 0 rfl rfl 19 (by decide) (hts _ (bg 10 0 rfl)) (fun _ h9 => h9) rfl dX7_figureOf_60 ?_
    refine lv_bipush (v := (-9)) hx hb dX7_figureOf_63 (by decide) ?_
    refine lv_icmp_ne (tgt := 75) hx hb dX7_figureOf_65 (by decide) (fun c1 => ?_) (fun c1 => ?_)
    · rw [if_neg c1] at hf
      refine lv_aload_n hx hb dX7_figureOf_75 rfl (lv_at hl 0 rfl) ?_
      refine va_get (D := G) (ci := 7) (v := .int ((I 6))) (C := RX7) (T := TX7) (N := 33) hx hb hts inlX7 hown hE.1 hP 0 rfl rfl 19 (by decide) (hts _ (bg 10 0 rfl)) (fun _ h9 => h9) rfl dX7_figureOf_76 ?_
      exact b_79 I (I 6) H locs hP hD hS ls (lv_sub hl [] rfl) hf
    · rw [if_pos c1] at hf
      refine lv_aload_n hx hb dX7_figureOf_68 rfl (lv_at hl 0 rfl) ?_
      refine va_get (D := G) (ci := 7) (v := .int ((I 5))) (C := RX7) (T := TX7) (N := 33) hx hb hts inlX7 hown hE.1 hP 0 rfl rfl 18 (by decide) (hts _ (bg 9 23 rfl)) (fun _ h9 => h9) rfl dX7_figureOf_69 ?_
      refine lv_goto (tgt := 79) hx hb dX7_figureOf_72 (by decide) ?_
      exact b_79 I (I 5) H locs hP hD hS ls (lv_sub hl [] rfl) hf
  have b_37 : ∀ (I : Nat → Int32) (u1 : Int32) (y0 : Int32), ∀ (H : Heap) (locs : List Loc), va_P G vwCl (wX7 q cI cZ cO I A L) H → va_D Z (wX7 q cI cZ cO I A L) → va_S Z s.heap H locs → ∀ ls : Array Slot, lv_has ls 3 [(0, .ref (q 0)), (1, .int u1)] → fX7_figureOf_37 N I A u1 y0 = some (r, Iz) → W p l e rmX7_figureOf s m [.ref (q 0), .int x1].toArray below meth cd H locs 0 0 Q (F0 m 37 ls [.int y0]) := by
    intro I u1 y0 H locs hP hD hS ls hl hf
    unfold fX7_figureOf_37 at hf
    refine lv_istore_n (lv' := [(2, .int y0), (0, .ref (q 0)), (1, .int u1)]) hx hb dX7_figureOf_37 rfl hl (by decide) rfl (fun ls hl => ?_)
    refine lv_iload_n hx hb dX7_figureOf_38 rfl (lv_at hl 0 rfl) ?_
    refine lv_i2l (v := Int32.toInt64 y0) hx hb dX7_figureOf_39 rfl ?_
    refine lv_lconst (v := 0) hx hb dX7_figureOf_40 (by decide) ?_
    refine lv_ldc2 hx hb hown (hts _ (bg 10 11 rfl)) dX7_figureOf_41 ?_
    obtain ⟨z1, hz1, hf⟩ := bnd hf
    refine x_rdS (n := 3) hx hb hml hown hts hE (ct_X7_in N l G cI cZ cO (Int32.toInt64 y0) 0 9 z1 hz1) (bg 5 9 rfl) mb_X7_in.1 mb_X7_in.2.1 mb_X7_in.2.2 hd_X7_in rfl (by decide) va_P_nil rfl hl.1 (Nat.le_of_ble_eq_true rfl) ⟨Nat.zero_le _, Nat.zero_le _⟩ dX7_figureOf_44 ?_
    refine lv_if_eq (tgt := 58) hx hb dX7_figureOf_47 (by decide) (fun c2 => ?_) (fun c2 => ?_)
    · rw [if_pos c2] at hf
      exact b_58 I H locs hP hD hS ls (lv_sub hl [1] rfl) hf
    · rw [if_neg c2] at hf
      refine lv_iload_n hx hb dX7_figureOf_50 rfl (lv_at hl 2 rfl) ?_
      refine lv_iload_n hx hb dX7_figureOf_51 rfl (lv_at hl 0 rfl) ?_
      obtain ⟨z3, hz3, hf⟩ := bnd hf
      refine x_rdS (n := 2) hx hb hml hown hts hE (ct_X7_has N l G cI cZ cO u1 y0 z3 hz3) (bg 10 12 rfl) mb_X7_has.1 mb_X7_has.2.1 mb_X7_has.2.2 hd_X7_has rfl (by decide) va_P_nil rfl hl.1 (Nat.le_of_ble_eq_true rfl) ⟨Nat.zero_le _, Nat.zero_le _⟩ dX7_figureOf_52 ?_
      refine lv_if_ne (tgt := 84) hx hb dX7_figureOf_55 (by decide) (fun c4 => ?_) (fun c4 => ?_)
      · rw [if_neg c4] at hf
        refine lv_aload_n hx hb dX7_figureOf_84 rfl (lv_at hl 1 rfl) ?_
        refine lv_dup hx hb dX7_figureOf_85 rfl ?_
        refine va_get (D := G) (ci := 7) (v := .int ((I 5))) (C := RX7) (T := TX7) (N := 33) hx hb hts inlX7 hown hE.1 hP 0 rfl rfl 18 (by decide) (hts _ (bg 9 23 rfl)) (fun _ h9 => h9) rfl dX7_figureOf_86 ?_
        refine lv_iconst (v := 1) hx hb dX7_figureOf_89 (by decide) ?_
        refine lv_iadd hx hb dX7_figureOf_90 ?_
        refine va_put (D := G) (ci := 7) (v := .int ((I 5) + 1)) (ty := .int) (C := RX7) (T := TX7) (N := 33) hx hb hts inlX7 tyX7 tyX7_ok nmX7 hown hE.1 hP hD hS 0 rfl rfl 18 (by decide) (hts _ (bg 9 23 rfl)) (fun _ h9 => h9) rfl (by decide +kernel) rfl rfl (Nat.le_of_ble_eq_true rfl) dX7_figureOf_91 (fun H locs hP hD hS => ?_)
        have hP : va_P G vwCl (wX7 q cI cZ cO (upd I 5 ((I 5) + 1)) A L) H := hP
        have hD : va_D Z (wX7 q cI cZ cO (upd I 5 ((I 5) + 1)) A L) := hD
        refine lv_iload_n hx hb dX7_figureOf_94 rfl (lv_at hl 0 rfl) ?_
        have e9 := Option.some.inj hf
        exact fin H locs 95 ls _ (Prod.mk.inj e9).1 (nar_i _) (by rw [← (Prod.mk.inj e9).2]; exact hP) hS dX7_figureOf_95
      · rw [if_pos c4] at hf
        exact b_58 I H locs hP hD hS ls (lv_sub hl [1] rfl) hf
  have b_35 : ∀ (I : Nat → Int32) (u1 : Int32), ∀ (H : Heap) (locs : List Loc), va_P G vwCl (wX7 q cI cZ cO I A L) H → va_D Z (wX7 q cI cZ cO I A L) → va_S Z s.heap H locs → ∀ ls : Array Slot, lv_has ls 3 [(0, .ref (q 0)), (1, .int u1)] → fX7_figureOf_35 N I A u1 = some (r, Iz) → W p l e rmX7_figureOf s m [.ref (q 0), .int x1].toArray below meth cd H locs 0 0 Q (F0 m 35 ls []) := by
    intro I u1 H locs hP hD hS ls hl hf
    unfold fX7_figureOf_35 at hf
    refine lv_bipush (v := (-9)) hx hb dX7_figureOf_35 (by decide) ?_
    exact b_37 I u1 (-9) H locs hP hD hS ls (lv_sub hl [0, 1] rfl) hf
  unfold fX7_figureOf at hf
  have hS : va_S Z s.heap s.heap [] := va_S.rf
  obtain ⟨H, hH⟩ : ∃ H, H = s.heap := ⟨_, rfl⟩
  obtain ⟨locs, hlocs⟩ : ∃ locs : List Loc, locs = [] := ⟨_, rfl⟩
  rw [← hlocs]
  rw [← hlocs] at hS
  suffices hW : ∀ H : Heap, va_P G vwCl (wX7 q cI cZ cO I A L) H → va_S Z s.heap H locs → W p l e rmX7_figureOf s m [.ref (q 0), .int x1].toArray below meth cd H locs 0 0 Q (F0 m 0 ls []) from hW s.heap hP hS
  clear hP hS hH H
  intro H hP hS
  refine lv_aload_n hx hb dX7_figureOf_0 rfl (lv_at hl 0 rfl) ?_
  refine va_get (D := G) (ci := 7) (v := .int ((I 6))) (C := RX7) (T := TX7) (N := 33) hx hb hts inlX7 hown hE.1 hP 0 rfl rfl 19 (by decide) (hts _ (bg 10 0 rfl)) (fun _ h9 => h9) rfl dX7_figureOf_1 ?_
  refine lv_bipush (v := (-9)) hx hb dX7_figureOf_4 (by decide) ?_
  refine lv_icmp_ne (tgt := 35) hx hb dX7_figureOf_6 (by decide) (fun c1 => ?_) (fun c1 => ?_)
  · rw [if_neg c1] at hf
    exact b_35 I x1 H locs hP hD hS ls (lv_sub hl [0, 1] rfl) hf
  · rw [if_pos c1] at hf
    refine lv_aload_n hx hb dX7_figureOf_9 rfl (lv_at hl 0 rfl) ?_
    refine va_get (D := G) (ci := 7) (v := .int ((I 5))) (C := RX7) (T := TX7) (N := 33) hx hb hts inlX7 hown hE.1 hP 0 rfl rfl 18 (by decide) (hts _ (bg 9 23 rfl)) (fun _ h9 => h9) rfl dX7_figureOf_10 ?_
    refine lv_aload_n hx hb dX7_figureOf_13 rfl (lv_at hl 0 rfl) ?_
    refine va_get (D := G) (ci := 7) (v := .int ((I 4))) (C := RX7) (T := TX7) (N := 33) hx hb hts inlX7 hown hE.1 hP 0 rfl rfl 17 (by decide) (hts _ (bg 5 8 rfl)) (fun _ h9 => h9) rfl dX7_figureOf_14 ?_
    refine lv_icmp_ge (tgt := 35) hx hb dX7_figureOf_17 (by decide) (fun c2 => ?_) (fun c2 => ?_)
    · rw [if_pos c2] at hf
      exact b_35 I x1 H locs hP hD hS ls (lv_sub hl [0, 1] rfl) hf
    · rw [if_neg c2] at hf
      refine lv_aload_n hx hb dX7_figureOf_20 rfl (lv_at hl 0 rfl) ?_
      refine va_get (D := G) (ci := 7) (v := .ref (q 13)) (C := RX7) (T := TX7) (N := 33) hx hb hts inlX7 hown hE.1 hP 0 rfl rfl 16 (by decide) (hts _ (bg 4 2 rfl)) (fun _ h9 => h9) rfl dX7_figureOf_21 ?_
      refine lv_aload_n hx hb dX7_figureOf_24 rfl (lv_at hl 0 rfl) ?_
      refine va_get (D := G) (ci := 7) (v := .int ((I 5))) (C := RX7) (T := TX7) (N := 33) hx hb hts inlX7 hown hE.1 hP 0 rfl rfl 18 (by decide) (hts _ (bg 9 23 rfl)) (fun _ h9 => h9) rfl dX7_figureOf_25 ?_
      obtain ⟨v3, hv3, hf⟩ := bnd hf
      refine x_iald hx hb hE.1 hP 13 0 rfl rfl hv3 dX7_figureOf_28 ?_
      refine lv_bipush (v := 48) hx hb dX7_figureOf_29 (by decide) ?_
      refine lv_isub hx hb dX7_figureOf_31 ?_
      refine lv_goto (tgt := 37) hx hb dX7_figureOf_32 (by decide) ?_
      exact b_37 I x1 (v3 - 48) H locs hP hD hS ls (lv_sub hl [0, 1] rfl) hf
def fX7_pairsLeft_35 (N : Nat) (k_6 : (Nat → Int32) → (Nat → Nat → Int32) → Int32 → Int32 → Int32 → Option (Int32)) (I : Nat → Int32) (A : Nat → Nat → Int32) (u1 : Int32) (u3 : Int32) (y0 : Int32) (y1 : Int32) : Option (Int32) := k_6 I A u1 (y0 ||| y1) (u3 + 1)
def fX7_pairsLeft_6s (N : Nat) (k_6 : (Nat → Int32) → (Nat → Nat → Int32) → Int32 → Int32 → Int32 → Option (Int32)) (I : Nat → Int32) (A : Nat → Nat → Int32) (u1 : Int32) (u2 : Int32) (u3 : Int32) : Option (Int32) := if (I 2) ≤ u3 then some u2 else (rd 5 (A 9) u1).bind fun v2 => (fX7_has N v2 u3).bind fun z3 => if z3 = 0 then fX7_pairsLeft_35 N k_6 I A u1 u3 u2 (shl 1 u3) else fX7_pairsLeft_35 N k_6 I A u1 u3 u2 0
def fX7_pairsLeft_6 (N : Nat) : Nat → (Nat → Int32) → (Nat → Nat → Int32) → Int32 → Int32 → Int32 → Option (Int32)
  | 0 => fun _ _ _ _ _ => none
  | n + 1 => fX7_pairsLeft_6s N (fX7_pairsLeft_6 N n)
def fX7_pairsLeft (N : Nat) (I : Nat → Int32) (A : Nat → Nat → Int32) (x1 : Int32) : Option (Int32) := fX7_pairsLeft_6 N N I A x1 0 (x1 + 1)
def rmX7_pairsLeft : Room := { frames := 1, cells := 0, slots := 0, locals := 21 }
theorem mb_X7_pairsLeft : Cond.instanceMethod yX7_pairsLeft ∈ wsL_law ∧ Cond.selects RX7 yX7_pairsLeft yX7_pairsLeft ∈ wsL_law ∧ Cond.initialized RX7 ∈ wsL_law ∧ Cond.code yX7_pairsLeft cX7_pairsLeft 4 (some .int) ∈ wsL_law := ⟨(bg 10 20 rfl), (bg 10 21 rfl), (bg 0 5 rfl), (bg 10 22 rfl)⟩
theorem hd_X7_pairsLeft : yX7_pairsLeft.cls = RX7 ∧ yX7_pairsLeft.cls ≠ "java/lang/invoke/MethodHandle" ∧ yX7_pairsLeft.cls ≠ "java/lang/invoke/VarHandle" ∧ (parseMethodDescriptor yX7_pairsLeft.desc).map (fun d => d.parameters.length) = some 1 := by decide +kernel
set_option maxRecDepth 100000 in
set_option maxHeartbeats 4000000 in
theorem ct_X7_pairsLeft (N : Nat) (l : Launch) (G : va_G) (cI cZ cO : ClassId) (q : Nat → Nat) (I : Nat → Int32) (A : Nat → Nat → Int32) (L : Int64) (x1 : Int32) (r : Int32) (hf : fX7_pairsLeft N I A x1 = some r) : RtI l yX7_pairsLeft cX7_pairsLeft 4 .int rmX7_pairsLeft G cI cZ cO [.ref (q 0), .int x1] (wX7 q cI cZ cO I A L) r := by
  refine mkRI (by decide) (Nat.le_of_ble_eq_true rfl) ?_
  intro p e s m below meth cd Q hC hP hE fin ls hl
  obtain ⟨hx, hb, hml, hown, hts⟩ := hC
  have hown : s.vm.findClass RX7 = some m.cls := hown
  have hl : lv_has ls 4 [(0, .ref (q 0)), (1, .int x1)] := hl
  have b_35 : ∀ (k_6 : (Nat → Int32) → (Nat → Nat → Int32) → Int32 → Int32 → Int32 → Option (Int32)) (hk_6 : ∀ (u1 : Int32) (u2 : Int32) (u3 : Int32), ∀ ls : Array Slot, lv_has ls 4 [(0, .ref (q 0)), (1, .int u1), (2, .int u2), (3, .int u3)] → k_6 I A u1 u2 u3 = some r → W p l e rmX7_pairsLeft s m [.ref (q 0), .int x1].toArray below meth cd s.heap [] 0 0 Q (F0 m 6 ls [])), ∀ (u1 : Int32) (u3 : Int32) (y0 : Int32) (y1 : Int32), ∀ ls : Array Slot, lv_has ls 4 [(0, .ref (q 0)), (1, .int u1), (3, .int u3)] → fX7_pairsLeft_35 N k_6 I A u1 u3 y0 y1 = some r → W p l e rmX7_pairsLeft s m [.ref (q 0), .int x1].toArray below meth cd s.heap [] 0 0 Q (F0 m 35 ls [.int y1, .int y0]) := by
    intro k_6 hk_6 u1 u3 y0 y1 ls hl hf
    unfold fX7_pairsLeft_35 at hf
    refine lv_ior hx hb dX7_pairsLeft_35 ?_
    refine lv_istore_n (lv' := [(2, .int (y0 ||| y1)), (0, .ref (q 0)), (1, .int u1), (3, .int u3)]) hx hb dX7_pairsLeft_36 rfl hl (by decide) rfl (fun ls hl => ?_)
    refine lv_iinc (v := u3 + 1) (lv' := [(3, .int (u3 + 1)), (2, .int (y0 ||| y1)), (0, .ref (q 0)), (1, .int u1)]) hx hb dX7_pairsLeft_37 hl (k := 3) rfl rfl (by decide) rfl (fun ls hl => ?_)
    refine lv_goto (tgt := 6) hx hb dX7_pairsLeft_40 (by decide) ?_
    exact hk_6 u1 (y0 ||| y1) (u3 + 1) ls (lv_sub hl [2, 3, 1, 0] rfl) hf
  have b_6 : ∀ n : Nat, ∀ (u1 : Int32) (u2 : Int32) (u3 : Int32), ∀ ls : Array Slot, lv_has ls 4 [(0, .ref (q 0)), (1, .int u1), (2, .int u2), (3, .int u3)] → fX7_pairsLeft_6 N n I A u1 u2 u3 = some r → W p l e rmX7_pairsLeft s m [.ref (q 0), .int x1].toArray below meth cd s.heap [] 0 0 Q (F0 m 6 ls []) := by
    intro n
    induction n with
    | zero =>
      intro u1 u2 u3 ls hl hf
      cases hf
    | succ n hk_6 =>
      intro u1 u2 u3 ls hl hf
      replace hf : fX7_pairsLeft_6s N (fX7_pairsLeft_6 N n) I A u1 u2 u3 = some r := hf
      generalize fX7_pairsLeft_6 N n = k_6 at hf hk_6
      unfold fX7_pairsLeft_6s at hf
      refine lv_iload_n hx hb dX7_pairsLeft_6 rfl (lv_at hl 3 rfl) ?_
      refine lv_aload_n hx hb dX7_pairsLeft_7 rfl (lv_at hl 0 rfl) ?_
      refine va_get (D := G) (ci := 7) (v := .int ((I 2))) (C := RX7) (T := TX7) (N := 33) hx hb hts inlX7 hown hE.1 hP 0 rfl rfl 14 (by decide) (hts _ (bg 10 1 rfl)) (fun _ h9 => h9) rfl dX7_pairsLeft_8 ?_
      refine lv_icmp_ge (tgt := 43) hx hb dX7_pairsLeft_11 (by decide) (fun c1 => ?_) (fun c1 => ?_)
      · rw [if_pos c1] at hf
        refine lv_iload_n hx hb dX7_pairsLeft_43 rfl (lv_at hl 2 rfl) ?_
        have e9 := Option.some.inj hf
        exact fin 44 ls _ e9 (nar_i _) dX7_pairsLeft_44
      · rw [if_neg c1] at hf
        refine lv_iload_n hx hb dX7_pairsLeft_14 rfl (lv_at hl 2 rfl) ?_
        refine lv_aload_n hx hb dX7_pairsLeft_15 rfl (lv_at hl 0 rfl) ?_
        refine va_get (D := G) (ci := 7) (v := .ref (q 10)) (C := RX7) (T := TX7) (N := 33) hx hb hts inlX7 hown hE.1 hP 0 rfl rfl 11 (by decide) (hts _ (bg 3 23 rfl)) (fun _ h9 => h9) rfl dX7_pairsLeft_16 ?_
        refine lv_iload_n hx hb dX7_pairsLeft_19 rfl (lv_at hl 1 rfl) ?_
        obtain ⟨v2, hv2, hf⟩ := bnd hf
        refine x_iald hx hb hE.1 hP 10 0 rfl rfl hv2 dX7_pairsLeft_20 ?_
        refine lv_iload_n hx hb dX7_pairsLeft_21 rfl (lv_at hl 3 rfl) ?_
        obtain ⟨z3, hz3, hf⟩ := bnd hf
        refine x_rdS (n := 2) hx hb hml hown hts hE (ct_X7_has N l G cI cZ cO v2 u3 z3 hz3) (bg 10 12 rfl) mb_X7_has.1 mb_X7_has.2.1 mb_X7_has.2.2 hd_X7_has rfl (by decide) va_P_nil rfl hl.1 (Nat.le_of_ble_eq_true rfl) ⟨Nat.zero_le _, Nat.zero_le _⟩ dX7_pairsLeft_22 ?_
        refine lv_if_eq (tgt := 32) hx hb dX7_pairsLeft_25 (by decide) (fun c4 => ?_) (fun c4 => ?_)
        · rw [if_pos c4] at hf
          refine lv_iconst (v := 1) hx hb dX7_pairsLeft_32 (by decide) ?_
          refine lv_iload_n hx hb dX7_pairsLeft_33 rfl (lv_at hl 3 rfl) ?_
          refine x_ishl hx hb dX7_pairsLeft_34 ?_
          exact b_35 k_6 hk_6 u1 u3 u2 (shl 1 u3) ls (lv_sub hl [0, 1, 3] rfl) hf
        · rw [if_neg c4] at hf
          refine lv_iconst (v := 0) hx hb dX7_pairsLeft_28 (by decide) ?_
          refine lv_goto (tgt := 35) hx hb dX7_pairsLeft_29 (by decide) ?_
          exact b_35 k_6 hk_6 u1 u3 u2 0 ls (lv_sub hl [0, 1, 3] rfl) hf
  unfold fX7_pairsLeft at hf
  refine lv_iconst (v := 0) hx hb dX7_pairsLeft_0 (by decide) ?_
  refine lv_istore_n (lv' := [(2, .int 0), (0, .ref (q 0)), (1, .int x1)]) hx hb dX7_pairsLeft_1 rfl hl (by decide) rfl (fun ls hl => ?_)
  refine lv_iload_n hx hb dX7_pairsLeft_2 rfl (lv_at hl 2 rfl) ?_
  refine lv_iconst (v := 1) hx hb dX7_pairsLeft_3 (by decide) ?_
  refine lv_iadd hx hb dX7_pairsLeft_4 ?_
  refine lv_istore_n (lv' := [(3, .int (x1 + 1)), (2, .int 0), (0, .ref (q 0)), (1, .int x1)]) hx hb dX7_pairsLeft_5 rfl hl (by decide) rfl (fun ls hl => ?_)
  exact b_6 N x1 0 (x1 + 1) ls (lv_sub hl [2, 3, 1, 0] rfl) hf
def fX7_firstsLeft_28 (N : Nat) (k_4 : (Nat → Int32) → (Nat → Nat → Int32) → Int32 → Int32 → Option (Int32)) (I : Nat → Int32) (A : Nat → Nat → Int32) (u2 : Int32) (y0 : Int32) (y1 : Int32) : Option (Int32) := k_4 I A (y0 ||| y1) (u2 + 1)
def fX7_firstsLeft_4s (N : Nat) (k_4 : (Nat → Int32) → (Nat → Nat → Int32) → Int32 → Int32 → Option (Int32)) (I : Nat → Int32) (A : Nat → Nat → Int32) (u1 : Int32) (u2 : Int32) : Option (Int32) := if (I 2) ≤ u2 then some u1 else (fX7_pairsLeft N I A u2).bind fun z2 => if z2 = 0 then fX7_firstsLeft_28 N k_4 I A u2 u1 0 else fX7_firstsLeft_28 N k_4 I A u2 u1 (shl 1 u2)
def fX7_firstsLeft_4 (N : Nat) : Nat → (Nat → Int32) → (Nat → Nat → Int32) → Int32 → Int32 → Option (Int32)
  | 0 => fun _ _ _ _ => none
  | n + 1 => fX7_firstsLeft_4s N (fX7_firstsLeft_4 N n)
def fX7_firstsLeft (N : Nat) (I : Nat → Int32) (A : Nat → Nat → Int32) : Option (Int32) := fX7_firstsLeft_4 N N I A 0 0
def rmX7_firstsLeft : Room := { frames := 2, cells := 0, slots := 0, locals := 44 }
theorem mb_X7_firstsLeft : Cond.instanceMethod yX7_firstsLeft ∈ wsL_law ∧ Cond.selects RX7 yX7_firstsLeft yX7_firstsLeft ∈ wsL_law ∧ Cond.initialized RX7 ∈ wsL_law ∧ Cond.code yX7_firstsLeft cX7_firstsLeft 3 (some .int) ∈ wsL_law := ⟨(bg 10 16 rfl), (bg 10 17 rfl), (bg 0 5 rfl), (bg 10 18 rfl)⟩
theorem hd_X7_firstsLeft : yX7_firstsLeft.cls = RX7 ∧ yX7_firstsLeft.cls ≠ "java/lang/invoke/MethodHandle" ∧ yX7_firstsLeft.cls ≠ "java/lang/invoke/VarHandle" ∧ (parseMethodDescriptor yX7_firstsLeft.desc).map (fun d => d.parameters.length) = some 0 := by decide +kernel
set_option maxRecDepth 100000 in
set_option maxHeartbeats 4000000 in
theorem ct_X7_firstsLeft (N : Nat) (l : Launch) (G : va_G) (cI cZ cO : ClassId) (q : Nat → Nat) (I : Nat → Int32) (A : Nat → Nat → Int32) (L : Int64) (r : Int32) (hf : fX7_firstsLeft N I A = some r) : RtI l yX7_firstsLeft cX7_firstsLeft 3 .int rmX7_firstsLeft G cI cZ cO [.ref (q 0)] (wX7 q cI cZ cO I A L) r := by
  refine mkRI (by decide) (Nat.le_of_ble_eq_true rfl) ?_
  intro p e s m below meth cd Q hC hP hE fin ls hl
  obtain ⟨hx, hb, hml, hown, hts⟩ := hC
  have hown : s.vm.findClass RX7 = some m.cls := hown
  have hl : lv_has ls 3 [(0, .ref (q 0))] := hl
  have b_28 : ∀ (k_4 : (Nat → Int32) → (Nat → Nat → Int32) → Int32 → Int32 → Option (Int32)) (hk_4 : ∀ (u1 : Int32) (u2 : Int32), ∀ ls : Array Slot, lv_has ls 3 [(0, .ref (q 0)), (1, .int u1), (2, .int u2)] → k_4 I A u1 u2 = some r → W p l e rmX7_firstsLeft s m [.ref (q 0)].toArray below meth cd s.heap [] 0 0 Q (F0 m 4 ls [])), ∀ (u2 : Int32) (y0 : Int32) (y1 : Int32), ∀ ls : Array Slot, lv_has ls 3 [(0, .ref (q 0)), (2, .int u2)] → fX7_firstsLeft_28 N k_4 I A u2 y0 y1 = some r → W p l e rmX7_firstsLeft s m [.ref (q 0)].toArray below meth cd s.heap [] 0 0 Q (F0 m 28 ls [.int y1, .int y0]) := by
    intro k_4 hk_4 u2 y0 y1 ls hl hf
    unfold fX7_firstsLeft_28 at hf
    refine lv_ior hx hb dX7_firstsLeft_28 ?_
    refine lv_istore_n (lv' := [(1, .int (y0 ||| y1)), (0, .ref (q 0)), (2, .int u2)]) hx hb dX7_firstsLeft_29 rfl hl (by decide) rfl (fun ls hl => ?_)
    refine lv_iinc (v := u2 + 1) (lv' := [(2, .int (u2 + 1)), (1, .int (y0 ||| y1)), (0, .ref (q 0))]) hx hb dX7_firstsLeft_30 hl (k := 2) rfl rfl (by decide) rfl (fun ls hl => ?_)
    refine lv_goto (tgt := 4) hx hb dX7_firstsLeft_33 (by decide) ?_
    exact hk_4 (y0 ||| y1) (u2 + 1) ls (lv_sub hl [2, 1, 0] rfl) hf
  have b_4 : ∀ n : Nat, ∀ (u1 : Int32) (u2 : Int32), ∀ ls : Array Slot, lv_has ls 3 [(0, .ref (q 0)), (1, .int u1), (2, .int u2)] → fX7_firstsLeft_4 N n I A u1 u2 = some r → W p l e rmX7_firstsLeft s m [.ref (q 0)].toArray below meth cd s.heap [] 0 0 Q (F0 m 4 ls []) := by
    intro n
    induction n with
    | zero =>
      intro u1 u2 ls hl hf
      cases hf
    | succ n hk_4 =>
      intro u1 u2 ls hl hf
      replace hf : fX7_firstsLeft_4s N (fX7_firstsLeft_4 N n) I A u1 u2 = some r := hf
      generalize fX7_firstsLeft_4 N n = k_4 at hf hk_4
      unfold fX7_firstsLeft_4s at hf
      refine lv_iload_n hx hb dX7_firstsLeft_4 rfl (lv_at hl 2 rfl) ?_
      refine lv_aload_n hx hb dX7_firstsLeft_5 rfl (lv_at hl 0 rfl) ?_
      refine va_get (D := G) (ci := 7) (v := .int ((I 2))) (C := RX7) (T := TX7) (N := 33) hx hb hts inlX7 hown hE.1 hP 0 rfl rfl 14 (by decide) (hts _ (bg 10 1 rfl)) (fun _ h9 => h9) rfl dX7_firstsLeft_6 ?_
      refine lv_icmp_ge (tgt := 36) hx hb dX7_firstsLeft_9 (by decide) (fun c1 => ?_) (fun c1 => ?_)
      · rw [if_pos c1] at hf
        refine lv_iload_n hx hb dX7_firstsLeft_36 rfl (lv_at hl 1 rfl) ?_
        have e9 := Option.some.inj hf
        exact fin 37 ls _ e9 (nar_i _) dX7_firstsLeft_37
      · rw [if_neg c1] at hf
        refine lv_iload_n hx hb dX7_firstsLeft_12 rfl (lv_at hl 1 rfl) ?_
        refine lv_aload_n hx hb dX7_firstsLeft_13 rfl (lv_at hl 0 rfl) ?_
        refine lv_iload_n hx hb dX7_firstsLeft_14 rfl (lv_at hl 2 rfl) ?_
        obtain ⟨z2, hz2, hf⟩ := bnd hf
        refine x_rdV (C := RX7) (n := 1) (ci := 7) hx hb hml hown hts hE (ct_X7_pairsLeft N l G cI cZ cO q I A L u2 z2 hz2) (bg 10 19 rfl) mb_X7_pairsLeft.1 mb_X7_pairsLeft.2.1 mb_X7_pairsLeft.2.2.1 mb_X7_pairsLeft.2.2.2 hd_X7_pairsLeft rfl (by decide) hP rfl rfl rfl rfl hl.1 (Nat.le_of_ble_eq_true rfl) ⟨Nat.zero_le _, Nat.zero_le _⟩ dX7_firstsLeft_15 ?_
        refine lv_if_eq (tgt := 27) hx hb dX7_firstsLeft_18 (by decide) (fun c3 => ?_) (fun c3 => ?_)
        · rw [if_pos c3] at hf
          refine lv_iconst (v := 0) hx hb dX7_firstsLeft_27 (by decide) ?_
          exact b_28 k_4 hk_4 u2 u1 0 ls (lv_sub hl [0, 2] rfl) hf
        · rw [if_neg c3] at hf
          refine lv_iconst (v := 1) hx hb dX7_firstsLeft_21 (by decide) ?_
          refine lv_iload_n hx hb dX7_firstsLeft_22 rfl (lv_at hl 2 rfl) ?_
          refine x_ishl hx hb dX7_firstsLeft_23 ?_
          refine lv_goto (tgt := 28) hx hb dX7_firstsLeft_24 (by decide) ?_
          exact b_28 k_4 hk_4 u2 u1 (shl 1 u2) ls (lv_sub hl [0, 2] rfl) hf
  unfold fX7_firstsLeft at hf
  refine lv_iconst (v := 0) hx hb dX7_firstsLeft_0 (by decide) ?_
  refine lv_istore_n (lv' := [(1, .int 0), (0, .ref (q 0))]) hx hb dX7_firstsLeft_1 rfl hl (by decide) rfl (fun ls hl => ?_)
  refine lv_iconst (v := 0) hx hb dX7_firstsLeft_2 (by decide) ?_
  refine lv_istore_n (lv' := [(2, .int 0), (1, .int 0), (0, .ref (q 0))]) hx hb dX7_firstsLeft_3 rfl hl (by decide) rfl (fun ls hl => ?_)
  exact b_4 N 0 0 ls (lv_sub hl [2, 1, 0] rfl) hf
def fX7_saidLeft_31 (N : Nat) (k_4 : (Nat → Int32) → (Nat → Nat → Int32) → Int32 → Int32 → Option (Int32)) (I : Nat → Int32) (A : Nat → Nat → Int32) (u2 : Int32) (y0 : Int32) (y1 : Int32) : Option (Int32) := k_4 I A (y0 ||| y1) (u2 + 1)
def fX7_saidLeft_4s (N : Nat) (k_4 : (Nat → Int32) → (Nat → Nat → Int32) → Int32 → Int32 → Option (Int32)) (I : Nat → Int32) (A : Nat → Nat → Int32) (u1 : Int32) (u2 : Int32) : Option (Int32) := if (I 2) ≤ u2 then some u1 else (rd 5 (A 10) u2).bind fun v2 => if v2 = 63 then fX7_saidLeft_31 N k_4 I A u2 u1 0 else fX7_saidLeft_31 N k_4 I A u2 u1 (shl 1 u2)
def fX7_saidLeft_4 (N : Nat) : Nat → (Nat → Int32) → (Nat → Nat → Int32) → Int32 → Int32 → Option (Int32)
  | 0 => fun _ _ _ _ => none
  | n + 1 => fX7_saidLeft_4s N (fX7_saidLeft_4 N n)
def fX7_saidLeft (N : Nat) (I : Nat → Int32) (A : Nat → Nat → Int32) : Option (Int32) := fX7_saidLeft_4 N N I A 0 0
def rmX7_saidLeft : Room := { frames := 0, cells := 0, slots := 0, locals := 0 }
theorem mb_X7_saidLeft : Cond.instanceMethod yX7_saidLeft ∈ wsL_law ∧ Cond.selects RX7 yX7_saidLeft yX7_saidLeft ∈ wsL_law ∧ Cond.initialized RX7 ∈ wsL_law ∧ Cond.code yX7_saidLeft cX7_saidLeft 3 (some .int) ∈ wsL_law := ⟨(bg 11 0 rfl), (bg 11 1 rfl), (bg 0 5 rfl), (bg 11 2 rfl)⟩
theorem hd_X7_saidLeft : yX7_saidLeft.cls = RX7 ∧ yX7_saidLeft.cls ≠ "java/lang/invoke/MethodHandle" ∧ yX7_saidLeft.cls ≠ "java/lang/invoke/VarHandle" ∧ (parseMethodDescriptor yX7_saidLeft.desc).map (fun d => d.parameters.length) = some 0 := by decide +kernel
set_option maxRecDepth 100000 in
set_option maxHeartbeats 4000000 in
theorem ct_X7_saidLeft (N : Nat) (l : Launch) (G : va_G) (cI cZ cO : ClassId) (q : Nat → Nat) (I : Nat → Int32) (A : Nat → Nat → Int32) (L : Int64) (r : Int32) (hf : fX7_saidLeft N I A = some r) : RtI l yX7_saidLeft cX7_saidLeft 3 .int rmX7_saidLeft G cI cZ cO [.ref (q 0)] (wX7 q cI cZ cO I A L) r := by
  refine mkRI (by decide) (Nat.le_of_ble_eq_true rfl) ?_
  intro p e s m below meth cd Q hC hP hE fin ls hl
  obtain ⟨hx, hb, hml, hown, hts⟩ := hC
  have hown : s.vm.findClass RX7 = some m.cls := hown
  have hl : lv_has ls 3 [(0, .ref (q 0))] := hl
  have b_31 : ∀ (k_4 : (Nat → Int32) → (Nat → Nat → Int32) → Int32 → Int32 → Option (Int32)) (hk_4 : ∀ (u1 : Int32) (u2 : Int32), ∀ ls : Array Slot, lv_has ls 3 [(0, .ref (q 0)), (1, .int u1), (2, .int u2)] → k_4 I A u1 u2 = some r → W p l e rmX7_saidLeft s m [.ref (q 0)].toArray below meth cd s.heap [] 0 0 Q (F0 m 4 ls [])), ∀ (u2 : Int32) (y0 : Int32) (y1 : Int32), ∀ ls : Array Slot, lv_has ls 3 [(0, .ref (q 0)), (2, .int u2)] → fX7_saidLeft_31 N k_4 I A u2 y0 y1 = some r → W p l e rmX7_saidLeft s m [.ref (q 0)].toArray below meth cd s.heap [] 0 0 Q (F0 m 31 ls [.int y1, .int y0]) := by
    intro k_4 hk_4 u2 y0 y1 ls hl hf
    unfold fX7_saidLeft_31 at hf
    refine lv_ior hx hb dX7_saidLeft_31 ?_
    refine lv_istore_n (lv' := [(1, .int (y0 ||| y1)), (0, .ref (q 0)), (2, .int u2)]) hx hb dX7_saidLeft_32 rfl hl (by decide) rfl (fun ls hl => ?_)
    refine lv_iinc (v := u2 + 1) (lv' := [(2, .int (u2 + 1)), (1, .int (y0 ||| y1)), (0, .ref (q 0))]) hx hb dX7_saidLeft_33 hl (k := 2) rfl rfl (by decide) rfl (fun ls hl => ?_)
    refine lv_goto (tgt := 4) hx hb dX7_saidLeft_36 (by decide) ?_
    exact hk_4 (y0 ||| y1) (u2 + 1) ls (lv_sub hl [2, 1, 0] rfl) hf
  have b_4 : ∀ n : Nat, ∀ (u1 : Int32) (u2 : Int32), ∀ ls : Array Slot, lv_has ls 3 [(0, .ref (q 0)), (1, .int u1), (2, .int u2)] → fX7_saidLeft_4 N n I A u1 u2 = some r → W p l e rmX7_saidLeft s m [.ref (q 0)].toArray below meth cd s.heap [] 0 0 Q (F0 m 4 ls []) := by
    intro n
    induction n with
    | zero =>
      intro u1 u2 ls hl hf
      cases hf
    | succ n hk_4 =>
      intro u1 u2 ls hl hf
      replace hf : fX7_saidLeft_4s N (fX7_saidLeft_4 N n) I A u1 u2 = some r := hf
      generalize fX7_saidLeft_4 N n = k_4 at hf hk_4
      unfold fX7_saidLeft_4s at hf
      refine lv_iload_n hx hb dX7_saidLeft_4 rfl (lv_at hl 2 rfl) ?_
      refine lv_aload_n hx hb dX7_saidLeft_5 rfl (lv_at hl 0 rfl) ?_
      refine va_get (D := G) (ci := 7) (v := .int ((I 2))) (C := RX7) (T := TX7) (N := 33) hx hb hts inlX7 hown hE.1 hP 0 rfl rfl 14 (by decide) (hts _ (bg 10 1 rfl)) (fun _ h9 => h9) rfl dX7_saidLeft_6 ?_
      refine lv_icmp_ge (tgt := 39) hx hb dX7_saidLeft_9 (by decide) (fun c1 => ?_) (fun c1 => ?_)
      · rw [if_pos c1] at hf
        refine lv_iload_n hx hb dX7_saidLeft_39 rfl (lv_at hl 1 rfl) ?_
        have e9 := Option.some.inj hf
        exact fin 40 ls _ e9 (nar_i _) dX7_saidLeft_40
      · rw [if_neg c1] at hf
        refine lv_iload_n hx hb dX7_saidLeft_12 rfl (lv_at hl 1 rfl) ?_
        refine lv_aload_n hx hb dX7_saidLeft_13 rfl (lv_at hl 0 rfl) ?_
        refine va_get (D := G) (ci := 7) (v := .ref (q 11)) (C := RX7) (T := TX7) (N := 33) hx hb hts inlX7 hown hE.1 hP 0 rfl rfl 12 (by decide) (hts _ (bg 4 0 rfl)) (fun _ h9 => h9) rfl dX7_saidLeft_14 ?_
        refine lv_iload_n hx hb dX7_saidLeft_17 rfl (lv_at hl 2 rfl) ?_
        obtain ⟨v2, hv2, hf⟩ := bnd hf
        refine x_iald hx hb hE.1 hP 11 0 rfl rfl hv2 dX7_saidLeft_18 ?_
        refine lv_bipush (v := 63) hx hb dX7_saidLeft_19 (by decide) ?_
        refine lv_icmp_eq (tgt := 30) hx hb dX7_saidLeft_21 (by decide) (fun c3 => ?_) (fun c3 => ?_)
        · rw [if_pos c3] at hf
          refine lv_iconst (v := 0) hx hb dX7_saidLeft_30 (by decide) ?_
          exact b_31 k_4 hk_4 u2 u1 0 ls (lv_sub hl [0, 2] rfl) hf
        · rw [if_neg c3] at hf
          refine lv_iconst (v := 1) hx hb dX7_saidLeft_24 (by decide) ?_
          refine lv_iload_n hx hb dX7_saidLeft_25 rfl (lv_at hl 2 rfl) ?_
          refine x_ishl hx hb dX7_saidLeft_26 ?_
          refine lv_goto (tgt := 31) hx hb dX7_saidLeft_27 (by decide) ?_
          exact b_31 k_4 hk_4 u2 u1 (shl 1 u2) ls (lv_sub hl [0, 2] rfl) hf
  unfold fX7_saidLeft at hf
  refine lv_iconst (v := 0) hx hb dX7_saidLeft_0 (by decide) ?_
  refine lv_istore_n (lv' := [(1, .int 0), (0, .ref (q 0))]) hx hb dX7_saidLeft_1 rfl hl (by decide) rfl (fun ls hl => ?_)
  refine lv_iconst (v := 0) hx hb dX7_saidLeft_2 (by decide) ?_
  refine lv_istore_n (lv' := [(2, .int 0), (1, .int 0), (0, .ref (q 0))]) hx hb dX7_saidLeft_3 rfl hl (by decide) rfl (fun ls hl => ?_)
  exact b_4 N 0 0 ls (lv_sub hl [2, 1, 0] rfl) hf
def fX7_readPart_297 (N : Nat) (I : Nat → Int32) (A : Nat → Nat → Int32) : Option ((Nat → Int32) × (Nat → Nat → Int32)) := some (I, A)
def fX7_readPart_289 (N : Nat) (I : Nat → Int32) (A : Nat → Nat → Int32) : Option ((Nat → Int32) × (Nat → Nat → Int32)) := fX7_readPart_297 N (upd I 6 (I 5)) A
def fX7_readPart_284 (N : Nat) (I : Nat → Int32) (A : Nat → Nat → Int32) (y1 : Int32) (y2 : Int32) (y3 : Int32) : Option ((Nat → Int32) × (Nat → Nat → Int32)) := (wr 5 (A 10) y1 (y2 ||| y3)).bind fun g1 => fX7_readPart_297 N I (va_up A 10 g1)
def fX7_readPart_213 (N : Nat) (I : Nat → Int32) (A : Nat → Nat → Int32) (u1 : Int32) : Option ((Nat → Int32) × (Nat → Nat → Int32)) := if u1 = 83 then (fX7_saidLeft N I A).bind fun z2 => if z2 = 0 then fX7_readPart_289 N I A else (fX7_saidLeft N (upd I 5 ((I 5) + 1)) A).bind fun z4 => (fX7_figureOf N (upd I 5 ((I 5) + 1)) A z4).bind fun z5 => (rd 5 (A 10) z5.1).bind fun v6 => (fX7_figureOf N z5.2 A (63 &&& (v6 ^^^ (-1)))).bind fun z7 => (rd 5 (A 10) z5.1).bind fun v8 => if (z7.2 6) = (-9) then fX7_readPart_284 N z7.2 A z5.1 v8 (shl 1 z7.1) else fX7_readPart_284 N z7.2 A z5.1 v8 0 else fX7_readPart_289 N I A
def fX7_readPart_161 (N : Nat) (I : Nat → Int32) (A : Nat → Nat → Int32) (u1 : Int32) : Option ((Nat → Int32) × (Nat → Nat → Int32)) := if u1 = 80 then if 4 ≤ (I 3) then fX7_readPart_213 N I A u1 else (fX7_figureOf N (upd I 5 ((I 5) + 1)) A 63).bind fun z3 => (wr 4 (A 11) (I 3) z3.1).bind fun g4 => fX7_readPart_297 N (upd z3.2 3 ((z3.2 3) + 1)) (va_up A 11 g4) else fX7_readPart_213 N I A u1
def fX7_readPart_158 (N : Nat) (I : Nat → Int32) (A : Nat → Nat → Int32) : Option ((Nat → Int32) × (Nat → Nat → Int32)) := fX7_readPart_297 N I A
def fX7_readPart_83 (N : Nat) (I : Nat → Int32) (A : Nat → Nat → Int32) (u1 : Int32) : Option ((Nat → Int32) × (Nat → Nat → Int32)) := if u1 = 88 then (fX7_firstsLeft N I A).bind fun z2 => if z2 = 0 then fX7_readPart_161 N I A u1 else (fX7_firstsLeft N (upd I 5 ((I 5) + 1)) A).bind fun z4 => (fX7_figureOf N (upd I 5 ((I 5) + 1)) A z4).bind fun z5 => (fX7_pairsLeft N z5.2 A z5.1).bind fun z6 => (fX7_figureOf N z5.2 A z6).bind fun z7 => if (z7.2 6) = (-9) then (rd 5 (A 9) z5.1).bind fun v9 => (wr 5 (A 9) z5.1 (v9 ||| (shl 1 z7.1))).bind fun g10 => (rd 5 g10 z7.1).bind fun v11 => (wr 5 g10 z7.1 (v11 ||| (shl 1 z5.1))).bind fun g12 => fX7_readPart_158 N z7.2 (va_up (va_up A 9 g10) 9 g12) else fX7_readPart_158 N z7.2 A else fX7_readPart_161 N I A u1
def fX7_readPart (N : Nat) (I : Nat → Int32) (A : Nat → Nat → Int32) (x1 : Int32) : Option ((Nat → Int32) × (Nat → Nat → Int32)) := if x1 = 82 then if 5 ≤ (I 2) then fX7_readPart_83 N I A x1 else (fX7_figureOf N (upd I 5 ((I 5) + 1)) A 1022).bind fun z3 => (wr 5 (A 6) (I 2) z3.1).bind fun g4 => (fX7_figureOf N z3.2 (va_up A 6 g4) 3).bind fun z5 => (wr 5 (A 7) (z3.2 2) z5.1).bind fun g6 => (fX7_figureOf N z5.2 (va_up (va_up A 6 g4) 7 g6) 1023).bind fun z7 => (wr 5 (A 8) (z5.2 2) z7.1).bind fun g8 => fX7_readPart_297 N (upd z7.2 2 ((z7.2 2) + 1)) (va_up (va_up (va_up A 6 g4) 7 g6) 8 g8) else fX7_readPart_83 N I A x1
def rmX7_readPart : Room := { frames := 3, cells := 0, slots := 0, locals := 66 }
theorem mb_X7_readPart : Cond.instanceMethod yX7_readPart ∈ wsL_law ∧ Cond.selects RX7 yX7_readPart yX7_readPart ∈ wsL_law ∧ Cond.initialized RX7 ∈ wsL_law ∧ Cond.code yX7_readPart cX7_readPart 4 none ∈ wsL_law := ⟨(bg 10 4 rfl), (bg 10 5 rfl), (bg 0 5 rfl), (bg 10 6 rfl)⟩
theorem hd_X7_readPart : yX7_readPart.cls = RX7 ∧ yX7_readPart.cls ≠ "java/lang/invoke/MethodHandle" ∧ yX7_readPart.cls ≠ "java/lang/invoke/VarHandle" ∧ (parseMethodDescriptor yX7_readPart.desc).map (fun d => d.parameters.length) = some 1 := by decide +kernel
set_option maxRecDepth 100000 in
set_option maxHeartbeats 4000000 in
theorem ct_X7_readPart (N : Nat) (l : Launch) (G : va_G) (cI cZ cO : ClassId) (q : Nat → Nat) (I : Nat → Int32) (A : Nat → Nat → Int32) (L : Int64) (x1 : Int32) (Iz : Nat → Int32) (Az : Nat → Nat → Int32) (hf : fX7_readPart N I A x1 = some (Iz, Az)) : CtV l yX7_readPart cX7_readPart 4 rmX7_readPart G cI cZ cO [.ref (q 0), .int x1] (wX7 q cI cZ cO I A L) (wX7 q cI cZ cO Iz Az L) := by
  refine mkCV (by decide) (Nat.le_of_ble_eq_true rfl) ?_
  intro p e s m below meth cd Q Z hC hP hE hD hA fin ls hl
  obtain ⟨hx, hb, hml, hown, hts⟩ := hC
  have hown : s.vm.findClass RX7 = some m.cls := hown
  have hl : lv_has ls 4 [(0, .ref (q 0)), (1, .int x1)] := hl
  have b_297 : ∀ (I : Nat → Int32) (A : Nat → Nat → Int32), ∀ (H : Heap) (locs : List Loc), va_P G vwCl (wX7 q cI cZ cO I A L) H → va_D Z (wX7 q cI cZ cO I A L) → va_S Z s.heap H locs → ∀ ls : Array Slot, lv_has ls 4 [] → fX7_readPart_297 N I A = some (Iz, Az) → W p l e rmX7_readPart s m [.ref (q 0), .int x1].toArray below meth cd H locs 0 0 Q (F0 m 297 ls []) := by
    intro I A H locs hP hD hS ls hl hf
    unfold fX7_readPart_297 at hf
    have e9 := Option.some.inj hf
    exact fin H locs 297 ls (by rw [← (Prod.mk.inj e9).1, ← (Prod.mk.inj e9).2]; exact hP) hS dX7_readPart_297
  have b_289 : ∀ (I : Nat → Int32) (A : Nat → Nat → Int32), ∀ (H : Heap) (locs : List Loc), va_P G vwCl (wX7 q cI cZ cO I A L) H → va_D Z (wX7 q cI cZ cO I A L) → va_S Z s.heap H locs → ∀ ls : Array Slot, lv_has ls 4 [(0, .ref (q 0))] → fX7_readPart_289 N I A = some (Iz, Az) → W p l e rmX7_readPart s m [.ref (q 0), .int x1].toArray below meth cd H locs 0 0 Q (F0 m 289 ls []) := by
    intro I A H locs hP hD hS ls hl hf
    unfold fX7_readPart_289 at hf
    refine lv_aload_n hx hb dX7_readPart_289 rfl (lv_at hl 0 rfl) ?_
    refine lv_aload_n hx hb dX7_readPart_290 rfl (lv_at hl 0 rfl) ?_
    refine va_get (D := G) (ci := 7) (v := .int ((I 5))) (C := RX7) (T := TX7) (N := 33) hx hb hts inlX7 hown hE.1 hP 0 rfl rfl 18 (by decide) (hts _ (bg 9 23 rfl)) (fun _ h9 => h9) rfl dX7_readPart_291 ?_
    refine va_put (D := G) (ci := 7) (v := .int ((I 5))) (ty := .int) (C := RX7) (T := TX7) (N := 33) hx hb hts inlX7 tyX7 tyX7_ok nmX7 hown hE.1 hP hD hS 0 rfl rfl 19 (by decide) (hts _ (bg 10 0 rfl)) (fun _ h9 => h9) rfl (by decide +kernel) rfl rfl (Nat.le_of_ble_eq_true rfl) dX7_readPart_294 (fun H locs hP hD hS => ?_)
    have hP : va_P G vwCl (wX7 q cI cZ cO (upd I 6 (I 5)) A L) H := hP
    have hD : va_D Z (wX7 q cI cZ cO (upd I 6 (I 5)) A L) := hD
    exact b_297 (upd I 6 (I 5)) A H locs hP hD hS ls (lv_sub hl [] rfl) hf
  have b_284 : ∀ (I : Nat → Int32) (A : Nat → Nat → Int32) (y1 : Int32) (y2 : Int32) (y3 : Int32), ∀ (H : Heap) (locs : List Loc), va_P G vwCl (wX7 q cI cZ cO I A L) H → va_D Z (wX7 q cI cZ cO I A L) → va_S Z s.heap H locs → ∀ ls : Array Slot, lv_has ls 4 [] → fX7_readPart_284 N I A y1 y2 y3 = some (Iz, Az) → W p l e rmX7_readPart s m [.ref (q 0), .int x1].toArray below meth cd H locs 0 0 Q (F0 m 284 ls [.int y3, .int y2, .int y1, .ref (q 11)]) := by
    intro I A y1 y2 y3 H locs hP hD hS ls hl hf
    unfold fX7_readPart_284 at hf
    refine lv_ior hx hb dX7_readPart_284 ?_
    obtain ⟨g1, hg1, hf⟩ := bnd hf
    refine x_iast hx hb hE.1 hP hD hS 11 0 rfl rfl hg1 dX7_readPart_285 (fun H locs hP hD hS => ?_)
    have hP : va_P G vwCl (wX7 q cI cZ cO I (va_up A 10 g1) L) H := hP
    have hD : va_D Z (wX7 q cI cZ cO I (va_up A 10 g1) L) := hD
    refine lv_goto (tgt := 297) hx hb dX7_readPart_286 (by decide) ?_
    exact b_297 I (va_up A 10 g1) H locs hP hD hS ls (lv_sub hl [] rfl) hf
  have b_213 : ∀ (I : Nat → Int32) (A : Nat → Nat → Int32) (u1 : Int32), ∀ (H : Heap) (locs : List Loc), va_P G vwCl (wX7 q cI cZ cO I A L) H → va_D Z (wX7 q cI cZ cO I A L) → va_S Z s.heap H locs → ∀ ls : Array Slot, lv_has ls 4 [(0, .ref (q 0)), (1, .int u1)] → fX7_readPart_213 N I A u1 = some (Iz, Az) → W p l e rmX7_readPart s m [.ref (q 0), .int x1].toArray below meth cd H locs 0 0 Q (F0 m 213 ls []) := by
    intro I A u1 H locs hP hD hS ls hl hf
    unfold fX7_readPart_213 at hf
    refine lv_iload_n hx hb dX7_readPart_213 rfl (lv_at hl 1 rfl) ?_
    refine lv_bipush (v := 83) hx hb dX7_readPart_214 (by decide) ?_
    refine lv_icmp_ne (tgt := 289) hx hb dX7_readPart_216 (by decide) (fun c1 => ?_) (fun c1 => ?_)
    · rw [if_neg c1] at hf
      exact b_289 I A H locs hP hD hS ls (lv_sub hl [0] rfl) hf
    · rw [if_pos c1] at hf
      refine lv_aload_n hx hb dX7_readPart_219 rfl (lv_at hl 0 rfl) ?_
      obtain ⟨z2, hz2, hf⟩ := bnd hf
      refine x_rdV (C := RX7) (n := 0) (ci := 7) hx hb hml hown hts hE (ct_X7_saidLeft N l G cI cZ cO q I A L z2 hz2) (bg 10 23 rfl) mb_X7_saidLeft.1 mb_X7_saidLeft.2.1 mb_X7_saidLeft.2.2.1 mb_X7_saidLeft.2.2.2 hd_X7_saidLeft rfl (by decide) hP rfl rfl rfl rfl hl.1 (Nat.le_of_ble_eq_true rfl) ⟨Nat.zero_le _, Nat.zero_le _⟩ dX7_readPart_220 ?_
      refine lv_if_eq (tgt := 289) hx hb dX7_readPart_223 (by decide) (fun c3 => ?_) (fun c3 => ?_)
      · rw [if_pos c3] at hf
        exact b_289 I A H locs hP hD hS ls (lv_sub hl [0] rfl) hf
      · rw [if_neg c3] at hf
        refine lv_aload_n hx hb dX7_readPart_226 rfl (lv_at hl 0 rfl) ?_
        refine lv_dup hx hb dX7_readPart_227 rfl ?_
        refine va_get (D := G) (ci := 7) (v := .int ((I 5))) (C := RX7) (T := TX7) (N := 33) hx hb hts inlX7 hown hE.1 hP 0 rfl rfl 18 (by decide) (hts _ (bg 9 23 rfl)) (fun _ h9 => h9) rfl dX7_readPart_228 ?_
        refine lv_iconst (v := 1) hx hb dX7_readPart_231 (by decide) ?_
        refine lv_iadd hx hb dX7_readPart_232 ?_
        refine va_put (D := G) (ci := 7) (v := .int ((I 5) + 1)) (ty := .int) (C := RX7) (T := TX7) (N := 33) hx hb hts inlX7 tyX7 tyX7_ok nmX7 hown hE.1 hP hD hS 0 rfl rfl 18 (by decide) (hts _ (bg 9 23 rfl)) (fun _ h9 => h9) rfl (by decide +kernel) rfl rfl (Nat.le_of_ble_eq_true rfl) dX7_readPart_233 (fun H locs hP hD hS => ?_)
        have hP : va_P G vwCl (wX7 q cI cZ cO (upd I 5 ((I 5) + 1)) A L) H := hP
        have hD : va_D Z (wX7 q cI cZ cO (upd I 5 ((I 5) + 1)) A L) := hD
        refine lv_aload_n hx hb dX7_readPart_236 rfl (lv_at hl 0 rfl) ?_
        refine lv_aload_n hx hb dX7_readPart_237 rfl (lv_at hl 0 rfl) ?_
        obtain ⟨z4, hz4, hf⟩ := bnd hf
        refine x_rdV (C := RX7) (n := 0) (ci := 7) hx hb hml hown hts hE (ct_X7_saidLeft N l G cI cZ cO q (upd I 5 ((I 5) + 1)) A L z4 hz4) (bg 10 23 rfl) mb_X7_saidLeft.1 mb_X7_saidLeft.2.1 mb_X7_saidLeft.2.2.1 mb_X7_saidLeft.2.2.2 hd_X7_saidLeft rfl (by decide) hP rfl rfl rfl rfl hl.1 (Nat.le_of_ble_eq_true rfl) ⟨Nat.zero_le _, Nat.zero_le _⟩ dX7_readPart_238 ?_
        obtain ⟨z5, hz5, hf⟩ := bnd hf
        refine x_wwV (C := RX7) (n := 1) (ci := 7) hx hb hml hown hts hE (ct_X7_figureOf N l G cI cZ cO q (upd I 5 ((I 5) + 1)) A L z4 z5.1 z5.2 hz5) (bg 10 7 rfl) mb_X7_figureOf.1 mb_X7_figureOf.2.1 mb_X7_figureOf.2.2.1 mb_X7_figureOf.2.2.2 hd_X7_figureOf rfl (by decide) hP hD hS hA rfl rfl rfl rfl rfl hl.1 (Nat.le_of_ble_eq_true rfl) ⟨Nat.zero_le _, Nat.zero_le _⟩ dX7_readPart_241 (fun H locs hP hD hS => ?_)
        have hP : va_P G vwCl (wX7 q cI cZ cO z5.2 A L) H := hP
        have hD : va_D Z (wX7 q cI cZ cO z5.2 A L) := hD
        refine lv_istore_n (lv' := [(2, .int z5.1), (0, .ref (q 0)), (1, .int u1)]) hx hb dX7_readPart_244 rfl hl (by decide) rfl (fun ls hl => ?_)
        refine lv_aload_n hx hb dX7_readPart_245 rfl (lv_at hl 1 rfl) ?_
        refine lv_bipush (v := 63) hx hb dX7_readPart_246 (by decide) ?_
        refine lv_aload_n hx hb dX7_readPart_248 rfl (lv_at hl 1 rfl) ?_
        refine va_get (D := G) (ci := 7) (v := .ref (q 11)) (C := RX7) (T := TX7) (N := 33) hx hb hts inlX7 hown hE.1 hP 0 rfl rfl 12 (by decide) (hts _ (bg 4 0 rfl)) (fun _ h9 => h9) rfl dX7_readPart_249 ?_
        refine lv_iload_n hx hb dX7_readPart_252 rfl (lv_at hl 0 rfl) ?_
        obtain ⟨v6, hv6, hf⟩ := bnd hf
        refine x_iald hx hb hE.1 hP 11 0 rfl rfl hv6 dX7_readPart_253 ?_
        refine lv_iconst (v := (-1)) hx hb dX7_readPart_254 (by decide) ?_
        refine lv_ixor hx hb dX7_readPart_255 ?_
        refine lv_iand hx hb dX7_readPart_256 ?_
        obtain ⟨z7, hz7, hf⟩ := bnd hf
        refine x_wwV (C := RX7) (n := 1) (ci := 7) hx hb hml hown hts hE (ct_X7_figureOf N l G cI cZ cO q z5.2 A L (63 &&& (v6 ^^^ (-1))) z7.1 z7.2 hz7) (bg 10 7 rfl) mb_X7_figureOf.1 mb_X7_figureOf.2.1 mb_X7_figureOf.2.2.1 mb_X7_figureOf.2.2.2 hd_X7_figureOf rfl (by decide) hP hD hS hA rfl rfl rfl rfl rfl hl.1 (Nat.le_of_ble_eq_true rfl) ⟨Nat.zero_le _, Nat.zero_le _⟩ dX7_readPart_257 (fun H locs hP hD hS => ?_)
        have hP : va_P G vwCl (wX7 q cI cZ cO z7.2 A L) H := hP
        have hD : va_D Z (wX7 q cI cZ cO z7.2 A L) := hD
        refine lv_istore_n (lv' := [(3, .int z7.1), (2, .int z5.1), (0, .ref (q 0)), (1, .int u1)]) hx hb dX7_readPart_260 rfl hl (by decide) rfl (fun ls hl => ?_)
        refine lv_aload_n hx hb dX7_readPart_261 rfl (lv_at hl 2 rfl) ?_
        refine va_get (D := G) (ci := 7) (v := .ref (q 11)) (C := RX7) (T := TX7) (N := 33) hx hb hts inlX7 hown hE.1 hP 0 rfl rfl 12 (by decide) (hts _ (bg 4 0 rfl)) (fun _ h9 => h9) rfl dX7_readPart_262 ?_
        refine lv_iload_n hx hb dX7_readPart_265 rfl (lv_at hl 1 rfl) ?_
        refine lv_dup2_11 hx hb dX7_readPart_266 rfl rfl ?_
        obtain ⟨v8, hv8, hf⟩ := bnd hf
        refine x_iald hx hb hE.1 hP 11 0 rfl rfl hv8 dX7_readPart_267 ?_
        refine lv_aload_n hx hb dX7_readPart_268 rfl (lv_at hl 2 rfl) ?_
        refine va_get (D := G) (ci := 7) (v := .int ((z7.2 6))) (C := RX7) (T := TX7) (N := 33) hx hb hts inlX7 hown hE.1 hP 0 rfl rfl 19 (by decide) (hts _ (bg 10 0 rfl)) (fun _ h9 => h9) rfl dX7_readPart_269 ?_
        refine lv_bipush (v := (-9)) hx hb dX7_readPart_272 (by decide) ?_
        refine lv_icmp_ne (tgt := 283) hx hb dX7_readPart_274 (by decide) (fun c9 => ?_) (fun c9 => ?_)
        · rw [if_neg c9] at hf
          refine lv_iconst (v := 0) hx hb dX7_readPart_283 (by decide) ?_
          exact b_284 z7.2 A z5.1 v8 0 H locs hP hD hS ls (lv_sub hl [] rfl) hf
        · rw [if_pos c9] at hf
          refine lv_iconst (v := 1) hx hb dX7_readPart_277 (by decide) ?_
          refine lv_iload_n hx hb dX7_readPart_278 rfl (lv_at hl 0 rfl) ?_
          refine x_ishl hx hb dX7_readPart_279 ?_
          refine lv_goto (tgt := 284) hx hb dX7_readPart_280 (by decide) ?_
          exact b_284 z7.2 A z5.1 v8 (shl 1 z7.1) H locs hP hD hS ls (lv_sub hl [] rfl) hf
  have b_161 : ∀ (I : Nat → Int32) (A : Nat → Nat → Int32) (u1 : Int32), ∀ (H : Heap) (locs : List Loc), va_P G vwCl (wX7 q cI cZ cO I A L) H → va_D Z (wX7 q cI cZ cO I A L) → va_S Z s.heap H locs → ∀ ls : Array Slot, lv_has ls 4 [(0, .ref (q 0)), (1, .int u1)] → fX7_readPart_161 N I A u1 = some (Iz, Az) → W p l e rmX7_readPart s m [.ref (q 0), .int x1].toArray below meth cd H locs 0 0 Q (F0 m 161 ls []) := by
    intro I A u1 H locs hP hD hS ls hl hf
    unfold fX7_readPart_161 at hf
    refine lv_iload_n hx hb dX7_readPart_161 rfl (lv_at hl 1 rfl) ?_
    refine lv_bipush (v := 80) hx hb dX7_readPart_162 (by decide) ?_
    refine lv_icmp_ne (tgt := 213) hx hb dX7_readPart_164 (by decide) (fun c1 => ?_) (fun c1 => ?_)
    · rw [if_neg c1] at hf
      exact b_213 I A u1 H locs hP hD hS ls (lv_sub hl [0, 1] rfl) hf
    · rw [if_pos c1] at hf
      refine lv_aload_n hx hb dX7_readPart_167 rfl (lv_at hl 0 rfl) ?_
      refine va_get (D := G) (ci := 7) (v := .int ((I 3))) (C := RX7) (T := TX7) (N := 33) hx hb hts inlX7 hown hE.1 hP 0 rfl rfl 15 (by decide) (hts _ (bg 10 2 rfl)) (fun _ h9 => h9) rfl dX7_readPart_168 ?_
      refine lv_iconst (v := 4) hx hb dX7_readPart_171 (by decide) ?_
      refine lv_icmp_ge (tgt := 213) hx hb dX7_readPart_172 (by decide) (fun c2 => ?_) (fun c2 => ?_)
      · rw [if_pos c2] at hf
        exact b_213 I A u1 H locs hP hD hS ls (lv_sub hl [0, 1] rfl) hf
      · rw [if_neg c2] at hf
        refine lv_aload_n hx hb dX7_readPart_175 rfl (lv_at hl 0 rfl) ?_
        refine lv_dup hx hb dX7_readPart_176 rfl ?_
        refine va_get (D := G) (ci := 7) (v := .int ((I 5))) (C := RX7) (T := TX7) (N := 33) hx hb hts inlX7 hown hE.1 hP 0 rfl rfl 18 (by decide) (hts _ (bg 9 23 rfl)) (fun _ h9 => h9) rfl dX7_readPart_177 ?_
        refine lv_iconst (v := 1) hx hb dX7_readPart_180 (by decide) ?_
        refine lv_iadd hx hb dX7_readPart_181 ?_
        refine va_put (D := G) (ci := 7) (v := .int ((I 5) + 1)) (ty := .int) (C := RX7) (T := TX7) (N := 33) hx hb hts inlX7 tyX7 tyX7_ok nmX7 hown hE.1 hP hD hS 0 rfl rfl 18 (by decide) (hts _ (bg 9 23 rfl)) (fun _ h9 => h9) rfl (by decide +kernel) rfl rfl (Nat.le_of_ble_eq_true rfl) dX7_readPart_182 (fun H locs hP hD hS => ?_)
        have hP : va_P G vwCl (wX7 q cI cZ cO (upd I 5 ((I 5) + 1)) A L) H := hP
        have hD : va_D Z (wX7 q cI cZ cO (upd I 5 ((I 5) + 1)) A L) := hD
        refine lv_aload_n hx hb dX7_readPart_185 rfl (lv_at hl 0 rfl) ?_
        refine va_get (D := G) (ci := 7) (v := .ref (q 12)) (C := RX7) (T := TX7) (N := 33) hx hb hts inlX7 hown hE.1 hP 0 rfl rfl 13 (by decide) (hts _ (bg 4 1 rfl)) (fun _ h9 => h9) rfl dX7_readPart_186 ?_
        refine lv_aload_n hx hb dX7_readPart_189 rfl (lv_at hl 0 rfl) ?_
        refine va_get (D := G) (ci := 7) (v := .int ((I 3))) (C := RX7) (T := TX7) (N := 33) hx hb hts inlX7 hown hE.1 hP 0 rfl rfl 15 (by decide) (hts _ (bg 10 2 rfl)) (fun _ h9 => h9) rfl dX7_readPart_190 ?_
        refine lv_aload_n hx hb dX7_readPart_193 rfl (lv_at hl 0 rfl) ?_
        refine lv_bipush (v := 63) hx hb dX7_readPart_194 (by decide) ?_
        obtain ⟨z3, hz3, hf⟩ := bnd hf
        refine x_wwV (C := RX7) (n := 1) (ci := 7) hx hb hml hown hts hE (ct_X7_figureOf N l G cI cZ cO q (upd I 5 ((I 5) + 1)) A L 63 z3.1 z3.2 hz3) (bg 10 7 rfl) mb_X7_figureOf.1 mb_X7_figureOf.2.1 mb_X7_figureOf.2.2.1 mb_X7_figureOf.2.2.2 hd_X7_figureOf rfl (by decide) hP hD hS hA rfl rfl rfl rfl rfl hl.1 (Nat.le_of_ble_eq_true rfl) ⟨Nat.zero_le _, Nat.zero_le _⟩ dX7_readPart_196 (fun H locs hP hD hS => ?_)
        have hP : va_P G vwCl (wX7 q cI cZ cO z3.2 A L) H := hP
        have hD : va_D Z (wX7 q cI cZ cO z3.2 A L) := hD
        obtain ⟨g4, hg4, hf⟩ := bnd hf
        refine x_iast hx hb hE.1 hP hD hS 12 0 rfl rfl hg4 dX7_readPart_199 (fun H locs hP hD hS => ?_)
        have hP : va_P G vwCl (wX7 q cI cZ cO z3.2 (va_up A 11 g4) L) H := hP
        have hD : va_D Z (wX7 q cI cZ cO z3.2 (va_up A 11 g4) L) := hD
        refine lv_aload_n hx hb dX7_readPart_200 rfl (lv_at hl 0 rfl) ?_
        refine lv_dup hx hb dX7_readPart_201 rfl ?_
        refine va_get (D := G) (ci := 7) (v := .int ((z3.2 3))) (C := RX7) (T := TX7) (N := 33) hx hb hts inlX7 hown hE.1 hP 0 rfl rfl 15 (by decide) (hts _ (bg 10 2 rfl)) (fun _ h9 => h9) rfl dX7_readPart_202 ?_
        refine lv_iconst (v := 1) hx hb dX7_readPart_205 (by decide) ?_
        refine lv_iadd hx hb dX7_readPart_206 ?_
        refine va_put (D := G) (ci := 7) (v := .int ((z3.2 3) + 1)) (ty := .int) (C := RX7) (T := TX7) (N := 33) hx hb hts inlX7 tyX7 tyX7_ok nmX7 hown hE.1 hP hD hS 0 rfl rfl 15 (by decide) (hts _ (bg 10 2 rfl)) (fun _ h9 => h9) rfl (by decide +kernel) rfl rfl (Nat.le_of_ble_eq_true rfl) dX7_readPart_207 (fun H locs hP hD hS => ?_)
        have hP : va_P G vwCl (wX7 q cI cZ cO (upd z3.2 3 ((z3.2 3) + 1)) (va_up A 11 g4) L) H := hP
        have hD : va_D Z (wX7 q cI cZ cO (upd z3.2 3 ((z3.2 3) + 1)) (va_up A 11 g4) L) := hD
        refine lv_goto (tgt := 297) hx hb dX7_readPart_210 (by decide) ?_
        exact b_297 (upd z3.2 3 ((z3.2 3) + 1)) (va_up A 11 g4) H locs hP hD hS ls (lv_sub hl [] rfl) hf
  have b_158 : ∀ (I : Nat → Int32) (A : Nat → Nat → Int32), ∀ (H : Heap) (locs : List Loc), va_P G vwCl (wX7 q cI cZ cO I A L) H → va_D Z (wX7 q cI cZ cO I A L) → va_S Z s.heap H locs → ∀ ls : Array Slot, lv_has ls 4 [] → fX7_readPart_158 N I A = some (Iz, Az) → W p l e rmX7_readPart s m [.ref (q 0), .int x1].toArray below meth cd H locs 0 0 Q (F0 m 158 ls []) := by
    intro I A H locs hP hD hS ls hl hf
    unfold fX7_readPart_158 at hf
    refine lv_goto (tgt := 297) hx hb dX7_readPart_158 (by decide) ?_
    exact b_297 I A H locs hP hD hS ls (lv_sub hl [] rfl) hf
  have b_83 : ∀ (I : Nat → Int32) (A : Nat → Nat → Int32) (u1 : Int32), ∀ (H : Heap) (locs : List Loc), va_P G vwCl (wX7 q cI cZ cO I A L) H → va_D Z (wX7 q cI cZ cO I A L) → va_S Z s.heap H locs → ∀ ls : Array Slot, lv_has ls 4 [(0, .ref (q 0)), (1, .int u1)] → fX7_readPart_83 N I A u1 = some (Iz, Az) → W p l e rmX7_readPart s m [.ref (q 0), .int x1].toArray below meth cd H locs 0 0 Q (F0 m 83 ls []) := by
    intro I A u1 H locs hP hD hS ls hl hf
    unfold fX7_readPart_83 at hf
    refine lv_iload_n hx hb dX7_readPart_83 rfl (lv_at hl 1 rfl) ?_
    refine lv_bipush (v := 88) hx hb dX7_readPart_84 (by decide) ?_
    refine lv_icmp_ne (tgt := 161) hx hb dX7_readPart_86 (by decide) (fun c1 => ?_) (fun c1 => ?_)
    · rw [if_neg c1] at hf
      exact b_161 I A u1 H locs hP hD hS ls (lv_sub hl [0, 1] rfl) hf
    · rw [if_pos c1] at hf
      refine lv_aload_n hx hb dX7_readPart_89 rfl (lv_at hl 0 rfl) ?_
      obtain ⟨z2, hz2, hf⟩ := bnd hf
      refine x_rdV (C := RX7) (n := 0) (ci := 7) hx hb hml hown hts hE (ct_X7_firstsLeft N l G cI cZ cO q I A L z2 hz2) (bg 10 15 rfl) mb_X7_firstsLeft.1 mb_X7_firstsLeft.2.1 mb_X7_firstsLeft.2.2.1 mb_X7_firstsLeft.2.2.2 hd_X7_firstsLeft rfl (by decide) hP rfl rfl rfl rfl hl.1 (Nat.le_of_ble_eq_true rfl) ⟨Nat.zero_le _, Nat.zero_le _⟩ dX7_readPart_90 ?_
      refine lv_if_eq (tgt := 161) hx hb dX7_readPart_93 (by decide) (fun c3 => ?_) (fun c3 => ?_)
      · rw [if_pos c3] at hf
        exact b_161 I A u1 H locs hP hD hS ls (lv_sub hl [0, 1] rfl) hf
      · rw [if_neg c3] at hf
        refine lv_aload_n hx hb dX7_readPart_96 rfl (lv_at hl 0 rfl) ?_
        refine lv_dup hx hb dX7_readPart_97 rfl ?_
        refine va_get (D := G) (ci := 7) (v := .int ((I 5))) (C := RX7) (T := TX7) (N := 33) hx hb hts inlX7 hown hE.1 hP 0 rfl rfl 18 (by decide) (hts _ (bg 9 23 rfl)) (fun _ h9 => h9) rfl dX7_readPart_98 ?_
        refine lv_iconst (v := 1) hx hb dX7_readPart_101 (by decide) ?_
        refine lv_iadd hx hb dX7_readPart_102 ?_
        refine va_put (D := G) (ci := 7) (v := .int ((I 5) + 1)) (ty := .int) (C := RX7) (T := TX7) (N := 33) hx hb hts inlX7 tyX7 tyX7_ok nmX7 hown hE.1 hP hD hS 0 rfl rfl 18 (by decide) (hts _ (bg 9 23 rfl)) (fun _ h9 => h9) rfl (by decide +kernel) rfl rfl (Nat.le_of_ble_eq_true rfl) dX7_readPart_103 (fun H locs hP hD hS => ?_)
        have hP : va_P G vwCl (wX7 q cI cZ cO (upd I 5 ((I 5) + 1)) A L) H := hP
        have hD : va_D Z (wX7 q cI cZ cO (upd I 5 ((I 5) + 1)) A L) := hD
        refine lv_aload_n hx hb dX7_readPart_106 rfl (lv_at hl 0 rfl) ?_
        refine lv_aload_n hx hb dX7_readPart_107 rfl (lv_at hl 0 rfl) ?_
        obtain ⟨z4, hz4, hf⟩ := bnd hf
        refine x_rdV (C := RX7) (n := 0) (ci := 7) hx hb hml hown hts hE (ct_X7_firstsLeft N l G cI cZ cO q (upd I 5 ((I 5) + 1)) A L z4 hz4) (bg 10 15 rfl) mb_X7_firstsLeft.1 mb_X7_firstsLeft.2.1 mb_X7_firstsLeft.2.2.1 mb_X7_firstsLeft.2.2.2 hd_X7_firstsLeft rfl (by decide) hP rfl rfl rfl rfl hl.1 (Nat.le_of_ble_eq_true rfl) ⟨Nat.zero_le _, Nat.zero_le _⟩ dX7_readPart_108 ?_
        obtain ⟨z5, hz5, hf⟩ := bnd hf
        refine x_wwV (C := RX7) (n := 1) (ci := 7) hx hb hml hown hts hE (ct_X7_figureOf N l G cI cZ cO q (upd I 5 ((I 5) + 1)) A L z4 z5.1 z5.2 hz5) (bg 10 7 rfl) mb_X7_figureOf.1 mb_X7_figureOf.2.1 mb_X7_figureOf.2.2.1 mb_X7_figureOf.2.2.2 hd_X7_figureOf rfl (by decide) hP hD hS hA rfl rfl rfl rfl rfl hl.1 (Nat.le_of_ble_eq_true rfl) ⟨Nat.zero_le _, Nat.zero_le _⟩ dX7_readPart_111 (fun H locs hP hD hS => ?_)
        have hP : va_P G vwCl (wX7 q cI cZ cO z5.2 A L) H := hP
        have hD : va_D Z (wX7 q cI cZ cO z5.2 A L) := hD
        refine lv_istore_n (lv' := [(2, .int z5.1), (0, .ref (q 0)), (1, .int u1)]) hx hb dX7_readPart_114 rfl hl (by decide) rfl (fun ls hl => ?_)
        refine lv_aload_n hx hb dX7_readPart_115 rfl (lv_at hl 1 rfl) ?_
        refine lv_aload_n hx hb dX7_readPart_116 rfl (lv_at hl 1 rfl) ?_
        refine lv_iload_n hx hb dX7_readPart_117 rfl (lv_at hl 0 rfl) ?_
        obtain ⟨z6, hz6, hf⟩ := bnd hf
        refine x_rdV (C := RX7) (n := 1) (ci := 7) hx hb hml hown hts hE (ct_X7_pairsLeft N l G cI cZ cO q z5.2 A L z5.1 z6 hz6) (bg 10 19 rfl) mb_X7_pairsLeft.1 mb_X7_pairsLeft.2.1 mb_X7_pairsLeft.2.2.1 mb_X7_pairsLeft.2.2.2 hd_X7_pairsLeft rfl (by decide) hP rfl rfl rfl rfl hl.1 (Nat.le_of_ble_eq_true rfl) ⟨Nat.zero_le _, Nat.zero_le _⟩ dX7_readPart_118 ?_
        obtain ⟨z7, hz7, hf⟩ := bnd hf
        refine x_wwV (C := RX7) (n := 1) (ci := 7) hx hb hml hown hts hE (ct_X7_figureOf N l G cI cZ cO q z5.2 A L z6 z7.1 z7.2 hz7) (bg 10 7 rfl) mb_X7_figureOf.1 mb_X7_figureOf.2.1 mb_X7_figureOf.2.2.1 mb_X7_figureOf.2.2.2 hd_X7_figureOf rfl (by decide) hP hD hS hA rfl rfl rfl rfl rfl hl.1 (Nat.le_of_ble_eq_true rfl) ⟨Nat.zero_le _, Nat.zero_le _⟩ dX7_readPart_121 (fun H locs hP hD hS => ?_)
        have hP : va_P G vwCl (wX7 q cI cZ cO z7.2 A L) H := hP
        have hD : va_D Z (wX7 q cI cZ cO z7.2 A L) := hD
        refine lv_istore_n (lv' := [(3, .int z7.1), (2, .int z5.1), (0, .ref (q 0)), (1, .int u1)]) hx hb dX7_readPart_124 rfl hl (by decide) rfl (fun ls hl => ?_)
        refine lv_aload_n hx hb dX7_readPart_125 rfl (lv_at hl 2 rfl) ?_
        refine va_get (D := G) (ci := 7) (v := .int ((z7.2 6))) (C := RX7) (T := TX7) (N := 33) hx hb hts inlX7 hown hE.1 hP 0 rfl rfl 19 (by decide) (hts _ (bg 10 0 rfl)) (fun _ h9 => h9) rfl dX7_readPart_126 ?_
        refine lv_bipush (v := (-9)) hx hb dX7_readPart_129 (by decide) ?_
        refine lv_icmp_ne (tgt := 158) hx hb dX7_readPart_131 (by decide) (fun c8 => ?_) (fun c8 => ?_)
        · rw [if_neg c8] at hf
          exact b_158 z7.2 A H locs hP hD hS ls (lv_sub hl [] rfl) hf
        · rw [if_pos c8] at hf
          refine lv_aload_n hx hb dX7_readPart_134 rfl (lv_at hl 2 rfl) ?_
          refine va_get (D := G) (ci := 7) (v := .ref (q 10)) (C := RX7) (T := TX7) (N := 33) hx hb hts inlX7 hown hE.1 hP 0 rfl rfl 11 (by decide) (hts _ (bg 3 23 rfl)) (fun _ h9 => h9) rfl dX7_readPart_135 ?_
          refine lv_iload_n hx hb dX7_readPart_138 rfl (lv_at hl 1 rfl) ?_
          refine lv_dup2_11 hx hb dX7_readPart_139 rfl rfl ?_
          obtain ⟨v9, hv9, hf⟩ := bnd hf
          refine x_iald hx hb hE.1 hP 10 0 rfl rfl hv9 dX7_readPart_140 ?_
          refine lv_iconst (v := 1) hx hb dX7_readPart_141 (by decide) ?_
          refine lv_iload_n hx hb dX7_readPart_142 rfl (lv_at hl 0 rfl) ?_
          refine x_ishl hx hb dX7_readPart_143 ?_
          refine lv_ior hx hb dX7_readPart_144 ?_
          obtain ⟨g10, hg10, hf⟩ := bnd hf
          refine x_iast hx hb hE.1 hP hD hS 10 0 rfl rfl hg10 dX7_readPart_145 (fun H locs hP hD hS => ?_)
          have hP : va_P G vwCl (wX7 q cI cZ cO z7.2 (va_up A 9 g10) L) H := hP
          have hD : va_D Z (wX7 q cI cZ cO z7.2 (va_up A 9 g10) L) := hD
          refine lv_aload_n hx hb dX7_readPart_146 rfl (lv_at hl 2 rfl) ?_
          refine va_get (D := G) (ci := 7) (v := .ref (q 10)) (C := RX7) (T := TX7) (N := 33) hx hb hts inlX7 hown hE.1 hP 0 rfl rfl 11 (by decide) (hts _ (bg 3 23 rfl)) (fun _ h9 => h9) rfl dX7_readPart_147 ?_
          refine lv_iload_n hx hb dX7_readPart_150 rfl (lv_at hl 0 rfl) ?_
          refine lv_dup2_11 hx hb dX7_readPart_151 rfl rfl ?_
          obtain ⟨v11, hv11, hf⟩ := bnd hf
          refine x_iald hx hb hE.1 hP 10 0 rfl rfl hv11 dX7_readPart_152 ?_
          refine lv_iconst (v := 1) hx hb dX7_readPart_153 (by decide) ?_
          refine lv_iload_n hx hb dX7_readPart_154 rfl (lv_at hl 1 rfl) ?_
          refine x_ishl hx hb dX7_readPart_155 ?_
          refine lv_ior hx hb dX7_readPart_156 ?_
          obtain ⟨g12, hg12, hf⟩ := bnd hf
          refine x_iast hx hb hE.1 hP hD hS 10 0 rfl rfl hg12 dX7_readPart_157 (fun H locs hP hD hS => ?_)
          have hP : va_P G vwCl (wX7 q cI cZ cO z7.2 (va_up (va_up A 9 g10) 9 g12) L) H := hP
          have hD : va_D Z (wX7 q cI cZ cO z7.2 (va_up (va_up A 9 g10) 9 g12) L) := hD
          exact b_158 z7.2 (va_up (va_up A 9 g10) 9 g12) H locs hP hD hS ls (lv_sub hl [] rfl) hf
  unfold fX7_readPart at hf
  have hS : va_S Z s.heap s.heap [] := va_S.rf
  obtain ⟨H, hH⟩ : ∃ H, H = s.heap := ⟨_, rfl⟩
  obtain ⟨locs, hlocs⟩ : ∃ locs : List Loc, locs = [] := ⟨_, rfl⟩
  rw [← hlocs]
  rw [← hlocs] at hS
  suffices hW : ∀ H : Heap, va_P G vwCl (wX7 q cI cZ cO I A L) H → va_S Z s.heap H locs → W p l e rmX7_readPart s m [.ref (q 0), .int x1].toArray below meth cd H locs 0 0 Q (F0 m 0 ls []) from hW s.heap hP hS
  clear hP hS hH H
  intro H hP hS
  refine lv_iload_n hx hb dX7_readPart_0 rfl (lv_at hl 1 rfl) ?_
  refine lv_bipush (v := 82) hx hb dX7_readPart_1 (by decide) ?_
  refine lv_icmp_ne (tgt := 83) hx hb dX7_readPart_3 (by decide) (fun c1 => ?_) (fun c1 => ?_)
  · rw [if_neg c1] at hf
    exact b_83 I A x1 H locs hP hD hS ls (lv_sub hl [0, 1] rfl) hf
  · rw [if_pos c1] at hf
    refine lv_aload_n hx hb dX7_readPart_6 rfl (lv_at hl 0 rfl) ?_
    refine va_get (D := G) (ci := 7) (v := .int ((I 2))) (C := RX7) (T := TX7) (N := 33) hx hb hts inlX7 hown hE.1 hP 0 rfl rfl 14 (by decide) (hts _ (bg 10 1 rfl)) (fun _ h9 => h9) rfl dX7_readPart_7 ?_
    refine lv_iconst (v := 5) hx hb dX7_readPart_10 (by decide) ?_
    refine lv_icmp_ge (tgt := 83) hx hb dX7_readPart_11 (by decide) (fun c2 => ?_) (fun c2 => ?_)
    · rw [if_pos c2] at hf
      exact b_83 I A x1 H locs hP hD hS ls (lv_sub hl [0, 1] rfl) hf
    · rw [if_neg c2] at hf
      refine lv_aload_n hx hb dX7_readPart_14 rfl (lv_at hl 0 rfl) ?_
      refine lv_dup hx hb dX7_readPart_15 rfl ?_
      refine va_get (D := G) (ci := 7) (v := .int ((I 5))) (C := RX7) (T := TX7) (N := 33) hx hb hts inlX7 hown hE.1 hP 0 rfl rfl 18 (by decide) (hts _ (bg 9 23 rfl)) (fun _ h9 => h9) rfl dX7_readPart_16 ?_
      refine lv_iconst (v := 1) hx hb dX7_readPart_19 (by decide) ?_
      refine lv_iadd hx hb dX7_readPart_20 ?_
      refine va_put (D := G) (ci := 7) (v := .int ((I 5) + 1)) (ty := .int) (C := RX7) (T := TX7) (N := 33) hx hb hts inlX7 tyX7 tyX7_ok nmX7 hown hE.1 hP hD hS 0 rfl rfl 18 (by decide) (hts _ (bg 9 23 rfl)) (fun _ h9 => h9) rfl (by decide +kernel) rfl rfl (Nat.le_of_ble_eq_true rfl) dX7_readPart_21 (fun H locs hP hD hS => ?_)
      have hP : va_P G vwCl (wX7 q cI cZ cO (upd I 5 ((I 5) + 1)) A L) H := hP
      have hD : va_D Z (wX7 q cI cZ cO (upd I 5 ((I 5) + 1)) A L) := hD
      refine lv_aload_n hx hb dX7_readPart_24 rfl (lv_at hl 0 rfl) ?_
      refine va_get (D := G) (ci := 7) (v := .ref (q 7)) (C := RX7) (T := TX7) (N := 33) hx hb hts inlX7 hown hE.1 hP 0 rfl rfl 8 (by decide) (hts _ (bg 3 20 rfl)) (fun _ h9 => h9) rfl dX7_readPart_25 ?_
      refine lv_aload_n hx hb dX7_readPart_28 rfl (lv_at hl 0 rfl) ?_
      refine va_get (D := G) (ci := 7) (v := .int ((I 2))) (C := RX7) (T := TX7) (N := 33) hx hb hts inlX7 hown hE.1 hP 0 rfl rfl 14 (by decide) (hts _ (bg 10 1 rfl)) (fun _ h9 => h9) rfl dX7_readPart_29 ?_
      refine lv_aload_n hx hb dX7_readPart_32 rfl (lv_at hl 0 rfl) ?_
      refine lv_sipush (v := 1022) hx hb dX7_readPart_33 (by decide) ?_
      obtain ⟨z3, hz3, hf⟩ := bnd hf
      refine x_wwV (C := RX7) (n := 1) (ci := 7) hx hb hml hown hts hE (ct_X7_figureOf N l G cI cZ cO q (upd I 5 ((I 5) + 1)) A L 1022 z3.1 z3.2 hz3) (bg 10 7 rfl) mb_X7_figureOf.1 mb_X7_figureOf.2.1 mb_X7_figureOf.2.2.1 mb_X7_figureOf.2.2.2 hd_X7_figureOf rfl (by decide) hP hD hS hA rfl rfl rfl rfl rfl hl.1 (Nat.le_of_ble_eq_true rfl) ⟨Nat.zero_le _, Nat.zero_le _⟩ dX7_readPart_36 (fun H locs hP hD hS => ?_)
      have hP : va_P G vwCl (wX7 q cI cZ cO z3.2 A L) H := hP
      have hD : va_D Z (wX7 q cI cZ cO z3.2 A L) := hD
      obtain ⟨g4, hg4, hf⟩ := bnd hf
      refine x_iast hx hb hE.1 hP hD hS 7 0 rfl rfl hg4 dX7_readPart_39 (fun H locs hP hD hS => ?_)
      have hP : va_P G vwCl (wX7 q cI cZ cO z3.2 (va_up A 6 g4) L) H := hP
      have hD : va_D Z (wX7 q cI cZ cO z3.2 (va_up A 6 g4) L) := hD
      refine lv_aload_n hx hb dX7_readPart_40 rfl (lv_at hl 0 rfl) ?_
      refine va_get (D := G) (ci := 7) (v := .ref (q 8)) (C := RX7) (T := TX7) (N := 33) hx hb hts inlX7 hown hE.1 hP 0 rfl rfl 9 (by decide) (hts _ (bg 3 21 rfl)) (fun _ h9 => h9) rfl dX7_readPart_41 ?_
      refine lv_aload_n hx hb dX7_readPart_44 rfl (lv_at hl 0 rfl) ?_
      refine va_get (D := G) (ci := 7) (v := .int ((z3.2 2))) (C := RX7) (T := TX7) (N := 33) hx hb hts inlX7 hown hE.1 hP 0 rfl rfl 14 (by decide) (hts _ (bg 10 1 rfl)) (fun _ h9 => h9) rfl dX7_readPart_45 ?_
      refine lv_aload_n hx hb dX7_readPart_48 rfl (lv_at hl 0 rfl) ?_
      refine lv_iconst (v := 3) hx hb dX7_readPart_49 (by decide) ?_
      obtain ⟨z5, hz5, hf⟩ := bnd hf
      refine x_wwV (C := RX7) (n := 1) (ci := 7) hx hb hml hown hts hE (ct_X7_figureOf N l G cI cZ cO q z3.2 (va_up A 6 g4) L 3 z5.1 z5.2 hz5) (bg 10 7 rfl) mb_X7_figureOf.1 mb_X7_figureOf.2.1 mb_X7_figureOf.2.2.1 mb_X7_figureOf.2.2.2 hd_X7_figureOf rfl (by decide) hP hD hS hA rfl rfl rfl rfl rfl hl.1 (Nat.le_of_ble_eq_true rfl) ⟨Nat.zero_le _, Nat.zero_le _⟩ dX7_readPart_50 (fun H locs hP hD hS => ?_)
      have hP : va_P G vwCl (wX7 q cI cZ cO z5.2 (va_up A 6 g4) L) H := hP
      have hD : va_D Z (wX7 q cI cZ cO z5.2 (va_up A 6 g4) L) := hD
      obtain ⟨g6, hg6, hf⟩ := bnd hf
      refine x_iast hx hb hE.1 hP hD hS 8 0 rfl rfl hg6 dX7_readPart_53 (fun H locs hP hD hS => ?_)
      have hP : va_P G vwCl (wX7 q cI cZ cO z5.2 (va_up (va_up A 6 g4) 7 g6) L) H := hP
      have hD : va_D Z (wX7 q cI cZ cO z5.2 (va_up (va_up A 6 g4) 7 g6) L) := hD
      refine lv_aload_n hx hb dX7_readPart_54 rfl (lv_at hl 0 rfl) ?_
      refine va_get (D := G) (ci := 7) (v := .ref (q 9)) (C := RX7) (T := TX7) (N := 33) hx hb hts inlX7 hown hE.1 hP 0 rfl rfl 10 (by decide) (hts _ (bg 3 22 rfl)) (fun _ h9 => h9) rfl dX7_readPart_55 ?_
      refine lv_aload_n hx hb dX7_readPart_58 rfl (lv_at hl 0 rfl) ?_
      refine va_get (D := G) (ci := 7) (v := .int ((z5.2 2))) (C := RX7) (T := TX7) (N := 33) hx hb hts inlX7 hown hE.1 hP 0 rfl rfl 14 (by decide) (hts _ (bg 10 1 rfl)) (fun _ h9 => h9) rfl dX7_readPart_59 ?_
      refine lv_aload_n hx hb dX7_readPart_62 rfl (lv_at hl 0 rfl) ?_
      refine lv_sipush (v := 1023) hx hb dX7_readPart_63 (by decide) ?_
      obtain ⟨z7, hz7, hf⟩ := bnd hf
      refine x_wwV (C := RX7) (n := 1) (ci := 7) hx hb hml hown hts hE (ct_X7_figureOf N l G cI cZ cO q z5.2 (va_up (va_up A 6 g4) 7 g6) L 1023 z7.1 z7.2 hz7) (bg 10 7 rfl) mb_X7_figureOf.1 mb_X7_figureOf.2.1 mb_X7_figureOf.2.2.1 mb_X7_figureOf.2.2.2 hd_X7_figureOf rfl (by decide) hP hD hS hA rfl rfl rfl rfl rfl hl.1 (Nat.le_of_ble_eq_true rfl) ⟨Nat.zero_le _, Nat.zero_le _⟩ dX7_readPart_66 (fun H locs hP hD hS => ?_)
      have hP : va_P G vwCl (wX7 q cI cZ cO z7.2 (va_up (va_up A 6 g4) 7 g6) L) H := hP
      have hD : va_D Z (wX7 q cI cZ cO z7.2 (va_up (va_up A 6 g4) 7 g6) L) := hD
      obtain ⟨g8, hg8, hf⟩ := bnd hf
      refine x_iast hx hb hE.1 hP hD hS 9 0 rfl rfl hg8 dX7_readPart_69 (fun H locs hP hD hS => ?_)
      have hP : va_P G vwCl (wX7 q cI cZ cO z7.2 (va_up (va_up (va_up A 6 g4) 7 g6) 8 g8) L) H := hP
      have hD : va_D Z (wX7 q cI cZ cO z7.2 (va_up (va_up (va_up A 6 g4) 7 g6) 8 g8) L) := hD
      refine lv_aload_n hx hb dX7_readPart_70 rfl (lv_at hl 0 rfl) ?_
      refine lv_dup hx hb dX7_readPart_71 rfl ?_
      refine va_get (D := G) (ci := 7) (v := .int ((z7.2 2))) (C := RX7) (T := TX7) (N := 33) hx hb hts inlX7 hown hE.1 hP 0 rfl rfl 14 (by decide) (hts _ (bg 10 1 rfl)) (fun _ h9 => h9) rfl dX7_readPart_72 ?_
      refine lv_iconst (v := 1) hx hb dX7_readPart_75 (by decide) ?_
      refine lv_iadd hx hb dX7_readPart_76 ?_
      refine va_put (D := G) (ci := 7) (v := .int ((z7.2 2) + 1)) (ty := .int) (C := RX7) (T := TX7) (N := 33) hx hb hts inlX7 tyX7 tyX7_ok nmX7 hown hE.1 hP hD hS 0 rfl rfl 14 (by decide) (hts _ (bg 10 1 rfl)) (fun _ h9 => h9) rfl (by decide +kernel) rfl rfl (Nat.le_of_ble_eq_true rfl) dX7_readPart_77 (fun H locs hP hD hS => ?_)
      have hP : va_P G vwCl (wX7 q cI cZ cO (upd z7.2 2 ((z7.2 2) + 1)) (va_up (va_up (va_up A 6 g4) 7 g6) 8 g8) L) H := hP
      have hD : va_D Z (wX7 q cI cZ cO (upd z7.2 2 ((z7.2 2) + 1)) (va_up (va_up (va_up A 6 g4) 7 g6) 8 g8) L) := hD
      refine lv_goto (tgt := 297) hx hb dX7_readPart_80 (by decide) ?_
      exact b_297 (upd z7.2 2 ((z7.2 2) + 1)) (va_up (va_up (va_up A 6 g4) 7 g6) 8 g8) H locs hP hD hS ls (lv_sub hl [] rfl) hf
def fX7_readText_109 (N : Nat) (I : Nat → Int32) (A : Nat → Nat → Int32) : Option (Int32 × (Nat → Int32) × (Nat → Nat → Int32)) := some ((I 6), I, A)
def fX7_readText_73s (N : Nat) (k_73 : (Nat → Int32) → (Nat → Nat → Int32) → Option (Int32 × (Nat → Int32) × (Nat → Nat → Int32))) (I : Nat → Int32) (A : Nat → Nat → Int32) : Option (Int32 × (Nat → Int32) × (Nat → Nat → Int32)) := if (I 6) = (-9) then if (I 4) ≤ (I 5) then fX7_readText_109 N I A else (rd 48 (A 12) (I 5)).bind fun v3 => (fX7_readPart N I A v3).bind fun z4 => k_73 z4.1 z4.2 else fX7_readText_109 N I A
def fX7_readText_73 (N : Nat) : Nat → (Nat → Int32) → (Nat → Nat → Int32) → Option (Int32 × (Nat → Int32) × (Nat → Nat → Int32))
  | 0 => fun _ _ => none
  | n + 1 => fX7_readText_73s N (fX7_readText_73 N n)
def fX7_readText_66 (N : Nat) (I : Nat → Int32) (A : Nat → Nat → Int32) : Option (Int32 × (Nat → Int32) × (Nat → Nat → Int32)) := some (0, I, A)
def fX7_readText_23s (N : Nat) (k_23 : (Nat → Int32) → (Nat → Nat → Int32) → Int32 → Option (Int32 × (Nat → Int32) × (Nat → Nat → Int32))) (I : Nat → Int32) (A : Nat → Nat → Int32) (u1 : Int32) : Option (Int32 × (Nat → Int32) × (Nat → Nat → Int32)) := if 5 ≤ u1 then if (I 4) = 0 then fX7_readText_66 N I A else (rd 48 (A 12) 0).bind fun v3 => if v3 = 89 then fX7_readText_73 N N (upd I 5 1) A else fX7_readText_66 N I A else (wr 5 (A 9) u1 0).bind fun g5 => (wr 5 (A 10) u1 0).bind fun g6 => k_23 I (va_up (va_up A 9 g5) 10 g6) (u1 + 1)
def fX7_readText_23 (N : Nat) : Nat → (Nat → Int32) → (Nat → Nat → Int32) → Int32 → Option (Int32 × (Nat → Int32) × (Nat → Nat → Int32))
  | 0 => fun _ _ _ => none
  | n + 1 => fX7_readText_23s N (fX7_readText_23 N n)
def fX7_readText (N : Nat) (I : Nat → Int32) (A : Nat → Nat → Int32) : Option (Int32 × (Nat → Int32) × (Nat → Nat → Int32)) := fX7_readText_23 N N (upd (upd (upd (upd I 5 0) 6 (-9)) 2 0) 3 0) A 0
def rmX7_readText : Room := { frames := 4, cells := 0, slots := 0, locals := 89 }
theorem mb_X7_readText : Cond.instanceMethod yX7_readText ∈ wsL_law ∧ Cond.selects RX7 yX7_readText yX7_readText ∈ wsL_law ∧ Cond.initialized RX7 ∈ wsL_law ∧ Cond.code yX7_readText cX7_readText 2 (some .int) ∈ wsL_law := ⟨(bg 9 20 rfl), (bg 9 21 rfl), (bg 0 5 rfl), (bg 9 22 rfl)⟩
theorem hd_X7_readText : yX7_readText.cls = RX7 ∧ yX7_readText.cls ≠ "java/lang/invoke/MethodHandle" ∧ yX7_readText.cls ≠ "java/lang/invoke/VarHandle" ∧ (parseMethodDescriptor yX7_readText.desc).map (fun d => d.parameters.length) = some 0 := by decide +kernel
set_option maxRecDepth 100000 in
set_option maxHeartbeats 4000000 in
theorem ct_X7_readText (N : Nat) (l : Launch) (G : va_G) (cI cZ cO : ClassId) (q : Nat → Nat) (I : Nat → Int32) (A : Nat → Nat → Int32) (L : Int64) (r : Int32) (Iz : Nat → Int32) (Az : Nat → Nat → Int32) (hf : fX7_readText N I A = some (r, Iz, Az)) : CtI l yX7_readText cX7_readText 2 .int rmX7_readText G cI cZ cO [.ref (q 0)] (wX7 q cI cZ cO I A L) (wX7 q cI cZ cO Iz Az L) r := by
  refine mkCI (by decide) (Nat.le_of_ble_eq_true rfl) ?_
  intro p e s m below meth cd Q Z hC hP hE hD hA fin ls hl
  obtain ⟨hx, hb, hml, hown, hts⟩ := hC
  have hown : s.vm.findClass RX7 = some m.cls := hown
  have hl : lv_has ls 2 [(0, .ref (q 0))] := hl
  have b_109 : ∀ (I : Nat → Int32) (A : Nat → Nat → Int32), ∀ (H : Heap) (locs : List Loc), va_P G vwCl (wX7 q cI cZ cO I A L) H → va_D Z (wX7 q cI cZ cO I A L) → va_S Z s.heap H locs → ∀ ls : Array Slot, lv_has ls 2 [(0, .ref (q 0))] → fX7_readText_109 N I A = some (r, Iz, Az) → W p l e rmX7_readText s m [.ref (q 0)].toArray below meth cd H locs 0 0 Q (F0 m 109 ls []) := by
    intro I A H locs hP hD hS ls hl hf
    unfold fX7_readText_109 at hf
    refine lv_aload_n hx hb dX7_readText_109 rfl (lv_at hl 0 rfl) ?_
    refine va_get (D := G) (ci := 7) (v := .int ((I 6))) (C := RX7) (T := TX7) (N := 33) hx hb hts inlX7 hown hE.1 hP 0 rfl rfl 19 (by decide) (hts _ (bg 10 0 rfl)) (fun _ h9 => h9) rfl dX7_readText_110 ?_
    have e9 := Option.some.inj hf
    exact fin H locs 113 ls _ (Prod.mk.inj e9).1 (nar_i _) (by rw [← (Prod.mk.inj (Prod.mk.inj e9).2).1, ← (Prod.mk.inj (Prod.mk.inj e9).2).2]; exact hP) hS dX7_readText_113
  have b_73 : ∀ n : Nat, ∀ (I : Nat → Int32) (A : Nat → Nat → Int32), ∀ (H : Heap) (locs : List Loc), va_P G vwCl (wX7 q cI cZ cO I A L) H → va_D Z (wX7 q cI cZ cO I A L) → va_S Z s.heap H locs → ∀ ls : Array Slot, lv_has ls 2 [(0, .ref (q 0))] → fX7_readText_73 N n I A = some (r, Iz, Az) → W p l e rmX7_readText s m [.ref (q 0)].toArray below meth cd H locs 0 0 Q (F0 m 73 ls []) := by
    intro n
    induction n with
    | zero =>
      intro I A H locs hP hD hS ls hl hf
      cases hf
    | succ n hk_73 =>
      intro I A H locs hP hD hS ls hl hf
      replace hf : fX7_readText_73s N (fX7_readText_73 N n) I A = some (r, Iz, Az) := hf
      generalize fX7_readText_73 N n = k_73 at hf hk_73
      unfold fX7_readText_73s at hf
      refine lv_aload_n hx hb dX7_readText_73 rfl (lv_at hl 0 rfl) ?_
      refine va_get (D := G) (ci := 7) (v := .int ((I 6))) (C := RX7) (T := TX7) (N := 33) hx hb hts inlX7 hown hE.1 hP 0 rfl rfl 19 (by decide) (hts _ (bg 10 0 rfl)) (fun _ h9 => h9) rfl dX7_readText_74 ?_
      refine lv_bipush (v := (-9)) hx hb dX7_readText_77 (by decide) ?_
      refine lv_icmp_ne (tgt := 109) hx hb dX7_readText_79 (by decide) (fun c1 => ?_) (fun c1 => ?_)
      · rw [if_neg c1] at hf
        exact b_109 I A H locs hP hD hS ls (lv_sub hl [0] rfl) hf
      · rw [if_pos c1] at hf
        refine lv_aload_n hx hb dX7_readText_82 rfl (lv_at hl 0 rfl) ?_
        refine va_get (D := G) (ci := 7) (v := .int ((I 5))) (C := RX7) (T := TX7) (N := 33) hx hb hts inlX7 hown hE.1 hP 0 rfl rfl 18 (by decide) (hts _ (bg 9 23 rfl)) (fun _ h9 => h9) rfl dX7_readText_83 ?_
        refine lv_aload_n hx hb dX7_readText_86 rfl (lv_at hl 0 rfl) ?_
        refine va_get (D := G) (ci := 7) (v := .int ((I 4))) (C := RX7) (T := TX7) (N := 33) hx hb hts inlX7 hown hE.1 hP 0 rfl rfl 17 (by decide) (hts _ (bg 5 8 rfl)) (fun _ h9 => h9) rfl dX7_readText_87 ?_
        refine lv_icmp_ge (tgt := 109) hx hb dX7_readText_90 (by decide) (fun c2 => ?_) (fun c2 => ?_)
        · rw [if_pos c2] at hf
          exact b_109 I A H locs hP hD hS ls (lv_sub hl [0] rfl) hf
        · rw [if_neg c2] at hf
          refine lv_aload_n hx hb dX7_readText_93 rfl (lv_at hl 0 rfl) ?_
          refine lv_aload_n hx hb dX7_readText_94 rfl (lv_at hl 0 rfl) ?_
          refine va_get (D := G) (ci := 7) (v := .ref (q 13)) (C := RX7) (T := TX7) (N := 33) hx hb hts inlX7 hown hE.1 hP 0 rfl rfl 16 (by decide) (hts _ (bg 4 2 rfl)) (fun _ h9 => h9) rfl dX7_readText_95 ?_
          refine lv_aload_n hx hb dX7_readText_98 rfl (lv_at hl 0 rfl) ?_
          refine va_get (D := G) (ci := 7) (v := .int ((I 5))) (C := RX7) (T := TX7) (N := 33) hx hb hts inlX7 hown hE.1 hP 0 rfl rfl 18 (by decide) (hts _ (bg 9 23 rfl)) (fun _ h9 => h9) rfl dX7_readText_99 ?_
          obtain ⟨v3, hv3, hf⟩ := bnd hf
          refine x_iald hx hb hE.1 hP 13 0 rfl rfl hv3 dX7_readText_102 ?_
          obtain ⟨z4, hz4, hf⟩ := bnd hf
          refine x_wwVv (C := RX7) (n := 1) (ci := 7) hx hb hml hown hts hE (ct_X7_readPart N l G cI cZ cO q I A L v3 z4.1 z4.2 hz4) (bg 10 3 rfl) mb_X7_readPart.1 mb_X7_readPart.2.1 mb_X7_readPart.2.2.1 mb_X7_readPart.2.2.2 hd_X7_readPart rfl (by decide) hP hD hS hA rfl rfl rfl rfl rfl hl.1 (Nat.le_of_ble_eq_true rfl) ⟨Nat.zero_le _, Nat.zero_le _⟩ dX7_readText_103 (fun H locs hP hD hS => ?_)
          have hP : va_P G vwCl (wX7 q cI cZ cO z4.1 z4.2 L) H := hP
          have hD : va_D Z (wX7 q cI cZ cO z4.1 z4.2 L) := hD
          refine lv_goto (tgt := 73) hx hb dX7_readText_106 (by decide) ?_
          exact hk_73 z4.1 z4.2 H locs hP hD hS ls (lv_sub hl [0] rfl) hf
  have b_66 : ∀ (I : Nat → Int32) (A : Nat → Nat → Int32), ∀ (H : Heap) (locs : List Loc), va_P G vwCl (wX7 q cI cZ cO I A L) H → va_D Z (wX7 q cI cZ cO I A L) → va_S Z s.heap H locs → ∀ ls : Array Slot, lv_has ls 2 [] → fX7_readText_66 N I A = some (r, Iz, Az) → W p l e rmX7_readText s m [.ref (q 0)].toArray below meth cd H locs 0 0 Q (F0 m 66 ls []) := by
    intro I A H locs hP hD hS ls hl hf
    unfold fX7_readText_66 at hf
    refine lv_iconst (v := 0) hx hb dX7_readText_66 (by decide) ?_
    have e9 := Option.some.inj hf
    exact fin H locs 67 ls _ (Prod.mk.inj e9).1 (nar_i _) (by rw [← (Prod.mk.inj (Prod.mk.inj e9).2).1, ← (Prod.mk.inj (Prod.mk.inj e9).2).2]; exact hP) hS dX7_readText_67
  have b_23 : ∀ n : Nat, ∀ (I : Nat → Int32) (A : Nat → Nat → Int32) (u1 : Int32), ∀ (H : Heap) (locs : List Loc), va_P G vwCl (wX7 q cI cZ cO I A L) H → va_D Z (wX7 q cI cZ cO I A L) → va_S Z s.heap H locs → ∀ ls : Array Slot, lv_has ls 2 [(0, .ref (q 0)), (1, .int u1)] → fX7_readText_23 N n I A u1 = some (r, Iz, Az) → W p l e rmX7_readText s m [.ref (q 0)].toArray below meth cd H locs 0 0 Q (F0 m 23 ls []) := by
    intro n
    induction n with
    | zero =>
      intro I A u1 H locs hP hD hS ls hl hf
      cases hf
    | succ n hk_23 =>
      intro I A u1 H locs hP hD hS ls hl hf
      replace hf : fX7_readText_23s N (fX7_readText_23 N n) I A u1 = some (r, Iz, Az) := hf
      generalize fX7_readText_23 N n = k_23 at hf hk_23
      unfold fX7_readText_23s at hf
      refine lv_iload_n hx hb dX7_readText_23 rfl (lv_at hl 1 rfl) ?_
      refine lv_iconst (v := 5) hx hb dX7_readText_24 (by decide) ?_
      refine lv_icmp_ge (tgt := 48) hx hb dX7_readText_25 (by decide) (fun c1 => ?_) (fun c1 => ?_)
      · rw [if_pos c1] at hf
        refine lv_aload_n hx hb dX7_readText_48 rfl (lv_at hl 0 rfl) ?_
        refine va_get (D := G) (ci := 7) (v := .int ((I 4))) (C := RX7) (T := TX7) (N := 33) hx hb hts inlX7 hown hE.1 hP 0 rfl rfl 17 (by decide) (hts _ (bg 5 8 rfl)) (fun _ h9 => h9) rfl dX7_readText_49 ?_
        refine lv_if_eq (tgt := 66) hx hb dX7_readText_52 (by decide) (fun c2 => ?_) (fun c2 => ?_)
        · rw [if_pos c2] at hf
          exact b_66 I A H locs hP hD hS ls (lv_sub hl [] rfl) hf
        · rw [if_neg c2] at hf
          refine lv_aload_n hx hb dX7_readText_55 rfl (lv_at hl 0 rfl) ?_
          refine va_get (D := G) (ci := 7) (v := .ref (q 13)) (C := RX7) (T := TX7) (N := 33) hx hb hts inlX7 hown hE.1 hP 0 rfl rfl 16 (by decide) (hts _ (bg 4 2 rfl)) (fun _ h9 => h9) rfl dX7_readText_56 ?_
          refine lv_iconst (v := 0) hx hb dX7_readText_59 (by decide) ?_
          obtain ⟨v3, hv3, hf⟩ := bnd hf
          refine x_iald hx hb hE.1 hP 13 0 rfl rfl hv3 dX7_readText_60 ?_
          refine lv_bipush (v := 89) hx hb dX7_readText_61 (by decide) ?_
          refine lv_icmp_eq (tgt := 68) hx hb dX7_readText_63 (by decide) (fun c4 => ?_) (fun c4 => ?_)
          · rw [if_pos c4] at hf
            refine lv_aload_n hx hb dX7_readText_68 rfl (lv_at hl 0 rfl) ?_
            refine lv_iconst (v := 1) hx hb dX7_readText_69 (by decide) ?_
            refine va_put (D := G) (ci := 7) (v := .int 1) (ty := .int) (C := RX7) (T := TX7) (N := 33) hx hb hts inlX7 tyX7 tyX7_ok nmX7 hown hE.1 hP hD hS 0 rfl rfl 18 (by decide) (hts _ (bg 9 23 rfl)) (fun _ h9 => h9) rfl (by decide +kernel) rfl rfl (Nat.le_of_ble_eq_true rfl) dX7_readText_70 (fun H locs hP hD hS => ?_)
            have hP : va_P G vwCl (wX7 q cI cZ cO (upd I 5 1) A L) H := hP
            have hD : va_D Z (wX7 q cI cZ cO (upd I 5 1) A L) := hD
            exact b_73 N (upd I 5 1) A H locs hP hD hS ls (lv_sub hl [0] rfl) hf
          · rw [if_neg c4] at hf
            exact b_66 I A H locs hP hD hS ls (lv_sub hl [] rfl) hf
      · rw [if_neg c1] at hf
        refine lv_aload_n hx hb dX7_readText_28 rfl (lv_at hl 0 rfl) ?_
        refine va_get (D := G) (ci := 7) (v := .ref (q 10)) (C := RX7) (T := TX7) (N := 33) hx hb hts inlX7 hown hE.1 hP 0 rfl rfl 11 (by decide) (hts _ (bg 3 23 rfl)) (fun _ h9 => h9) rfl dX7_readText_29 ?_
        refine lv_iload_n hx hb dX7_readText_32 rfl (lv_at hl 1 rfl) ?_
        refine lv_iconst (v := 0) hx hb dX7_readText_33 (by decide) ?_
        obtain ⟨g5, hg5, hf⟩ := bnd hf
        refine x_iast hx hb hE.1 hP hD hS 10 0 rfl rfl hg5 dX7_readText_34 (fun H locs hP hD hS => ?_)
        have hP : va_P G vwCl (wX7 q cI cZ cO I (va_up A 9 g5) L) H := hP
        have hD : va_D Z (wX7 q cI cZ cO I (va_up A 9 g5) L) := hD
        refine lv_aload_n hx hb dX7_readText_35 rfl (lv_at hl 0 rfl) ?_
        refine va_get (D := G) (ci := 7) (v := .ref (q 11)) (C := RX7) (T := TX7) (N := 33) hx hb hts inlX7 hown hE.1 hP 0 rfl rfl 12 (by decide) (hts _ (bg 4 0 rfl)) (fun _ h9 => h9) rfl dX7_readText_36 ?_
        refine lv_iload_n hx hb dX7_readText_39 rfl (lv_at hl 1 rfl) ?_
        refine lv_iconst (v := 0) hx hb dX7_readText_40 (by decide) ?_
        obtain ⟨g6, hg6, hf⟩ := bnd hf
        refine x_iast hx hb hE.1 hP hD hS 11 0 rfl rfl hg6 dX7_readText_41 (fun H locs hP hD hS => ?_)
        have hP : va_P G vwCl (wX7 q cI cZ cO I (va_up (va_up A 9 g5) 10 g6) L) H := hP
        have hD : va_D Z (wX7 q cI cZ cO I (va_up (va_up A 9 g5) 10 g6) L) := hD
        refine lv_iinc (v := u1 + 1) (lv' := [(1, .int (u1 + 1)), (0, .ref (q 0))]) hx hb dX7_readText_42 hl (k := 1) rfl rfl (by decide) rfl (fun ls hl => ?_)
        refine lv_goto (tgt := 23) hx hb dX7_readText_45 (by decide) ?_
        exact hk_23 I (va_up (va_up A 9 g5) 10 g6) (u1 + 1) H locs hP hD hS ls (lv_sub hl [1, 0] rfl) hf
  unfold fX7_readText at hf
  have hS : va_S Z s.heap s.heap [] := va_S.rf
  obtain ⟨H, hH⟩ : ∃ H, H = s.heap := ⟨_, rfl⟩
  obtain ⟨locs, hlocs⟩ : ∃ locs : List Loc, locs = [] := ⟨_, rfl⟩
  rw [← hlocs]
  rw [← hlocs] at hS
  suffices hW : ∀ H : Heap, va_P G vwCl (wX7 q cI cZ cO I A L) H → va_S Z s.heap H locs → W p l e rmX7_readText s m [.ref (q 0)].toArray below meth cd H locs 0 0 Q (F0 m 0 ls []) from hW s.heap hP hS
  clear hP hS hH H
  intro H hP hS
  refine lv_aload_n hx hb dX7_readText_0 rfl (lv_at hl 0 rfl) ?_
  refine lv_iconst (v := 0) hx hb dX7_readText_1 (by decide) ?_
  refine va_put (D := G) (ci := 7) (v := .int 0) (ty := .int) (C := RX7) (T := TX7) (N := 33) hx hb hts inlX7 tyX7 tyX7_ok nmX7 hown hE.1 hP hD hS 0 rfl rfl 18 (by decide) (hts _ (bg 9 23 rfl)) (fun _ h9 => h9) rfl (by decide +kernel) rfl rfl (Nat.le_of_ble_eq_true rfl) dX7_readText_2 (fun H locs hP hD hS => ?_)
  have hP : va_P G vwCl (wX7 q cI cZ cO (upd I 5 0) A L) H := hP
  have hD : va_D Z (wX7 q cI cZ cO (upd I 5 0) A L) := hD
  refine lv_aload_n hx hb dX7_readText_5 rfl (lv_at hl 0 rfl) ?_
  refine lv_bipush (v := (-9)) hx hb dX7_readText_6 (by decide) ?_
  refine va_put (D := G) (ci := 7) (v := .int (-9)) (ty := .int) (C := RX7) (T := TX7) (N := 33) hx hb hts inlX7 tyX7 tyX7_ok nmX7 hown hE.1 hP hD hS 0 rfl rfl 19 (by decide) (hts _ (bg 10 0 rfl)) (fun _ h9 => h9) rfl (by decide +kernel) rfl rfl (Nat.le_of_ble_eq_true rfl) dX7_readText_8 (fun H locs hP hD hS => ?_)
  have hP : va_P G vwCl (wX7 q cI cZ cO (upd (upd I 5 0) 6 (-9)) A L) H := hP
  have hD : va_D Z (wX7 q cI cZ cO (upd (upd I 5 0) 6 (-9)) A L) := hD
  refine lv_aload_n hx hb dX7_readText_11 rfl (lv_at hl 0 rfl) ?_
  refine lv_iconst (v := 0) hx hb dX7_readText_12 (by decide) ?_
  refine va_put (D := G) (ci := 7) (v := .int 0) (ty := .int) (C := RX7) (T := TX7) (N := 33) hx hb hts inlX7 tyX7 tyX7_ok nmX7 hown hE.1 hP hD hS 0 rfl rfl 14 (by decide) (hts _ (bg 10 1 rfl)) (fun _ h9 => h9) rfl (by decide +kernel) rfl rfl (Nat.le_of_ble_eq_true rfl) dX7_readText_13 (fun H locs hP hD hS => ?_)
  have hP : va_P G vwCl (wX7 q cI cZ cO (upd (upd (upd I 5 0) 6 (-9)) 2 0) A L) H := hP
  have hD : va_D Z (wX7 q cI cZ cO (upd (upd (upd I 5 0) 6 (-9)) 2 0) A L) := hD
  refine lv_aload_n hx hb dX7_readText_16 rfl (lv_at hl 0 rfl) ?_
  refine lv_iconst (v := 0) hx hb dX7_readText_17 (by decide) ?_
  refine va_put (D := G) (ci := 7) (v := .int 0) (ty := .int) (C := RX7) (T := TX7) (N := 33) hx hb hts inlX7 tyX7 tyX7_ok nmX7 hown hE.1 hP hD hS 0 rfl rfl 15 (by decide) (hts _ (bg 10 2 rfl)) (fun _ h9 => h9) rfl (by decide +kernel) rfl rfl (Nat.le_of_ble_eq_true rfl) dX7_readText_18 (fun H locs hP hD hS => ?_)
  have hP : va_P G vwCl (wX7 q cI cZ cO (upd (upd (upd (upd I 5 0) 6 (-9)) 2 0) 3 0) A L) H := hP
  have hD : va_D Z (wX7 q cI cZ cO (upd (upd (upd (upd I 5 0) 6 (-9)) 2 0) 3 0) A L) := hD
  refine lv_iconst (v := 0) hx hb dX7_readText_21 (by decide) ?_
  refine lv_istore_n (lv' := [(1, .int 0), (0, .ref (q 0))]) hx hb dX7_readText_22 rfl hl (by decide) rfl (fun ls hl => ?_)
  exact b_23 N (upd (upd (upd (upd I 5 0) 6 (-9)) 2 0) 3 0) A 0 H locs hP hD hS ls (lv_sub hl [1, 0] rfl) hf
