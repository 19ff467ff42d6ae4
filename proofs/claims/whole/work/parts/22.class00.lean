def fX6_isOutside_15 (N : Nat) (y0 : Int32) : Option (Int32) := (bz y0).bind fun v1 => some v1
def fX6_isOutside_10 (N : Nat) : Option (Int32) := fX6_isOutside_15 N 1
def fX6_isOutside (N : Nat) (x0 : Int32) (x1 : Int32) (x2 : Int32) : Option (Int32) := if x0 < x1 then fX6_isOutside_10 N else if x0 ≤ x2 then fX6_isOutside_15 N 0 else fX6_isOutside_10 N
def rmX6_isOutside : Room := { frames := 0, cells := 0, slots := 0, locals := 0 }
theorem mb_X6_isOutside : Cond.static yX6_isOutside ∈ wsL_law ∧ Cond.initialized yX6_isOutside.cls ∈ wsL_law ∧ Cond.code yX6_isOutside cX6_isOutside 3 (some .boolean) ∈ wsL_law := ⟨(bg 4 18 rfl), (bg 0 2 rfl), (bg 4 19 rfl)⟩
theorem hd_X6_isOutside : yX6_isOutside.cls ≠ "java/lang/invoke/MethodHandle" ∧ yX6_isOutside.cls ≠ "java/lang/invoke/VarHandle" ∧ (parseMethodDescriptor yX6_isOutside.desc).map (fun d => d.parameters.length) = some 3 := by decide +kernel
set_option maxRecDepth 100000 in
set_option maxHeartbeats 4000000 in
theorem ct_X6_isOutside (N : Nat) (l : Launch) (G : va_G) (cI cZ cO : ClassId) (x0 : Int32) (x1 : Int32) (x2 : Int32) (r : Int32) (hf : fX6_isOutside N x0 x1 x2 = some r) : RtI l yX6_isOutside cX6_isOutside 3 .boolean rmX6_isOutside G cI cZ cO [.int x0, .int x1, .int x2] [] r := by
  refine mkRI (by decide) (Nat.le_of_ble_eq_true rfl) ?_
  intro p e s m below meth cd Q hC hP hE fin ls hl
  obtain ⟨hx, hb, hml, hown, hts⟩ := hC
  have hown : s.vm.findClass RX6 = some m.cls := hown
  have hl : lv_has ls 3 [(0, .int x0), (1, .int x1), (2, .int x2)] := hl
  have b_15 : ∀ (y0 : Int32), ∀ ls : Array Slot, lv_has ls 3 [] → fX6_isOutside_15 N y0 = some r → W p l e rmX6_isOutside s m [.int x0, .int x1, .int x2].toArray below meth cd s.heap [] 0 0 Q (F0 m 15 ls [.int y0]) := by
    intro y0 ls hl hf
    unfold fX6_isOutside_15 at hf
    obtain ⟨v1, hv1, hf⟩ := bnd hf
    obtain ⟨ev1, hv1⟩ := bz_in hv1
    rw [ev1]
    have e9 := Option.some.inj hf
    exact fin 15 ls _ e9 (nar_z (by rw [← e9]; exact hv1)) dX6_isOutside_15
  have b_10 : ∀ ls : Array Slot, lv_has ls 3 [] → fX6_isOutside_10 N = some r → W p l e rmX6_isOutside s m [.int x0, .int x1, .int x2].toArray below meth cd s.heap [] 0 0 Q (F0 m 10 ls []) := by
    intro ls hl hf
    unfold fX6_isOutside_10 at hf
    refine lv_iconst (v := 1) hx hb dX6_isOutside_10 (by decide) ?_
    refine lv_goto (tgt := 15) hx hb dX6_isOutside_11 (by decide) ?_
    exact b_15 1 ls (lv_sub hl [] rfl) hf
  unfold fX6_isOutside at hf
  refine lv_iload_n hx hb dX6_isOutside_0 rfl (lv_at hl 0 rfl) ?_
  refine lv_iload_n hx hb dX6_isOutside_1 rfl (lv_at hl 1 rfl) ?_
  refine lv_icmp_lt (tgt := 10) hx hb dX6_isOutside_2 (by decide) (fun c1 => ?_) (fun c1 => ?_)
  · rw [if_pos c1] at hf
    exact b_10 ls (lv_sub hl [] rfl) hf
  · rw [if_neg c1] at hf
    refine lv_iload_n hx hb dX6_isOutside_5 rfl (lv_at hl 0 rfl) ?_
    refine lv_iload_n hx hb dX6_isOutside_6 rfl (lv_at hl 2 rfl) ?_
    refine lv_icmp_le (tgt := 14) hx hb dX6_isOutside_7 (by decide) (fun c2 => ?_) (fun c2 => ?_)
    · rw [if_pos c2] at hf
      refine lv_iconst (v := 0) hx hb dX6_isOutside_14 (by decide) ?_
      exact b_15 0 ls (lv_sub hl [] rfl) hf
    · rw [if_neg c2] at hf
      exact b_10 ls (lv_sub hl [] rfl) hf
def fX6_isIndex_14 (N : Nat) (y0 : Int32) : Option (Int32) := (bz y0).bind fun v1 => some v1
def fX6_isIndex_13 (N : Nat) : Option (Int32) := fX6_isIndex_14 N 0
def fX6_isIndex (N : Nat) (x0 : Int32) (x1 : Int32) : Option (Int32) := if x0 < 0 then fX6_isIndex_13 N else if x1 ≤ x0 then fX6_isIndex_13 N else fX6_isIndex_14 N 1
def rmX6_isIndex : Room := { frames := 0, cells := 0, slots := 0, locals := 0 }
theorem mb_X6_isIndex : Cond.static yX6_isIndex ∈ wsL_law ∧ Cond.initialized yX6_isIndex.cls ∈ wsL_law ∧ Cond.code yX6_isIndex cX6_isIndex 2 (some .boolean) ∈ wsL_law := ⟨(bg 5 1 rfl), (bg 0 2 rfl), (bg 5 2 rfl)⟩
theorem hd_X6_isIndex : yX6_isIndex.cls ≠ "java/lang/invoke/MethodHandle" ∧ yX6_isIndex.cls ≠ "java/lang/invoke/VarHandle" ∧ (parseMethodDescriptor yX6_isIndex.desc).map (fun d => d.parameters.length) = some 2 := by decide +kernel
set_option maxRecDepth 100000 in
set_option maxHeartbeats 4000000 in
theorem ct_X6_isIndex (N : Nat) (l : Launch) (G : va_G) (cI cZ cO : ClassId) (x0 : Int32) (x1 : Int32) (r : Int32) (hf : fX6_isIndex N x0 x1 = some r) : RtI l yX6_isIndex cX6_isIndex 2 .boolean rmX6_isIndex G cI cZ cO [.int x0, .int x1] [] r := by
  refine mkRI (by decide) (Nat.le_of_ble_eq_true rfl) ?_
  intro p e s m below meth cd Q hC hP hE fin ls hl
  obtain ⟨hx, hb, hml, hown, hts⟩ := hC
  have hown : s.vm.findClass RX6 = some m.cls := hown
  have hl : lv_has ls 2 [(0, .int x0), (1, .int x1)] := hl
  have b_14 : ∀ (y0 : Int32), ∀ ls : Array Slot, lv_has ls 2 [] → fX6_isIndex_14 N y0 = some r → W p l e rmX6_isIndex s m [.int x0, .int x1].toArray below meth cd s.heap [] 0 0 Q (F0 m 14 ls [.int y0]) := by
    intro y0 ls hl hf
    unfold fX6_isIndex_14 at hf
    obtain ⟨v1, hv1, hf⟩ := bnd hf
    obtain ⟨ev1, hv1⟩ := bz_in hv1
    rw [ev1]
    have e9 := Option.some.inj hf
    exact fin 14 ls _ e9 (nar_z (by rw [← e9]; exact hv1)) dX6_isIndex_14
  have b_13 : ∀ ls : Array Slot, lv_has ls 2 [] → fX6_isIndex_13 N = some r → W p l e rmX6_isIndex s m [.int x0, .int x1].toArray below meth cd s.heap [] 0 0 Q (F0 m 13 ls []) := by
    intro ls hl hf
    unfold fX6_isIndex_13 at hf
    refine lv_iconst (v := 0) hx hb dX6_isIndex_13 (by decide) ?_
    exact b_14 0 ls (lv_sub hl [] rfl) hf
  unfold fX6_isIndex at hf
  refine lv_iload_n hx hb dX6_isIndex_0 rfl (lv_at hl 0 rfl) ?_
  refine lv_if_lt (tgt := 13) hx hb dX6_isIndex_1 (by decide) (fun c1 => ?_) (fun c1 => ?_)
  · rw [if_pos c1] at hf
    exact b_13 ls (lv_sub hl [] rfl) hf
  · rw [if_neg c1] at hf
    refine lv_iload_n hx hb dX6_isIndex_4 rfl (lv_at hl 0 rfl) ?_
    refine lv_iload_n hx hb dX6_isIndex_5 rfl (lv_at hl 1 rfl) ?_
    refine lv_icmp_ge (tgt := 13) hx hb dX6_isIndex_6 (by decide) (fun c2 => ?_) (fun c2 => ?_)
    · rw [if_pos c2] at hf
      exact b_13 ls (lv_sub hl [] rfl) hf
    · rw [if_neg c2] at hf
      refine lv_iconst (v := 1) hx hb dX6_isIndex_9 (by decide) ?_
      refine lv_goto (tgt := 14) hx hb dX6_isIndex_10 (by decide) ?_
      exact b_14 1 ls (lv_sub hl [] rfl) hf
def fX3_append (N : Nat) (I : Nat → Int32) (A : Nat → Nat → Int32) (x1 : Int32) : Option (Int32 × (Nat → Int32) × (Nat → Nat → Int32)) := (fX6_isIndex N (I 4) 48).bind fun z1 => if z1 = 0 then some ((-4), I, A) else (wr 48 (A 0) (I 4) x1).bind fun g3 => some ((I 4) + 1, upd I 4 ((I 4) + 1), va_up A 0 g3)
def rmX3_append : Room := { frames := 1, cells := 0, slots := 0, locals := 21 }
theorem mb_X3_append : Cond.instanceMethod yX3_append ∈ wsL_law ∧ Cond.selects RX3 yX3_append yX3_append ∈ wsL_law ∧ Cond.initialized RX3 ∈ wsL_law ∧ Cond.code yX3_append cX3_append 2 (some .int) ∈ wsL_law := ⟨(bg 4 21 rfl), (bg 4 22 rfl), (bg 0 15 rfl), (bg 4 23 rfl)⟩
theorem hd_X3_append : yX3_append.cls = RX3 ∧ yX3_append.cls ≠ "java/lang/invoke/MethodHandle" ∧ yX3_append.cls ≠ "java/lang/invoke/VarHandle" ∧ (parseMethodDescriptor yX3_append.desc).map (fun d => d.parameters.length) = some 1 := by decide +kernel
set_option maxRecDepth 100000 in
set_option maxHeartbeats 4000000 in
theorem ct_X3_append (N : Nat) (l : Launch) (G : va_G) (cI cZ cO : ClassId) (q : Nat → Nat) (I : Nat → Int32) (A : Nat → Nat → Int32) (x1 : Int32) (r : Int32) (Iz : Nat → Int32) (Az : Nat → Nat → Int32) (hf : fX3_append N I A x1 = some (r, Iz, Az)) : CtI l yX3_append cX3_append 2 .int rmX3_append G cI cZ cO [.ref (q 0), .int x1] (wX3 q cI cZ cO I A) (wX3 q cI cZ cO Iz Az) r := by
  refine mkCI (by decide) (Nat.le_of_ble_eq_true rfl) ?_
  intro p e s m below meth cd Q Z hC hP hE hD hA fin ls hl
  obtain ⟨hx, hb, hml, hown, hts⟩ := hC
  have hown : s.vm.findClass RX3 = some m.cls := hown
  have hl : lv_has ls 2 [(0, .ref (q 0)), (1, .int x1)] := hl
  unfold fX3_append at hf
  have hS : va_S Z s.heap s.heap [] := va_S.rf
  obtain ⟨H, hH⟩ : ∃ H, H = s.heap := ⟨_, rfl⟩
  obtain ⟨locs, hlocs⟩ : ∃ locs : List Loc, locs = [] := ⟨_, rfl⟩
  rw [← hlocs]
  rw [← hlocs] at hS
  suffices hW : ∀ H : Heap, va_P G vwCl (wX3 q cI cZ cO I A) H → va_S Z s.heap H locs → W p l e rmX3_append s m [.ref (q 0), .int x1].toArray below meth cd H locs 0 0 Q (F0 m 0 ls []) from hW s.heap hP hS
  clear hP hS hH H
  intro H hP hS
  refine lv_aload_n hx hb dX3_append_0 rfl (lv_at hl 0 rfl) ?_
  refine va_get (D := G) (ci := 3) (v := .int ((I 4))) (C := RX3) (T := TX3) (N := 6) hx hb hts inlX3 hown hE.1 hP 0 rfl rfl 5 (by decide) (hts _ (bg 5 0 rfl)) (fun _ h9 => h9) rfl dX3_append_1 ?_
  refine lv_bipush (v := 48) hx hb dX3_append_4 (by decide) ?_
  obtain ⟨z1, hz1, hf⟩ := bnd hf
  refine x_rdN (n := 2) hx hb hml hown hts hE (ct_X6_isIndex N l G cI cZ cO (I 4) 48 z1 hz1) (List.mem_of_getElem? (i := 6) rfl) mb_X6_isIndex.1 mb_X6_isIndex.2.1 mb_X6_isIndex.2.2 hd_X6_isIndex rfl (by decide) va_P_nil rfl hl.1 (Nat.le_of_ble_eq_true rfl) ⟨Nat.zero_le _, Nat.zero_le _⟩ dX3_append_6 ?_
  refine lv_if_ne (tgt := 15) hx hb dX3_append_9 (by decide) (fun c2 => ?_) (fun c2 => ?_)
  · rw [if_neg c2] at hf
    refine lv_aload_n hx hb dX3_append_15 rfl (lv_at hl 0 rfl) ?_
    refine va_get (D := G) (ci := 3) (v := .ref (q 1)) (C := RX3) (T := TX3) (N := 6) hx hb hts inlX3 hown hE.1 hP 0 rfl rfl 0 (by decide) (hts _ (bg 2 2 rfl)) (fun _ h9 => h9) rfl dX3_append_16 ?_
    refine lv_aload_n hx hb dX3_append_19 rfl (lv_at hl 0 rfl) ?_
    refine va_get (D := G) (ci := 3) (v := .int ((I 4))) (C := RX3) (T := TX3) (N := 6) hx hb hts inlX3 hown hE.1 hP 0 rfl rfl 5 (by decide) (hts _ (bg 5 0 rfl)) (fun _ h9 => h9) rfl dX3_append_20 ?_
    refine lv_iload_n hx hb dX3_append_23 rfl (lv_at hl 1 rfl) ?_
    obtain ⟨g3, hg3, hf⟩ := bnd hf
    refine x_iast hx hb hE.1 hP hD hS 1 0 rfl rfl hg3 dX3_append_24 (fun H locs hP hD hS => ?_)
    have hP : va_P G vwCl (wX3 q cI cZ cO I (va_up A 0 g3)) H := hP
    have hD : va_D Z (wX3 q cI cZ cO I (va_up A 0 g3)) := hD
    refine lv_aload_n hx hb dX3_append_25 rfl (lv_at hl 0 rfl) ?_
    refine lv_dup hx hb dX3_append_26 rfl ?_
    refine va_get (D := G) (ci := 3) (v := .int ((I 4))) (C := RX3) (T := TX3) (N := 6) hx hb hts inlX3 hown hE.1 hP 0 rfl rfl 5 (by decide) (hts _ (bg 5 0 rfl)) (fun _ h9 => h9) rfl dX3_append_27 ?_
    refine lv_iconst (v := 1) hx hb dX3_append_30 (by decide) ?_
    refine lv_iadd hx hb dX3_append_31 ?_
    refine va_put (D := G) (ci := 3) (v := .int ((I 4) + 1)) (ty := .int) (C := RX3) (T := TX3) (N := 6) hx hb hts inlX3 tyX3 tyX3_ok nmX3 hown hE.1 hP hD hS 0 rfl rfl 5 (by decide) (hts _ (bg 5 0 rfl)) (fun _ h9 => h9) rfl (by decide +kernel) rfl rfl (Nat.le_of_ble_eq_true rfl) dX3_append_32 (fun H locs hP hD hS => ?_)
    have hP : va_P G vwCl (wX3 q cI cZ cO (upd I 4 ((I 4) + 1)) (va_up A 0 g3)) H := hP
    have hD : va_D Z (wX3 q cI cZ cO (upd I 4 ((I 4) + 1)) (va_up A 0 g3)) := hD
    refine lv_aload_n hx hb dX3_append_35 rfl (lv_at hl 0 rfl) ?_
    refine va_get (D := G) (ci := 3) (v := .int ((I 4) + 1)) (C := RX3) (T := TX3) (N := 6) hx hb hts inlX3 hown hE.1 hP 0 rfl rfl 5 (by decide) (hts _ (bg 5 0 rfl)) (fun _ h9 => h9) rfl dX3_append_36 ?_
    have e9 := Option.some.inj hf
    exact fin H locs 39 ls _ (Prod.mk.inj e9).1 (nar_i _) (by rw [← (Prod.mk.inj (Prod.mk.inj e9).2).1, ← (Prod.mk.inj (Prod.mk.inj e9).2).2]; exact hP) hS dX3_append_39
  · rw [if_pos c2] at hf
    refine lv_bipush (v := (-4)) hx hb dX3_append_12 (by decide) ?_
    have e9 := Option.some.inj hf
    exact fin H locs 14 ls _ (Prod.mk.inj e9).1 (nar_i _) (by rw [← (Prod.mk.inj (Prod.mk.inj e9).2).1, ← (Prod.mk.inj (Prod.mk.inj e9).2).2]; exact hP) hS dX3_append_14
def fX6_write (N : Nat) (rI : Nat → Int32) (rA : Nat → Nat → Int32) (x1 : Int32) : Option (Int32 × (Nat → Int32) × (Nat → Nat → Int32)) := (fX6_isOutside N x1 0 255).bind fun z1 => if z1 = 0 then (fX3_append N rI rA x1).bind fun z3 => some (z3.1, z3.2.1, z3.2.2) else some ((-2), rI, rA)
def rmX6_write : Room := { frames := 2, cells := 0, slots := 0, locals := 42 }
theorem mb_X6_write : Cond.instanceMethod yX6_write ∈ wsL_law ∧ Cond.selects RX6 yX6_write yX6_write ∈ wsL_law ∧ Cond.initialized RX6 ∈ wsL_law ∧ Cond.code yX6_write cX6_write 2 (some .int) ∈ wsL_law := ⟨(bg 4 14 rfl), (bg 4 15 rfl), (bg 0 2 rfl), (bg 4 16 rfl)⟩
theorem hd_X6_write : yX6_write.cls = RX6 ∧ yX6_write.cls ≠ "java/lang/invoke/MethodHandle" ∧ yX6_write.cls ≠ "java/lang/invoke/VarHandle" ∧ (parseMethodDescriptor yX6_write.desc).map (fun d => d.parameters.length) = some 1 := by decide +kernel
set_option maxRecDepth 100000 in
set_option maxHeartbeats 4000000 in
theorem ct_X6_write (N : Nat) (l : Launch) (G : va_G) (cI cZ cO : ClassId) (q : Nat → Nat) (A : Nat → Nat → Int32) (L : Int64) (rI : Nat → Int32) (rA : Nat → Nat → Int32) (tI : Nat → Int32) (tA : Nat → Nat → Int32) (dI : Nat → Int32) (dA : Nat → Nat → Int32) (wI : Nat → Int32) (wA : Nat → Nat → Int32) (uI : Nat → Int32) (uA : Nat → Nat → Int32) (aI : Nat → Int32) (aS : Nat → Nat → Int32) (aT : Nat → Nat → Nat → Int32) (eI : Nat → Int32) (eA : Nat → Nat → Int32) (sS : Nat → Nat → Int32) (sT : Nat → Nat → Nat → Int32) (bI : Nat → Int32) (x1 : Int32) (r : Int32) (rIz : Nat → Int32) (rAz : Nat → Nat → Int32) (hf : fX6_write N rI rA x1 = some (r, rIz, rAz)) : CtI l yX6_write cX6_write 2 .int rmX6_write G cI cZ cO [.ref (q 0), .int x1] (wX6 q cI cZ cO A L rI rA tI tA dI dA wI wA uI uA aI aS aT eI eA sS sT bI) (wX6 q cI cZ cO A L rIz rAz tI tA dI dA wI wA uI uA aI aS aT eI eA sS sT bI) r := by
  refine mkCI (by decide) (Nat.le_of_ble_eq_true rfl) ?_
  intro p e s m below meth cd Q Z hC hP hE hD hA fin ls hl
  obtain ⟨hx, hb, hml, hown, hts⟩ := hC
  have hown : s.vm.findClass RX6 = some m.cls := hown
  have hl : lv_has ls 2 [(0, .ref (q 0)), (1, .int x1)] := hl
  unfold fX6_write at hf
  have hS : va_S Z s.heap s.heap [] := va_S.rf
  obtain ⟨H, hH⟩ : ∃ H, H = s.heap := ⟨_, rfl⟩
  obtain ⟨locs, hlocs⟩ : ∃ locs : List Loc, locs = [] := ⟨_, rfl⟩
  rw [← hlocs]
  rw [← hlocs] at hS
  suffices hW : ∀ H : Heap, va_P G vwCl (wX6 q cI cZ cO A L rI rA tI tA dI dA wI wA uI uA aI aS aT eI eA sS sT bI) H → va_S Z s.heap H locs → W p l e rmX6_write s m [.ref (q 0), .int x1].toArray below meth cd H locs 0 0 Q (F0 m 0 ls []) from hW s.heap hP hS
  clear hP hS hH H
  intro H hP hS
  refine lv_iload_n hx hb dX6_write_0 rfl (lv_at hl 1 rfl) ?_
  refine lv_iconst (v := 0) hx hb dX6_write_1 (by decide) ?_
  refine lv_sipush (v := 255) hx hb dX6_write_2 (by decide) ?_
  obtain ⟨z1, hz1, hf⟩ := bnd hf
  refine x_rdS (n := 3) hx hb hml hown hts hE (ct_X6_isOutside N l G cI cZ cO x1 0 255 z1 hz1) (bg 4 17 rfl) mb_X6_isOutside.1 mb_X6_isOutside.2.1 mb_X6_isOutside.2.2 hd_X6_isOutside rfl (by decide) va_P_nil rfl hl.1 (Nat.le_of_ble_eq_true rfl) ⟨Nat.zero_le _, Nat.zero_le _⟩ dX6_write_5 ?_
  refine lv_if_eq (tgt := 14) hx hb dX6_write_8 (by decide) (fun c2 => ?_) (fun c2 => ?_)
  · rw [if_pos c2] at hf
    refine lv_aload_n hx hb dX6_write_14 rfl (lv_at hl 0 rfl) ?_
    refine va_get (D := G) (ci := 6) (v := .ref (q 1)) (C := RX6) (T := TX6) (N := 15) hx hb hts inlX6 hown hE.1 hP 0 rfl rfl 0 (by decide) (hts _ (bg 0 16 rfl)) (fun _ h9 => h9) rfl dX6_write_15 ?_
    refine lv_iload_n hx hb dX6_write_18 rfl (lv_at hl 1 rfl) ?_
    obtain ⟨z3, hz3, hf⟩ := bnd hf
    refine x_wrV (C := RX3) (n := 1) (ci := 3) (ws1 := (wX6 q cI cZ cO A L z3.2.1 z3.2.2 tI tA dI dA wI wA uI uA aI aS aT eI eA sS sT bI)) hx hb hml hown hts hE (ct_X3_append N l G cI cZ cO (sh q 1) rI rA x1 z3.1 z3.2.1 z3.2.2 hz3) (bg 4 20 rfl) mb_X3_append.1 mb_X3_append.2.1 mb_X3_append.2.2.1 mb_X3_append.2.2.2 hd_X3_append rfl (by decide) hP hD hS hA [1, 2] [false, true, true, false, false, false, false, false, false, false, false, false, false, false, false, false, false, false, false, false, false, false, false, false, false, false, false, false, false, false, false, false, false, false, false, false, false, false, false, false, false, false, false, false, false, false, false, false, false, false, false, false, false, false, false, false, false, false, false, false, false, false, false, false, false, false, false, false, false, false, false, false, false, false, false, false, false, false, false, false, false, false, false, false, false, false, false, false, false, false, false, false, false, false, false, false, false, false, false, false, false, false, false] (by decide) (by decide +kernel) rfl rfl ⟨rfl, rfl, rfl, rfl, rfl, rfl, rfl, rfl, rfl, rfl, rfl, rfl, rfl, rfl, rfl, rfl, rfl, rfl, rfl, rfl, rfl, rfl, rfl, rfl, rfl, rfl, rfl, rfl, rfl, rfl, rfl, rfl, rfl, rfl, rfl, rfl, rfl, rfl, rfl, rfl, rfl, rfl, rfl, rfl, rfl, rfl, rfl, rfl, rfl, rfl, rfl, rfl, rfl, rfl, rfl, rfl, rfl, rfl, rfl, rfl, rfl, rfl, rfl, rfl, rfl, rfl, rfl, rfl, rfl, rfl, rfl, rfl, rfl, rfl, rfl, rfl, rfl, rfl, rfl, rfl, rfl, rfl, rfl, rfl, rfl, rfl, rfl, rfl, rfl, rfl, rfl, rfl, rfl, rfl, rfl, rfl, rfl, rfl, rfl, rfl, rfl, rfl, rfl, trivial⟩ rfl rfl rfl rfl hl.1 (Nat.le_of_ble_eq_true rfl) ⟨Nat.zero_le _, Nat.zero_le _⟩ dX6_write_19 (fun H locs hP hD hS => ?_)
    have e9 := Option.some.inj hf
    exact fin H locs 22 ls _ (Prod.mk.inj e9).1 (nar_i _) (by rw [← (Prod.mk.inj (Prod.mk.inj e9).2).1, ← (Prod.mk.inj (Prod.mk.inj e9).2).2]; exact hP) hS dX6_write_22
  · rw [if_neg c2] at hf
    refine lv_bipush (v := (-2)) hx hb dX6_write_11 (by decide) ?_
    have e9 := Option.some.inj hf
    exact fin H locs 13 ls _ (Prod.mk.inj e9).1 (nar_i _) (by rw [← (Prod.mk.inj (Prod.mk.inj e9).2).1, ← (Prod.mk.inj (Prod.mk.inj e9).2).2]; exact hP) hS dX6_write_13
def fX6_wipe (N : Nat) (rI : Nat → Int32) : Option (Int32 × (Nat → Int32)) := some ((rI 4), upd rI 4 0)
def rmX6_wipe : Room := { frames := 0, cells := 0, slots := 0, locals := 0 }
theorem mb_X6_wipe : Cond.instanceMethod yX6_wipe ∈ wsL_law ∧ Cond.selects RX6 yX6_wipe yX6_wipe ∈ wsL_law ∧ Cond.initialized RX6 ∈ wsL_law ∧ Cond.code yX6_wipe cX6_wipe 2 (some .int) ∈ wsL_law := ⟨(bg 5 13 rfl), (bg 5 14 rfl), (bg 0 2 rfl), (bg 5 15 rfl)⟩
theorem hd_X6_wipe : yX6_wipe.cls = RX6 ∧ yX6_wipe.cls ≠ "java/lang/invoke/MethodHandle" ∧ yX6_wipe.cls ≠ "java/lang/invoke/VarHandle" ∧ (parseMethodDescriptor yX6_wipe.desc).map (fun d => d.parameters.length) = some 0 := by decide +kernel
set_option maxRecDepth 100000 in
set_option maxHeartbeats 4000000 in
theorem ct_X6_wipe (N : Nat) (l : Launch) (G : va_G) (cI cZ cO : ClassId) (q : Nat → Nat) (A : Nat → Nat → Int32) (L : Int64) (rI : Nat → Int32) (rA : Nat → Nat → Int32) (tI : Nat → Int32) (tA : Nat → Nat → Int32) (dI : Nat → Int32) (dA : Nat → Nat → Int32) (wI : Nat → Int32) (wA : Nat → Nat → Int32) (uI : Nat → Int32) (uA : Nat → Nat → Int32) (aI : Nat → Int32) (aS : Nat → Nat → Int32) (aT : Nat → Nat → Nat → Int32) (eI : Nat → Int32) (eA : Nat → Nat → Int32) (sS : Nat → Nat → Int32) (sT : Nat → Nat → Nat → Int32) (bI : Nat → Int32) (r : Int32) (rIz : Nat → Int32) (hf : fX6_wipe N rI = some (r, rIz)) : CtI l yX6_wipe cX6_wipe 2 .int rmX6_wipe G cI cZ cO [.ref (q 0)] (wX6 q cI cZ cO A L rI rA tI tA dI dA wI wA uI uA aI aS aT eI eA sS sT bI) (wX6 q cI cZ cO A L rIz rA tI tA dI dA wI wA uI uA aI aS aT eI eA sS sT bI) r := by
  refine mkCI (by decide) (Nat.le_of_ble_eq_true rfl) ?_
  intro p e s m below meth cd Q Z hC hP hE hD hA fin ls hl
  obtain ⟨hx, hb, hml, hown, hts⟩ := hC
  have hown : s.vm.findClass RX6 = some m.cls := hown
  have hl : lv_has ls 2 [(0, .ref (q 0))] := hl
  unfold fX6_wipe at hf
  have hS : va_S Z s.heap s.heap [] := va_S.rf
  obtain ⟨H, hH⟩ : ∃ H, H = s.heap := ⟨_, rfl⟩
  obtain ⟨locs, hlocs⟩ : ∃ locs : List Loc, locs = [] := ⟨_, rfl⟩
  rw [← hlocs]
  rw [← hlocs] at hS
  suffices hW : ∀ H : Heap, va_P G vwCl (wX6 q cI cZ cO A L rI rA tI tA dI dA wI wA uI uA aI aS aT eI eA sS sT bI) H → va_S Z s.heap H locs → W p l e rmX6_wipe s m [.ref (q 0)].toArray below meth cd H locs 0 0 Q (F0 m 0 ls []) from hW s.heap hP hS
  clear hP hS hH H
  intro H hP hS
  refine lv_aload_n hx hb dX6_wipe_0 rfl (lv_at hl 0 rfl) ?_
  refine va_get (D := G) (ci := 6) (v := .ref (q 1)) (C := RX6) (T := TX6) (N := 15) hx hb hts inlX6 hown hE.1 hP 0 rfl rfl 0 (by decide) (hts _ (bg 0 16 rfl)) (fun _ h9 => h9) rfl dX6_wipe_1 ?_
  refine va_get (D := G) (ci := 3) (v := .int ((rI 4))) (C := RX3) (T := TX3) (N := 6) hx hb hts inlX3 hown hE.1 hP 1 rfl rfl 5 (by decide) (hts _ (bg 5 16 rfl)) (fun _ h9 => h9) rfl dX6_wipe_4 ?_
  refine lv_istore_n (lv' := [(1, .int ((rI 4))), (0, .ref (q 0))]) hx hb dX6_wipe_7 rfl hl (by decide) rfl (fun ls hl => ?_)
  refine lv_aload_n hx hb dX6_wipe_8 rfl (lv_at hl 1 rfl) ?_
  refine va_get (D := G) (ci := 6) (v := .ref (q 1)) (C := RX6) (T := TX6) (N := 15) hx hb hts inlX6 hown hE.1 hP 0 rfl rfl 0 (by decide) (hts _ (bg 0 16 rfl)) (fun _ h9 => h9) rfl dX6_wipe_9 ?_
  refine lv_iconst (v := 0) hx hb dX6_wipe_12 (by decide) ?_
  refine va_put (D := G) (ci := 3) (v := .int 0) (ty := .int) (C := RX3) (T := TX3) (N := 6) hx hb hts inlX3 tyX3 tyX3_ok nmX3 hown hE.1 hP hD hS 1 rfl rfl 5 (by decide) (hts _ (bg 5 16 rfl)) (fun _ h9 => h9) rfl (by decide +kernel) rfl rfl (Nat.le_of_ble_eq_true rfl) dX6_wipe_13 (fun H locs hP hD hS => ?_)
  have hP : va_P G vwCl (wX6 q cI cZ cO A L (upd rI 4 0) rA tI tA dI dA wI wA uI uA aI aS aT eI eA sS sT bI) H := hP
  have hD : va_D Z (wX6 q cI cZ cO A L (upd rI 4 0) rA tI tA dI dA wI wA uI uA aI aS aT eI eA sS sT bI) := hD
  refine lv_iload_n hx hb dX6_wipe_16 rfl (lv_at hl 0 rfl) ?_
  have e9 := Option.some.inj hf
  exact fin H locs 17 ls _ (Prod.mk.inj e9).1 (nar_i _) (by rw [← (Prod.mk.inj e9).2]; exact hP) hS dX6_wipe_17
def fX5_clear (N : Nat) (I : Nat → Int32) : Option ((Nat → Int32)) := some (upd (upd I 0 0) 1 0)
def rmX5_clear : Room := { frames := 0, cells := 0, slots := 0, locals := 0 }
theorem mb_X5_clear : Cond.instanceMethod yX5_clear ∈ wsL_law ∧ Cond.selects RX5 yX5_clear yX5_clear ∈ wsL_law ∧ Cond.initialized RX5 ∈ wsL_law ∧ Cond.code yX5_clear cX5_clear 1 none ∈ wsL_law := ⟨(bg 6 7 rfl), (bg 6 8 rfl), (bg 0 19 rfl), (bg 6 9 rfl)⟩
theorem hd_X5_clear : yX5_clear.cls = RX5 ∧ yX5_clear.cls ≠ "java/lang/invoke/MethodHandle" ∧ yX5_clear.cls ≠ "java/lang/invoke/VarHandle" ∧ (parseMethodDescriptor yX5_clear.desc).map (fun d => d.parameters.length) = some 0 := by decide +kernel
set_option maxRecDepth 100000 in
set_option maxHeartbeats 4000000 in
theorem ct_X5_clear (N : Nat) (l : Launch) (G : va_G) (cI cZ cO : ClassId) (q : Nat → Nat) (I : Nat → Int32) (A : Nat → Nat → Int32) (Iz : Nat → Int32) (hf : fX5_clear N I = some Iz) : CtV l yX5_clear cX5_clear 1 rmX5_clear G cI cZ cO [.ref (q 0)] (wX5 q cI cZ cO I A) (wX5 q cI cZ cO Iz A) := by
  refine mkCV (by decide) (Nat.le_of_ble_eq_true rfl) ?_
  intro p e s m below meth cd Q Z hC hP hE hD hA fin ls hl
  obtain ⟨hx, hb, hml, hown, hts⟩ := hC
  have hown : s.vm.findClass RX5 = some m.cls := hown
  have hl : lv_has ls 1 [(0, .ref (q 0))] := hl
  unfold fX5_clear at hf
  have hS : va_S Z s.heap s.heap [] := va_S.rf
  obtain ⟨H, hH⟩ : ∃ H, H = s.heap := ⟨_, rfl⟩
  obtain ⟨locs, hlocs⟩ : ∃ locs : List Loc, locs = [] := ⟨_, rfl⟩
  rw [← hlocs]
  rw [← hlocs] at hS
  suffices hW : ∀ H : Heap, va_P G vwCl (wX5 q cI cZ cO I A) H → va_S Z s.heap H locs → W p l e rmX5_clear s m [.ref (q 0)].toArray below meth cd H locs 0 0 Q (F0 m 0 ls []) from hW s.heap hP hS
  clear hP hS hH H
  intro H hP hS
  refine lv_aload_n hx hb dX5_clear_0 rfl (lv_at hl 0 rfl) ?_
  refine lv_iconst (v := 0) hx hb dX5_clear_1 (by decide) ?_
  refine va_put (D := G) (ci := 5) (v := .int 0) (ty := .int) (C := RX5) (T := TX5) (N := 8) hx hb hts inlX5 tyX5 tyX5_ok nmX5 hown hE.1 hP hD hS 0 rfl rfl 6 (by decide) (hts _ (bg 6 10 rfl)) (fun _ h9 => h9) rfl (by decide +kernel) rfl rfl (Nat.le_of_ble_eq_true rfl) dX5_clear_2 (fun H locs hP hD hS => ?_)
  have hP : va_P G vwCl (wX5 q cI cZ cO (upd I 0 0) A) H := hP
  have hD : va_D Z (wX5 q cI cZ cO (upd I 0 0) A) := hD
  refine lv_aload_n hx hb dX5_clear_5 rfl (lv_at hl 0 rfl) ?_
  refine lv_iconst (v := 0) hx hb dX5_clear_6 (by decide) ?_
  refine va_put (D := G) (ci := 5) (v := .int 0) (ty := .int) (C := RX5) (T := TX5) (N := 8) hx hb hts inlX5 tyX5 tyX5_ok nmX5 hown hE.1 hP hD hS 0 rfl rfl 7 (by decide) (hts _ (bg 6 11 rfl)) (fun _ h9 => h9) rfl (by decide +kernel) rfl rfl (Nat.le_of_ble_eq_true rfl) dX5_clear_7 (fun H locs hP hD hS => ?_)
  have hP : va_P G vwCl (wX5 q cI cZ cO (upd (upd I 0 0) 1 0) A) H := hP
  have hD : va_D Z (wX5 q cI cZ cO (upd (upd I 0 0) 1 0) A) := hD
  have e9 := Option.some.inj hf
  exact fin H locs 10 ls (by rw [← e9]; exact hP) hS dX5_clear_10
def fX5_hasRumour_22 (N : Nat) (I : Nat → Int32) (y0 : Int32) : Option (Int32) := (bz y0).bind fun v1 => some v1
def fX5_hasRumour_21 (N : Nat) (I : Nat → Int32) : Option (Int32) := fX5_hasRumour_22 N I 0
def fX5_hasRumour (N : Nat) (I : Nat → Int32) (x1 : Int32) : Option (Int32) := if x1 < 0 then fX5_hasRumour_21 N I else if (I 0) ≤ x1 then fX5_hasRumour_21 N I else if 5 ≤ x1 then fX5_hasRumour_21 N I else fX5_hasRumour_22 N I 1
def rmX5_hasRumour : Room := { frames := 0, cells := 0, slots := 0, locals := 0 }
theorem mb_X5_hasRumour : Cond.instanceMethod yX5_hasRumour ∈ wsL_law ∧ Cond.selects RX5 yX5_hasRumour yX5_hasRumour ∈ wsL_law ∧ Cond.initialized RX5 ∈ wsL_law ∧ Cond.code yX5_hasRumour cX5_hasRumour 2 (some .boolean) ∈ wsL_law := ⟨(bg 7 8 rfl), (bg 7 9 rfl), (bg 0 19 rfl), (bg 7 10 rfl)⟩
theorem hd_X5_hasRumour : yX5_hasRumour.cls = RX5 ∧ yX5_hasRumour.cls ≠ "java/lang/invoke/MethodHandle" ∧ yX5_hasRumour.cls ≠ "java/lang/invoke/VarHandle" ∧ (parseMethodDescriptor yX5_hasRumour.desc).map (fun d => d.parameters.length) = some 1 := by decide +kernel
set_option maxRecDepth 100000 in
set_option maxHeartbeats 4000000 in
theorem ct_X5_hasRumour (N : Nat) (l : Launch) (G : va_G) (cI cZ cO : ClassId) (q : Nat → Nat) (I : Nat → Int32) (A : Nat → Nat → Int32) (x1 : Int32) (r : Int32) (hf : fX5_hasRumour N I x1 = some r) : RtI l yX5_hasRumour cX5_hasRumour 2 .boolean rmX5_hasRumour G cI cZ cO [.ref (q 0), .int x1] (wX5 q cI cZ cO I A) r := by
  refine mkRI (by decide) (Nat.le_of_ble_eq_true rfl) ?_
  intro p e s m below meth cd Q hC hP hE fin ls hl
  obtain ⟨hx, hb, hml, hown, hts⟩ := hC
  have hown : s.vm.findClass RX5 = some m.cls := hown
  have hl : lv_has ls 2 [(0, .ref (q 0)), (1, .int x1)] := hl
  have b_22 : ∀ (y0 : Int32), ∀ ls : Array Slot, lv_has ls 2 [] → fX5_hasRumour_22 N I y0 = some r → W p l e rmX5_hasRumour s m [.ref (q 0), .int x1].toArray below meth cd s.heap [] 0 0 Q (F0 m 22 ls [.int y0]) := by
    intro y0 ls hl hf
    unfold fX5_hasRumour_22 at hf
    obtain ⟨v1, hv1, hf⟩ := bnd hf
    obtain ⟨ev1, hv1⟩ := bz_in hv1
    rw [ev1]
    have e9 := Option.some.inj hf
    exact fin 22 ls _ e9 (nar_z (by rw [← e9]; exact hv1)) dX5_hasRumour_22
  have b_21 : ∀ ls : Array Slot, lv_has ls 2 [] → fX5_hasRumour_21 N I = some r → W p l e rmX5_hasRumour s m [.ref (q 0), .int x1].toArray below meth cd s.heap [] 0 0 Q (F0 m 21 ls []) := by
    intro ls hl hf
    unfold fX5_hasRumour_21 at hf
    refine lv_iconst (v := 0) hx hb dX5_hasRumour_21 (by decide) ?_
    exact b_22 0 ls (lv_sub hl [] rfl) hf
  unfold fX5_hasRumour at hf
  refine lv_iload_n hx hb dX5_hasRumour_0 rfl (lv_at hl 1 rfl) ?_
  refine lv_if_lt (tgt := 21) hx hb dX5_hasRumour_1 (by decide) (fun c1 => ?_) (fun c1 => ?_)
  · rw [if_pos c1] at hf
    exact b_21 ls (lv_sub hl [] rfl) hf
  · rw [if_neg c1] at hf
    refine lv_iload_n hx hb dX5_hasRumour_4 rfl (lv_at hl 1 rfl) ?_
    refine lv_aload_n hx hb dX5_hasRumour_5 rfl (lv_at hl 0 rfl) ?_
    refine va_get (D := G) (ci := 5) (v := .int ((I 0))) (C := RX5) (T := TX5) (N := 8) hx hb hts inlX5 hown hE.1 hP 0 rfl rfl 6 (by decide) (hts _ (bg 6 10 rfl)) (fun _ h9 => h9) rfl dX5_hasRumour_6 ?_
    refine lv_icmp_ge (tgt := 21) hx hb dX5_hasRumour_9 (by decide) (fun c2 => ?_) (fun c2 => ?_)
    · rw [if_pos c2] at hf
      exact b_21 ls (lv_sub hl [] rfl) hf
    · rw [if_neg c2] at hf
      refine lv_iload_n hx hb dX5_hasRumour_12 rfl (lv_at hl 1 rfl) ?_
      refine lv_iconst (v := 5) hx hb dX5_hasRumour_13 (by decide) ?_
      refine lv_icmp_ge (tgt := 21) hx hb dX5_hasRumour_14 (by decide) (fun c3 => ?_) (fun c3 => ?_)
      · rw [if_pos c3] at hf
        exact b_21 ls (lv_sub hl [] rfl) hf
      · rw [if_neg c3] at hf
        refine lv_iconst (v := 1) hx hb dX5_hasRumour_17 (by decide) ?_
        refine lv_goto (tgt := 22) hx hb dX5_hasRumour_18 (by decide) ?_
        exact b_22 1 ls (lv_sub hl [] rfl) hf
def fX5_freePartners (N : Nat) (I : Nat → Int32) (A : Nat → Nat → Int32) (x1 : Int32) : Option (Int32) := (fX5_hasRumour N I x1).bind fun z1 => if z1 = 0 then some 0 else (rd 5 (A 3) x1).bind fun v3 => some (((shl 1 (I 0)) - (shl 2 x1)) &&& (v3 ^^^ (-1)))
def rmX5_freePartners : Room := { frames := 1, cells := 0, slots := 0, locals := 21 }
theorem mb_X5_freePartners : Cond.instanceMethod yX5_freePartners ∈ wsL_law ∧ Cond.selects RX5 yX5_freePartners yX5_freePartners ∈ wsL_law ∧ Cond.initialized RX5 ∈ wsL_law ∧ Cond.code yX5_freePartners cX5_freePartners 3 (some .int) ∈ wsL_law := ⟨(bg 7 4 rfl), (bg 7 5 rfl), (bg 0 19 rfl), (bg 7 6 rfl)⟩
theorem hd_X5_freePartners : yX5_freePartners.cls = RX5 ∧ yX5_freePartners.cls ≠ "java/lang/invoke/MethodHandle" ∧ yX5_freePartners.cls ≠ "java/lang/invoke/VarHandle" ∧ (parseMethodDescriptor yX5_freePartners.desc).map (fun d => d.parameters.length) = some 1 := by decide +kernel
set_option maxRecDepth 100000 in
set_option maxHeartbeats 4000000 in
theorem ct_X5_freePartners (N : Nat) (l : Launch) (G : va_G) (cI cZ cO : ClassId) (q : Nat → Nat) (I : Nat → Int32) (A : Nat → Nat → Int32) (x1 : Int32) (r : Int32) (hf : fX5_freePartners N I A x1 = some r) : RtI l yX5_freePartners cX5_freePartners 3 .int rmX5_freePartners G cI cZ cO [.ref (q 0), .int x1] (wX5 q cI cZ cO I A) r := by
  refine mkRI (by decide) (Nat.le_of_ble_eq_true rfl) ?_
  intro p e s m below meth cd Q hC hP hE fin ls hl
  obtain ⟨hx, hb, hml, hown, hts⟩ := hC
  have hown : s.vm.findClass RX5 = some m.cls := hown
  have hl : lv_has ls 3 [(0, .ref (q 0)), (1, .int x1)] := hl
  unfold fX5_freePartners at hf
  refine lv_aload_n hx hb dX5_freePartners_0 rfl (lv_at hl 0 rfl) ?_
  refine lv_iload_n hx hb dX5_freePartners_1 rfl (lv_at hl 1 rfl) ?_
  obtain ⟨z1, hz1, hf⟩ := bnd hf
  refine x_rdV (C := RX5) (n := 1) (ci := 5) hx hb hml hown hts hE (ct_X5_hasRumour N l G cI cZ cO q I A x1 z1 hz1) (bg 7 7 rfl) mb_X5_hasRumour.1 mb_X5_hasRumour.2.1 mb_X5_hasRumour.2.2.1 mb_X5_hasRumour.2.2.2 hd_X5_hasRumour rfl (by decide) hP rfl rfl rfl rfl hl.1 (Nat.le_of_ble_eq_true rfl) ⟨Nat.zero_le _, Nat.zero_le _⟩ dX5_freePartners_2 ?_
  refine lv_if_ne (tgt := 10) hx hb dX5_freePartners_5 (by decide) (fun c2 => ?_) (fun c2 => ?_)
  · rw [if_neg c2] at hf
    refine lv_iconst (v := 1) hx hb dX5_freePartners_10 (by decide) ?_
    refine lv_aload_n hx hb dX5_freePartners_11 rfl (lv_at hl 0 rfl) ?_
    refine va_get (D := G) (ci := 5) (v := .int ((I 0))) (C := RX5) (T := TX5) (N := 8) hx hb hts inlX5 hown hE.1 hP 0 rfl rfl 6 (by decide) (hts _ (bg 6 10 rfl)) (fun _ h9 => h9) rfl dX5_freePartners_12 ?_
    refine x_ishl hx hb dX5_freePartners_15 ?_
    refine lv_iconst (v := 2) hx hb dX5_freePartners_16 (by decide) ?_
    refine lv_iload_n hx hb dX5_freePartners_17 rfl (lv_at hl 1 rfl) ?_
    refine x_ishl hx hb dX5_freePartners_18 ?_
    refine lv_isub hx hb dX5_freePartners_19 ?_
    refine lv_istore_n (lv' := [(2, .int ((shl 1 (I 0)) - (shl 2 x1))), (0, .ref (q 0)), (1, .int x1)]) hx hb dX5_freePartners_20 rfl hl (by decide) rfl (fun ls hl => ?_)
    refine lv_iload_n hx hb dX5_freePartners_21 rfl (lv_at hl 0 rfl) ?_
    refine lv_aload_n hx hb dX5_freePartners_22 rfl (lv_at hl 1 rfl) ?_
    refine va_get (D := G) (ci := 5) (v := .ref (q 4)) (C := RX5) (T := TX5) (N := 8) hx hb hts inlX5 hown hE.1 hP 0 rfl rfl 3 (by decide) (hts _ (bg 2 9 rfl)) (fun _ h9 => h9) rfl dX5_freePartners_23 ?_
    refine lv_iload_n hx hb dX5_freePartners_26 rfl (lv_at hl 2 rfl) ?_
    obtain ⟨v3, hv3, hf⟩ := bnd hf
    refine x_iald hx hb hE.1 hP 4 0 rfl rfl hv3 dX5_freePartners_27 ?_
    refine lv_iconst (v := (-1)) hx hb dX5_freePartners_28 (by decide) ?_
    refine lv_ixor hx hb dX5_freePartners_29 ?_
    refine lv_iand hx hb dX5_freePartners_30 ?_
    have e9 := Option.some.inj hf
    exact fin 31 ls _ e9 (nar_i _) dX5_freePartners_31
  · rw [if_pos c2] at hf
    refine lv_iconst (v := 0) hx hb dX5_freePartners_8 (by decide) ?_
    have e9 := Option.some.inj hf
    exact fin 9 ls _ e9 (nar_i _) dX5_freePartners_9
