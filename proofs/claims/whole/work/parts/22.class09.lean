def fX4_canBeDenied_44 (N : Nat) (I : Nat → Int32) (A : Nat → Nat → Int32) (I1 : Nat → Int32) (A1 : Nat → Nat → Int32) (y0 : Int32) : Option (Int32) := (bz y0).bind fun v1 => some v1
def fX4_canBeDenied_43 (N : Nat) (I : Nat → Int32) (A : Nat → Nat → Int32) (I1 : Nat → Int32) (A1 : Nat → Nat → Int32) : Option (Int32) := fX4_canBeDenied_44 N I A I1 A1 0
def fX4_canBeDenied (N : Nat) (I : Nat → Int32) (A : Nat → Nat → Int32) (I1 : Nat → Int32) (A1 : Nat → Nat → Int32) (x2 : Int32) (x3 : Int32) : Option (Int32) := (fX5_hasRumour N I1 x2).bind fun z1 => if z1 = 0 then fX4_canBeDenied_43 N I A I1 A1 else (fX6_isTable N x3).bind fun z3 => if z3 = 0 then fX4_canBeDenied_43 N I A I1 A1 else (fX5_isProvedTrue N I1 A1 x2 (I 0)).bind fun z5 => if z5 = 0 then (fX4_deniedOf N A x2).bind fun z7 => (fX6_hasBit N z7 x3).bind fun z8 => if z8 = 0 then fX4_canBeDenied_44 N I A I1 A1 1 else fX4_canBeDenied_43 N I A I1 A1 else fX4_canBeDenied_43 N I A I1 A1
def rmX4_canBeDenied : Room := { frames := 3, cells := 0, slots := 0, locals := 66 }
theorem mb_X4_canBeDenied : Cond.instanceMethod yX4_canBeDenied ∈ wsL_law ∧ Cond.selects RX4 yX4_canBeDenied yX4_canBeDenied ∈ wsL_law ∧ Cond.initialized RX4 ∈ wsL_law ∧ Cond.code yX4_canBeDenied cX4_canBeDenied 4 (some .boolean) ∈ wsL_law := ⟨(bg 19 5 rfl), (bg 19 6 rfl), (bg 1 0 rfl), (bg 19 7 rfl)⟩
theorem hd_X4_canBeDenied : yX4_canBeDenied.cls = RX4 ∧ yX4_canBeDenied.cls ≠ "java/lang/invoke/MethodHandle" ∧ yX4_canBeDenied.cls ≠ "java/lang/invoke/VarHandle" ∧ (parseMethodDescriptor yX4_canBeDenied.desc).map (fun d => d.parameters.length) = some 3 := by decide +kernel
set_option maxRecDepth 100000 in
set_option maxHeartbeats 4000000 in
theorem ct_X4_canBeDenied (N : Nat) (l : Launch) (G : va_G) (cI cZ cO : ClassId) (q : Nat → Nat) (I : Nat → Int32) (A : Nat → Nat → Int32) (q1 : Nat → Nat) (I1 : Nat → Int32) (A1 : Nat → Nat → Int32) (x2 : Int32) (x3 : Int32) (r : Int32) (hf : fX4_canBeDenied N I A I1 A1 x2 x3 = some r) : RtI l yX4_canBeDenied cX4_canBeDenied 4 .boolean rmX4_canBeDenied G cI cZ cO [.ref (q 0), .ref (q1 0), .int x2, .int x3] (wX4 q cI cZ cO I A ++ wX5 q1 cI cZ cO I1 A1) r := by
  refine mkRI (by decide) (Nat.le_of_ble_eq_true rfl) ?_
  intro p e s m below meth cd Q hC hP hE fin ls hl
  obtain ⟨hx, hb, hml, hown, hts⟩ := hC
  have hown : s.vm.findClass RX4 = some m.cls := hown
  have hl : lv_has ls 4 [(0, .ref (q 0)), (1, .ref (q1 0)), (2, .int x2), (3, .int x3)] := hl
  have b_44 : ∀ (y0 : Int32), ∀ ls : Array Slot, lv_has ls 4 [] → fX4_canBeDenied_44 N I A I1 A1 y0 = some r → W p l e rmX4_canBeDenied s m [.ref (q 0), .ref (q1 0), .int x2, .int x3].toArray below meth cd s.heap [] 0 0 Q (F0 m 44 ls [.int y0]) := by
    intro y0 ls hl hf
    unfold fX4_canBeDenied_44 at hf
    obtain ⟨v1, hv1, hf⟩ := bnd hf
    obtain ⟨ev1, hv1⟩ := bz_in hv1
    rw [ev1]
    have e9 := Option.some.inj hf
    exact fin 44 ls _ e9 (nar_z (by rw [← e9]; exact hv1)) dX4_canBeDenied_44
  have b_43 : ∀ ls : Array Slot, lv_has ls 4 [] → fX4_canBeDenied_43 N I A I1 A1 = some r → W p l e rmX4_canBeDenied s m [.ref (q 0), .ref (q1 0), .int x2, .int x3].toArray below meth cd s.heap [] 0 0 Q (F0 m 43 ls []) := by
    intro ls hl hf
    unfold fX4_canBeDenied_43 at hf
    refine lv_iconst (v := 0) hx hb dX4_canBeDenied_43 (by decide) ?_
    exact b_44 0 ls (lv_sub hl [] rfl) hf
  unfold fX4_canBeDenied at hf
  refine lv_aload_n hx hb dX4_canBeDenied_0 rfl (lv_at hl 1 rfl) ?_
  refine lv_iload_n hx hb dX4_canBeDenied_1 rfl (lv_at hl 2 rfl) ?_
  obtain ⟨z1, hz1, hf⟩ := bnd hf
  refine x_rdV (C := RX5) (n := 1) (ci := 5) hx hb hml hown hts hE (ct_X5_hasRumour N l G cI cZ cO q1 I1 A1 x2 z1 hz1) (bg 11 16 rfl) mb_X5_hasRumour.1 mb_X5_hasRumour.2.1 mb_X5_hasRumour.2.2.1 mb_X5_hasRumour.2.2.2 hd_X5_hasRumour rfl (by decide) (x_cut hP [4, 5, 6, 7, 8, 9, 10] rfl) rfl rfl rfl rfl hl.1 (Nat.le_of_ble_eq_true rfl) ⟨Nat.zero_le _, Nat.zero_le _⟩ dX4_canBeDenied_2 ?_
  refine lv_if_eq (tgt := 43) hx hb dX4_canBeDenied_5 (by decide) (fun c2 => ?_) (fun c2 => ?_)
  · rw [if_pos c2] at hf
    exact b_43 ls (lv_sub hl [] rfl) hf
  · rw [if_neg c2] at hf
    refine lv_iload_n hx hb dX4_canBeDenied_8 rfl (lv_at hl 3 rfl) ?_
    obtain ⟨z3, hz3, hf⟩ := bnd hf
    refine x_rdN (n := 1) hx hb hml hown hts hE (ct_X6_isTable N l G cI cZ cO x3 z3 hz3) (List.mem_of_getElem? (i := 16) rfl) mb_X6_isTable.1 mb_X6_isTable.2.1 mb_X6_isTable.2.2 hd_X6_isTable rfl (by decide) va_P_nil rfl hl.1 (Nat.le_of_ble_eq_true rfl) ⟨Nat.zero_le _, Nat.zero_le _⟩ dX4_canBeDenied_9 ?_
    refine lv_if_eq (tgt := 43) hx hb dX4_canBeDenied_12 (by decide) (fun c4 => ?_) (fun c4 => ?_)
    · rw [if_pos c4] at hf
      exact b_43 ls (lv_sub hl [] rfl) hf
    · rw [if_neg c4] at hf
      refine lv_aload_n hx hb dX4_canBeDenied_15 rfl (lv_at hl 1 rfl) ?_
      refine lv_iload_n hx hb dX4_canBeDenied_16 rfl (lv_at hl 2 rfl) ?_
      refine lv_aload_n hx hb dX4_canBeDenied_17 rfl (lv_at hl 0 rfl) ?_
      refine va_get (D := G) (ci := 4) (v := .int ((I 0))) (C := RX4) (T := TX4) (N := 4) hx hb hts inlX4 hown hE.1 hP 0 rfl rfl 3 (by decide) (hts _ (bg 11 14 rfl)) (fun _ h9 => h9) rfl dX4_canBeDenied_18 ?_
      obtain ⟨z5, hz5, hf⟩ := bnd hf
      refine x_rdV (C := RX5) (n := 2) (ci := 5) hx hb hml hown hts hE (ct_X5_isProvedTrue N l G cI cZ cO q1 I1 A1 x2 (I 0) z5 hz5) (bg 19 8 rfl) mb_X5_isProvedTrue.1 mb_X5_isProvedTrue.2.1 mb_X5_isProvedTrue.2.2.1 mb_X5_isProvedTrue.2.2.2 hd_X5_isProvedTrue rfl (by decide) (x_cut hP [4, 5, 6, 7, 8, 9, 10] rfl) rfl rfl rfl rfl hl.1 (Nat.le_of_ble_eq_true rfl) ⟨Nat.zero_le _, Nat.zero_le _⟩ dX4_canBeDenied_21 ?_
      refine lv_if_ne (tgt := 43) hx hb dX4_canBeDenied_24 (by decide) (fun c6 => ?_) (fun c6 => ?_)
      · rw [if_neg c6] at hf
        exact b_43 ls (lv_sub hl [] rfl) hf
      · rw [if_pos c6] at hf
        refine lv_aload_n hx hb dX4_canBeDenied_27 rfl (lv_at hl 0 rfl) ?_
        refine lv_iload_n hx hb dX4_canBeDenied_28 rfl (lv_at hl 2 rfl) ?_
        obtain ⟨z7, hz7, hf⟩ := bnd hf
        refine x_rdV (C := RX4) (n := 1) (ci := 4) hx hb hml hown hts hE (ct_X4_deniedOf N l G cI cZ cO q I A x2 z7 hz7) (bg 17 21 rfl) mb_X4_deniedOf.1 mb_X4_deniedOf.2.1 mb_X4_deniedOf.2.2.1 mb_X4_deniedOf.2.2.2 hd_X4_deniedOf rfl (by decide) (x_cut hP [0, 1, 2, 3] rfl) rfl rfl rfl rfl hl.1 (Nat.le_of_ble_eq_true rfl) ⟨Nat.zero_le _, Nat.zero_le _⟩ dX4_canBeDenied_29 ?_
        refine lv_iload_n hx hb dX4_canBeDenied_32 rfl (lv_at hl 3 rfl) ?_
        obtain ⟨z8, hz8, hf⟩ := bnd hf
        refine x_rdN (n := 2) hx hb hml hown hts hE (ct_X6_hasBit N l G cI cZ cO z7 x3 z8 hz8) (List.mem_of_getElem? (i := 14) rfl) mb_X6_hasBit.1 mb_X6_hasBit.2.1 mb_X6_hasBit.2.2 hd_X6_hasBit rfl (by decide) va_P_nil rfl hl.1 (Nat.le_of_ble_eq_true rfl) ⟨Nat.zero_le _, Nat.zero_le _⟩ dX4_canBeDenied_33 ?_
        refine lv_if_ne (tgt := 43) hx hb dX4_canBeDenied_36 (by decide) (fun c9 => ?_) (fun c9 => ?_)
        · rw [if_neg c9] at hf
          exact b_43 ls (lv_sub hl [] rfl) hf
        · rw [if_pos c9] at hf
          refine lv_iconst (v := 1) hx hb dX4_canBeDenied_39 (by decide) ?_
          refine lv_goto (tgt := 44) hx hb dX4_canBeDenied_40 (by decide) ?_
          exact b_44 1 ls (lv_sub hl [] rfl) hf
def fX4_putDenied_41 (N : Nat) (A : Nat → Nat → Int32) : Option ((Nat → Nat → Int32)) := some A
def fX4_putDenied (N : Nat) (A : Nat → Nat → Int32) (x1 : Int32) (x2 : Int32) : Option ((Nat → Nat → Int32)) := (fX6_isIndex N x1 5).bind fun z1 => if z1 = 0 then fX4_putDenied_41 N A else (fX6_isTable N x2).bind fun z3 => if z3 = 0 then fX4_putDenied_41 N A else (rd 5 (A 1) x1).bind fun v5 => (wr 5 (A 1) x1 (v5 ||| (shl 1 x2))).bind fun g6 => (rd 5 (A 0) x1).bind fun v7 => (wr 5 (A 0) x1 (v7 &&& ((shl 1 x2) ^^^ (-1)))).bind fun g8 => fX4_putDenied_41 N (va_up (va_up A 1 g6) 0 g8)
def rmX4_putDenied : Room := { frames := 1, cells := 0, slots := 0, locals := 21 }
theorem mb_X4_putDenied : Cond.instanceMethod yX4_putDenied ∈ wsL_law ∧ Cond.selects RX4 yX4_putDenied yX4_putDenied ∈ wsL_law ∧ Cond.initialized RX4 ∈ wsL_law ∧ Cond.code yX4_putDenied cX4_putDenied 3 none ∈ wsL_law := ⟨(bg 19 13 rfl), (bg 19 14 rfl), (bg 1 0 rfl), (bg 19 15 rfl)⟩
theorem hd_X4_putDenied : yX4_putDenied.cls = RX4 ∧ yX4_putDenied.cls ≠ "java/lang/invoke/MethodHandle" ∧ yX4_putDenied.cls ≠ "java/lang/invoke/VarHandle" ∧ (parseMethodDescriptor yX4_putDenied.desc).map (fun d => d.parameters.length) = some 2 := by decide +kernel
set_option maxRecDepth 100000 in
set_option maxHeartbeats 4000000 in
theorem ct_X4_putDenied (N : Nat) (l : Launch) (G : va_G) (cI cZ cO : ClassId) (q : Nat → Nat) (I : Nat → Int32) (A : Nat → Nat → Int32) (x1 : Int32) (x2 : Int32) (Az : Nat → Nat → Int32) (hf : fX4_putDenied N A x1 x2 = some Az) : CtV l yX4_putDenied cX4_putDenied 3 rmX4_putDenied G cI cZ cO [.ref (q 0), .int x1, .int x2] (wX4 q cI cZ cO I A) (wX4 q cI cZ cO I Az) := by
  refine mkCV (by decide) (Nat.le_of_ble_eq_true rfl) ?_
  intro p e s m below meth cd Q Z hC hP hE hD hA fin ls hl
  obtain ⟨hx, hb, hml, hown, hts⟩ := hC
  have hown : s.vm.findClass RX4 = some m.cls := hown
  have hl : lv_has ls 3 [(0, .ref (q 0)), (1, .int x1), (2, .int x2)] := hl
  have b_41 : ∀ (A : Nat → Nat → Int32), ∀ (H : Heap) (locs : List Loc), va_P G vwCl (wX4 q cI cZ cO I A) H → va_D Z (wX4 q cI cZ cO I A) → va_S Z s.heap H locs → ∀ ls : Array Slot, lv_has ls 3 [] → fX4_putDenied_41 N A = some Az → W p l e rmX4_putDenied s m [.ref (q 0), .int x1, .int x2].toArray below meth cd H locs 0 0 Q (F0 m 41 ls []) := by
    intro A H locs hP hD hS ls hl hf
    unfold fX4_putDenied_41 at hf
    have e9 := Option.some.inj hf
    exact fin H locs 41 ls (by rw [← e9]; exact hP) hS dX4_putDenied_41
  unfold fX4_putDenied at hf
  have hS : va_S Z s.heap s.heap [] := va_S.rf
  obtain ⟨H, hH⟩ : ∃ H, H = s.heap := ⟨_, rfl⟩
  obtain ⟨locs, hlocs⟩ : ∃ locs : List Loc, locs = [] := ⟨_, rfl⟩
  rw [← hlocs]
  rw [← hlocs] at hS
  suffices hW : ∀ H : Heap, va_P G vwCl (wX4 q cI cZ cO I A) H → va_S Z s.heap H locs → W p l e rmX4_putDenied s m [.ref (q 0), .int x1, .int x2].toArray below meth cd H locs 0 0 Q (F0 m 0 ls []) from hW s.heap hP hS
  clear hP hS hH H
  intro H hP hS
  refine lv_iload_n hx hb dX4_putDenied_0 rfl (lv_at hl 1 rfl) ?_
  refine lv_iconst (v := 5) hx hb dX4_putDenied_1 (by decide) ?_
  obtain ⟨z1, hz1, hf⟩ := bnd hf
  refine x_rdN (n := 2) hx hb hml hown hts hE (ct_X6_isIndex N l G cI cZ cO x1 5 z1 hz1) (List.mem_of_getElem? (i := 15) rfl) mb_X6_isIndex.1 mb_X6_isIndex.2.1 mb_X6_isIndex.2.2 hd_X6_isIndex rfl (by decide) va_P_nil rfl hl.1 (Nat.le_of_ble_eq_true rfl) ⟨Nat.zero_le _, Nat.zero_le _⟩ dX4_putDenied_2 ?_
  refine lv_if_eq (tgt := 41) hx hb dX4_putDenied_5 (by decide) (fun c2 => ?_) (fun c2 => ?_)
  · rw [if_pos c2] at hf
    exact b_41 A H locs hP hD hS ls (lv_sub hl [] rfl) hf
  · rw [if_neg c2] at hf
    refine lv_iload_n hx hb dX4_putDenied_8 rfl (lv_at hl 2 rfl) ?_
    obtain ⟨z3, hz3, hf⟩ := bnd hf
    refine x_rdN (n := 1) hx hb hml hown hts hE (ct_X6_isTable N l G cI cZ cO x2 z3 hz3) (List.mem_of_getElem? (i := 16) rfl) mb_X6_isTable.1 mb_X6_isTable.2.1 mb_X6_isTable.2.2 hd_X6_isTable rfl (by decide) va_P_nil rfl hl.1 (Nat.le_of_ble_eq_true rfl) ⟨Nat.zero_le _, Nat.zero_le _⟩ dX4_putDenied_9 ?_
    refine lv_if_eq (tgt := 41) hx hb dX4_putDenied_12 (by decide) (fun c4 => ?_) (fun c4 => ?_)
    · rw [if_pos c4] at hf
      exact b_41 A H locs hP hD hS ls (lv_sub hl [] rfl) hf
    · rw [if_neg c4] at hf
      refine lv_aload_n hx hb dX4_putDenied_15 rfl (lv_at hl 0 rfl) ?_
      refine va_get (D := G) (ci := 4) (v := .ref (q 2)) (C := RX4) (T := TX4) (N := 4) hx hb hts inlX4 hown hE.1 hP 0 rfl rfl 1 (by decide) (hts _ (bg 2 16 rfl)) (fun _ h9 => h9) rfl dX4_putDenied_16 ?_
      refine lv_iload_n hx hb dX4_putDenied_19 rfl (lv_at hl 1 rfl) ?_
      refine lv_dup2_11 hx hb dX4_putDenied_20 rfl rfl ?_
      obtain ⟨v5, hv5, hf⟩ := bnd hf
      refine x_iald hx hb hE.1 hP 2 0 rfl rfl hv5 dX4_putDenied_21 ?_
      refine lv_iconst (v := 1) hx hb dX4_putDenied_22 (by decide) ?_
      refine lv_iload_n hx hb dX4_putDenied_23 rfl (lv_at hl 2 rfl) ?_
      refine x_ishl hx hb dX4_putDenied_24 ?_
      refine lv_ior hx hb dX4_putDenied_25 ?_
      obtain ⟨g6, hg6, hf⟩ := bnd hf
      refine x_iast hx hb hE.1 hP hD hS 2 0 rfl rfl hg6 dX4_putDenied_26 (fun H locs hP hD hS => ?_)
      have hP : va_P G vwCl (wX4 q cI cZ cO I (va_up A 1 g6)) H := hP
      have hD : va_D Z (wX4 q cI cZ cO I (va_up A 1 g6)) := hD
      refine lv_aload_n hx hb dX4_putDenied_27 rfl (lv_at hl 0 rfl) ?_
      refine va_get (D := G) (ci := 4) (v := .ref (q 1)) (C := RX4) (T := TX4) (N := 4) hx hb hts inlX4 hown hE.1 hP 0 rfl rfl 0 (by decide) (hts _ (bg 2 15 rfl)) (fun _ h9 => h9) rfl dX4_putDenied_28 ?_
      refine lv_iload_n hx hb dX4_putDenied_31 rfl (lv_at hl 1 rfl) ?_
      refine lv_dup2_11 hx hb dX4_putDenied_32 rfl rfl ?_
      obtain ⟨v7, hv7, hf⟩ := bnd hf
      refine x_iald hx hb hE.1 hP 1 0 rfl rfl hv7 dX4_putDenied_33 ?_
      refine lv_iconst (v := 1) hx hb dX4_putDenied_34 (by decide) ?_
      refine lv_iload_n hx hb dX4_putDenied_35 rfl (lv_at hl 2 rfl) ?_
      refine x_ishl hx hb dX4_putDenied_36 ?_
      refine lv_iconst (v := (-1)) hx hb dX4_putDenied_37 (by decide) ?_
      refine lv_ixor hx hb dX4_putDenied_38 ?_
      refine lv_iand hx hb dX4_putDenied_39 ?_
      obtain ⟨g8, hg8, hf⟩ := bnd hf
      refine x_iast hx hb hE.1 hP hD hS 1 0 rfl rfl hg8 dX4_putDenied_40 (fun H locs hP hD hS => ?_)
      have hP : va_P G vwCl (wX4 q cI cZ cO I (va_up (va_up A 1 g6) 0 g8)) H := hP
      have hD : va_D Z (wX4 q cI cZ cO I (va_up (va_up A 1 g6) 0 g8)) := hD
      exact b_41 (va_up (va_up A 1 g6) 0 g8) H locs hP hD hS ls (lv_sub hl [] rfl) hf
def fX6_deny (N : Nat) (tI : Nat → Int32) (tA : Nat → Nat → Int32) (wI : Nat → Int32) (wA : Nat → Nat → Int32) (aI : Nat → Int32) (aS : Nat → Nat → Int32) (aT : Nat → Nat → Nat → Int32) (x1 : Int32) (x2 : Int32) : Option (Int32 × (Nat → Nat → Int32) × (Nat → Int32) × (Nat → Nat → Int32) × (Nat → Nat → Nat → Int32)) := (fX5_hasRumour N tI x1).bind fun z1 => if z1 = 0 then some ((-1), wA, aI, aS, aT) else (fX6_isTable N x2).bind fun z3 => if z3 = 0 then some ((-2), wA, aI, aS, aT) else (fX4_canBeDenied N wI wA tI tA x1 x2).bind fun z5 => if z5 = 0 then some ((-3), wA, aI, aS, aT) else (fX0_remember N aI aS aT wI wA).bind fun z7 => (fX4_putDenied N wA x1 x2).bind fun z8 => (fX4_saidOf N z8 x1).bind fun z9 => (fJ6_bitCount_0f7a4 N z9).bind fun z10 => some (z10, z8, z7.1, z7.2.1, z7.2.2)
def rmX6_deny : Room := { frames := 4, cells := 0, slots := 0, locals := 103 }
theorem mb_X6_deny : Cond.instanceMethod yX6_deny ∈ wsL_law ∧ Cond.selects RX6 yX6_deny yX6_deny ∈ wsL_law ∧ Cond.initialized RX6 ∈ wsL_law ∧ Cond.code yX6_deny cX6_deny 3 (some .int) ∈ wsL_law := ⟨(bg 19 1 rfl), (bg 19 2 rfl), (bg 0 2 rfl), (bg 19 3 rfl)⟩
theorem hd_X6_deny : yX6_deny.cls = RX6 ∧ yX6_deny.cls ≠ "java/lang/invoke/MethodHandle" ∧ yX6_deny.cls ≠ "java/lang/invoke/VarHandle" ∧ (parseMethodDescriptor yX6_deny.desc).map (fun d => d.parameters.length) = some 2 := by decide +kernel
set_option maxRecDepth 100000 in
set_option maxHeartbeats 4000000 in
theorem ct_X6_deny (N : Nat) (l : Launch) (G : va_G) (cI cZ cO : ClassId) (q : Nat → Nat) (A : Nat → Nat → Int32) (L : Int64) (rI : Nat → Int32) (rA : Nat → Nat → Int32) (tI : Nat → Int32) (tA : Nat → Nat → Int32) (dI : Nat → Int32) (dA : Nat → Nat → Int32) (wI : Nat → Int32) (wA : Nat → Nat → Int32) (uI : Nat → Int32) (uA : Nat → Nat → Int32) (aI : Nat → Int32) (aS : Nat → Nat → Int32) (aT : Nat → Nat → Nat → Int32) (eI : Nat → Int32) (eA : Nat → Nat → Int32) (sS : Nat → Nat → Int32) (sT : Nat → Nat → Nat → Int32) (bI : Nat → Int32) (x1 : Int32) (x2 : Int32) (r : Int32) (wAz : Nat → Nat → Int32) (aIz : Nat → Int32) (aSz : Nat → Nat → Int32) (aTz : Nat → Nat → Nat → Int32) (hf : fX6_deny N tI tA wI wA aI aS aT x1 x2 = some (r, wAz, aIz, aSz, aTz)) : CtI l yX6_deny cX6_deny 3 .int rmX6_deny G cI cZ cO [.ref (q 0), .int x1, .int x2] (wX6 q cI cZ cO A L rI rA tI tA dI dA wI wA uI uA aI aS aT eI eA sS sT bI) (wX6 q cI cZ cO A L rI rA tI tA dI dA wI wAz uI uA aIz aSz aTz eI eA sS sT bI) r := by
  refine mkCI (by decide) (Nat.le_of_ble_eq_true rfl) ?_
  intro p e s m below meth cd Q Z hC hP hE hD hA fin ls hl
  obtain ⟨hx, hb, hml, hown, hts⟩ := hC
  have hown : s.vm.findClass RX6 = some m.cls := hown
  have hl : lv_has ls 3 [(0, .ref (q 0)), (1, .int x1), (2, .int x2)] := hl
  unfold fX6_deny at hf
  have hS : va_S Z s.heap s.heap [] := va_S.rf
  obtain ⟨H, hH⟩ : ∃ H, H = s.heap := ⟨_, rfl⟩
  obtain ⟨locs, hlocs⟩ : ∃ locs : List Loc, locs = [] := ⟨_, rfl⟩
  rw [← hlocs]
  rw [← hlocs] at hS
  suffices hW : ∀ H : Heap, va_P G vwCl (wX6 q cI cZ cO A L rI rA tI tA dI dA wI wA uI uA aI aS aT eI eA sS sT bI) H → va_S Z s.heap H locs → W p l e rmX6_deny s m [.ref (q 0), .int x1, .int x2].toArray below meth cd H locs 0 0 Q (F0 m 0 ls []) from hW s.heap hP hS
  clear hP hS hH H
  intro H hP hS
  refine lv_aload_n hx hb dX6_deny_0 rfl (lv_at hl 0 rfl) ?_
  refine va_get (D := G) (ci := 6) (v := .ref (q 3)) (C := RX6) (T := TX6) (N := 15) hx hb hts inlX6 hown hE.1 hP 0 rfl rfl 1 (by decide) (hts _ (bg 0 20 rfl)) (fun _ h9 => h9) rfl dX6_deny_1 ?_
  refine lv_iload_n hx hb dX6_deny_4 rfl (lv_at hl 1 rfl) ?_
  obtain ⟨z1, hz1, hf⟩ := bnd hf
  refine x_rdV (C := RX5) (n := 1) (ci := 5) hx hb hml hown hts hE (ct_X5_hasRumour N l G cI cZ cO (sh q 3) tI tA x1 z1 hz1) (bg 12 7 rfl) mb_X5_hasRumour.1 mb_X5_hasRumour.2.1 mb_X5_hasRumour.2.2.1 mb_X5_hasRumour.2.2.2 hd_X5_hasRumour rfl (by decide) (x_cut hP [3, 4, 5, 6, 7, 8, 9] rfl) rfl rfl rfl rfl hl.1 (Nat.le_of_ble_eq_true rfl) ⟨Nat.zero_le _, Nat.zero_le _⟩ dX6_deny_5 ?_
  refine lv_if_ne (tgt := 13) hx hb dX6_deny_8 (by decide) (fun c2 => ?_) (fun c2 => ?_)
  · rw [if_neg c2] at hf
    refine lv_iload_n hx hb dX6_deny_13 rfl (lv_at hl 2 rfl) ?_
    obtain ⟨z3, hz3, hf⟩ := bnd hf
    refine x_rdS (n := 1) hx hb hml hown hts hE (ct_X6_isTable N l G cI cZ cO x2 z3 hz3) (bg 17 15 rfl) mb_X6_isTable.1 mb_X6_isTable.2.1 mb_X6_isTable.2.2 hd_X6_isTable rfl (by decide) va_P_nil rfl hl.1 (Nat.le_of_ble_eq_true rfl) ⟨Nat.zero_le _, Nat.zero_le _⟩ dX6_deny_14 ?_
    refine lv_if_ne (tgt := 23) hx hb dX6_deny_17 (by decide) (fun c4 => ?_) (fun c4 => ?_)
    · rw [if_neg c4] at hf
      refine lv_aload_n hx hb dX6_deny_23 rfl (lv_at hl 0 rfl) ?_
      refine va_get (D := G) (ci := 6) (v := .ref (q 17)) (C := RX6) (T := TX6) (N := 15) hx hb hts inlX6 hown hE.1 hP 0 rfl rfl 3 (by decide) (hts _ (bg 1 1 rfl)) (fun _ h9 => h9) rfl dX6_deny_24 ?_
      refine lv_aload_n hx hb dX6_deny_27 rfl (lv_at hl 0 rfl) ?_
      refine va_get (D := G) (ci := 6) (v := .ref (q 3)) (C := RX6) (T := TX6) (N := 15) hx hb hts inlX6 hown hE.1 hP 0 rfl rfl 1 (by decide) (hts _ (bg 0 20 rfl)) (fun _ h9 => h9) rfl dX6_deny_28 ?_
      refine lv_iload_n hx hb dX6_deny_31 rfl (lv_at hl 1 rfl) ?_
      refine lv_iload_n hx hb dX6_deny_32 rfl (lv_at hl 2 rfl) ?_
      obtain ⟨z5, hz5, hf⟩ := bnd hf
      refine x_rdV (C := RX4) (n := 3) (ci := 4) hx hb hml hown hts hE (ct_X4_canBeDenied N l G cI cZ cO (sh q 17) wI wA (sh q 3) tI tA x1 x2 z5 hz5) (bg 19 4 rfl) mb_X4_canBeDenied.1 mb_X4_canBeDenied.2.1 mb_X4_canBeDenied.2.2.1 mb_X4_canBeDenied.2.2.2 hd_X4_canBeDenied rfl (by decide) (x_cut hP [17, 18, 19, 20, 3, 4, 5, 6, 7, 8, 9] rfl) rfl rfl rfl rfl hl.1 (Nat.le_of_ble_eq_true rfl) ⟨Nat.zero_le _, Nat.zero_le _⟩ dX6_deny_33 ?_
      refine lv_if_ne (tgt := 42) hx hb dX6_deny_36 (by decide) (fun c6 => ?_) (fun c6 => ?_)
      · rw [if_neg c6] at hf
        refine lv_aload_n hx hb dX6_deny_42 rfl (lv_at hl 0 rfl) ?_
        refine va_get (D := G) (ci := 6) (v := .ref (q 25)) (C := RX6) (T := TX6) (N := 15) hx hb hts inlX6 hown hE.1 hP 0 rfl rfl 5 (by decide) (hts _ (bg 1 6 rfl)) (fun _ h9 => h9) rfl dX6_deny_43 ?_
        refine lv_aload_n hx hb dX6_deny_46 rfl (lv_at hl 0 rfl) ?_
        refine va_get (D := G) (ci := 6) (v := .ref (q 17)) (C := RX6) (T := TX6) (N := 15) hx hb hts inlX6 hown hE.1 hP 0 rfl rfl 3 (by decide) (hts _ (bg 1 1 rfl)) (fun _ h9 => h9) rfl dX6_deny_47 ?_
        obtain ⟨z7, hz7, hf⟩ := bnd hf
        refine x_wrVv (C := RX0) (n := 1) (ci := 0) (ws1 := (wX6 q cI cZ cO A L rI rA tI tA dI dA wI wA uI uA z7.1 z7.2.1 z7.2.2 eI eA sS sT bI)) hx hb hml hown hts hE (ct_X0_remember N l G cI cZ cO (sh q 25) aI aS aT (sh q 17) wI wA z7.1 z7.2.1 z7.2.2 hz7) (bg 15 3 rfl) mb_X0_remember.1 mb_X0_remember.2.1 mb_X0_remember.2.2.1 mb_X0_remember.2.2.2 hd_X0_remember rfl (by decide) hP hD hS hA [25, 26, 27, 28, 29, 30, 31, 32, 33, 34, 35, 36, 37, 38, 39, 40, 41, 42, 43, 44, 45, 46, 47, 48, 49, 50, 51, 52, 53, 54, 55, 56, 57, 58, 59, 60, 61, 62, 63, 64, 65, 66, 67, 68, 69, 70, 71, 72, 73, 74, 75, 76, 77, 78, 79, 80, 81, 82, 17, 18, 19, 20] [false, false, false, false, false, false, false, false, false, false, false, false, false, false, false, false, false, true, true, true, true, false, false, false, false, true, true, true, true, true, true, true, true, true, true, true, true, true, true, true, true, true, true, true, true, true, true, true, true, true, true, true, true, true, true, true, true, true, true, true, true, true, true, true, true, true, true, true, true, true, true, true, true, true, true, true, true, true, true, true, true, true, true, false, false, false, false, false, false, false, false, false, false, false, false, false, false, false, false, false, false, false, false] (by decide) (by decide +kernel) rfl rfl ⟨rfl, rfl, rfl, rfl, rfl, rfl, rfl, rfl, rfl, rfl, rfl, rfl, rfl, rfl, rfl, rfl, rfl, rfl, rfl, rfl, rfl, rfl, rfl, rfl, rfl, rfl, rfl, rfl, rfl, rfl, rfl, rfl, rfl, rfl, rfl, rfl, rfl, rfl, rfl, rfl, rfl, rfl, rfl, rfl, rfl, rfl, rfl, rfl, rfl, rfl, rfl, rfl, rfl, rfl, rfl, rfl, rfl, rfl, rfl, rfl, rfl, rfl, rfl, rfl, rfl, rfl, rfl, rfl, rfl, rfl, rfl, rfl, rfl, rfl, rfl, rfl, rfl, rfl, rfl, rfl, rfl, rfl, rfl, rfl, rfl, rfl, rfl, rfl, rfl, rfl, rfl, rfl, rfl, rfl, rfl, rfl, rfl, rfl, rfl, rfl, rfl, rfl, rfl, trivial⟩ rfl rfl rfl rfl hl.1 (Nat.le_of_ble_eq_true rfl) ⟨Nat.zero_le _, Nat.zero_le _⟩ dX6_deny_50 (fun H locs hP hD hS => ?_)
        refine lv_aload_n hx hb dX6_deny_53 rfl (lv_at hl 0 rfl) ?_
        refine va_get (D := G) (ci := 6) (v := .ref (q 17)) (C := RX6) (T := TX6) (N := 15) hx hb hts inlX6 hown hE.1 hP 0 rfl rfl 3 (by decide) (hts _ (bg 1 1 rfl)) (fun _ h9 => h9) rfl dX6_deny_54 ?_
        refine lv_iload_n hx hb dX6_deny_57 rfl (lv_at hl 1 rfl) ?_
        refine lv_iload_n hx hb dX6_deny_58 rfl (lv_at hl 2 rfl) ?_
        obtain ⟨z8, hz8, hf⟩ := bnd hf
        refine x_wrVv (C := RX4) (n := 2) (ci := 4) (ws1 := (wX6 q cI cZ cO A L rI rA tI tA dI dA wI z8 uI uA z7.1 z7.2.1 z7.2.2 eI eA sS sT bI)) hx hb hml hown hts hE (ct_X4_putDenied N l G cI cZ cO (sh q 17) wI wA x1 x2 z8 hz8) (bg 19 12 rfl) mb_X4_putDenied.1 mb_X4_putDenied.2.1 mb_X4_putDenied.2.2.1 mb_X4_putDenied.2.2.2 hd_X4_putDenied rfl (by decide) hP hD hS hA [17, 18, 19, 20] [false, false, false, false, false, false, false, false, false, false, false, false, false, false, false, false, false, true, true, true, true, false, false, false, false, false, false, false, false, false, false, false, false, false, false, false, false, false, false, false, false, false, false, false, false, false, false, false, false, false, false, false, false, false, false, false, false, false, false, false, false, false, false, false, false, false, false, false, false, false, false, false, false, false, false, false, false, false, false, false, false, false, false, false, false, false, false, false, false, false, false, false, false, false, false, false, false, false, false, false, false, false, false] (by decide) (by decide +kernel) rfl rfl ⟨rfl, rfl, rfl, rfl, rfl, rfl, rfl, rfl, rfl, rfl, rfl, rfl, rfl, rfl, rfl, rfl, rfl, rfl, rfl, rfl, rfl, rfl, rfl, rfl, rfl, rfl, rfl, rfl, rfl, rfl, rfl, rfl, rfl, rfl, rfl, rfl, rfl, rfl, rfl, rfl, rfl, rfl, rfl, rfl, rfl, rfl, rfl, rfl, rfl, rfl, rfl, rfl, rfl, rfl, rfl, rfl, rfl, rfl, rfl, rfl, rfl, rfl, rfl, rfl, rfl, rfl, rfl, rfl, rfl, rfl, rfl, rfl, rfl, rfl, rfl, rfl, rfl, rfl, rfl, rfl, rfl, rfl, rfl, rfl, rfl, rfl, rfl, rfl, rfl, rfl, rfl, rfl, rfl, rfl, rfl, rfl, rfl, rfl, rfl, rfl, rfl, rfl, rfl, trivial⟩ rfl rfl rfl rfl hl.1 (Nat.le_of_ble_eq_true rfl) ⟨Nat.zero_le _, Nat.zero_le _⟩ dX6_deny_59 (fun H locs hP hD hS => ?_)
        refine lv_aload_n hx hb dX6_deny_62 rfl (lv_at hl 0 rfl) ?_
        refine va_get (D := G) (ci := 6) (v := .ref (q 17)) (C := RX6) (T := TX6) (N := 15) hx hb hts inlX6 hown hE.1 hP 0 rfl rfl 3 (by decide) (hts _ (bg 1 1 rfl)) (fun _ h9 => h9) rfl dX6_deny_63 ?_
        refine lv_iload_n hx hb dX6_deny_66 rfl (lv_at hl 1 rfl) ?_
        obtain ⟨z9, hz9, hf⟩ := bnd hf
        refine x_rdV (C := RX4) (n := 1) (ci := 4) hx hb hml hown hts hE (ct_X4_saidOf N l G cI cZ cO (sh q 17) wI z8 x1 z9 hz9) (bg 12 12 rfl) mb_X4_saidOf.1 mb_X4_saidOf.2.1 mb_X4_saidOf.2.2.1 mb_X4_saidOf.2.2.2 hd_X4_saidOf rfl (by decide) (x_cut hP [17, 18, 19, 20] rfl) rfl rfl rfl rfl hl.1 (Nat.le_of_ble_eq_true rfl) ⟨Nat.zero_le _, Nat.zero_le _⟩ dX6_deny_67 ?_
        obtain ⟨z10, hz10, hf⟩ := bnd hf
        refine x_rdS (n := 1) hx hb hml hown hts hE (ct_J6_bitCount_0f7a4 N l G cI cZ cO z9 z10 hz10) (bg 18 2 rfl) mb_J6_bitCount_0f7a4.1 mb_J6_bitCount_0f7a4.2.1 mb_J6_bitCount_0f7a4.2.2 hd_J6_bitCount_0f7a4 rfl (by decide) va_P_nil rfl hl.1 (Nat.le_of_ble_eq_true rfl) ⟨Nat.zero_le _, Nat.zero_le _⟩ dX6_deny_70 ?_
        have e9 := Option.some.inj hf
        exact fin H locs 73 ls _ (Prod.mk.inj e9).1 (nar_i _) (by rw [← (Prod.mk.inj (Prod.mk.inj e9).2).1, ← (Prod.mk.inj (Prod.mk.inj (Prod.mk.inj e9).2).2).1, ← (Prod.mk.inj (Prod.mk.inj (Prod.mk.inj (Prod.mk.inj e9).2).2).2).1, ← (Prod.mk.inj (Prod.mk.inj (Prod.mk.inj (Prod.mk.inj e9).2).2).2).2]; exact hP) hS dX6_deny_73
      · rw [if_pos c6] at hf
        refine lv_bipush (v := (-3)) hx hb dX6_deny_39 (by decide) ?_
        have e9 := Option.some.inj hf
        exact fin H locs 41 ls _ (Prod.mk.inj e9).1 (nar_i _) (by rw [← (Prod.mk.inj (Prod.mk.inj e9).2).1, ← (Prod.mk.inj (Prod.mk.inj (Prod.mk.inj e9).2).2).1, ← (Prod.mk.inj (Prod.mk.inj (Prod.mk.inj (Prod.mk.inj e9).2).2).2).1, ← (Prod.mk.inj (Prod.mk.inj (Prod.mk.inj (Prod.mk.inj e9).2).2).2).2]; exact hP) hS dX6_deny_41
    · rw [if_pos c4] at hf
      refine lv_bipush (v := (-2)) hx hb dX6_deny_20 (by decide) ?_
      have e9 := Option.some.inj hf
      exact fin H locs 22 ls _ (Prod.mk.inj e9).1 (nar_i _) (by rw [← (Prod.mk.inj (Prod.mk.inj e9).2).1, ← (Prod.mk.inj (Prod.mk.inj (Prod.mk.inj e9).2).2).1, ← (Prod.mk.inj (Prod.mk.inj (Prod.mk.inj (Prod.mk.inj e9).2).2).2).1, ← (Prod.mk.inj (Prod.mk.inj (Prod.mk.inj (Prod.mk.inj e9).2).2).2).2]; exact hP) hS dX6_deny_22
  · rw [if_pos c2] at hf
    refine lv_iconst (v := (-1)) hx hb dX6_deny_11 (by decide) ?_
    have e9 := Option.some.inj hf
    exact fin H locs 12 ls _ (Prod.mk.inj e9).1 (nar_i _) (by rw [← (Prod.mk.inj (Prod.mk.inj e9).2).1, ← (Prod.mk.inj (Prod.mk.inj (Prod.mk.inj e9).2).2).1, ← (Prod.mk.inj (Prod.mk.inj (Prod.mk.inj (Prod.mk.inj e9).2).2).2).1, ← (Prod.mk.inj (Prod.mk.inj (Prod.mk.inj (Prod.mk.inj e9).2).2).2).2]; exact hP) hS dX6_deny_12
def fX5_valueOn_35 (N : Nat) (I : Nat → Int32) (A : Nat → Nat → Int32) (y0 : Int32) : Option (Int32) := some y0
def fX5_valueOn (N : Nat) (I : Nat → Int32) (A : Nat → Nat → Int32) (x1 : Int32) (x2 : Int32) (x3 : Int32) (x4 : Int32) : Option (Int32) := (fX6_at N 5 (A 0) x2).bind fun z1 => (fX5_isProved N A x2 x1).bind fun z2 => if z2 = 0 then (fJ6_bitCount_0f7a4 N x3).bind fun z4 => (fJ6_bitCount_0f7a4 N x4).bind fun z5 => some (if 0 < ((z1 + z4) - z5) then ((z1 + z4) - z5) else 0) else (fX5_isLie N I A x2).bind fun z6 => if z6 = 0 then fX5_valueOn_35 N I A (2 * z1) else fX5_valueOn_35 N I A 0
def rmX5_valueOn : Room := { frames := 2, cells := 0, slots := 0, locals := 60 }
theorem mb_X5_valueOn : Cond.instanceMethod yX5_valueOn ∈ wsL_law ∧ Cond.selects RX5 yX5_valueOn yX5_valueOn ∈ wsL_law ∧ Cond.initialized RX5 ∈ wsL_law ∧ Cond.code yX5_valueOn cX5_valueOn 6 (some .int) ∈ wsL_law := ⟨(bg 20 17 rfl), (bg 20 18 rfl), (bg 0 19 rfl), (bg 20 19 rfl)⟩
theorem hd_X5_valueOn : yX5_valueOn.cls = RX5 ∧ yX5_valueOn.cls ≠ "java/lang/invoke/MethodHandle" ∧ yX5_valueOn.cls ≠ "java/lang/invoke/VarHandle" ∧ (parseMethodDescriptor yX5_valueOn.desc).map (fun d => d.parameters.length) = some 4 := by decide +kernel
set_option maxRecDepth 100000 in
set_option maxHeartbeats 4000000 in
theorem ct_X5_valueOn (N : Nat) (l : Launch) (G : va_G) (cI cZ cO : ClassId) (q : Nat → Nat) (I : Nat → Int32) (A : Nat → Nat → Int32) (x1 : Int32) (x2 : Int32) (x3 : Int32) (x4 : Int32) (r : Int32) (hf : fX5_valueOn N I A x1 x2 x3 x4 = some r) : RtI l yX5_valueOn cX5_valueOn 6 .int rmX5_valueOn G cI cZ cO [.ref (q 0), .int x1, .int x2, .int x3, .int x4] (wX5 q cI cZ cO I A) r := by
  refine mkRI (by decide) (Nat.le_of_ble_eq_true rfl) ?_
  intro p e s m below meth cd Q hC hP hE fin ls hl
  obtain ⟨hx, hb, hml, hown, hts⟩ := hC
  have hown : s.vm.findClass RX5 = some m.cls := hown
  have hl : lv_has ls 6 [(0, .ref (q 0)), (1, .int x1), (2, .int x2), (3, .int x3), (4, .int x4)] := hl
  have b_35 : ∀ (y0 : Int32), ∀ ls : Array Slot, lv_has ls 6 [] → fX5_valueOn_35 N I A y0 = some r → W p l e rmX5_valueOn s m [.ref (q 0), .int x1, .int x2, .int x3, .int x4].toArray below meth cd s.heap [] 0 0 Q (F0 m 35 ls [.int y0]) := by
    intro y0 ls hl hf
    unfold fX5_valueOn_35 at hf
    have e9 := Option.some.inj hf
    exact fin 35 ls _ e9 (nar_i _) dX5_valueOn_35
  unfold fX5_valueOn at hf
  refine lv_aload_n hx hb dX5_valueOn_0 rfl (lv_at hl 0 rfl) ?_
  refine va_get (D := G) (ci := 5) (v := .ref (q 1)) (C := RX5) (T := TX5) (N := 8) hx hb hts inlX5 hown hE.1 hP 0 rfl rfl 0 (by decide) (hts _ (bg 2 6 rfl)) (fun _ h9 => h9) rfl dX5_valueOn_1 ?_
  refine lv_iload_n hx hb dX5_valueOn_4 rfl (lv_at hl 2 rfl) ?_
  obtain ⟨z1, hz1, hf⟩ := bnd hf
  refine x_rdN (n := 2) hx hb hml hown hts hE (ct_X6_at N l G cI cZ cO (q 1) 5 (A 0) x2 z1 hz1) (List.mem_of_getElem? (i := 12) rfl) mb_X6_at.1 mb_X6_at.2.1 mb_X6_at.2.2 hd_X6_at rfl (by decide) (x_cut hP [1] rfl) rfl hl.1 (Nat.le_of_ble_eq_true rfl) ⟨Nat.zero_le _, Nat.zero_le _⟩ dX5_valueOn_5 ?_
  refine lv_istore (lv' := [(5, .int z1), (0, .ref (q 0)), (1, .int x1), (2, .int x2), (3, .int x3), (4, .int x4)]) hx hb dX5_valueOn_8 hl (by decide) rfl (fun ls hl => ?_)
  refine lv_aload_n hx hb dX5_valueOn_10 rfl (lv_at hl 1 rfl) ?_
  refine lv_iload_n hx hb dX5_valueOn_11 rfl (lv_at hl 3 rfl) ?_
  refine lv_iload_n hx hb dX5_valueOn_12 rfl (lv_at hl 2 rfl) ?_
  obtain ⟨z2, hz2, hf⟩ := bnd hf
  refine x_rdV (C := RX5) (n := 2) (ci := 5) hx hb hml hown hts hE (ct_X5_isProved N l G cI cZ cO q I A x2 x1 z2 hz2) (bg 16 20 rfl) mb_X5_isProved.1 mb_X5_isProved.2.1 mb_X5_isProved.2.2.1 mb_X5_isProved.2.2.2 hd_X5_isProved rfl (by decide) hP rfl rfl rfl rfl hl.1 (Nat.le_of_ble_eq_true rfl) ⟨Nat.zero_le _, Nat.zero_le _⟩ dX5_valueOn_13 ?_
  refine lv_if_eq (tgt := 36) hx hb dX5_valueOn_16 (by decide) (fun c3 => ?_) (fun c3 => ?_)
  · rw [if_pos c3] at hf
    refine lv_iconst (v := 0) hx hb dX5_valueOn_36 (by decide) ?_
    refine lv_iload hx hb dX5_valueOn_37 (lv_at hl 0 rfl) ?_
    refine lv_iload_n hx hb dX5_valueOn_39 rfl (lv_at hl 4 rfl) ?_
    obtain ⟨z4, hz4, hf⟩ := bnd hf
    refine x_rdS (n := 1) hx hb hml hown hts hE (ct_J6_bitCount_0f7a4 N l G cI cZ cO x3 z4 hz4) (bg 20 23 rfl) mb_J6_bitCount_0f7a4.1 mb_J6_bitCount_0f7a4.2.1 mb_J6_bitCount_0f7a4.2.2 hd_J6_bitCount_0f7a4 rfl (by decide) va_P_nil rfl hl.1 (Nat.le_of_ble_eq_true rfl) ⟨Nat.zero_le _, Nat.zero_le _⟩ dX5_valueOn_40 ?_
    refine lv_iadd hx hb dX5_valueOn_43 ?_
    refine lv_iload hx hb dX5_valueOn_44 (lv_at hl 5 rfl) ?_
    obtain ⟨z5, hz5, hf⟩ := bnd hf
    refine x_rdS (n := 1) hx hb hml hown hts hE (ct_J6_bitCount_0f7a4 N l G cI cZ cO x4 z5 hz5) (bg 20 23 rfl) mb_J6_bitCount_0f7a4.1 mb_J6_bitCount_0f7a4.2.1 mb_J6_bitCount_0f7a4.2.2 hd_J6_bitCount_0f7a4 rfl (by decide) va_P_nil rfl hl.1 (Nat.le_of_ble_eq_true rfl) ⟨Nat.zero_le _, Nat.zero_le _⟩ dX5_valueOn_46 ?_
    refine lv_isub hx hb dX5_valueOn_49 ?_
    refine va_mmax hx hb (hml.trans hl.1.symm) hown (hts _ (bg 20 20 rfl)) (hts _ (bg 20 21 rfl)) (hts _ (bg 15 11 rfl)) (hts _ (bg 20 22 rfl)) (by decide) (Nat.le_of_ble_eq_true rfl) (Nat.zero_le _) (Nat.zero_le _) dX5_valueOn_50 ?_
    have e9 := Option.some.inj hf
    exact fin 53 ls _ e9 (nar_i _) dX5_valueOn_53
  · rw [if_neg c3] at hf
    refine lv_aload_n hx hb dX5_valueOn_19 rfl (lv_at hl 1 rfl) ?_
    refine lv_iload_n hx hb dX5_valueOn_20 rfl (lv_at hl 3 rfl) ?_
    obtain ⟨z6, hz6, hf⟩ := bnd hf
    refine x_rdV (C := RX5) (n := 1) (ci := 5) hx hb hml hown hts hE (ct_X5_isLie N l G cI cZ cO q I A x2 z6 hz6) (bg 16 21 rfl) mb_X5_isLie.1 mb_X5_isLie.2.1 mb_X5_isLie.2.2.1 mb_X5_isLie.2.2.2 hd_X5_isLie rfl (by decide) hP rfl rfl rfl rfl hl.1 (Nat.le_of_ble_eq_true rfl) ⟨Nat.zero_le _, Nat.zero_le _⟩ dX5_valueOn_21 ?_
    refine lv_if_eq (tgt := 31) hx hb dX5_valueOn_24 (by decide) (fun c7 => ?_) (fun c7 => ?_)
    · rw [if_pos c7] at hf
      refine lv_iconst (v := 2) hx hb dX5_valueOn_31 (by decide) ?_
      refine lv_iload hx hb dX5_valueOn_32 (lv_at hl 0 rfl) ?_
      refine lv_imul hx hb dX5_valueOn_34 ?_
      exact b_35 (2 * z1) ls (lv_sub hl [] rfl) hf
    · rw [if_neg c7] at hf
      refine lv_iconst (v := 0) hx hb dX5_valueOn_27 (by decide) ?_
      refine lv_goto (tgt := 35) hx hb dX5_valueOn_28 (by decide) ?_
      exact b_35 0 ls (lv_sub hl [] rfl) hf
