def fX7_dawn (N : Nat) (I : Nat → Int32) (A : Nat → Nat → Int32) : Option (Int32 × (Nat → Int32) × (Nat → Nat → Int32)) := (fX7_keepAct N I A).bind fun z1 => (fX7_dawnOn N z1.1 z1.2 0).bind fun z2 => some (z2.1, z1.1, z2.2)
def rmX7_dawn : Room := { frames := 2, cells := 0, slots := 0, locals := 49 }
theorem mb_X7_dawn : Cond.instanceMethod yX7_dawn ∈ wsL_law ∧ Cond.selects RX7 yX7_dawn yX7_dawn ∈ wsL_law ∧ Cond.initialized RX7 ∈ wsL_law ∧ Cond.code yX7_dawn cX7_dawn 1 (some .int) ∈ wsL_law := ⟨(bg 16 23 rfl), (bg 17 0 rfl), (bg 0 5 rfl), (bg 17 1 rfl)⟩
theorem hd_X7_dawn : yX7_dawn.cls = RX7 ∧ yX7_dawn.cls ≠ "java/lang/invoke/MethodHandle" ∧ yX7_dawn.cls ≠ "java/lang/invoke/VarHandle" ∧ (parseMethodDescriptor yX7_dawn.desc).map (fun d => d.parameters.length) = some 0 := by decide +kernel
set_option maxRecDepth 100000 in
set_option maxHeartbeats 4000000 in
theorem ct_X7_dawn (N : Nat) (l : Launch) (G : va_G) (cI cZ cO : ClassId) (q : Nat → Nat) (I : Nat → Int32) (A : Nat → Nat → Int32) (L : Int64) (r : Int32) (Iz : Nat → Int32) (Az : Nat → Nat → Int32) (hf : fX7_dawn N I A = some (r, Iz, Az)) : CtI l yX7_dawn cX7_dawn 1 .int rmX7_dawn G cI cZ cO [.ref (q 0)] (wX7 q cI cZ cO I A L) (wX7 q cI cZ cO Iz Az L) r := by
  refine mkCI (by decide) (Nat.le_of_ble_eq_true rfl) ?_
  intro p e s m below meth cd Q Z hC hP hE hD hA fin ls hl
  obtain ⟨hx, hb, hml, hown, hts⟩ := hC
  have hown : s.vm.findClass RX7 = some m.cls := hown
  have hl : lv_has ls 1 [(0, .ref (q 0))] := hl
  unfold fX7_dawn at hf
  have hS : va_S Z s.heap s.heap [] := va_S.rf
  obtain ⟨H, hH⟩ : ∃ H, H = s.heap := ⟨_, rfl⟩
  obtain ⟨locs, hlocs⟩ : ∃ locs : List Loc, locs = [] := ⟨_, rfl⟩
  rw [← hlocs]
  rw [← hlocs] at hS
  suffices hW : ∀ H : Heap, va_P G vwCl (wX7 q cI cZ cO I A L) H → va_S Z s.heap H locs → W p l e rmX7_dawn s m [.ref (q 0)].toArray below meth cd H locs 0 0 Q (F0 m 0 ls []) from hW s.heap hP hS
  clear hP hS hH H
  intro H hP hS
  refine lv_aload_n hx hb dX7_dawn_0 rfl (lv_at hl 0 rfl) ?_
  obtain ⟨z1, hz1, hf⟩ := bnd hf
  refine x_wwVv (C := RX7) (n := 0) (ci := 7) hx hb hml hown hts hE (ct_X7_keepAct N l G cI cZ cO q I A L z1.1 z1.2 hz1) (bg 17 2 rfl) mb_X7_keepAct.1 mb_X7_keepAct.2.1 mb_X7_keepAct.2.2.1 mb_X7_keepAct.2.2.2 hd_X7_keepAct rfl (by decide) hP hD hS hA rfl rfl rfl rfl rfl hl.1 (Nat.le_of_ble_eq_true rfl) ⟨Nat.zero_le _, Nat.zero_le _⟩ dX7_dawn_1 (fun H locs hP hD hS => ?_)
  have hP : va_P G vwCl (wX7 q cI cZ cO z1.1 z1.2 L) H := hP
  have hD : va_D Z (wX7 q cI cZ cO z1.1 z1.2 L) := hD
  refine lv_aload_n hx hb dX7_dawn_4 rfl (lv_at hl 0 rfl) ?_
  refine lv_iconst (v := 0) hx hb dX7_dawn_5 (by decide) ?_
  obtain ⟨z2, hz2, hf⟩ := bnd hf
  refine x_wwV (C := RX7) (n := 1) (ci := 7) hx hb hml hown hts hE (ct_X7_dawnOn N l G cI cZ cO q z1.1 z1.2 L 0 z2.1 z2.2 hz2) (bg 17 7 rfl) mb_X7_dawnOn.1 mb_X7_dawnOn.2.1 mb_X7_dawnOn.2.2.1 mb_X7_dawnOn.2.2.2 hd_X7_dawnOn rfl (by decide) hP hD hS hA rfl rfl rfl rfl rfl hl.1 (Nat.le_of_ble_eq_true rfl) ⟨Nat.zero_le _, Nat.zero_le _⟩ dX7_dawn_6 (fun H locs hP hD hS => ?_)
  have hP : va_P G vwCl (wX7 q cI cZ cO z1.1 z2.2 L) H := hP
  have hD : va_D Z (wX7 q cI cZ cO z1.1 z2.2 L) := hD
  have e9 := Option.some.inj hf
  exact fin H locs 9 ls _ (Prod.mk.inj e9).1 (nar_i _) (by rw [← (Prod.mk.inj (Prod.mk.inj e9).2).1, ← (Prod.mk.inj (Prod.mk.inj e9).2).2]; exact hP) hS dX7_dawn_9
def fX7_isTable (N : Nat) (x0 : Int32) : Option (Int32) := (fX7_in N (Int32.toInt64 x0) 0 5).bind fun z1 => (bz z1).bind fun v2 => some v2
def rmX7_isTable : Room := { frames := 1, cells := 0, slots := 0, locals := 25 }
theorem mb_X7_isTable : Cond.static yX7_isTable ∈ wsL_law ∧ Cond.initialized yX7_isTable.cls ∈ wsL_law ∧ Cond.code yX7_isTable cX7_isTable 1 (some .boolean) ∈ wsL_law := ⟨(bg 18 14 rfl), (bg 0 5 rfl), (bg 18 15 rfl)⟩
theorem hd_X7_isTable : yX7_isTable.cls ≠ "java/lang/invoke/MethodHandle" ∧ yX7_isTable.cls ≠ "java/lang/invoke/VarHandle" ∧ (parseMethodDescriptor yX7_isTable.desc).map (fun d => d.parameters.length) = some 1 := by decide +kernel
set_option maxRecDepth 100000 in
set_option maxHeartbeats 4000000 in
theorem ct_X7_isTable (N : Nat) (l : Launch) (G : va_G) (cI cZ cO : ClassId) (x0 : Int32) (r : Int32) (hf : fX7_isTable N x0 = some r) : RtI l yX7_isTable cX7_isTable 1 .boolean rmX7_isTable G cI cZ cO [.int x0] [] r := by
  refine mkRI (by decide) (Nat.le_of_ble_eq_true rfl) ?_
  intro p e s m below meth cd Q hC hP hE fin ls hl
  obtain ⟨hx, hb, hml, hown, hts⟩ := hC
  have hown : s.vm.findClass RX7 = some m.cls := hown
  have hl : lv_has ls 1 [(0, .int x0)] := hl
  unfold fX7_isTable at hf
  refine lv_iload_n hx hb dX7_isTable_0 rfl (lv_at hl 0 rfl) ?_
  refine lv_i2l (v := Int32.toInt64 x0) hx hb dX7_isTable_1 rfl ?_
  refine lv_lconst (v := 0) hx hb dX7_isTable_2 (by decide) ?_
  refine lv_ldc2 hx hb hown (hts _ (bg 18 16 rfl)) dX7_isTable_3 ?_
  obtain ⟨z1, hz1, hf⟩ := bnd hf
  refine x_rdS (n := 3) hx hb hml hown hts hE (ct_X7_in N l G cI cZ cO (Int32.toInt64 x0) 0 5 z1 hz1) (bg 5 9 rfl) mb_X7_in.1 mb_X7_in.2.1 mb_X7_in.2.2 hd_X7_in rfl (by decide) va_P_nil rfl hl.1 (Nat.le_of_ble_eq_true rfl) ⟨Nat.zero_le _, Nat.zero_le _⟩ dX7_isTable_6 ?_
  obtain ⟨v2, hv2, hf⟩ := bnd hf
  obtain ⟨ev2, hv2⟩ := bz_in hv2
  rw [ev2]
  have e9 := Option.some.inj hf
  exact fin 9 ls _ e9 (nar_z (by rw [← e9]; exact hv2)) dX7_isTable_9
def fX7_canSay_54 (N : Nat) (A : Nat → Nat → Int32) (y0 : Int32) : Option (Int32) := (bz y0).bind fun v1 => some v1
def fX7_canSay_53 (N : Nat) (A : Nat → Nat → Int32) : Option (Int32) := fX7_canSay_54 N A 0
def fX7_canSay (N : Nat) (A : Nat → Nat → Int32) (x1 : Int32) (x2 : Int32) (x3 : Int32) : Option (Int32) := (fX7_isProved N A x1 x2).bind fun z1 => if z1 = 0 then (rd 62 (A 5) ((31 * x1) + x2)).bind fun v3 => (fX7_has N v3 x3).bind fun z4 => if z4 = 0 then (rd 62 (A 5) (((31 * x1) + 5) + x2)).bind fun v6 => (fX7_has N v6 x3).bind fun z7 => if z7 = 0 then fX7_canSay_54 N A 1 else fX7_canSay_53 N A else fX7_canSay_53 N A else fX7_canSay_53 N A
def rmX7_canSay : Room := { frames := 1, cells := 0, slots := 0, locals := 22 }
theorem mb_X7_canSay : Cond.instanceMethod yX7_canSay ∈ wsL_law ∧ Cond.selects RX7 yX7_canSay yX7_canSay ∈ wsL_law ∧ Cond.initialized RX7 ∈ wsL_law ∧ Cond.code yX7_canSay cX7_canSay 5 (some .boolean) ∈ wsL_law := ⟨(bg 18 18 rfl), (bg 18 19 rfl), (bg 0 5 rfl), (bg 18 20 rfl)⟩
theorem hd_X7_canSay : yX7_canSay.cls = RX7 ∧ yX7_canSay.cls ≠ "java/lang/invoke/MethodHandle" ∧ yX7_canSay.cls ≠ "java/lang/invoke/VarHandle" ∧ (parseMethodDescriptor yX7_canSay.desc).map (fun d => d.parameters.length) = some 3 := by decide +kernel
set_option maxRecDepth 100000 in
set_option maxHeartbeats 4000000 in
theorem ct_X7_canSay (N : Nat) (l : Launch) (G : va_G) (cI cZ cO : ClassId) (q : Nat → Nat) (I : Nat → Int32) (A : Nat → Nat → Int32) (L : Int64) (x1 : Int32) (x2 : Int32) (x3 : Int32) (r : Int32) (hf : fX7_canSay N A x1 x2 x3 = some r) : RtI l yX7_canSay cX7_canSay 5 .boolean rmX7_canSay G cI cZ cO [.ref (q 0), .int x1, .int x2, .int x3] (wX7 q cI cZ cO I A L) r := by
  refine mkRI (by decide) (Nat.le_of_ble_eq_true rfl) ?_
  intro p e s m below meth cd Q hC hP hE fin ls hl
  obtain ⟨hx, hb, hml, hown, hts⟩ := hC
  have hown : s.vm.findClass RX7 = some m.cls := hown
  have hl : lv_has ls 5 [(0, .ref (q 0)), (1, .int x1), (2, .int x2), (3, .int x3)] := hl
  have b_54 : ∀ (y0 : Int32), ∀ ls : Array Slot, lv_has ls 5 [] → fX7_canSay_54 N A y0 = some r → W p l e rmX7_canSay s m [.ref (q 0), .int x1, .int x2, .int x3].toArray below meth cd s.heap [] 0 0 Q (F0 m 54 ls [.int y0]) := by
    intro y0 ls hl hf
    unfold fX7_canSay_54 at hf
    obtain ⟨v1, hv1, hf⟩ := bnd hf
    obtain ⟨ev1, hv1⟩ := bz_in hv1
    rw [ev1]
    have e9 := Option.some.inj hf
    exact fin 54 ls _ e9 (nar_z (by rw [← e9]; exact hv1)) dX7_canSay_54
  have b_53 : ∀ ls : Array Slot, lv_has ls 5 [] → fX7_canSay_53 N A = some r → W p l e rmX7_canSay s m [.ref (q 0), .int x1, .int x2, .int x3].toArray below meth cd s.heap [] 0 0 Q (F0 m 53 ls []) := by
    intro ls hl hf
    unfold fX7_canSay_53 at hf
    refine lv_iconst (v := 0) hx hb dX7_canSay_53 (by decide) ?_
    exact b_54 0 ls (lv_sub hl [] rfl) hf
  unfold fX7_canSay at hf
  refine lv_bipush (v := 31) hx hb dX7_canSay_0 (by decide) ?_
  refine lv_iload_n hx hb dX7_canSay_2 rfl (lv_at hl 1 rfl) ?_
  refine lv_imul hx hb dX7_canSay_3 ?_
  refine lv_istore (lv' := [(4, .int (31 * x1)), (0, .ref (q 0)), (1, .int x1), (2, .int x2), (3, .int x3)]) hx hb dX7_canSay_4 hl (by decide) rfl (fun ls hl => ?_)
  refine lv_aload_n hx hb dX7_canSay_6 rfl (lv_at hl 1 rfl) ?_
  refine lv_iload_n hx hb dX7_canSay_7 rfl (lv_at hl 2 rfl) ?_
  refine lv_iload_n hx hb dX7_canSay_8 rfl (lv_at hl 3 rfl) ?_
  obtain ⟨z1, hz1, hf⟩ := bnd hf
  refine x_rdV (C := RX7) (n := 2) (ci := 7) hx hb hml hown hts hE (ct_X7_isProved N l G cI cZ cO q I A L x1 x2 z1 hz1) (bg 13 10 rfl) mb_X7_isProved.1 mb_X7_isProved.2.1 mb_X7_isProved.2.2.1 mb_X7_isProved.2.2.2 hd_X7_isProved rfl (by decide) hP rfl rfl rfl rfl hl.1 (Nat.le_of_ble_eq_true rfl) ⟨Nat.zero_le _, Nat.zero_le _⟩ dX7_canSay_9 ?_
  refine lv_if_ne (tgt := 53) hx hb dX7_canSay_12 (by decide) (fun c2 => ?_) (fun c2 => ?_)
  · rw [if_neg c2] at hf
    exact b_53 ls (lv_sub hl [] rfl) hf
  · rw [if_pos c2] at hf
    refine lv_aload_n hx hb dX7_canSay_15 rfl (lv_at hl 1 rfl) ?_
    refine va_get (D := G) (ci := 7) (v := .ref (q 6)) (C := RX7) (T := TX7) (N := 33) hx hb hts inlX7 hown hE.1 hP 0 rfl rfl 7 (by decide) (hts _ (bg 3 19 rfl)) (fun _ h9 => h9) rfl dX7_canSay_16 ?_
    refine lv_iload hx hb dX7_canSay_19 (lv_at hl 0 rfl) ?_
    refine lv_iload_n hx hb dX7_canSay_21 rfl (lv_at hl 3 rfl) ?_
    refine lv_iadd hx hb dX7_canSay_22 ?_
    obtain ⟨v3, hv3, hf⟩ := bnd hf
    refine x_iald hx hb hE.1 hP 6 0 rfl rfl hv3 dX7_canSay_23 ?_
    refine lv_iload_n hx hb dX7_canSay_24 rfl (lv_at hl 4 rfl) ?_
    obtain ⟨z4, hz4, hf⟩ := bnd hf
    refine x_rdS (n := 2) hx hb hml hown hts hE (ct_X7_has N l G cI cZ cO v3 x3 z4 hz4) (bg 10 12 rfl) mb_X7_has.1 mb_X7_has.2.1 mb_X7_has.2.2 hd_X7_has rfl (by decide) va_P_nil rfl hl.1 (Nat.le_of_ble_eq_true rfl) ⟨Nat.zero_le _, Nat.zero_le _⟩ dX7_canSay_25 ?_
    refine lv_if_ne (tgt := 53) hx hb dX7_canSay_28 (by decide) (fun c5 => ?_) (fun c5 => ?_)
    · rw [if_neg c5] at hf
      exact b_53 ls (lv_sub hl [] rfl) hf
    · rw [if_pos c5] at hf
      refine lv_aload_n hx hb dX7_canSay_31 rfl (lv_at hl 1 rfl) ?_
      refine va_get (D := G) (ci := 7) (v := .ref (q 6)) (C := RX7) (T := TX7) (N := 33) hx hb hts inlX7 hown hE.1 hP 0 rfl rfl 7 (by decide) (hts _ (bg 3 19 rfl)) (fun _ h9 => h9) rfl dX7_canSay_32 ?_
      refine lv_iload hx hb dX7_canSay_35 (lv_at hl 0 rfl) ?_
      refine lv_iconst (v := 5) hx hb dX7_canSay_37 (by decide) ?_
      refine lv_iadd hx hb dX7_canSay_38 ?_
      refine lv_iload_n hx hb dX7_canSay_39 rfl (lv_at hl 3 rfl) ?_
      refine lv_iadd hx hb dX7_canSay_40 ?_
      obtain ⟨v6, hv6, hf⟩ := bnd hf
      refine x_iald hx hb hE.1 hP 6 0 rfl rfl hv6 dX7_canSay_41 ?_
      refine lv_iload_n hx hb dX7_canSay_42 rfl (lv_at hl 4 rfl) ?_
      obtain ⟨z7, hz7, hf⟩ := bnd hf
      refine x_rdS (n := 2) hx hb hml hown hts hE (ct_X7_has N l G cI cZ cO v6 x3 z7 hz7) (bg 10 12 rfl) mb_X7_has.1 mb_X7_has.2.1 mb_X7_has.2.2 hd_X7_has rfl (by decide) va_P_nil rfl hl.1 (Nat.le_of_ble_eq_true rfl) ⟨Nat.zero_le _, Nat.zero_le _⟩ dX7_canSay_43 ?_
      refine lv_if_ne (tgt := 53) hx hb dX7_canSay_46 (by decide) (fun c8 => ?_) (fun c8 => ?_)
      · rw [if_neg c8] at hf
        exact b_53 ls (lv_sub hl [] rfl) hf
      · rw [if_pos c8] at hf
        refine lv_iconst (v := 1) hx hb dX7_canSay_49 (by decide) ?_
        refine lv_goto (tgt := 54) hx hb dX7_canSay_50 (by decide) ?_
        exact b_54 1 ls (lv_sub hl [] rfl) hf
def fX7_ones_4s (N : Nat) (k_4 : Int32 → Int32 → Int32 → Option (Int32)) (u0 : Int32) (u1 : Int32) (u2 : Int32) : Option (Int32) := if 6 ≤ u2 then some u1 else k_4 u0 (u1 + ((shr u0 u2) &&& 1)) (u2 + 1)
def fX7_ones_4 (N : Nat) : Nat → Int32 → Int32 → Int32 → Option (Int32)
  | 0 => fun _ _ _ => none
  | n + 1 => fX7_ones_4s N (fX7_ones_4 N n)
def fX7_ones (N : Nat) (x0 : Int32) : Option (Int32) := fX7_ones_4 N N x0 0 0
def rmX7_ones : Room := { frames := 0, cells := 0, slots := 0, locals := 0 }
theorem mb_X7_ones : Cond.static yX7_ones ∈ wsL_law ∧ Cond.initialized yX7_ones.cls ∈ wsL_law ∧ Cond.code yX7_ones cX7_ones 3 (some .int) ∈ wsL_law := ⟨(bg 18 22 rfl), (bg 0 5 rfl), (bg 18 23 rfl)⟩
theorem hd_X7_ones : yX7_ones.cls ≠ "java/lang/invoke/MethodHandle" ∧ yX7_ones.cls ≠ "java/lang/invoke/VarHandle" ∧ (parseMethodDescriptor yX7_ones.desc).map (fun d => d.parameters.length) = some 1 := by decide +kernel
set_option maxRecDepth 100000 in
set_option maxHeartbeats 4000000 in
theorem ct_X7_ones (N : Nat) (l : Launch) (G : va_G) (cI cZ cO : ClassId) (x0 : Int32) (r : Int32) (hf : fX7_ones N x0 = some r) : RtI l yX7_ones cX7_ones 3 .int rmX7_ones G cI cZ cO [.int x0] [] r := by
  refine mkRI (by decide) (Nat.le_of_ble_eq_true rfl) ?_
  intro p e s m below meth cd Q hC hP hE fin ls hl
  obtain ⟨hx, hb, hml, hown, hts⟩ := hC
  have hown : s.vm.findClass RX7 = some m.cls := hown
  have hl : lv_has ls 3 [(0, .int x0)] := hl
  have b_4 : ∀ n : Nat, ∀ (u0 : Int32) (u1 : Int32) (u2 : Int32), ∀ ls : Array Slot, lv_has ls 3 [(0, .int u0), (1, .int u1), (2, .int u2)] → fX7_ones_4 N n u0 u1 u2 = some r → W p l e rmX7_ones s m [.int x0].toArray below meth cd s.heap [] 0 0 Q (F0 m 4 ls []) := by
    intro n
    induction n with
    | zero =>
      intro u0 u1 u2 ls hl hf
      cases hf
    | succ n hk_4 =>
      intro u0 u1 u2 ls hl hf
      replace hf : fX7_ones_4s N (fX7_ones_4 N n) u0 u1 u2 = some r := hf
      generalize fX7_ones_4 N n = k_4 at hf hk_4
      unfold fX7_ones_4s at hf
      refine lv_iload_n hx hb dX7_ones_4 rfl (lv_at hl 2 rfl) ?_
      refine lv_bipush (v := 6) hx hb dX7_ones_5 (by decide) ?_
      refine lv_icmp_ge (tgt := 24) hx hb dX7_ones_7 (by decide) (fun c1 => ?_) (fun c1 => ?_)
      · rw [if_pos c1] at hf
        refine lv_iload_n hx hb dX7_ones_24 rfl (lv_at hl 1 rfl) ?_
        have e9 := Option.some.inj hf
        exact fin 25 ls _ e9 (nar_i _) dX7_ones_25
      · rw [if_neg c1] at hf
        refine lv_iload_n hx hb dX7_ones_10 rfl (lv_at hl 1 rfl) ?_
        refine lv_iload_n hx hb dX7_ones_11 rfl (lv_at hl 0 rfl) ?_
        refine lv_iload_n hx hb dX7_ones_12 rfl (lv_at hl 2 rfl) ?_
        refine x_ishr hx hb dX7_ones_13 ?_
        refine lv_iconst (v := 1) hx hb dX7_ones_14 (by decide) ?_
        refine lv_iand hx hb dX7_ones_15 ?_
        refine lv_iadd hx hb dX7_ones_16 ?_
        refine lv_istore_n (lv' := [(1, .int (u1 + ((shr u0 u2) &&& 1))), (0, .int u0), (2, .int u2)]) hx hb dX7_ones_17 rfl hl (by decide) rfl (fun ls hl => ?_)
        refine lv_iinc (v := u2 + 1) (lv' := [(2, .int (u2 + 1)), (1, .int (u1 + ((shr u0 u2) &&& 1))), (0, .int u0)]) hx hb dX7_ones_18 hl (k := 2) rfl rfl (by decide) rfl (fun ls hl => ?_)
        refine lv_goto (tgt := 4) hx hb dX7_ones_21 (by decide) ?_
        exact hk_4 u0 (u1 + ((shr u0 u2) &&& 1)) (u2 + 1) ls (lv_sub hl [2, 1, 0] rfl) hf
  unfold fX7_ones at hf
  refine lv_iconst (v := 0) hx hb dX7_ones_0 (by decide) ?_
  refine lv_istore_n (lv' := [(1, .int 0), (0, .int x0)]) hx hb dX7_ones_1 rfl hl (by decide) rfl (fun ls hl => ?_)
  refine lv_iconst (v := 0) hx hb dX7_ones_2 (by decide) ?_
  refine lv_istore_n (lv' := [(2, .int 0), (1, .int 0), (0, .int x0)]) hx hb dX7_ones_3 rfl hl (by decide) rfl (fun ls hl => ?_)
  exact b_4 N x0 0 0 ls (lv_sub hl [2, 1, 0] rfl) hf
def fX7_say (N : Nat) (I : Nat → Int32) (A : Nat → Nat → Int32) (x1 : Int32) (x2 : Int32) : Option (Int32 × (Nat → Int32) × (Nat → Nat → Int32)) := (fX7_isRumour N I x1).bind fun z1 => if z1 = 0 then some ((-1), I, A) else (fX7_isTable N x2).bind fun z3 => if z3 = 0 then some ((-2), I, A) else (fX7_canSay N A 0 x1 x2).bind fun z5 => if z5 = 0 then some ((-3), I, A) else (fX7_keepAct N I A).bind fun z7 => (rd 62 (z7.2 5) x1).bind fun v8 => (wr 62 (z7.2 5) x1 (v8 ||| (shl 1 x2))).bind fun g9 => (rd 62 g9 x1).bind fun v10 => (fX7_ones N v10).bind fun z11 => some (z11, z7.1, va_up z7.2 5 g9)
def rmX7_say : Room := { frames := 2, cells := 0, slots := 0, locals := 46 }
theorem mb_X7_say : Cond.instanceMethod yX7_say ∈ wsL_law ∧ Cond.selects RX7 yX7_say yX7_say ∈ wsL_law ∧ Cond.initialized RX7 ∈ wsL_law ∧ Cond.code yX7_say cX7_say 3 (some .int) ∈ wsL_law := ⟨(bg 18 10 rfl), (bg 18 11 rfl), (bg 0 5 rfl), (bg 18 12 rfl)⟩
theorem hd_X7_say : yX7_say.cls = RX7 ∧ yX7_say.cls ≠ "java/lang/invoke/MethodHandle" ∧ yX7_say.cls ≠ "java/lang/invoke/VarHandle" ∧ (parseMethodDescriptor yX7_say.desc).map (fun d => d.parameters.length) = some 2 := by decide +kernel
set_option maxRecDepth 100000 in
set_option maxHeartbeats 4000000 in
theorem ct_X7_say (N : Nat) (l : Launch) (G : va_G) (cI cZ cO : ClassId) (q : Nat → Nat) (I : Nat → Int32) (A : Nat → Nat → Int32) (L : Int64) (x1 : Int32) (x2 : Int32) (r : Int32) (Iz : Nat → Int32) (Az : Nat → Nat → Int32) (hf : fX7_say N I A x1 x2 = some (r, Iz, Az)) : CtI l yX7_say cX7_say 3 .int rmX7_say G cI cZ cO [.ref (q 0), .int x1, .int x2] (wX7 q cI cZ cO I A L) (wX7 q cI cZ cO Iz Az L) r := by
  refine mkCI (by decide) (Nat.le_of_ble_eq_true rfl) ?_
  intro p e s m below meth cd Q Z hC hP hE hD hA fin ls hl
  obtain ⟨hx, hb, hml, hown, hts⟩ := hC
  have hown : s.vm.findClass RX7 = some m.cls := hown
  have hl : lv_has ls 3 [(0, .ref (q 0)), (1, .int x1), (2, .int x2)] := hl
  unfold fX7_say at hf
  have hS : va_S Z s.heap s.heap [] := va_S.rf
  obtain ⟨H, hH⟩ : ∃ H, H = s.heap := ⟨_, rfl⟩
  obtain ⟨locs, hlocs⟩ : ∃ locs : List Loc, locs = [] := ⟨_, rfl⟩
  rw [← hlocs]
  rw [← hlocs] at hS
  suffices hW : ∀ H : Heap, va_P G vwCl (wX7 q cI cZ cO I A L) H → va_S Z s.heap H locs → W p l e rmX7_say s m [.ref (q 0), .int x1, .int x2].toArray below meth cd H locs 0 0 Q (F0 m 0 ls []) from hW s.heap hP hS
  clear hP hS hH H
  intro H hP hS
  refine lv_aload_n hx hb dX7_say_0 rfl (lv_at hl 0 rfl) ?_
  refine lv_iload_n hx hb dX7_say_1 rfl (lv_at hl 1 rfl) ?_
  obtain ⟨z1, hz1, hf⟩ := bnd hf
  refine x_rdV (C := RX7) (n := 1) (ci := 7) hx hb hml hown hts hE (ct_X7_isRumour N l G cI cZ cO q I A L x1 z1 hz1) (bg 13 6 rfl) mb_X7_isRumour.1 mb_X7_isRumour.2.1 mb_X7_isRumour.2.2.1 mb_X7_isRumour.2.2.2 hd_X7_isRumour rfl (by decide) hP rfl rfl rfl rfl hl.1 (Nat.le_of_ble_eq_true rfl) ⟨Nat.zero_le _, Nat.zero_le _⟩ dX7_say_2 ?_
  refine lv_if_ne (tgt := 10) hx hb dX7_say_5 (by decide) (fun c2 => ?_) (fun c2 => ?_)
  · rw [if_neg c2] at hf
    refine lv_iload_n hx hb dX7_say_10 rfl (lv_at hl 2 rfl) ?_
    obtain ⟨z3, hz3, hf⟩ := bnd hf
    refine x_rdS (n := 1) hx hb hml hown hts hE (ct_X7_isTable N l G cI cZ cO x2 z3 hz3) (bg 18 13 rfl) mb_X7_isTable.1 mb_X7_isTable.2.1 mb_X7_isTable.2.2 hd_X7_isTable rfl (by decide) va_P_nil rfl hl.1 (Nat.le_of_ble_eq_true rfl) ⟨Nat.zero_le _, Nat.zero_le _⟩ dX7_say_11 ?_
    refine lv_if_ne (tgt := 20) hx hb dX7_say_14 (by decide) (fun c4 => ?_) (fun c4 => ?_)
    · rw [if_neg c4] at hf
      refine lv_aload_n hx hb dX7_say_20 rfl (lv_at hl 0 rfl) ?_
      refine lv_iconst (v := 0) hx hb dX7_say_21 (by decide) ?_
      refine lv_iload_n hx hb dX7_say_22 rfl (lv_at hl 1 rfl) ?_
      refine lv_iload_n hx hb dX7_say_23 rfl (lv_at hl 2 rfl) ?_
      obtain ⟨z5, hz5, hf⟩ := bnd hf
      refine x_rdV (C := RX7) (n := 3) (ci := 7) hx hb hml hown hts hE (ct_X7_canSay N l G cI cZ cO q I A L 0 x1 x2 z5 hz5) (bg 18 17 rfl) mb_X7_canSay.1 mb_X7_canSay.2.1 mb_X7_canSay.2.2.1 mb_X7_canSay.2.2.2 hd_X7_canSay rfl (by decide) hP rfl rfl rfl rfl hl.1 (Nat.le_of_ble_eq_true rfl) ⟨Nat.zero_le _, Nat.zero_le _⟩ dX7_say_24 ?_
      refine lv_if_ne (tgt := 33) hx hb dX7_say_27 (by decide) (fun c6 => ?_) (fun c6 => ?_)
      · rw [if_neg c6] at hf
        refine lv_aload_n hx hb dX7_say_33 rfl (lv_at hl 0 rfl) ?_
        obtain ⟨z7, hz7, hf⟩ := bnd hf
        refine x_wwVv (C := RX7) (n := 0) (ci := 7) hx hb hml hown hts hE (ct_X7_keepAct N l G cI cZ cO q I A L z7.1 z7.2 hz7) (bg 17 2 rfl) mb_X7_keepAct.1 mb_X7_keepAct.2.1 mb_X7_keepAct.2.2.1 mb_X7_keepAct.2.2.2 hd_X7_keepAct rfl (by decide) hP hD hS hA rfl rfl rfl rfl rfl hl.1 (Nat.le_of_ble_eq_true rfl) ⟨Nat.zero_le _, Nat.zero_le _⟩ dX7_say_34 (fun H locs hP hD hS => ?_)
        have hP : va_P G vwCl (wX7 q cI cZ cO z7.1 z7.2 L) H := hP
        have hD : va_D Z (wX7 q cI cZ cO z7.1 z7.2 L) := hD
        refine lv_aload_n hx hb dX7_say_37 rfl (lv_at hl 0 rfl) ?_
        refine va_get (D := G) (ci := 7) (v := .ref (q 6)) (C := RX7) (T := TX7) (N := 33) hx hb hts inlX7 hown hE.1 hP 0 rfl rfl 7 (by decide) (hts _ (bg 3 19 rfl)) (fun _ h9 => h9) rfl dX7_say_38 ?_
        refine lv_iload_n hx hb dX7_say_41 rfl (lv_at hl 1 rfl) ?_
        refine lv_dup2_11 hx hb dX7_say_42 rfl rfl ?_
        obtain ⟨v8, hv8, hf⟩ := bnd hf
        refine x_iald hx hb hE.1 hP 6 0 rfl rfl hv8 dX7_say_43 ?_
        refine lv_iconst (v := 1) hx hb dX7_say_44 (by decide) ?_
        refine lv_iload_n hx hb dX7_say_45 rfl (lv_at hl 2 rfl) ?_
        refine x_ishl hx hb dX7_say_46 ?_
        refine lv_ior hx hb dX7_say_47 ?_
        obtain ⟨g9, hg9, hf⟩ := bnd hf
        refine x_iast hx hb hE.1 hP hD hS 6 0 rfl rfl hg9 dX7_say_48 (fun H locs hP hD hS => ?_)
        have hP : va_P G vwCl (wX7 q cI cZ cO z7.1 (va_up z7.2 5 g9) L) H := hP
        have hD : va_D Z (wX7 q cI cZ cO z7.1 (va_up z7.2 5 g9) L) := hD
        refine lv_aload_n hx hb dX7_say_49 rfl (lv_at hl 0 rfl) ?_
        refine va_get (D := G) (ci := 7) (v := .ref (q 6)) (C := RX7) (T := TX7) (N := 33) hx hb hts inlX7 hown hE.1 hP 0 rfl rfl 7 (by decide) (hts _ (bg 3 19 rfl)) (fun _ h9 => h9) rfl dX7_say_50 ?_
        refine lv_iload_n hx hb dX7_say_53 rfl (lv_at hl 1 rfl) ?_
        obtain ⟨v10, hv10, hf⟩ := bnd hf
        refine x_iald hx hb hE.1 hP 6 0 rfl rfl hv10 dX7_say_54 ?_
        obtain ⟨z11, hz11, hf⟩ := bnd hf
        refine x_rdS (n := 1) hx hb hml hown hts hE (ct_X7_ones N l G cI cZ cO v10 z11 hz11) (bg 18 21 rfl) mb_X7_ones.1 mb_X7_ones.2.1 mb_X7_ones.2.2 hd_X7_ones rfl (by decide) va_P_nil rfl hl.1 (Nat.le_of_ble_eq_true rfl) ⟨Nat.zero_le _, Nat.zero_le _⟩ dX7_say_55 ?_
        have e9 := Option.some.inj hf
        exact fin H locs 58 ls _ (Prod.mk.inj e9).1 (nar_i _) (by rw [← (Prod.mk.inj (Prod.mk.inj e9).2).1, ← (Prod.mk.inj (Prod.mk.inj e9).2).2]; exact hP) hS dX7_say_58
      · rw [if_pos c6] at hf
        refine lv_bipush (v := (-3)) hx hb dX7_say_30 (by decide) ?_
        have e9 := Option.some.inj hf
        exact fin H locs 32 ls _ (Prod.mk.inj e9).1 (nar_i _) (by rw [← (Prod.mk.inj (Prod.mk.inj e9).2).1, ← (Prod.mk.inj (Prod.mk.inj e9).2).2]; exact hP) hS dX7_say_32
    · rw [if_pos c4] at hf
      refine lv_bipush (v := (-2)) hx hb dX7_say_17 (by decide) ?_
      have e9 := Option.some.inj hf
      exact fin H locs 19 ls _ (Prod.mk.inj e9).1 (nar_i _) (by rw [← (Prod.mk.inj (Prod.mk.inj e9).2).1, ← (Prod.mk.inj (Prod.mk.inj e9).2).2]; exact hP) hS dX7_say_19
  · rw [if_pos c2] at hf
    refine lv_iconst (v := (-1)) hx hb dX7_say_8 (by decide) ?_
    have e9 := Option.some.inj hf
    exact fin H locs 9 ls _ (Prod.mk.inj e9).1 (nar_i _) (by rw [← (Prod.mk.inj (Prod.mk.inj e9).2).1, ← (Prod.mk.inj (Prod.mk.inj e9).2).2]; exact hP) hS dX7_say_9
def fX7_canDeny_43 (N : Nat) (A : Nat → Nat → Int32) (y0 : Int32) : Option (Int32) := (bz y0).bind fun v1 => some v1
def fX7_canDeny_42 (N : Nat) (A : Nat → Nat → Int32) : Option (Int32) := fX7_canDeny_43 N A 0
def fX7_canDeny_18 (N : Nat) (A : Nat → Nat → Int32) (u1 : Int32) (u2 : Int32) (u3 : Int32) : Option (Int32) := (rd 62 (A 5) (((31 * u1) + 5) + u2)).bind fun v1 => (fX7_has N v1 u3).bind fun z2 => if z2 = 0 then fX7_canDeny_43 N A 1 else fX7_canDeny_42 N A
def fX7_canDeny (N : Nat) (A : Nat → Nat → Int32) (x1 : Int32) (x2 : Int32) (x3 : Int32) : Option (Int32) := (fX7_isProved N A x1 x2).bind fun z1 => if z1 = 0 then fX7_canDeny_18 N A x1 x2 x3 else (rd 5 (A 1) x2).bind fun v3 => if v3 = 0 then fX7_canDeny_42 N A else fX7_canDeny_18 N A x1 x2 x3
def rmX7_canDeny : Room := { frames := 1, cells := 0, slots := 0, locals := 22 }
theorem mb_X7_canDeny : Cond.instanceMethod yX7_canDeny ∈ wsL_law ∧ Cond.selects RX7 yX7_canDeny yX7_canDeny ∈ wsL_law ∧ Cond.initialized RX7 ∈ wsL_law ∧ Cond.code yX7_canDeny cX7_canDeny 4 (some .boolean) ∈ wsL_law := ⟨(bg 19 21 rfl), (bg 19 22 rfl), (bg 0 5 rfl), (bg 19 23 rfl)⟩
theorem hd_X7_canDeny : yX7_canDeny.cls = RX7 ∧ yX7_canDeny.cls ≠ "java/lang/invoke/MethodHandle" ∧ yX7_canDeny.cls ≠ "java/lang/invoke/VarHandle" ∧ (parseMethodDescriptor yX7_canDeny.desc).map (fun d => d.parameters.length) = some 3 := by decide +kernel
set_option maxRecDepth 100000 in
set_option maxHeartbeats 4000000 in
theorem ct_X7_canDeny (N : Nat) (l : Launch) (G : va_G) (cI cZ cO : ClassId) (q : Nat → Nat) (I : Nat → Int32) (A : Nat → Nat → Int32) (L : Int64) (x1 : Int32) (x2 : Int32) (x3 : Int32) (r : Int32) (hf : fX7_canDeny N A x1 x2 x3 = some r) : RtI l yX7_canDeny cX7_canDeny 4 .boolean rmX7_canDeny G cI cZ cO [.ref (q 0), .int x1, .int x2, .int x3] (wX7 q cI cZ cO I A L) r := by
  refine mkRI (by decide) (Nat.le_of_ble_eq_true rfl) ?_
  intro p e s m below meth cd Q hC hP hE fin ls hl
  obtain ⟨hx, hb, hml, hown, hts⟩ := hC
  have hown : s.vm.findClass RX7 = some m.cls := hown
  have hl : lv_has ls 4 [(0, .ref (q 0)), (1, .int x1), (2, .int x2), (3, .int x3)] := hl
  have b_43 : ∀ (y0 : Int32), ∀ ls : Array Slot, lv_has ls 4 [] → fX7_canDeny_43 N A y0 = some r → W p l e rmX7_canDeny s m [.ref (q 0), .int x1, .int x2, .int x3].toArray below meth cd s.heap [] 0 0 Q (F0 m 43 ls [.int y0]) := by
    intro y0 ls hl hf
    unfold fX7_canDeny_43 at hf
    obtain ⟨v1, hv1, hf⟩ := bnd hf
    obtain ⟨ev1, hv1⟩ := bz_in hv1
    rw [ev1]
    have e9 := Option.some.inj hf
    exact fin 43 ls _ e9 (nar_z (by rw [← e9]; exact hv1)) dX7_canDeny_43
  have b_42 : ∀ ls : Array Slot, lv_has ls 4 [] → fX7_canDeny_42 N A = some r → W p l e rmX7_canDeny s m [.ref (q 0), .int x1, .int x2, .int x3].toArray below meth cd s.heap [] 0 0 Q (F0 m 42 ls []) := by
    intro ls hl hf
    unfold fX7_canDeny_42 at hf
    refine lv_iconst (v := 0) hx hb dX7_canDeny_42 (by decide) ?_
    exact b_43 0 ls (lv_sub hl [] rfl) hf
  have b_18 : ∀ (u1 : Int32) (u2 : Int32) (u3 : Int32), ∀ ls : Array Slot, lv_has ls 4 [(0, .ref (q 0)), (1, .int u1), (2, .int u2), (3, .int u3)] → fX7_canDeny_18 N A u1 u2 u3 = some r → W p l e rmX7_canDeny s m [.ref (q 0), .int x1, .int x2, .int x3].toArray below meth cd s.heap [] 0 0 Q (F0 m 18 ls []) := by
    intro u1 u2 u3 ls hl hf
    unfold fX7_canDeny_18 at hf
    refine lv_aload_n hx hb dX7_canDeny_18 rfl (lv_at hl 0 rfl) ?_
    refine va_get (D := G) (ci := 7) (v := .ref (q 6)) (C := RX7) (T := TX7) (N := 33) hx hb hts inlX7 hown hE.1 hP 0 rfl rfl 7 (by decide) (hts _ (bg 3 19 rfl)) (fun _ h9 => h9) rfl dX7_canDeny_19 ?_
    refine lv_bipush (v := 31) hx hb dX7_canDeny_22 (by decide) ?_
    refine lv_iload_n hx hb dX7_canDeny_24 rfl (lv_at hl 1 rfl) ?_
    refine lv_imul hx hb dX7_canDeny_25 ?_
    refine lv_iconst (v := 5) hx hb dX7_canDeny_26 (by decide) ?_
    refine lv_iadd hx hb dX7_canDeny_27 ?_
    refine lv_iload_n hx hb dX7_canDeny_28 rfl (lv_at hl 2 rfl) ?_
    refine lv_iadd hx hb dX7_canDeny_29 ?_
    obtain ⟨v1, hv1, hf⟩ := bnd hf
    refine x_iald hx hb hE.1 hP 6 0 rfl rfl hv1 dX7_canDeny_30 ?_
    refine lv_iload_n hx hb dX7_canDeny_31 rfl (lv_at hl 3 rfl) ?_
    obtain ⟨z2, hz2, hf⟩ := bnd hf
    refine x_rdS (n := 2) hx hb hml hown hts hE (ct_X7_has N l G cI cZ cO v1 u3 z2 hz2) (bg 10 12 rfl) mb_X7_has.1 mb_X7_has.2.1 mb_X7_has.2.2 hd_X7_has rfl (by decide) va_P_nil rfl hl.1 (Nat.le_of_ble_eq_true rfl) ⟨Nat.zero_le _, Nat.zero_le _⟩ dX7_canDeny_32 ?_
    refine lv_if_ne (tgt := 42) hx hb dX7_canDeny_35 (by decide) (fun c3 => ?_) (fun c3 => ?_)
    · rw [if_neg c3] at hf
      exact b_42 ls (lv_sub hl [] rfl) hf
    · rw [if_pos c3] at hf
      refine lv_iconst (v := 1) hx hb dX7_canDeny_38 (by decide) ?_
      refine lv_goto (tgt := 43) hx hb dX7_canDeny_39 (by decide) ?_
      exact b_43 1 ls (lv_sub hl [] rfl) hf
  unfold fX7_canDeny at hf
  refine lv_aload_n hx hb dX7_canDeny_0 rfl (lv_at hl 0 rfl) ?_
  refine lv_iload_n hx hb dX7_canDeny_1 rfl (lv_at hl 1 rfl) ?_
  refine lv_iload_n hx hb dX7_canDeny_2 rfl (lv_at hl 2 rfl) ?_
  obtain ⟨z1, hz1, hf⟩ := bnd hf
  refine x_rdV (C := RX7) (n := 2) (ci := 7) hx hb hml hown hts hE (ct_X7_isProved N l G cI cZ cO q I A L x1 x2 z1 hz1) (bg 13 10 rfl) mb_X7_isProved.1 mb_X7_isProved.2.1 mb_X7_isProved.2.2.1 mb_X7_isProved.2.2.2 hd_X7_isProved rfl (by decide) hP rfl rfl rfl rfl hl.1 (Nat.le_of_ble_eq_true rfl) ⟨Nat.zero_le _, Nat.zero_le _⟩ dX7_canDeny_3 ?_
  refine lv_if_eq (tgt := 18) hx hb dX7_canDeny_6 (by decide) (fun c2 => ?_) (fun c2 => ?_)
  · rw [if_pos c2] at hf
    exact b_18 x1 x2 x3 ls (lv_sub hl [0, 1, 2, 3] rfl) hf
  · rw [if_neg c2] at hf
    refine lv_aload_n hx hb dX7_canDeny_9 rfl (lv_at hl 0 rfl) ?_
    refine va_get (D := G) (ci := 7) (v := .ref (q 2)) (C := RX7) (T := TX7) (N := 33) hx hb hts inlX7 hown hE.1 hP 0 rfl rfl 3 (by decide) (hts _ (bg 3 15 rfl)) (fun _ h9 => h9) rfl dX7_canDeny_10 ?_
    refine lv_iload_n hx hb dX7_canDeny_13 rfl (lv_at hl 2 rfl) ?_
    obtain ⟨v3, hv3, hf⟩ := bnd hf
    refine x_iald hx hb hE.1 hP 2 0 rfl rfl hv3 dX7_canDeny_14 ?_
    refine lv_if_eq (tgt := 42) hx hb dX7_canDeny_15 (by decide) (fun c4 => ?_) (fun c4 => ?_)
    · rw [if_pos c4] at hf
      exact b_42 ls (lv_sub hl [] rfl) hf
    · rw [if_neg c4] at hf
      exact b_18 x1 x2 x3 ls (lv_sub hl [0, 1, 2, 3] rfl) hf
def fX7_denyOn (N : Nat) (A : Nat → Nat → Int32) (x1 : Int32) (x2 : Int32) (x3 : Int32) : Option ((Nat → Nat → Int32)) := (rd 62 (A 5) (((31 * x1) + 5) + x2)).bind fun v1 => (wr 62 (A 5) (((31 * x1) + 5) + x2) (v1 ||| (shl 1 x3))).bind fun g2 => (rd 62 g2 ((31 * x1) + x2)).bind fun v3 => (wr 62 g2 ((31 * x1) + x2) (v3 &&& ((shl 1 x3) ^^^ (-1)))).bind fun g4 => some (va_up (va_up A 5 g2) 5 g4)
def rmX7_denyOn : Room := { frames := 0, cells := 0, slots := 0, locals := 0 }
theorem mb_X7_denyOn : Cond.instanceMethod yX7_denyOn ∈ wsL_law ∧ Cond.selects RX7 yX7_denyOn yX7_denyOn ∈ wsL_law ∧ Cond.initialized RX7 ∈ wsL_law ∧ Cond.code yX7_denyOn cX7_denyOn 4 none ∈ wsL_law := ⟨(bg 20 1 rfl), (bg 20 2 rfl), (bg 0 5 rfl), (bg 20 3 rfl)⟩
theorem hd_X7_denyOn : yX7_denyOn.cls = RX7 ∧ yX7_denyOn.cls ≠ "java/lang/invoke/MethodHandle" ∧ yX7_denyOn.cls ≠ "java/lang/invoke/VarHandle" ∧ (parseMethodDescriptor yX7_denyOn.desc).map (fun d => d.parameters.length) = some 3 := by decide +kernel
set_option maxRecDepth 100000 in
set_option maxHeartbeats 4000000 in
theorem ct_X7_denyOn (N : Nat) (l : Launch) (G : va_G) (cI cZ cO : ClassId) (q : Nat → Nat) (I : Nat → Int32) (A : Nat → Nat → Int32) (L : Int64) (x1 : Int32) (x2 : Int32) (x3 : Int32) (Az : Nat → Nat → Int32) (hf : fX7_denyOn N A x1 x2 x3 = some Az) : CtV l yX7_denyOn cX7_denyOn 4 rmX7_denyOn G cI cZ cO [.ref (q 0), .int x1, .int x2, .int x3] (wX7 q cI cZ cO I A L) (wX7 q cI cZ cO I Az L) := by
  refine mkCV (by decide) (Nat.le_of_ble_eq_true rfl) ?_
  intro p e s m below meth cd Q Z hC hP hE hD hA fin ls hl
  obtain ⟨hx, hb, hml, hown, hts⟩ := hC
  have hown : s.vm.findClass RX7 = some m.cls := hown
  have hl : lv_has ls 4 [(0, .ref (q 0)), (1, .int x1), (2, .int x2), (3, .int x3)] := hl
  unfold fX7_denyOn at hf
  have hS : va_S Z s.heap s.heap [] := va_S.rf
  obtain ⟨H, hH⟩ : ∃ H, H = s.heap := ⟨_, rfl⟩
  obtain ⟨locs, hlocs⟩ : ∃ locs : List Loc, locs = [] := ⟨_, rfl⟩
  rw [← hlocs]
  rw [← hlocs] at hS
  suffices hW : ∀ H : Heap, va_P G vwCl (wX7 q cI cZ cO I A L) H → va_S Z s.heap H locs → W p l e rmX7_denyOn s m [.ref (q 0), .int x1, .int x2, .int x3].toArray below meth cd H locs 0 0 Q (F0 m 0 ls []) from hW s.heap hP hS
  clear hP hS hH H
  intro H hP hS
  refine lv_aload_n hx hb dX7_denyOn_0 rfl (lv_at hl 0 rfl) ?_
  refine va_get (D := G) (ci := 7) (v := .ref (q 6)) (C := RX7) (T := TX7) (N := 33) hx hb hts inlX7 hown hE.1 hP 0 rfl rfl 7 (by decide) (hts _ (bg 3 19 rfl)) (fun _ h9 => h9) rfl dX7_denyOn_1 ?_
  refine lv_bipush (v := 31) hx hb dX7_denyOn_4 (by decide) ?_
  refine lv_iload_n hx hb dX7_denyOn_6 rfl (lv_at hl 1 rfl) ?_
  refine lv_imul hx hb dX7_denyOn_7 ?_
  refine lv_iconst (v := 5) hx hb dX7_denyOn_8 (by decide) ?_
  refine lv_iadd hx hb dX7_denyOn_9 ?_
  refine lv_iload_n hx hb dX7_denyOn_10 rfl (lv_at hl 2 rfl) ?_
  refine lv_iadd hx hb dX7_denyOn_11 ?_
  refine lv_dup2_11 hx hb dX7_denyOn_12 rfl rfl ?_
  obtain ⟨v1, hv1, hf⟩ := bnd hf
  refine x_iald hx hb hE.1 hP 6 0 rfl rfl hv1 dX7_denyOn_13 ?_
  refine lv_iconst (v := 1) hx hb dX7_denyOn_14 (by decide) ?_
  refine lv_iload_n hx hb dX7_denyOn_15 rfl (lv_at hl 3 rfl) ?_
  refine x_ishl hx hb dX7_denyOn_16 ?_
  refine lv_ior hx hb dX7_denyOn_17 ?_
  obtain ⟨g2, hg2, hf⟩ := bnd hf
  refine x_iast hx hb hE.1 hP hD hS 6 0 rfl rfl hg2 dX7_denyOn_18 (fun H locs hP hD hS => ?_)
  have hP : va_P G vwCl (wX7 q cI cZ cO I (va_up A 5 g2) L) H := hP
  have hD : va_D Z (wX7 q cI cZ cO I (va_up A 5 g2) L) := hD
  refine lv_aload_n hx hb dX7_denyOn_19 rfl (lv_at hl 0 rfl) ?_
  refine va_get (D := G) (ci := 7) (v := .ref (q 6)) (C := RX7) (T := TX7) (N := 33) hx hb hts inlX7 hown hE.1 hP 0 rfl rfl 7 (by decide) (hts _ (bg 3 19 rfl)) (fun _ h9 => h9) rfl dX7_denyOn_20 ?_
  refine lv_bipush (v := 31) hx hb dX7_denyOn_23 (by decide) ?_
  refine lv_iload_n hx hb dX7_denyOn_25 rfl (lv_at hl 1 rfl) ?_
  refine lv_imul hx hb dX7_denyOn_26 ?_
  refine lv_iload_n hx hb dX7_denyOn_27 rfl (lv_at hl 2 rfl) ?_
  refine lv_iadd hx hb dX7_denyOn_28 ?_
  refine lv_dup2_11 hx hb dX7_denyOn_29 rfl rfl ?_
  obtain ⟨v3, hv3, hf⟩ := bnd hf
  refine x_iald hx hb hE.1 hP 6 0 rfl rfl hv3 dX7_denyOn_30 ?_
  refine lv_iconst (v := 1) hx hb dX7_denyOn_31 (by decide) ?_
  refine lv_iload_n hx hb dX7_denyOn_32 rfl (lv_at hl 3 rfl) ?_
  refine x_ishl hx hb dX7_denyOn_33 ?_
  refine lv_iconst (v := (-1)) hx hb dX7_denyOn_34 (by decide) ?_
  refine lv_ixor hx hb dX7_denyOn_35 ?_
  refine lv_iand hx hb dX7_denyOn_36 ?_
  obtain ⟨g4, hg4, hf⟩ := bnd hf
  refine x_iast hx hb hE.1 hP hD hS 6 0 rfl rfl hg4 dX7_denyOn_37 (fun H locs hP hD hS => ?_)
  have hP : va_P G vwCl (wX7 q cI cZ cO I (va_up (va_up A 5 g2) 5 g4) L) H := hP
  have hD : va_D Z (wX7 q cI cZ cO I (va_up (va_up A 5 g2) 5 g4) L) := hD
  have e9 := Option.some.inj hf
  exact fin H locs 38 ls (by rw [← e9]; exact hP) hS dX7_denyOn_38
def fX7_deny (N : Nat) (I : Nat → Int32) (A : Nat → Nat → Int32) (x1 : Int32) (x2 : Int32) : Option (Int32 × (Nat → Int32) × (Nat → Nat → Int32)) := (fX7_isRumour N I x1).bind fun z1 => if z1 = 0 then some ((-1), I, A) else (fX7_isTable N x2).bind fun z3 => if z3 = 0 then some ((-2), I, A) else (fX7_canDeny N A 0 x1 x2).bind fun z5 => if z5 = 0 then some ((-3), I, A) else (fX7_keepAct N I A).bind fun z7 => (fX7_denyOn N z7.2 0 x1 x2).bind fun z8 => (rd 62 (z8 5) x1).bind fun v9 => (fX7_ones N v9).bind fun z10 => some (z10, z7.1, z8)
def rmX7_deny : Room := { frames := 2, cells := 0, slots := 0, locals := 46 }
theorem mb_X7_deny : Cond.instanceMethod yX7_deny ∈ wsL_law ∧ Cond.selects RX7 yX7_deny yX7_deny ∈ wsL_law ∧ Cond.initialized RX7 ∈ wsL_law ∧ Cond.code yX7_deny cX7_deny 3 (some .int) ∈ wsL_law := ⟨(bg 19 17 rfl), (bg 19 18 rfl), (bg 0 5 rfl), (bg 19 19 rfl)⟩
theorem hd_X7_deny : yX7_deny.cls = RX7 ∧ yX7_deny.cls ≠ "java/lang/invoke/MethodHandle" ∧ yX7_deny.cls ≠ "java/lang/invoke/VarHandle" ∧ (parseMethodDescriptor yX7_deny.desc).map (fun d => d.parameters.length) = some 2 := by decide +kernel
set_option maxRecDepth 100000 in
set_option maxHeartbeats 4000000 in
theorem ct_X7_deny (N : Nat) (l : Launch) (G : va_G) (cI cZ cO : ClassId) (q : Nat → Nat) (I : Nat → Int32) (A : Nat → Nat → Int32) (L : Int64) (x1 : Int32) (x2 : Int32) (r : Int32) (Iz : Nat → Int32) (Az : Nat → Nat → Int32) (hf : fX7_deny N I A x1 x2 = some (r, Iz, Az)) : CtI l yX7_deny cX7_deny 3 .int rmX7_deny G cI cZ cO [.ref (q 0), .int x1, .int x2] (wX7 q cI cZ cO I A L) (wX7 q cI cZ cO Iz Az L) r := by
  refine mkCI (by decide) (Nat.le_of_ble_eq_true rfl) ?_
  intro p e s m below meth cd Q Z hC hP hE hD hA fin ls hl
  obtain ⟨hx, hb, hml, hown, hts⟩ := hC
  have hown : s.vm.findClass RX7 = some m.cls := hown
  have hl : lv_has ls 3 [(0, .ref (q 0)), (1, .int x1), (2, .int x2)] := hl
  unfold fX7_deny at hf
  have hS : va_S Z s.heap s.heap [] := va_S.rf
  obtain ⟨H, hH⟩ : ∃ H, H = s.heap := ⟨_, rfl⟩
  obtain ⟨locs, hlocs⟩ : ∃ locs : List Loc, locs = [] := ⟨_, rfl⟩
  rw [← hlocs]
  rw [← hlocs] at hS
  suffices hW : ∀ H : Heap, va_P G vwCl (wX7 q cI cZ cO I A L) H → va_S Z s.heap H locs → W p l e rmX7_deny s m [.ref (q 0), .int x1, .int x2].toArray below meth cd H locs 0 0 Q (F0 m 0 ls []) from hW s.heap hP hS
  clear hP hS hH H
  intro H hP hS
  refine lv_aload_n hx hb dX7_deny_0 rfl (lv_at hl 0 rfl) ?_
  refine lv_iload_n hx hb dX7_deny_1 rfl (lv_at hl 1 rfl) ?_
  obtain ⟨z1, hz1, hf⟩ := bnd hf
  refine x_rdV (C := RX7) (n := 1) (ci := 7) hx hb hml hown hts hE (ct_X7_isRumour N l G cI cZ cO q I A L x1 z1 hz1) (bg 13 6 rfl) mb_X7_isRumour.1 mb_X7_isRumour.2.1 mb_X7_isRumour.2.2.1 mb_X7_isRumour.2.2.2 hd_X7_isRumour rfl (by decide) hP rfl rfl rfl rfl hl.1 (Nat.le_of_ble_eq_true rfl) ⟨Nat.zero_le _, Nat.zero_le _⟩ dX7_deny_2 ?_
  refine lv_if_ne (tgt := 10) hx hb dX7_deny_5 (by decide) (fun c2 => ?_) (fun c2 => ?_)
  · rw [if_neg c2] at hf
    refine lv_iload_n hx hb dX7_deny_10 rfl (lv_at hl 2 rfl) ?_
    obtain ⟨z3, hz3, hf⟩ := bnd hf
    refine x_rdS (n := 1) hx hb hml hown hts hE (ct_X7_isTable N l G cI cZ cO x2 z3 hz3) (bg 18 13 rfl) mb_X7_isTable.1 mb_X7_isTable.2.1 mb_X7_isTable.2.2 hd_X7_isTable rfl (by decide) va_P_nil rfl hl.1 (Nat.le_of_ble_eq_true rfl) ⟨Nat.zero_le _, Nat.zero_le _⟩ dX7_deny_11 ?_
    refine lv_if_ne (tgt := 20) hx hb dX7_deny_14 (by decide) (fun c4 => ?_) (fun c4 => ?_)
    · rw [if_neg c4] at hf
      refine lv_aload_n hx hb dX7_deny_20 rfl (lv_at hl 0 rfl) ?_
      refine lv_iconst (v := 0) hx hb dX7_deny_21 (by decide) ?_
      refine lv_iload_n hx hb dX7_deny_22 rfl (lv_at hl 1 rfl) ?_
      refine lv_iload_n hx hb dX7_deny_23 rfl (lv_at hl 2 rfl) ?_
      obtain ⟨z5, hz5, hf⟩ := bnd hf
      refine x_rdV (C := RX7) (n := 3) (ci := 7) hx hb hml hown hts hE (ct_X7_canDeny N l G cI cZ cO q I A L 0 x1 x2 z5 hz5) (bg 19 20 rfl) mb_X7_canDeny.1 mb_X7_canDeny.2.1 mb_X7_canDeny.2.2.1 mb_X7_canDeny.2.2.2 hd_X7_canDeny rfl (by decide) hP rfl rfl rfl rfl hl.1 (Nat.le_of_ble_eq_true rfl) ⟨Nat.zero_le _, Nat.zero_le _⟩ dX7_deny_24 ?_
      refine lv_if_ne (tgt := 33) hx hb dX7_deny_27 (by decide) (fun c6 => ?_) (fun c6 => ?_)
      · rw [if_neg c6] at hf
        refine lv_aload_n hx hb dX7_deny_33 rfl (lv_at hl 0 rfl) ?_
        obtain ⟨z7, hz7, hf⟩ := bnd hf
        refine x_wwVv (C := RX7) (n := 0) (ci := 7) hx hb hml hown hts hE (ct_X7_keepAct N l G cI cZ cO q I A L z7.1 z7.2 hz7) (bg 17 2 rfl) mb_X7_keepAct.1 mb_X7_keepAct.2.1 mb_X7_keepAct.2.2.1 mb_X7_keepAct.2.2.2 hd_X7_keepAct rfl (by decide) hP hD hS hA rfl rfl rfl rfl rfl hl.1 (Nat.le_of_ble_eq_true rfl) ⟨Nat.zero_le _, Nat.zero_le _⟩ dX7_deny_34 (fun H locs hP hD hS => ?_)
        have hP : va_P G vwCl (wX7 q cI cZ cO z7.1 z7.2 L) H := hP
        have hD : va_D Z (wX7 q cI cZ cO z7.1 z7.2 L) := hD
        refine lv_aload_n hx hb dX7_deny_37 rfl (lv_at hl 0 rfl) ?_
        refine lv_iconst (v := 0) hx hb dX7_deny_38 (by decide) ?_
        refine lv_iload_n hx hb dX7_deny_39 rfl (lv_at hl 1 rfl) ?_
        refine lv_iload_n hx hb dX7_deny_40 rfl (lv_at hl 2 rfl) ?_
        obtain ⟨z8, hz8, hf⟩ := bnd hf
        refine x_wwVv (C := RX7) (n := 3) (ci := 7) hx hb hml hown hts hE (ct_X7_denyOn N l G cI cZ cO q z7.1 z7.2 L 0 x1 x2 z8 hz8) (bg 20 0 rfl) mb_X7_denyOn.1 mb_X7_denyOn.2.1 mb_X7_denyOn.2.2.1 mb_X7_denyOn.2.2.2 hd_X7_denyOn rfl (by decide) hP hD hS hA rfl rfl rfl rfl rfl hl.1 (Nat.le_of_ble_eq_true rfl) ⟨Nat.zero_le _, Nat.zero_le _⟩ dX7_deny_41 (fun H locs hP hD hS => ?_)
        have hP : va_P G vwCl (wX7 q cI cZ cO z7.1 z8 L) H := hP
        have hD : va_D Z (wX7 q cI cZ cO z7.1 z8 L) := hD
        refine lv_aload_n hx hb dX7_deny_44 rfl (lv_at hl 0 rfl) ?_
        refine va_get (D := G) (ci := 7) (v := .ref (q 6)) (C := RX7) (T := TX7) (N := 33) hx hb hts inlX7 hown hE.1 hP 0 rfl rfl 7 (by decide) (hts _ (bg 3 19 rfl)) (fun _ h9 => h9) rfl dX7_deny_45 ?_
        refine lv_iload_n hx hb dX7_deny_48 rfl (lv_at hl 1 rfl) ?_
        obtain ⟨v9, hv9, hf⟩ := bnd hf
        refine x_iald hx hb hE.1 hP 6 0 rfl rfl hv9 dX7_deny_49 ?_
        obtain ⟨z10, hz10, hf⟩ := bnd hf
        refine x_rdS (n := 1) hx hb hml hown hts hE (ct_X7_ones N l G cI cZ cO v9 z10 hz10) (bg 18 21 rfl) mb_X7_ones.1 mb_X7_ones.2.1 mb_X7_ones.2.2 hd_X7_ones rfl (by decide) va_P_nil rfl hl.1 (Nat.le_of_ble_eq_true rfl) ⟨Nat.zero_le _, Nat.zero_le _⟩ dX7_deny_50 ?_
        have e9 := Option.some.inj hf
        exact fin H locs 53 ls _ (Prod.mk.inj e9).1 (nar_i _) (by rw [← (Prod.mk.inj (Prod.mk.inj e9).2).1, ← (Prod.mk.inj (Prod.mk.inj e9).2).2]; exact hP) hS dX7_deny_53
      · rw [if_pos c6] at hf
        refine lv_bipush (v := (-3)) hx hb dX7_deny_30 (by decide) ?_
        have e9 := Option.some.inj hf
        exact fin H locs 32 ls _ (Prod.mk.inj e9).1 (nar_i _) (by rw [← (Prod.mk.inj (Prod.mk.inj e9).2).1, ← (Prod.mk.inj (Prod.mk.inj e9).2).2]; exact hP) hS dX7_deny_32
    · rw [if_pos c4] at hf
      refine lv_bipush (v := (-2)) hx hb dX7_deny_17 (by decide) ?_
      have e9 := Option.some.inj hf
      exact fin H locs 19 ls _ (Prod.mk.inj e9).1 (nar_i _) (by rw [← (Prod.mk.inj (Prod.mk.inj e9).2).1, ← (Prod.mk.inj (Prod.mk.inj e9).2).2]; exact hP) hS dX7_deny_19
  · rw [if_pos c2] at hf
    refine lv_iconst (v := (-1)) hx hb dX7_deny_8 (by decide) ?_
    have e9 := Option.some.inj hf
    exact fin H locs 9 ls _ (Prod.mk.inj e9).1 (nar_i _) (by rw [← (Prod.mk.inj (Prod.mk.inj e9).2).1, ← (Prod.mk.inj (Prod.mk.inj e9).2).2]; exact hP) hS dX7_deny_9
def fX7_worthOf_80 (N : Nat) (A : Nat → Nat → Int32) (y0 : Int32) : Option (Int32) := some y0
def fX7_worthOf_31 (N : Nat) (A : Nat → Nat → Int32) (y0 : Int32) : Option (Int32) := some y0
def fX7_worthOf (N : Nat) (A : Nat → Nat → Int32) (x1 : Int32) (x2 : Int32) : Option (Int32) := (fX7_isProved N A x1 x2).bind fun z1 => if z1 = 0 then (rd 5 (A 0) x2).bind fun v3 => (rd 62 (A 5) ((31 * x1) + x2)).bind fun v4 => (fX7_ones N v4).bind fun z5 => (rd 62 (A 5) (((31 * x1) + 5) + x2)).bind fun v6 => (fX7_ones N v6).bind fun z7 => if 0 ≤ ((v3 + z5) - z7) then fX7_worthOf_80 N A ((v3 + z5) - z7) else fX7_worthOf_80 N A 0 else (rd 5 (A 1) x2).bind fun v9 => if v9 = 1 then fX7_worthOf_31 N A 0 else (rd 5 (A 0) x2).bind fun v11 => fX7_worthOf_31 N A (2 * v11)
def rmX7_worthOf : Room := { frames := 1, cells := 0, slots := 0, locals := 22 }
theorem mb_X7_worthOf : Cond.instanceMethod yX7_worthOf ∈ wsL_law ∧ Cond.selects RX7 yX7_worthOf yX7_worthOf ∈ wsL_law ∧ Cond.initialized RX7 ∈ wsL_law ∧ Cond.code yX7_worthOf cX7_worthOf 4 (some .int) ∈ wsL_law := ⟨(bg 21 16 rfl), (bg 21 17 rfl), (bg 0 5 rfl), (bg 21 18 rfl)⟩
theorem hd_X7_worthOf : yX7_worthOf.cls = RX7 ∧ yX7_worthOf.cls ≠ "java/lang/invoke/MethodHandle" ∧ yX7_worthOf.cls ≠ "java/lang/invoke/VarHandle" ∧ (parseMethodDescriptor yX7_worthOf.desc).map (fun d => d.parameters.length) = some 2 := by decide +kernel
set_option maxRecDepth 100000 in
set_option maxHeartbeats 4000000 in
theorem ct_X7_worthOf (N : Nat) (l : Launch) (G : va_G) (cI cZ cO : ClassId) (q : Nat → Nat) (I : Nat → Int32) (A : Nat → Nat → Int32) (L : Int64) (x1 : Int32) (x2 : Int32) (r : Int32) (hf : fX7_worthOf N A x1 x2 = some r) : RtI l yX7_worthOf cX7_worthOf 4 .int rmX7_worthOf G cI cZ cO [.ref (q 0), .int x1, .int x2] (wX7 q cI cZ cO I A L) r := by
  refine mkRI (by decide) (Nat.le_of_ble_eq_true rfl) ?_
  intro p e s m below meth cd Q hC hP hE fin ls hl
  obtain ⟨hx, hb, hml, hown, hts⟩ := hC
  have hown : s.vm.findClass RX7 = some m.cls := hown
  have hl : lv_has ls 4 [(0, .ref (q 0)), (1, .int x1), (2, .int x2)] := hl
  have b_80 : ∀ (y0 : Int32), ∀ ls : Array Slot, lv_has ls 4 [] → fX7_worthOf_80 N A y0 = some r → W p l e rmX7_worthOf s m [.ref (q 0), .int x1, .int x2].toArray below meth cd s.heap [] 0 0 Q (F0 m 80 ls [.int y0]) := by
    intro y0 ls hl hf
    unfold fX7_worthOf_80 at hf
    have e9 := Option.some.inj hf
    exact fin 80 ls _ e9 (nar_i _) dX7_worthOf_80
  have b_31 : ∀ (y0 : Int32), ∀ ls : Array Slot, lv_has ls 4 [] → fX7_worthOf_31 N A y0 = some r → W p l e rmX7_worthOf s m [.ref (q 0), .int x1, .int x2].toArray below meth cd s.heap [] 0 0 Q (F0 m 31 ls [.int y0]) := by
    intro y0 ls hl hf
    unfold fX7_worthOf_31 at hf
    have e9 := Option.some.inj hf
    exact fin 31 ls _ e9 (nar_i _) dX7_worthOf_31
  unfold fX7_worthOf at hf
  refine lv_aload_n hx hb dX7_worthOf_0 rfl (lv_at hl 0 rfl) ?_
  refine lv_iload_n hx hb dX7_worthOf_1 rfl (lv_at hl 1 rfl) ?_
  refine lv_iload_n hx hb dX7_worthOf_2 rfl (lv_at hl 2 rfl) ?_
  obtain ⟨z1, hz1, hf⟩ := bnd hf
  refine x_rdV (C := RX7) (n := 2) (ci := 7) hx hb hml hown hts hE (ct_X7_isProved N l G cI cZ cO q I A L x1 x2 z1 hz1) (bg 13 10 rfl) mb_X7_isProved.1 mb_X7_isProved.2.1 mb_X7_isProved.2.2.1 mb_X7_isProved.2.2.2 hd_X7_isProved rfl (by decide) hP rfl rfl rfl rfl hl.1 (Nat.le_of_ble_eq_true rfl) ⟨Nat.zero_le _, Nat.zero_le _⟩ dX7_worthOf_3 ?_
  refine lv_if_eq (tgt := 32) hx hb dX7_worthOf_6 (by decide) (fun c2 => ?_) (fun c2 => ?_)
  · rw [if_pos c2] at hf
    refine lv_aload_n hx hb dX7_worthOf_32 rfl (lv_at hl 0 rfl) ?_
    refine va_get (D := G) (ci := 7) (v := .ref (q 1)) (C := RX7) (T := TX7) (N := 33) hx hb hts inlX7 hown hE.1 hP 0 rfl rfl 2 (by decide) (hts _ (bg 3 14 rfl)) (fun _ h9 => h9) rfl dX7_worthOf_33 ?_
    refine lv_iload_n hx hb dX7_worthOf_36 rfl (lv_at hl 2 rfl) ?_
    obtain ⟨v3, hv3, hf⟩ := bnd hf
    refine x_iald hx hb hE.1 hP 1 0 rfl rfl hv3 dX7_worthOf_37 ?_
    refine lv_aload_n hx hb dX7_worthOf_38 rfl (lv_at hl 0 rfl) ?_
    refine va_get (D := G) (ci := 7) (v := .ref (q 6)) (C := RX7) (T := TX7) (N := 33) hx hb hts inlX7 hown hE.1 hP 0 rfl rfl 7 (by decide) (hts _ (bg 3 19 rfl)) (fun _ h9 => h9) rfl dX7_worthOf_39 ?_
    refine lv_bipush (v := 31) hx hb dX7_worthOf_42 (by decide) ?_
    refine lv_iload_n hx hb dX7_worthOf_44 rfl (lv_at hl 1 rfl) ?_
    refine lv_imul hx hb dX7_worthOf_45 ?_
    refine lv_iload_n hx hb dX7_worthOf_46 rfl (lv_at hl 2 rfl) ?_
    refine lv_iadd hx hb dX7_worthOf_47 ?_
    obtain ⟨v4, hv4, hf⟩ := bnd hf
    refine x_iald hx hb hE.1 hP 6 0 rfl rfl hv4 dX7_worthOf_48 ?_
    obtain ⟨z5, hz5, hf⟩ := bnd hf
    refine x_rdS (n := 1) hx hb hml hown hts hE (ct_X7_ones N l G cI cZ cO v4 z5 hz5) (bg 18 21 rfl) mb_X7_ones.1 mb_X7_ones.2.1 mb_X7_ones.2.2 hd_X7_ones rfl (by decide) va_P_nil rfl hl.1 (Nat.le_of_ble_eq_true rfl) ⟨Nat.zero_le _, Nat.zero_le _⟩ dX7_worthOf_49 ?_
    refine lv_iadd hx hb dX7_worthOf_52 ?_
    refine lv_aload_n hx hb dX7_worthOf_53 rfl (lv_at hl 0 rfl) ?_
    refine va_get (D := G) (ci := 7) (v := .ref (q 6)) (C := RX7) (T := TX7) (N := 33) hx hb hts inlX7 hown hE.1 hP 0 rfl rfl 7 (by decide) (hts _ (bg 3 19 rfl)) (fun _ h9 => h9) rfl dX7_worthOf_54 ?_
    refine lv_bipush (v := 31) hx hb dX7_worthOf_57 (by decide) ?_
    refine lv_iload_n hx hb dX7_worthOf_59 rfl (lv_at hl 1 rfl) ?_
    refine lv_imul hx hb dX7_worthOf_60 ?_
    refine lv_iconst (v := 5) hx hb dX7_worthOf_61 (by decide) ?_
    refine lv_iadd hx hb dX7_worthOf_62 ?_
    refine lv_iload_n hx hb dX7_worthOf_63 rfl (lv_at hl 2 rfl) ?_
    refine lv_iadd hx hb dX7_worthOf_64 ?_
    obtain ⟨v6, hv6, hf⟩ := bnd hf
    refine x_iald hx hb hE.1 hP 6 0 rfl rfl hv6 dX7_worthOf_65 ?_
    obtain ⟨z7, hz7, hf⟩ := bnd hf
    refine x_rdS (n := 1) hx hb hml hown hts hE (ct_X7_ones N l G cI cZ cO v6 z7 hz7) (bg 18 21 rfl) mb_X7_ones.1 mb_X7_ones.2.1 mb_X7_ones.2.2 hd_X7_ones rfl (by decide) va_P_nil rfl hl.1 (Nat.le_of_ble_eq_true rfl) ⟨Nat.zero_le _, Nat.zero_le _⟩ dX7_worthOf_66 ?_
    refine lv_isub hx hb dX7_worthOf_69 ?_
    refine lv_istore_n (lv' := [(3, .int ((v3 + z5) - z7)), (0, .ref (q 0)), (1, .int x1), (2, .int x2)]) hx hb dX7_worthOf_70 rfl hl (by decide) rfl (fun ls hl => ?_)
    refine lv_iload_n hx hb dX7_worthOf_71 rfl (lv_at hl 0 rfl) ?_
    refine lv_if_ge (tgt := 79) hx hb dX7_worthOf_72 (by decide) (fun c8 => ?_) (fun c8 => ?_)
    · rw [if_pos c8] at hf
      refine lv_iload_n hx hb dX7_worthOf_79 rfl (lv_at hl 0 rfl) ?_
      exact b_80 ((v3 + z5) - z7) ls (lv_sub hl [] rfl) hf
    · rw [if_neg c8] at hf
      refine lv_iconst (v := 0) hx hb dX7_worthOf_75 (by decide) ?_
      refine lv_goto (tgt := 80) hx hb dX7_worthOf_76 (by decide) ?_
      exact b_80 0 ls (lv_sub hl [] rfl) hf
  · rw [if_neg c2] at hf
    refine lv_aload_n hx hb dX7_worthOf_9 rfl (lv_at hl 0 rfl) ?_
    refine va_get (D := G) (ci := 7) (v := .ref (q 2)) (C := RX7) (T := TX7) (N := 33) hx hb hts inlX7 hown hE.1 hP 0 rfl rfl 3 (by decide) (hts _ (bg 3 15 rfl)) (fun _ h9 => h9) rfl dX7_worthOf_10 ?_
    refine lv_iload_n hx hb dX7_worthOf_13 rfl (lv_at hl 2 rfl) ?_
    obtain ⟨v9, hv9, hf⟩ := bnd hf
    refine x_iald hx hb hE.1 hP 2 0 rfl rfl hv9 dX7_worthOf_14 ?_
    refine lv_iconst (v := 1) hx hb dX7_worthOf_15 (by decide) ?_
    refine lv_icmp_ne (tgt := 23) hx hb dX7_worthOf_16 (by decide) (fun c10 => ?_) (fun c10 => ?_)
    · rw [if_neg c10] at hf
      refine lv_iconst (v := 2) hx hb dX7_worthOf_23 (by decide) ?_
      refine lv_aload_n hx hb dX7_worthOf_24 rfl (lv_at hl 0 rfl) ?_
      refine va_get (D := G) (ci := 7) (v := .ref (q 1)) (C := RX7) (T := TX7) (N := 33) hx hb hts inlX7 hown hE.1 hP 0 rfl rfl 2 (by decide) (hts _ (bg 3 14 rfl)) (fun _ h9 => h9) rfl dX7_worthOf_25 ?_
      refine lv_iload_n hx hb dX7_worthOf_28 rfl (lv_at hl 2 rfl) ?_
      obtain ⟨v11, hv11, hf⟩ := bnd hf
      refine x_iald hx hb hE.1 hP 1 0 rfl rfl hv11 dX7_worthOf_29 ?_
      refine lv_imul hx hb dX7_worthOf_30 ?_
      exact b_31 (2 * v11) ls (lv_sub hl [] rfl) hf
    · rw [if_pos c10] at hf
      refine lv_iconst (v := 0) hx hb dX7_worthOf_19 (by decide) ?_
      refine lv_goto (tgt := 31) hx hb dX7_worthOf_20 (by decide) ?_
      exact b_31 0 ls (lv_sub hl [] rfl) hf
def fX7_takes_83 (N : Nat) (k_35 : (Nat → Int32) → (Nat → Nat → Int32) → Int32 → Int32 → Int32 → Int32 → Option (Int32)) (I : Nat → Int32) (A : Nat → Nat → Int32) (u1 : Int32) (u2 : Int32) (u4 : Int32) (y0 : Int32) : Option (Int32) := k_35 I A u1 u2 y0 (u4 + 1)
def fX7_takes_82 (N : Nat) (k_35 : (Nat → Int32) → (Nat → Nat → Int32) → Int32 → Int32 → Int32 → Int32 → Option (Int32)) (I : Nat → Int32) (A : Nat → Nat → Int32) (u1 : Int32) (u2 : Int32) (u4 : Int32) : Option (Int32) := fX7_takes_83 N k_35 I A u1 u2 u4 0
def fX7_takes_78 (N : Nat) (k_35 : (Nat → Int32) → (Nat → Nat → Int32) → Int32 → Int32 → Int32 → Int32 → Option (Int32)) (I : Nat → Int32) (A : Nat → Nat → Int32) (u1 : Int32) (u2 : Int32) (u4 : Int32) : Option (Int32) := fX7_takes_83 N k_35 I A u1 u2 u4 1
def fX7_takes_35s (N : Nat) (k_35 : (Nat → Int32) → (Nat → Nat → Int32) → Int32 → Int32 → Int32 → Int32 → Option (Int32)) (I : Nat → Int32) (A : Nat → Nat → Int32) (u1 : Int32) (u2 : Int32) (u3 : Int32) (u4 : Int32) : Option (Int32) := if (I 0) ≤ u4 then (bz u3).bind fun v2 => some v2 else if u3 = 0 then fX7_takes_82 N k_35 I A u1 u2 u4 else (rd 5 (A 3) u2).bind fun v4 => (fX7_has N v4 u4).bind fun z5 => if z5 = 0 then fX7_takes_78 N k_35 I A u1 u2 u4 else (fX7_coinAt N 0 u1 u4).bind fun z7 => (rd 62 (A 5) z7).bind fun v8 => if 0 < v8 then fX7_takes_82 N k_35 I A u1 u2 u4 else fX7_takes_78 N k_35 I A u1 u2 u4
def fX7_takes_35 (N : Nat) : Nat → (Nat → Int32) → (Nat → Nat → Int32) → Int32 → Int32 → Int32 → Int32 → Option (Int32)
  | 0 => fun _ _ _ _ _ _ => none
  | n + 1 => fX7_takes_35s N (fX7_takes_35 N n)
def fX7_takes_31 (N : Nat) (I : Nat → Int32) (A : Nat → Nat → Int32) (u1 : Int32) (u2 : Int32) (y0 : Int32) : Option (Int32) := fX7_takes_35 N N I A u1 u2 y0 0
def fX7_takes_30 (N : Nat) (I : Nat → Int32) (A : Nat → Nat → Int32) (u1 : Int32) (u2 : Int32) : Option (Int32) := fX7_takes_31 N I A u1 u2 0
def fX7_takes (N : Nat) (I : Nat → Int32) (A : Nat → Nat → Int32) (x1 : Int32) (x2 : Int32) : Option (Int32) := (fX7_worthOf N A 0 x2).bind fun z1 => if z1 ≤ 0 then fX7_takes_30 N I A x1 x2 else (fX7_coinAt N 0 x1 x2).bind fun z3 => (rd 62 (A 5) z3).bind fun v4 => if 99 ≤ v4 then fX7_takes_30 N I A x1 x2 else fX7_takes_31 N I A x1 x2 1
def rmX7_takes : Room := { frames := 2, cells := 0, slots := 0, locals := 45 }
theorem mb_X7_takes : Cond.instanceMethod yX7_takes ∈ wsL_law ∧ Cond.selects RX7 yX7_takes yX7_takes ∈ wsL_law ∧ Cond.initialized RX7 ∈ wsL_law ∧ Cond.code yX7_takes cX7_takes 5 (some .boolean) ∈ wsL_law := ⟨(bg 21 12 rfl), (bg 21 13 rfl), (bg 0 5 rfl), (bg 21 14 rfl)⟩
theorem hd_X7_takes : yX7_takes.cls = RX7 ∧ yX7_takes.cls ≠ "java/lang/invoke/MethodHandle" ∧ yX7_takes.cls ≠ "java/lang/invoke/VarHandle" ∧ (parseMethodDescriptor yX7_takes.desc).map (fun d => d.parameters.length) = some 2 := by decide +kernel
set_option maxRecDepth 100000 in
set_option maxHeartbeats 4000000 in
theorem ct_X7_takes (N : Nat) (l : Launch) (G : va_G) (cI cZ cO : ClassId) (q : Nat → Nat) (I : Nat → Int32) (A : Nat → Nat → Int32) (L : Int64) (x1 : Int32) (x2 : Int32) (r : Int32) (hf : fX7_takes N I A x1 x2 = some r) : RtI l yX7_takes cX7_takes 5 .boolean rmX7_takes G cI cZ cO [.ref (q 0), .int x1, .int x2] (wX7 q cI cZ cO I A L) r := by
  refine mkRI (by decide) (Nat.le_of_ble_eq_true rfl) ?_
  intro p e s m below meth cd Q hC hP hE fin ls hl
  obtain ⟨hx, hb, hml, hown, hts⟩ := hC
  have hown : s.vm.findClass RX7 = some m.cls := hown
  have hl : lv_has ls 5 [(0, .ref (q 0)), (1, .int x1), (2, .int x2)] := hl
  have b_83 : ∀ (k_35 : (Nat → Int32) → (Nat → Nat → Int32) → Int32 → Int32 → Int32 → Int32 → Option (Int32)) (hk_35 : ∀ (u1 : Int32) (u2 : Int32) (u3 : Int32) (u4 : Int32), ∀ ls : Array Slot, lv_has ls 5 [(0, .ref (q 0)), (1, .int u1), (2, .int u2), (3, .int u3), (4, .int u4)] → k_35 I A u1 u2 u3 u4 = some r → W p l e rmX7_takes s m [.ref (q 0), .int x1, .int x2].toArray below meth cd s.heap [] 0 0 Q (F0 m 35 ls [])), ∀ (u1 : Int32) (u2 : Int32) (u4 : Int32) (y0 : Int32), ∀ ls : Array Slot, lv_has ls 5 [(0, .ref (q 0)), (1, .int u1), (2, .int u2), (4, .int u4)] → fX7_takes_83 N k_35 I A u1 u2 u4 y0 = some r → W p l e rmX7_takes s m [.ref (q 0), .int x1, .int x2].toArray below meth cd s.heap [] 0 0 Q (F0 m 83 ls [.int y0]) := by
    intro k_35 hk_35 u1 u2 u4 y0 ls hl hf
    unfold fX7_takes_83 at hf
    refine lv_istore_n (lv' := [(3, .int y0), (0, .ref (q 0)), (1, .int u1), (2, .int u2), (4, .int u4)]) hx hb dX7_takes_83 rfl hl (by decide) rfl (fun ls hl => ?_)
    refine lv_iinc (v := u4 + 1) (lv' := [(4, .int (u4 + 1)), (3, .int y0), (0, .ref (q 0)), (1, .int u1), (2, .int u2)]) hx hb dX7_takes_84 hl (k := 4) rfl rfl (by decide) rfl (fun ls hl => ?_)
    refine lv_goto (tgt := 35) hx hb dX7_takes_87 (by decide) ?_
    exact hk_35 u1 u2 y0 (u4 + 1) ls (lv_sub hl [2, 3, 4, 1, 0] rfl) hf
  have b_82 : ∀ (k_35 : (Nat → Int32) → (Nat → Nat → Int32) → Int32 → Int32 → Int32 → Int32 → Option (Int32)) (hk_35 : ∀ (u1 : Int32) (u2 : Int32) (u3 : Int32) (u4 : Int32), ∀ ls : Array Slot, lv_has ls 5 [(0, .ref (q 0)), (1, .int u1), (2, .int u2), (3, .int u3), (4, .int u4)] → k_35 I A u1 u2 u3 u4 = some r → W p l e rmX7_takes s m [.ref (q 0), .int x1, .int x2].toArray below meth cd s.heap [] 0 0 Q (F0 m 35 ls [])), ∀ (u1 : Int32) (u2 : Int32) (u4 : Int32), ∀ ls : Array Slot, lv_has ls 5 [(0, .ref (q 0)), (1, .int u1), (2, .int u2), (4, .int u4)] → fX7_takes_82 N k_35 I A u1 u2 u4 = some r → W p l e rmX7_takes s m [.ref (q 0), .int x1, .int x2].toArray below meth cd s.heap [] 0 0 Q (F0 m 82 ls []) := by
    intro k_35 hk_35 u1 u2 u4 ls hl hf
    unfold fX7_takes_82 at hf
    refine lv_iconst (v := 0) hx hb dX7_takes_82 (by decide) ?_
    exact b_83 k_35 hk_35 u1 u2 u4 0 ls (lv_sub hl [0, 1, 2, 3] rfl) hf
  have b_78 : ∀ (k_35 : (Nat → Int32) → (Nat → Nat → Int32) → Int32 → Int32 → Int32 → Int32 → Option (Int32)) (hk_35 : ∀ (u1 : Int32) (u2 : Int32) (u3 : Int32) (u4 : Int32), ∀ ls : Array Slot, lv_has ls 5 [(0, .ref (q 0)), (1, .int u1), (2, .int u2), (3, .int u3), (4, .int u4)] → k_35 I A u1 u2 u3 u4 = some r → W p l e rmX7_takes s m [.ref (q 0), .int x1, .int x2].toArray below meth cd s.heap [] 0 0 Q (F0 m 35 ls [])), ∀ (u1 : Int32) (u2 : Int32) (u4 : Int32), ∀ ls : Array Slot, lv_has ls 5 [(0, .ref (q 0)), (1, .int u1), (2, .int u2), (4, .int u4)] → fX7_takes_78 N k_35 I A u1 u2 u4 = some r → W p l e rmX7_takes s m [.ref (q 0), .int x1, .int x2].toArray below meth cd s.heap [] 0 0 Q (F0 m 78 ls []) := by
    intro k_35 hk_35 u1 u2 u4 ls hl hf
    unfold fX7_takes_78 at hf
    refine lv_iconst (v := 1) hx hb dX7_takes_78 (by decide) ?_
    refine lv_goto (tgt := 83) hx hb dX7_takes_79 (by decide) ?_
    exact b_83 k_35 hk_35 u1 u2 u4 1 ls (lv_sub hl [0, 1, 2, 3] rfl) hf
  have b_35 : ∀ n : Nat, ∀ (u1 : Int32) (u2 : Int32) (u3 : Int32) (u4 : Int32), ∀ ls : Array Slot, lv_has ls 5 [(0, .ref (q 0)), (1, .int u1), (2, .int u2), (3, .int u3), (4, .int u4)] → fX7_takes_35 N n I A u1 u2 u3 u4 = some r → W p l e rmX7_takes s m [.ref (q 0), .int x1, .int x2].toArray below meth cd s.heap [] 0 0 Q (F0 m 35 ls []) := by
    intro n
    induction n with
    | zero =>
      intro u1 u2 u3 u4 ls hl hf
      cases hf
    | succ n hk_35 =>
      intro u1 u2 u3 u4 ls hl hf
      replace hf : fX7_takes_35s N (fX7_takes_35 N n) I A u1 u2 u3 u4 = some r := hf
      generalize fX7_takes_35 N n = k_35 at hf hk_35
      unfold fX7_takes_35s at hf
      refine lv_iload hx hb dX7_takes_35 (lv_at hl 4 rfl) ?_
      refine lv_aload_n hx hb dX7_takes_37 rfl (lv_at hl 0 rfl) ?_
      refine va_get (D := G) (ci := 7) (v := .int ((I 0))) (C := RX7) (T := TX7) (N := 33) hx hb hts inlX7 hown hE.1 hP 0 rfl rfl 0 (by decide) (hts _ (bg 4 12 rfl)) (fun _ h9 => h9) rfl dX7_takes_38 ?_
      refine lv_icmp_ge (tgt := 90) hx hb dX7_takes_41 (by decide) (fun c1 => ?_) (fun c1 => ?_)
      · rw [if_pos c1] at hf
        refine lv_iload_n hx hb dX7_takes_90 rfl (lv_at hl 3 rfl) ?_
        obtain ⟨v2, hv2, hf⟩ := bnd hf
        obtain ⟨ev2, hv2⟩ := bz_in hv2
        rw [ev2]
        have e9 := Option.some.inj hf
        exact fin 91 ls _ e9 (nar_z (by rw [← e9]; exact hv2)) dX7_takes_91
      · rw [if_neg c1] at hf
        refine lv_iload_n hx hb dX7_takes_44 rfl (lv_at hl 3 rfl) ?_
        refine lv_if_eq (tgt := 82) hx hb dX7_takes_45 (by decide) (fun c3 => ?_) (fun c3 => ?_)
        · rw [if_pos c3] at hf
          exact b_82 k_35 hk_35 u1 u2 u4 ls (lv_sub hl [0, 1, 2, 4] rfl) hf
        · rw [if_neg c3] at hf
          refine lv_aload_n hx hb dX7_takes_48 rfl (lv_at hl 0 rfl) ?_
          refine va_get (D := G) (ci := 7) (v := .ref (q 4)) (C := RX7) (T := TX7) (N := 33) hx hb hts inlX7 hown hE.1 hP 0 rfl rfl 5 (by decide) (hts _ (bg 3 17 rfl)) (fun _ h9 => h9) rfl dX7_takes_49 ?_
          refine lv_iload_n hx hb dX7_takes_52 rfl (lv_at hl 2 rfl) ?_
          obtain ⟨v4, hv4, hf⟩ := bnd hf
          refine x_iald hx hb hE.1 hP 4 0 rfl rfl hv4 dX7_takes_53 ?_
          refine lv_iload hx hb dX7_takes_54 (lv_at hl 4 rfl) ?_
          obtain ⟨z5, hz5, hf⟩ := bnd hf
          refine x_rdS (n := 2) hx hb hml hown hts hE (ct_X7_has N l G cI cZ cO v4 u4 z5 hz5) (bg 10 12 rfl) mb_X7_has.1 mb_X7_has.2.1 mb_X7_has.2.2 hd_X7_has rfl (by decide) va_P_nil rfl hl.1 (Nat.le_of_ble_eq_true rfl) ⟨Nat.zero_le _, Nat.zero_le _⟩ dX7_takes_56 ?_
          refine lv_if_eq (tgt := 78) hx hb dX7_takes_59 (by decide) (fun c6 => ?_) (fun c6 => ?_)
          · rw [if_pos c6] at hf
            exact b_78 k_35 hk_35 u1 u2 u4 ls (lv_sub hl [0, 1, 2, 4] rfl) hf
          · rw [if_neg c6] at hf
            refine lv_aload_n hx hb dX7_takes_62 rfl (lv_at hl 0 rfl) ?_
            refine va_get (D := G) (ci := 7) (v := .ref (q 6)) (C := RX7) (T := TX7) (N := 33) hx hb hts inlX7 hown hE.1 hP 0 rfl rfl 7 (by decide) (hts _ (bg 3 19 rfl)) (fun _ h9 => h9) rfl dX7_takes_63 ?_
            refine lv_aload_n hx hb dX7_takes_66 rfl (lv_at hl 0 rfl) ?_
            refine lv_iconst (v := 0) hx hb dX7_takes_67 (by decide) ?_
            refine lv_iload_n hx hb dX7_takes_68 rfl (lv_at hl 1 rfl) ?_
            refine lv_iload hx hb dX7_takes_69 (lv_at hl 4 rfl) ?_
            obtain ⟨z7, hz7, hf⟩ := bnd hf
            refine x_rdV (C := RX7) (n := 3) (ci := 7) hx hb hml hown hts hE (ct_X7_coinAt N l G cI cZ cO q I A L 0 u1 u4 z7 hz7) (bg 14 19 rfl) mb_X7_coinAt.1 mb_X7_coinAt.2.1 mb_X7_coinAt.2.2.1 mb_X7_coinAt.2.2.2 hd_X7_coinAt rfl (by decide) hP rfl rfl rfl rfl hl.1 (Nat.le_of_ble_eq_true rfl) ⟨Nat.zero_le _, Nat.zero_le _⟩ dX7_takes_71 ?_
            obtain ⟨v8, hv8, hf⟩ := bnd hf
            refine x_iald hx hb hE.1 hP 6 0 rfl rfl hv8 dX7_takes_74 ?_
            refine lv_if_gt (tgt := 82) hx hb dX7_takes_75 (by decide) (fun c9 => ?_) (fun c9 => ?_)
            · rw [if_pos c9] at hf
              exact b_82 k_35 hk_35 u1 u2 u4 ls (lv_sub hl [0, 1, 2, 4] rfl) hf
            · rw [if_neg c9] at hf
              exact b_78 k_35 hk_35 u1 u2 u4 ls (lv_sub hl [0, 1, 2, 4] rfl) hf
  have b_31 : ∀ (u1 : Int32) (u2 : Int32) (y0 : Int32), ∀ ls : Array Slot, lv_has ls 5 [(0, .ref (q 0)), (1, .int u1), (2, .int u2)] → fX7_takes_31 N I A u1 u2 y0 = some r → W p l e rmX7_takes s m [.ref (q 0), .int x1, .int x2].toArray below meth cd s.heap [] 0 0 Q (F0 m 31 ls [.int y0]) := by
    intro u1 u2 y0 ls hl hf
    unfold fX7_takes_31 at hf
    refine lv_istore_n (lv' := [(3, .int y0), (0, .ref (q 0)), (1, .int u1), (2, .int u2)]) hx hb dX7_takes_31 rfl hl (by decide) rfl (fun ls hl => ?_)
    refine lv_iconst (v := 0) hx hb dX7_takes_32 (by decide) ?_
    refine lv_istore (lv' := [(4, .int 0), (3, .int y0), (0, .ref (q 0)), (1, .int u1), (2, .int u2)]) hx hb dX7_takes_33 hl (by decide) rfl (fun ls hl => ?_)
    exact b_35 N u1 u2 y0 0 ls (lv_sub hl [2, 3, 4, 1, 0] rfl) hf
  have b_30 : ∀ (u1 : Int32) (u2 : Int32), ∀ ls : Array Slot, lv_has ls 5 [(0, .ref (q 0)), (1, .int u1), (2, .int u2)] → fX7_takes_30 N I A u1 u2 = some r → W p l e rmX7_takes s m [.ref (q 0), .int x1, .int x2].toArray below meth cd s.heap [] 0 0 Q (F0 m 30 ls []) := by
    intro u1 u2 ls hl hf
    unfold fX7_takes_30 at hf
    refine lv_iconst (v := 0) hx hb dX7_takes_30 (by decide) ?_
    exact b_31 u1 u2 0 ls (lv_sub hl [0, 1, 2] rfl) hf
  unfold fX7_takes at hf
  refine lv_aload_n hx hb dX7_takes_0 rfl (lv_at hl 0 rfl) ?_
  refine lv_iconst (v := 0) hx hb dX7_takes_1 (by decide) ?_
  refine lv_iload_n hx hb dX7_takes_2 rfl (lv_at hl 2 rfl) ?_
  obtain ⟨z1, hz1, hf⟩ := bnd hf
  refine x_rdV (C := RX7) (n := 2) (ci := 7) hx hb hml hown hts hE (ct_X7_worthOf N l G cI cZ cO q I A L 0 x2 z1 hz1) (bg 21 15 rfl) mb_X7_worthOf.1 mb_X7_worthOf.2.1 mb_X7_worthOf.2.2.1 mb_X7_worthOf.2.2.2 hd_X7_worthOf rfl (by decide) hP rfl rfl rfl rfl hl.1 (Nat.le_of_ble_eq_true rfl) ⟨Nat.zero_le _, Nat.zero_le _⟩ dX7_takes_3 ?_
  refine lv_if_le (tgt := 30) hx hb dX7_takes_6 (by decide) (fun c2 => ?_) (fun c2 => ?_)
  · rw [if_pos c2] at hf
    exact b_30 x1 x2 ls (lv_sub hl [0, 1, 2] rfl) hf
  · rw [if_neg c2] at hf
    refine lv_aload_n hx hb dX7_takes_9 rfl (lv_at hl 0 rfl) ?_
    refine va_get (D := G) (ci := 7) (v := .ref (q 6)) (C := RX7) (T := TX7) (N := 33) hx hb hts inlX7 hown hE.1 hP 0 rfl rfl 7 (by decide) (hts _ (bg 3 19 rfl)) (fun _ h9 => h9) rfl dX7_takes_10 ?_
    refine lv_aload_n hx hb dX7_takes_13 rfl (lv_at hl 0 rfl) ?_
    refine lv_iconst (v := 0) hx hb dX7_takes_14 (by decide) ?_
    refine lv_iload_n hx hb dX7_takes_15 rfl (lv_at hl 1 rfl) ?_
    refine lv_iload_n hx hb dX7_takes_16 rfl (lv_at hl 2 rfl) ?_
    obtain ⟨z3, hz3, hf⟩ := bnd hf
    refine x_rdV (C := RX7) (n := 3) (ci := 7) hx hb hml hown hts hE (ct_X7_coinAt N l G cI cZ cO q I A L 0 x1 x2 z3 hz3) (bg 14 19 rfl) mb_X7_coinAt.1 mb_X7_coinAt.2.1 mb_X7_coinAt.2.2.1 mb_X7_coinAt.2.2.2 hd_X7_coinAt rfl (by decide) hP rfl rfl rfl rfl hl.1 (Nat.le_of_ble_eq_true rfl) ⟨Nat.zero_le _, Nat.zero_le _⟩ dX7_takes_17 ?_
    obtain ⟨v4, hv4, hf⟩ := bnd hf
    refine x_iald hx hb hE.1 hP 6 0 rfl rfl hv4 dX7_takes_20 ?_
    refine lv_bipush (v := 99) hx hb dX7_takes_21 (by decide) ?_
    refine lv_icmp_ge (tgt := 30) hx hb dX7_takes_23 (by decide) (fun c5 => ?_) (fun c5 => ?_)
    · rw [if_pos c5] at hf
      exact b_30 x1 x2 ls (lv_sub hl [0, 1, 2] rfl) hf
    · rw [if_neg c5] at hf
      refine lv_iconst (v := 1) hx hb dX7_takes_26 (by decide) ?_
      refine lv_goto (tgt := 31) hx hb dX7_takes_27 (by decide) ?_
      exact b_31 x1 x2 1 ls (lv_sub hl [0, 1, 2] rfl) hf
def fX7_pay_58 (N : Nat) (I : Nat → Int32) (A : Nat → Nat → Int32) : Option (Int32 × (Nat → Int32) × (Nat → Nat → Int32)) := some ((-3), I, A)
def fX7_pay_24 (N : Nat) (I : Nat → Int32) (A : Nat → Nat → Int32) : Option (Int32 × (Nat → Int32) × (Nat → Nat → Int32)) := some ((-1), I, A)
def fX7_pay (N : Nat) (I : Nat → Int32) (A : Nat → Nat → Int32) (x1 : Int32) (x2 : Int32) (x3 : Int32) : Option (Int32 × (Nat → Int32) × (Nat → Nat → Int32)) := (fX7_isPerson N I x1).bind fun z1 => if z1 = 0 then fX7_pay_24 N I A else (fX7_isPerson N I x2).bind fun z3 => if z3 = 0 then fX7_pay_24 N I A else (fX7_isRumour N I x3).bind fun z5 => if z5 = 0 then fX7_pay_24 N I A else if x1 = x2 then some ((-2), I, A) else (fX7_coinAt N 0 x1 x3).bind fun z8 => (rd 62 (A 5) z8).bind fun v9 => if v9 = 0 then fX7_pay_58 N I A else (fX7_takes N I A x2 x3).bind fun z11 => if z11 = 0 then fX7_pay_58 N I A else (fX7_keepAct N I A).bind fun z13 => (fX7_coinAt N 0 x1 x3).bind fun z14 => (rd 62 (z13.2 5) z14).bind fun v15 => (wr 62 (z13.2 5) z14 (v15 - 1)).bind fun g16 => (fX7_coinAt N 0 x2 x3).bind fun z17 => (rd 62 g16 z17).bind fun v18 => (wr 62 g16 z17 (v18 + 1)).bind fun g19 => (fX7_worthOf N (va_up (va_up z13.2 5 g16) 5 g19) 0 x3).bind fun z20 => some (z20, z13.1, va_up (va_up z13.2 5 g16) 5 g19)
def rmX7_pay : Room := { frames := 3, cells := 0, slots := 0, locals := 69 }
theorem mb_X7_pay : Cond.instanceMethod yX7_pay ∈ wsL_law ∧ Cond.selects RX7 yX7_pay yX7_pay ∈ wsL_law ∧ Cond.initialized RX7 ∈ wsL_law ∧ Cond.code yX7_pay cX7_pay 4 (some .int) ∈ wsL_law := ⟨(bg 21 8 rfl), (bg 21 9 rfl), (bg 0 5 rfl), (bg 21 10 rfl)⟩
theorem hd_X7_pay : yX7_pay.cls = RX7 ∧ yX7_pay.cls ≠ "java/lang/invoke/MethodHandle" ∧ yX7_pay.cls ≠ "java/lang/invoke/VarHandle" ∧ (parseMethodDescriptor yX7_pay.desc).map (fun d => d.parameters.length) = some 3 := by decide +kernel
set_option maxRecDepth 100000 in
set_option maxHeartbeats 4000000 in
theorem ct_X7_pay (N : Nat) (l : Launch) (G : va_G) (cI cZ cO : ClassId) (q : Nat → Nat) (I : Nat → Int32) (A : Nat → Nat → Int32) (L : Int64) (x1 : Int32) (x2 : Int32) (x3 : Int32) (r : Int32) (Iz : Nat → Int32) (Az : Nat → Nat → Int32) (hf : fX7_pay N I A x1 x2 x3 = some (r, Iz, Az)) : CtI l yX7_pay cX7_pay 4 .int rmX7_pay G cI cZ cO [.ref (q 0), .int x1, .int x2, .int x3] (wX7 q cI cZ cO I A L) (wX7 q cI cZ cO Iz Az L) r := by
  refine mkCI (by decide) (Nat.le_of_ble_eq_true rfl) ?_
  intro p e s m below meth cd Q Z hC hP hE hD hA fin ls hl
  obtain ⟨hx, hb, hml, hown, hts⟩ := hC
  have hown : s.vm.findClass RX7 = some m.cls := hown
  have hl : lv_has ls 4 [(0, .ref (q 0)), (1, .int x1), (2, .int x2), (3, .int x3)] := hl
  have b_58 : ∀ (I : Nat → Int32) (A : Nat → Nat → Int32), ∀ (H : Heap) (locs : List Loc), va_P G vwCl (wX7 q cI cZ cO I A L) H → va_D Z (wX7 q cI cZ cO I A L) → va_S Z s.heap H locs → ∀ ls : Array Slot, lv_has ls 4 [] → fX7_pay_58 N I A = some (r, Iz, Az) → W p l e rmX7_pay s m [.ref (q 0), .int x1, .int x2, .int x3].toArray below meth cd H locs 0 0 Q (F0 m 58 ls []) := by
    intro I A H locs hP hD hS ls hl hf
    unfold fX7_pay_58 at hf
    refine lv_bipush (v := (-3)) hx hb dX7_pay_58 (by decide) ?_
    have e9 := Option.some.inj hf
    exact fin H locs 60 ls _ (Prod.mk.inj e9).1 (nar_i _) (by rw [← (Prod.mk.inj (Prod.mk.inj e9).2).1, ← (Prod.mk.inj (Prod.mk.inj e9).2).2]; exact hP) hS dX7_pay_60
  have b_24 : ∀ (I : Nat → Int32) (A : Nat → Nat → Int32), ∀ (H : Heap) (locs : List Loc), va_P G vwCl (wX7 q cI cZ cO I A L) H → va_D Z (wX7 q cI cZ cO I A L) → va_S Z s.heap H locs → ∀ ls : Array Slot, lv_has ls 4 [] → fX7_pay_24 N I A = some (r, Iz, Az) → W p l e rmX7_pay s m [.ref (q 0), .int x1, .int x2, .int x3].toArray below meth cd H locs 0 0 Q (F0 m 24 ls []) := by
    intro I A H locs hP hD hS ls hl hf
    unfold fX7_pay_24 at hf
    refine lv_iconst (v := (-1)) hx hb dX7_pay_24 (by decide) ?_
    have e9 := Option.some.inj hf
    exact fin H locs 25 ls _ (Prod.mk.inj e9).1 (nar_i _) (by rw [← (Prod.mk.inj (Prod.mk.inj e9).2).1, ← (Prod.mk.inj (Prod.mk.inj e9).2).2]; exact hP) hS dX7_pay_25
  unfold fX7_pay at hf
  have hS : va_S Z s.heap s.heap [] := va_S.rf
  obtain ⟨H, hH⟩ : ∃ H, H = s.heap := ⟨_, rfl⟩
  obtain ⟨locs, hlocs⟩ : ∃ locs : List Loc, locs = [] := ⟨_, rfl⟩
  rw [← hlocs]
  rw [← hlocs] at hS
  suffices hW : ∀ H : Heap, va_P G vwCl (wX7 q cI cZ cO I A L) H → va_S Z s.heap H locs → W p l e rmX7_pay s m [.ref (q 0), .int x1, .int x2, .int x3].toArray below meth cd H locs 0 0 Q (F0 m 0 ls []) from hW s.heap hP hS
  clear hP hS hH H
  intro H hP hS
  refine lv_aload_n hx hb dX7_pay_0 rfl (lv_at hl 0 rfl) ?_
  refine lv_iload_n hx hb dX7_pay_1 rfl (lv_at hl 1 rfl) ?_
  obtain ⟨z1, hz1, hf⟩ := bnd hf
  refine x_rdV (C := RX7) (n := 1) (ci := 7) hx hb hml hown hts hE (ct_X7_isPerson N l G cI cZ cO q I A L x1 z1 hz1) (bg 14 3 rfl) mb_X7_isPerson.1 mb_X7_isPerson.2.1 mb_X7_isPerson.2.2.1 mb_X7_isPerson.2.2.2 hd_X7_isPerson rfl (by decide) hP rfl rfl rfl rfl hl.1 (Nat.le_of_ble_eq_true rfl) ⟨Nat.zero_le _, Nat.zero_le _⟩ dX7_pay_2 ?_
  refine lv_if_eq (tgt := 24) hx hb dX7_pay_5 (by decide) (fun c2 => ?_) (fun c2 => ?_)
  · rw [if_pos c2] at hf
    exact b_24 I A H locs hP hD hS ls (lv_sub hl [] rfl) hf
  · rw [if_neg c2] at hf
    refine lv_aload_n hx hb dX7_pay_8 rfl (lv_at hl 0 rfl) ?_
    refine lv_iload_n hx hb dX7_pay_9 rfl (lv_at hl 2 rfl) ?_
    obtain ⟨z3, hz3, hf⟩ := bnd hf
    refine x_rdV (C := RX7) (n := 1) (ci := 7) hx hb hml hown hts hE (ct_X7_isPerson N l G cI cZ cO q I A L x2 z3 hz3) (bg 14 3 rfl) mb_X7_isPerson.1 mb_X7_isPerson.2.1 mb_X7_isPerson.2.2.1 mb_X7_isPerson.2.2.2 hd_X7_isPerson rfl (by decide) hP rfl rfl rfl rfl hl.1 (Nat.le_of_ble_eq_true rfl) ⟨Nat.zero_le _, Nat.zero_le _⟩ dX7_pay_10 ?_
    refine lv_if_eq (tgt := 24) hx hb dX7_pay_13 (by decide) (fun c4 => ?_) (fun c4 => ?_)
    · rw [if_pos c4] at hf
      exact b_24 I A H locs hP hD hS ls (lv_sub hl [] rfl) hf
    · rw [if_neg c4] at hf
      refine lv_aload_n hx hb dX7_pay_16 rfl (lv_at hl 0 rfl) ?_
      refine lv_iload_n hx hb dX7_pay_17 rfl (lv_at hl 3 rfl) ?_
      obtain ⟨z5, hz5, hf⟩ := bnd hf
      refine x_rdV (C := RX7) (n := 1) (ci := 7) hx hb hml hown hts hE (ct_X7_isRumour N l G cI cZ cO q I A L x3 z5 hz5) (bg 13 6 rfl) mb_X7_isRumour.1 mb_X7_isRumour.2.1 mb_X7_isRumour.2.2.1 mb_X7_isRumour.2.2.2 hd_X7_isRumour rfl (by decide) hP rfl rfl rfl rfl hl.1 (Nat.le_of_ble_eq_true rfl) ⟨Nat.zero_le _, Nat.zero_le _⟩ dX7_pay_18 ?_
      refine lv_if_ne (tgt := 26) hx hb dX7_pay_21 (by decide) (fun c6 => ?_) (fun c6 => ?_)
      · rw [if_neg c6] at hf
        refine lv_iload_n hx hb dX7_pay_26 rfl (lv_at hl 1 rfl) ?_
        refine lv_iload_n hx hb dX7_pay_27 rfl (lv_at hl 2 rfl) ?_
        refine lv_icmp_ne (tgt := 34) hx hb dX7_pay_28 (by decide) (fun c7 => ?_) (fun c7 => ?_)
        · rw [if_neg c7] at hf
          refine lv_aload_n hx hb dX7_pay_34 rfl (lv_at hl 0 rfl) ?_
          refine va_get (D := G) (ci := 7) (v := .ref (q 6)) (C := RX7) (T := TX7) (N := 33) hx hb hts inlX7 hown hE.1 hP 0 rfl rfl 7 (by decide) (hts _ (bg 3 19 rfl)) (fun _ h9 => h9) rfl dX7_pay_35 ?_
          refine lv_aload_n hx hb dX7_pay_38 rfl (lv_at hl 0 rfl) ?_
          refine lv_iconst (v := 0) hx hb dX7_pay_39 (by decide) ?_
          refine lv_iload_n hx hb dX7_pay_40 rfl (lv_at hl 1 rfl) ?_
          refine lv_iload_n hx hb dX7_pay_41 rfl (lv_at hl 3 rfl) ?_
          obtain ⟨z8, hz8, hf⟩ := bnd hf
          refine x_rdV (C := RX7) (n := 3) (ci := 7) hx hb hml hown hts hE (ct_X7_coinAt N l G cI cZ cO q I A L 0 x1 x3 z8 hz8) (bg 14 19 rfl) mb_X7_coinAt.1 mb_X7_coinAt.2.1 mb_X7_coinAt.2.2.1 mb_X7_coinAt.2.2.2 hd_X7_coinAt rfl (by decide) hP rfl rfl rfl rfl hl.1 (Nat.le_of_ble_eq_true rfl) ⟨Nat.zero_le _, Nat.zero_le _⟩ dX7_pay_42 ?_
          obtain ⟨v9, hv9, hf⟩ := bnd hf
          refine x_iald hx hb hE.1 hP 6 0 rfl rfl hv9 dX7_pay_45 ?_
          refine lv_if_eq (tgt := 58) hx hb dX7_pay_46 (by decide) (fun c10 => ?_) (fun c10 => ?_)
          · rw [if_pos c10] at hf
            exact b_58 I A H locs hP hD hS ls (lv_sub hl [] rfl) hf
          · rw [if_neg c10] at hf
            refine lv_aload_n hx hb dX7_pay_49 rfl (lv_at hl 0 rfl) ?_
            refine lv_iload_n hx hb dX7_pay_50 rfl (lv_at hl 2 rfl) ?_
            refine lv_iload_n hx hb dX7_pay_51 rfl (lv_at hl 3 rfl) ?_
            obtain ⟨z11, hz11, hf⟩ := bnd hf
            refine x_rdV (C := RX7) (n := 2) (ci := 7) hx hb hml hown hts hE (ct_X7_takes N l G cI cZ cO q I A L x2 x3 z11 hz11) (bg 21 11 rfl) mb_X7_takes.1 mb_X7_takes.2.1 mb_X7_takes.2.2.1 mb_X7_takes.2.2.2 hd_X7_takes rfl (by decide) hP rfl rfl rfl rfl hl.1 (Nat.le_of_ble_eq_true rfl) ⟨Nat.zero_le _, Nat.zero_le _⟩ dX7_pay_52 ?_
            refine lv_if_ne (tgt := 61) hx hb dX7_pay_55 (by decide) (fun c12 => ?_) (fun c12 => ?_)
            · rw [if_neg c12] at hf
              refine lv_aload_n hx hb dX7_pay_61 rfl (lv_at hl 0 rfl) ?_
              obtain ⟨z13, hz13, hf⟩ := bnd hf
              refine x_wwVv (C := RX7) (n := 0) (ci := 7) hx hb hml hown hts hE (ct_X7_keepAct N l G cI cZ cO q I A L z13.1 z13.2 hz13) (bg 17 2 rfl) mb_X7_keepAct.1 mb_X7_keepAct.2.1 mb_X7_keepAct.2.2.1 mb_X7_keepAct.2.2.2 hd_X7_keepAct rfl (by decide) hP hD hS hA rfl rfl rfl rfl rfl hl.1 (Nat.le_of_ble_eq_true rfl) ⟨Nat.zero_le _, Nat.zero_le _⟩ dX7_pay_62 (fun H locs hP hD hS => ?_)
              have hP : va_P G vwCl (wX7 q cI cZ cO z13.1 z13.2 L) H := hP
              have hD : va_D Z (wX7 q cI cZ cO z13.1 z13.2 L) := hD
              refine lv_aload_n hx hb dX7_pay_65 rfl (lv_at hl 0 rfl) ?_
              refine va_get (D := G) (ci := 7) (v := .ref (q 6)) (C := RX7) (T := TX7) (N := 33) hx hb hts inlX7 hown hE.1 hP 0 rfl rfl 7 (by decide) (hts _ (bg 3 19 rfl)) (fun _ h9 => h9) rfl dX7_pay_66 ?_
              refine lv_aload_n hx hb dX7_pay_69 rfl (lv_at hl 0 rfl) ?_
              refine lv_iconst (v := 0) hx hb dX7_pay_70 (by decide) ?_
              refine lv_iload_n hx hb dX7_pay_71 rfl (lv_at hl 1 rfl) ?_
              refine lv_iload_n hx hb dX7_pay_72 rfl (lv_at hl 3 rfl) ?_
              obtain ⟨z14, hz14, hf⟩ := bnd hf
              refine x_rdV (C := RX7) (n := 3) (ci := 7) hx hb hml hown hts hE (ct_X7_coinAt N l G cI cZ cO q z13.1 z13.2 L 0 x1 x3 z14 hz14) (bg 14 19 rfl) mb_X7_coinAt.1 mb_X7_coinAt.2.1 mb_X7_coinAt.2.2.1 mb_X7_coinAt.2.2.2 hd_X7_coinAt rfl (by decide) hP rfl rfl rfl rfl hl.1 (Nat.le_of_ble_eq_true rfl) ⟨Nat.zero_le _, Nat.zero_le _⟩ dX7_pay_73 ?_
              refine lv_dup2_11 hx hb dX7_pay_76 rfl rfl ?_
              obtain ⟨v15, hv15, hf⟩ := bnd hf
              refine x_iald hx hb hE.1 hP 6 0 rfl rfl hv15 dX7_pay_77 ?_
              refine lv_iconst (v := 1) hx hb dX7_pay_78 (by decide) ?_
              refine lv_isub hx hb dX7_pay_79 ?_
              obtain ⟨g16, hg16, hf⟩ := bnd hf
              refine x_iast hx hb hE.1 hP hD hS 6 0 rfl rfl hg16 dX7_pay_80 (fun H locs hP hD hS => ?_)
              have hP : va_P G vwCl (wX7 q cI cZ cO z13.1 (va_up z13.2 5 g16) L) H := hP
              have hD : va_D Z (wX7 q cI cZ cO z13.1 (va_up z13.2 5 g16) L) := hD
              refine lv_aload_n hx hb dX7_pay_81 rfl (lv_at hl 0 rfl) ?_
              refine va_get (D := G) (ci := 7) (v := .ref (q 6)) (C := RX7) (T := TX7) (N := 33) hx hb hts inlX7 hown hE.1 hP 0 rfl rfl 7 (by decide) (hts _ (bg 3 19 rfl)) (fun _ h9 => h9) rfl dX7_pay_82 ?_
              refine lv_aload_n hx hb dX7_pay_85 rfl (lv_at hl 0 rfl) ?_
              refine lv_iconst (v := 0) hx hb dX7_pay_86 (by decide) ?_
              refine lv_iload_n hx hb dX7_pay_87 rfl (lv_at hl 2 rfl) ?_
              refine lv_iload_n hx hb dX7_pay_88 rfl (lv_at hl 3 rfl) ?_
              obtain ⟨z17, hz17, hf⟩ := bnd hf
              refine x_rdV (C := RX7) (n := 3) (ci := 7) hx hb hml hown hts hE (ct_X7_coinAt N l G cI cZ cO q z13.1 (va_up z13.2 5 g16) L 0 x2 x3 z17 hz17) (bg 14 19 rfl) mb_X7_coinAt.1 mb_X7_coinAt.2.1 mb_X7_coinAt.2.2.1 mb_X7_coinAt.2.2.2 hd_X7_coinAt rfl (by decide) hP rfl rfl rfl rfl hl.1 (Nat.le_of_ble_eq_true rfl) ⟨Nat.zero_le _, Nat.zero_le _⟩ dX7_pay_89 ?_
              refine lv_dup2_11 hx hb dX7_pay_92 rfl rfl ?_
              obtain ⟨v18, hv18, hf⟩ := bnd hf
              refine x_iald hx hb hE.1 hP 6 0 rfl rfl hv18 dX7_pay_93 ?_
              refine lv_iconst (v := 1) hx hb dX7_pay_94 (by decide) ?_
              refine lv_iadd hx hb dX7_pay_95 ?_
              obtain ⟨g19, hg19, hf⟩ := bnd hf
              refine x_iast hx hb hE.1 hP hD hS 6 0 rfl rfl hg19 dX7_pay_96 (fun H locs hP hD hS => ?_)
              have hP : va_P G vwCl (wX7 q cI cZ cO z13.1 (va_up (va_up z13.2 5 g16) 5 g19) L) H := hP
              have hD : va_D Z (wX7 q cI cZ cO z13.1 (va_up (va_up z13.2 5 g16) 5 g19) L) := hD
              refine lv_aload_n hx hb dX7_pay_97 rfl (lv_at hl 0 rfl) ?_
              refine lv_iconst (v := 0) hx hb dX7_pay_98 (by decide) ?_
              refine lv_iload_n hx hb dX7_pay_99 rfl (lv_at hl 3 rfl) ?_
              obtain ⟨z20, hz20, hf⟩ := bnd hf
              refine x_rdV (C := RX7) (n := 2) (ci := 7) hx hb hml hown hts hE (ct_X7_worthOf N l G cI cZ cO q z13.1 (va_up (va_up z13.2 5 g16) 5 g19) L 0 x3 z20 hz20) (bg 21 15 rfl) mb_X7_worthOf.1 mb_X7_worthOf.2.1 mb_X7_worthOf.2.2.1 mb_X7_worthOf.2.2.2 hd_X7_worthOf rfl (by decide) hP rfl rfl rfl rfl hl.1 (Nat.le_of_ble_eq_true rfl) ⟨Nat.zero_le _, Nat.zero_le _⟩ dX7_pay_100 ?_
              have e9 := Option.some.inj hf
              exact fin H locs 103 ls _ (Prod.mk.inj e9).1 (nar_i _) (by rw [← (Prod.mk.inj (Prod.mk.inj e9).2).1, ← (Prod.mk.inj (Prod.mk.inj e9).2).2]; exact hP) hS dX7_pay_103
            · rw [if_pos c12] at hf
              exact b_58 I A H locs hP hD hS ls (lv_sub hl [] rfl) hf
        · rw [if_pos c7] at hf
          refine lv_bipush (v := (-2)) hx hb dX7_pay_31 (by decide) ?_
          have e9 := Option.some.inj hf
          exact fin H locs 33 ls _ (Prod.mk.inj e9).1 (nar_i _) (by rw [← (Prod.mk.inj (Prod.mk.inj e9).2).1, ← (Prod.mk.inj (Prod.mk.inj e9).2).2]; exact hP) hS dX7_pay_33
      · rw [if_pos c6] at hf
        exact b_24 I A H locs hP hD hS ls (lv_sub hl [] rfl) hf
def fX7_undo_36s (N : Nat) (k_36 : (Nat → Int32) → (Nat → Nat → Int32) → Int32 → Option (Int32 × (Nat → Int32) × (Nat → Nat → Int32))) (I : Nat → Int32) (A : Nat → Nat → Int32) (u1 : Int32) : Option (Int32 × (Nat → Int32) × (Nat → Nat → Int32)) := if 31 ≤ u1 then some ((I 7), I, A) else (rd 434 (A 13) ((31 * (I 8)) + u1)).bind fun v2 => (wr 62 (A 5) u1 v2).bind fun g3 => k_36 I (va_up A 5 g3) (u1 + 1)
def fX7_undo_36 (N : Nat) : Nat → (Nat → Int32) → (Nat → Nat → Int32) → Int32 → Option (Int32 × (Nat → Int32) × (Nat → Nat → Int32))
  | 0 => fun _ _ _ => none
  | n + 1 => fX7_undo_36s N (fX7_undo_36 N n)
def fX7_undo (N : Nat) (I : Nat → Int32) (A : Nat → Nat → Int32) : Option (Int32 × (Nat → Int32) × (Nat → Nat → Int32)) := if (I 7) = 0 then some ((-3), I, A) else fX7_undo_36 N N (upd (upd I 7 ((I 7) - 1)) 8 (rem ((I 8) + 13) 14)) A 0
def rmX7_undo : Room := { frames := 0, cells := 0, slots := 0, locals := 0 }
theorem mb_X7_undo : Cond.instanceMethod yX7_undo ∈ wsL_law ∧ Cond.selects RX7 yX7_undo yX7_undo ∈ wsL_law ∧ Cond.initialized RX7 ∈ wsL_law ∧ Cond.code yX7_undo cX7_undo 2 (some .int) ∈ wsL_law := ⟨(bg 22 4 rfl), (bg 22 5 rfl), (bg 0 5 rfl), (bg 22 6 rfl)⟩
theorem hd_X7_undo : yX7_undo.cls = RX7 ∧ yX7_undo.cls ≠ "java/lang/invoke/MethodHandle" ∧ yX7_undo.cls ≠ "java/lang/invoke/VarHandle" ∧ (parseMethodDescriptor yX7_undo.desc).map (fun d => d.parameters.length) = some 0 := by decide +kernel
set_option maxRecDepth 100000 in
set_option maxHeartbeats 4000000 in
theorem ct_X7_undo (N : Nat) (l : Launch) (G : va_G) (cI cZ cO : ClassId) (q : Nat → Nat) (I : Nat → Int32) (A : Nat → Nat → Int32) (L : Int64) (r : Int32) (Iz : Nat → Int32) (Az : Nat → Nat → Int32) (hf : fX7_undo N I A = some (r, Iz, Az)) : CtI l yX7_undo cX7_undo 2 .int rmX7_undo G cI cZ cO [.ref (q 0)] (wX7 q cI cZ cO I A L) (wX7 q cI cZ cO Iz Az L) r := by
  refine mkCI (by decide) (Nat.le_of_ble_eq_true rfl) ?_
  intro p e s m below meth cd Q Z hC hP hE hD hA fin ls hl
  obtain ⟨hx, hb, hml, hown, hts⟩ := hC
  have hown : s.vm.findClass RX7 = some m.cls := hown
  have hl : lv_has ls 2 [(0, .ref (q 0))] := hl
  have b_36 : ∀ n : Nat, ∀ (I : Nat → Int32) (A : Nat → Nat → Int32) (u1 : Int32), ∀ (H : Heap) (locs : List Loc), va_P G vwCl (wX7 q cI cZ cO I A L) H → va_D Z (wX7 q cI cZ cO I A L) → va_S Z s.heap H locs → ∀ ls : Array Slot, lv_has ls 2 [(0, .ref (q 0)), (1, .int u1)] → fX7_undo_36 N n I A u1 = some (r, Iz, Az) → W p l e rmX7_undo s m [.ref (q 0)].toArray below meth cd H locs 0 0 Q (F0 m 36 ls []) := by
    intro n
    induction n with
    | zero =>
      intro I A u1 H locs hP hD hS ls hl hf
      cases hf
    | succ n hk_36 =>
      intro I A u1 H locs hP hD hS ls hl hf
      replace hf : fX7_undo_36s N (fX7_undo_36 N n) I A u1 = some (r, Iz, Az) := hf
      generalize fX7_undo_36 N n = k_36 at hf hk_36
      unfold fX7_undo_36s at hf
      refine lv_iload_n hx hb dX7_undo_36 rfl (lv_at hl 1 rfl) ?_
      refine lv_bipush (v := 31) hx hb dX7_undo_37 (by decide) ?_
      refine lv_icmp_ge (tgt := 68) hx hb dX7_undo_39 (by decide) (fun c1 => ?_) (fun c1 => ?_)
      · rw [if_pos c1] at hf
        refine lv_aload_n hx hb dX7_undo_68 rfl (lv_at hl 0 rfl) ?_
        refine va_get (D := G) (ci := 7) (v := .int ((I 7))) (C := RX7) (T := TX7) (N := 33) hx hb hts inlX7 hown hE.1 hP 0 rfl rfl 20 (by decide) (hts _ (bg 11 22 rfl)) (fun _ h9 => h9) rfl dX7_undo_69 ?_
        have e9 := Option.some.inj hf
        exact fin H locs 72 ls _ (Prod.mk.inj e9).1 (nar_i _) (by rw [← (Prod.mk.inj (Prod.mk.inj e9).2).1, ← (Prod.mk.inj (Prod.mk.inj e9).2).2]; exact hP) hS dX7_undo_72
      · rw [if_neg c1] at hf
        refine lv_aload_n hx hb dX7_undo_42 rfl (lv_at hl 0 rfl) ?_
        refine va_get (D := G) (ci := 7) (v := .ref (q 6)) (C := RX7) (T := TX7) (N := 33) hx hb hts inlX7 hown hE.1 hP 0 rfl rfl 7 (by decide) (hts _ (bg 3 19 rfl)) (fun _ h9 => h9) rfl dX7_undo_43 ?_
        refine lv_iload_n hx hb dX7_undo_46 rfl (lv_at hl 1 rfl) ?_
        refine lv_aload_n hx hb dX7_undo_47 rfl (lv_at hl 0 rfl) ?_
        refine va_get (D := G) (ci := 7) (v := .ref (q 14)) (C := RX7) (T := TX7) (N := 33) hx hb hts inlX7 hown hE.1 hP 0 rfl rfl 22 (by decide) (hts _ (bg 4 3 rfl)) (fun _ h9 => h9) rfl dX7_undo_48 ?_
        refine lv_bipush (v := 31) hx hb dX7_undo_51 (by decide) ?_
        refine lv_aload_n hx hb dX7_undo_53 rfl (lv_at hl 0 rfl) ?_
        refine va_get (D := G) (ci := 7) (v := .int ((I 8))) (C := RX7) (T := TX7) (N := 33) hx hb hts inlX7 hown hE.1 hP 0 rfl rfl 21 (by decide) (hts _ (bg 17 6 rfl)) (fun _ h9 => h9) rfl dX7_undo_54 ?_
        refine lv_imul hx hb dX7_undo_57 ?_
        refine lv_iload_n hx hb dX7_undo_58 rfl (lv_at hl 1 rfl) ?_
        refine lv_iadd hx hb dX7_undo_59 ?_
        obtain ⟨v2, hv2, hf⟩ := bnd hf
        refine x_iald hx hb hE.1 hP 14 0 rfl rfl hv2 dX7_undo_60 ?_
        obtain ⟨g3, hg3, hf⟩ := bnd hf
        refine x_iast hx hb hE.1 hP hD hS 6 0 rfl rfl hg3 dX7_undo_61 (fun H locs hP hD hS => ?_)
        have hP : va_P G vwCl (wX7 q cI cZ cO I (va_up A 5 g3) L) H := hP
        have hD : va_D Z (wX7 q cI cZ cO I (va_up A 5 g3) L) := hD
        refine lv_iinc (v := u1 + 1) (lv' := [(1, .int (u1 + 1)), (0, .ref (q 0))]) hx hb dX7_undo_62 hl (k := 1) rfl rfl (by decide) rfl (fun ls hl => ?_)
        refine lv_goto (tgt := 36) hx hb dX7_undo_65 (by decide) ?_
        exact hk_36 I (va_up A 5 g3) (u1 + 1) H locs hP hD hS ls (lv_sub hl [1, 0] rfl) hf
  unfold fX7_undo at hf
  have hS : va_S Z s.heap s.heap [] := va_S.rf
  obtain ⟨H, hH⟩ : ∃ H, H = s.heap := ⟨_, rfl⟩
  obtain ⟨locs, hlocs⟩ : ∃ locs : List Loc, locs = [] := ⟨_, rfl⟩
  rw [← hlocs]
  rw [← hlocs] at hS
  suffices hW : ∀ H : Heap, va_P G vwCl (wX7 q cI cZ cO I A L) H → va_S Z s.heap H locs → W p l e rmX7_undo s m [.ref (q 0)].toArray below meth cd H locs 0 0 Q (F0 m 0 ls []) from hW s.heap hP hS
  clear hP hS hH H
  intro H hP hS
  refine lv_aload_n hx hb dX7_undo_0 rfl (lv_at hl 0 rfl) ?_
  refine va_get (D := G) (ci := 7) (v := .int ((I 7))) (C := RX7) (T := TX7) (N := 33) hx hb hts inlX7 hown hE.1 hP 0 rfl rfl 20 (by decide) (hts _ (bg 11 22 rfl)) (fun _ h9 => h9) rfl dX7_undo_1 ?_
  refine lv_if_ne (tgt := 10) hx hb dX7_undo_4 (by decide) (fun c1 => ?_) (fun c1 => ?_)
  · rw [if_neg c1] at hf
    refine lv_aload_n hx hb dX7_undo_10 rfl (lv_at hl 0 rfl) ?_
    refine lv_dup hx hb dX7_undo_11 rfl ?_
    refine va_get (D := G) (ci := 7) (v := .int ((I 7))) (C := RX7) (T := TX7) (N := 33) hx hb hts inlX7 hown hE.1 hP 0 rfl rfl 20 (by decide) (hts _ (bg 11 22 rfl)) (fun _ h9 => h9) rfl dX7_undo_12 ?_
    refine lv_iconst (v := 1) hx hb dX7_undo_15 (by decide) ?_
    refine lv_isub hx hb dX7_undo_16 ?_
    refine va_put (D := G) (ci := 7) (v := .int ((I 7) - 1)) (ty := .int) (C := RX7) (T := TX7) (N := 33) hx hb hts inlX7 tyX7 tyX7_ok nmX7 hown hE.1 hP hD hS 0 rfl rfl 20 (by decide) (hts _ (bg 11 22 rfl)) (fun _ h9 => h9) rfl (by decide +kernel) rfl rfl (Nat.le_of_ble_eq_true rfl) dX7_undo_17 (fun H locs hP hD hS => ?_)
    have hP : va_P G vwCl (wX7 q cI cZ cO (upd I 7 ((I 7) - 1)) A L) H := hP
    have hD : va_D Z (wX7 q cI cZ cO (upd I 7 ((I 7) - 1)) A L) := hD
    refine lv_aload_n hx hb dX7_undo_20 rfl (lv_at hl 0 rfl) ?_
    refine lv_aload_n hx hb dX7_undo_21 rfl (lv_at hl 0 rfl) ?_
    refine va_get (D := G) (ci := 7) (v := .int ((I 8))) (C := RX7) (T := TX7) (N := 33) hx hb hts inlX7 hown hE.1 hP 0 rfl rfl 21 (by decide) (hts _ (bg 17 6 rfl)) (fun _ h9 => h9) rfl dX7_undo_22 ?_
    refine lv_bipush (v := 13) hx hb dX7_undo_25 (by decide) ?_
    refine lv_iadd hx hb dX7_undo_27 ?_
    refine lv_bipush (v := 14) hx hb dX7_undo_28 (by decide) ?_
    refine x_irem hx hb dX7_undo_30 (by decide) ?_
    refine va_put (D := G) (ci := 7) (v := .int (rem ((I 8) + 13) 14)) (ty := .int) (C := RX7) (T := TX7) (N := 33) hx hb hts inlX7 tyX7 tyX7_ok nmX7 hown hE.1 hP hD hS 0 rfl rfl 21 (by decide) (hts _ (bg 17 6 rfl)) (fun _ h9 => h9) rfl (by decide +kernel) rfl rfl (Nat.le_of_ble_eq_true rfl) dX7_undo_31 (fun H locs hP hD hS => ?_)
    have hP : va_P G vwCl (wX7 q cI cZ cO (upd (upd I 7 ((I 7) - 1)) 8 (rem ((I 8) + 13) 14)) A L) H := hP
    have hD : va_D Z (wX7 q cI cZ cO (upd (upd I 7 ((I 7) - 1)) 8 (rem ((I 8) + 13) 14)) A L) := hD
    refine lv_iconst (v := 0) hx hb dX7_undo_34 (by decide) ?_
    refine lv_istore_n (lv' := [(1, .int 0), (0, .ref (q 0))]) hx hb dX7_undo_35 rfl hl (by decide) rfl (fun ls hl => ?_)
    exact b_36 N (upd (upd I 7 ((I 7) - 1)) 8 (rem ((I 8) + 13) 14)) A 0 H locs hP hD hS ls (lv_sub hl [1, 0] rfl) hf
  · rw [if_pos c1] at hf
    refine lv_bipush (v := (-3)) hx hb dX7_undo_7 (by decide) ?_
    have e9 := Option.some.inj hf
    exact fin H locs 9 ls _ (Prod.mk.inj e9).1 (nar_i _) (by rw [← (Prod.mk.inj (Prod.mk.inj e9).2).1, ← (Prod.mk.inj (Prod.mk.inj e9).2).2]; exact hP) hS dX7_undo_9
