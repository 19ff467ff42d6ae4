def fX6_purse (N : Nat) (tI : Nat → Int32) (tA : Nat → Nat → Int32) (wI : Nat → Int32) (wA : Nat → Nat → Int32) (x1 : Int32) (x2 : Int32) : Option (Int32) := (fX5_hasPerson N tI x1).bind fun z1 => if z1 = 0 then some (-1) else (fX6_isOutside N x2 0 8).bind fun z3 => if z3 = 0 then (fX6_purseIn N tI tA wI wA x1 x2).bind fun z5 => some z5 else some (-2)
def rmX6_purse : Room := { frames := 5, cells := 0, slots := 0, locals := 138 }
theorem mb_X6_purse : Cond.instanceMethod yX6_purse ∈ wsL_law ∧ Cond.selects RX6 yX6_purse yX6_purse ∈ wsL_law ∧ Cond.initialized RX6 ∈ wsL_law ∧ Cond.code yX6_purse cX6_purse 3 (some .int) ∈ wsL_law := ⟨(bg 23 11 rfl), (bg 23 12 rfl), (bg 0 2 rfl), (bg 23 13 rfl)⟩
theorem hd_X6_purse : yX6_purse.cls = RX6 ∧ yX6_purse.cls ≠ "java/lang/invoke/MethodHandle" ∧ yX6_purse.cls ≠ "java/lang/invoke/VarHandle" ∧ (parseMethodDescriptor yX6_purse.desc).map (fun d => d.parameters.length) = some 2 := by decide +kernel
set_option maxRecDepth 100000 in
set_option maxHeartbeats 4000000 in
theorem ct_X6_purse (N : Nat) (l : Launch) (G : va_G) (cI cZ cO : ClassId) (q : Nat → Nat) (A : Nat → Nat → Int32) (L : Int64) (rI : Nat → Int32) (rA : Nat → Nat → Int32) (tI : Nat → Int32) (tA : Nat → Nat → Int32) (dI : Nat → Int32) (dA : Nat → Nat → Int32) (wI : Nat → Int32) (wA : Nat → Nat → Int32) (uI : Nat → Int32) (uA : Nat → Nat → Int32) (aI : Nat → Int32) (aS : Nat → Nat → Int32) (aT : Nat → Nat → Nat → Int32) (eI : Nat → Int32) (eA : Nat → Nat → Int32) (sS : Nat → Nat → Int32) (sT : Nat → Nat → Nat → Int32) (bI : Nat → Int32) (x1 : Int32) (x2 : Int32) (r : Int32) (hf : fX6_purse N tI tA wI wA x1 x2 = some r) : RtI l yX6_purse cX6_purse 3 .int rmX6_purse G cI cZ cO [.ref (q 0), .int x1, .int x2] (wX6 q cI cZ cO A L rI rA tI tA dI dA wI wA uI uA aI aS aT eI eA sS sT bI) r := by
  refine mkRI (by decide) (Nat.le_of_ble_eq_true rfl) ?_
  intro p e s m below meth cd Q hC hP hE fin ls hl
  obtain ⟨hx, hb, hml, hown, hts⟩ := hC
  have hown : s.vm.findClass RX6 = some m.cls := hown
  have hl : lv_has ls 3 [(0, .ref (q 0)), (1, .int x1), (2, .int x2)] := hl
  unfold fX6_purse at hf
  refine lv_aload_n hx hb dX6_purse_0 rfl (lv_at hl 0 rfl) ?_
  refine va_get (D := G) (ci := 6) (v := .ref (q 3)) (C := RX6) (T := TX6) (N := 15) hx hb hts inlX6 hown hE.1 hP 0 rfl rfl 1 (by decide) (hts _ (bg 0 20 rfl)) (fun _ h9 => h9) rfl dX6_purse_1 ?_
  refine lv_iload_n hx hb dX6_purse_4 rfl (lv_at hl 1 rfl) ?_
  obtain ⟨z1, hz1, hf⟩ := bnd hf
  refine x_rdV (C := RX5) (n := 1) (ci := 5) hx hb hml hown hts hE (ct_X5_hasPerson N l G cI cZ cO (sh q 3) tI tA x1 z1 hz1) (bg 13 19 rfl) mb_X5_hasPerson.1 mb_X5_hasPerson.2.1 mb_X5_hasPerson.2.2.1 mb_X5_hasPerson.2.2.2 hd_X5_hasPerson rfl (by decide) (x_cut hP [3, 4, 5, 6, 7, 8, 9] rfl) rfl rfl rfl rfl hl.1 (Nat.le_of_ble_eq_true rfl) ⟨Nat.zero_le _, Nat.zero_le _⟩ dX6_purse_5 ?_
  refine lv_if_ne (tgt := 13) hx hb dX6_purse_8 (by decide) (fun c2 => ?_) (fun c2 => ?_)
  · rw [if_neg c2] at hf
    refine lv_iload_n hx hb dX6_purse_13 rfl (lv_at hl 2 rfl) ?_
    refine lv_iconst (v := 0) hx hb dX6_purse_14 (by decide) ?_
    refine lv_bipush (v := 8) hx hb dX6_purse_15 (by decide) ?_
    obtain ⟨z3, hz3, hf⟩ := bnd hf
    refine x_rdS (n := 3) hx hb hml hown hts hE (ct_X6_isOutside N l G cI cZ cO x2 0 8 z3 hz3) (bg 4 17 rfl) mb_X6_isOutside.1 mb_X6_isOutside.2.1 mb_X6_isOutside.2.2 hd_X6_isOutside rfl (by decide) va_P_nil rfl hl.1 (Nat.le_of_ble_eq_true rfl) ⟨Nat.zero_le _, Nat.zero_le _⟩ dX6_purse_17 ?_
    refine lv_if_eq (tgt := 26) hx hb dX6_purse_20 (by decide) (fun c4 => ?_) (fun c4 => ?_)
    · rw [if_pos c4] at hf
      refine lv_aload_n hx hb dX6_purse_26 rfl (lv_at hl 0 rfl) ?_
      refine lv_iload_n hx hb dX6_purse_27 rfl (lv_at hl 1 rfl) ?_
      refine lv_iload_n hx hb dX6_purse_28 rfl (lv_at hl 2 rfl) ?_
      obtain ⟨z5, hz5, hf⟩ := bnd hf
      refine x_rdV (C := RX6) (n := 2) (ci := 6) hx hb hml hown hts hE (ct_X6_purseIn N l G cI cZ cO q A L rI rA tI tA dI dA wI wA uI uA aI aS aT eI eA sS sT bI x1 x2 z5 hz5) (bg 23 14 rfl) mb_X6_purseIn.1 mb_X6_purseIn.2.1 mb_X6_purseIn.2.2.1 mb_X6_purseIn.2.2.2 hd_X6_purseIn rfl (by decide) hP rfl rfl rfl rfl hl.1 (Nat.le_of_ble_eq_true rfl) ⟨Nat.zero_le _, Nat.zero_le _⟩ dX6_purse_29 ?_
      have e9 := Option.some.inj hf
      exact fin 32 ls _ e9 (nar_i _) dX6_purse_32
    · rw [if_neg c4] at hf
      refine lv_bipush (v := (-2)) hx hb dX6_purse_23 (by decide) ?_
      have e9 := Option.some.inj hf
      exact fin 25 ls _ e9 (nar_i _) dX6_purse_25
  · rw [if_pos c2] at hf
    refine lv_iconst (v := (-1)) hx hb dX6_purse_11 (by decide) ?_
    have e9 := Option.some.inj hf
    exact fin 12 ls _ e9 (nar_i _) dX6_purse_12
def fX1_start (N : Nat) (I : Nat → Int32) (x1 : Int32) (x2 : Int32) : Option ((Nat → Int32)) := some (upd (upd I 0 x1) 1 x2)
def rmX1_start : Room := { frames := 0, cells := 0, slots := 0, locals := 0 }
theorem mb_X1_start : Cond.instanceMethod yX1_start ∈ wsL_law ∧ Cond.selects RX1 yX1_start yX1_start ∈ wsL_law ∧ Cond.initialized RX1 ∈ wsL_law ∧ Cond.code yX1_start cX1_start 3 none ∈ wsL_law := ⟨(bg 24 14 rfl), (bg 24 15 rfl), (bg 1 16 rfl), (bg 24 16 rfl)⟩
theorem hd_X1_start : yX1_start.cls = RX1 ∧ yX1_start.cls ≠ "java/lang/invoke/MethodHandle" ∧ yX1_start.cls ≠ "java/lang/invoke/VarHandle" ∧ (parseMethodDescriptor yX1_start.desc).map (fun d => d.parameters.length) = some 2 := by decide +kernel
set_option maxRecDepth 100000 in
set_option maxHeartbeats 4000000 in
theorem ct_X1_start (N : Nat) (l : Launch) (G : va_G) (cI cZ cO : ClassId) (q : Nat → Nat) (I : Nat → Int32) (x1 : Int32) (x2 : Int32) (Iz : Nat → Int32) (hf : fX1_start N I x1 x2 = some Iz) : CtV l yX1_start cX1_start 3 rmX1_start G cI cZ cO [.ref (q 0), .int x1, .int x2] (wX1 q cI cZ cO I) (wX1 q cI cZ cO Iz) := by
  refine mkCV (by decide) (Nat.le_of_ble_eq_true rfl) ?_
  intro p e s m below meth cd Q Z hC hP hE hD hA fin ls hl
  obtain ⟨hx, hb, hml, hown, hts⟩ := hC
  have hown : s.vm.findClass RX1 = some m.cls := hown
  have hl : lv_has ls 3 [(0, .ref (q 0)), (1, .int x1), (2, .int x2)] := hl
  unfold fX1_start at hf
  have hS : va_S Z s.heap s.heap [] := va_S.rf
  obtain ⟨H, hH⟩ : ∃ H, H = s.heap := ⟨_, rfl⟩
  obtain ⟨locs, hlocs⟩ : ∃ locs : List Loc, locs = [] := ⟨_, rfl⟩
  rw [← hlocs]
  rw [← hlocs] at hS
  suffices hW : ∀ H : Heap, va_P G vwCl (wX1 q cI cZ cO I) H → va_S Z s.heap H locs → W p l e rmX1_start s m [.ref (q 0), .int x1, .int x2].toArray below meth cd H locs 0 0 Q (F0 m 0 ls []) from hW s.heap hP hS
  clear hP hS hH H
  intro H hP hS
  refine lv_aload_n hx hb dX1_start_0 rfl (lv_at hl 0 rfl) ?_
  refine lv_iload_n hx hb dX1_start_1 rfl (lv_at hl 1 rfl) ?_
  refine va_put (D := G) (ci := 1) (v := .int x1) (ty := .int) (C := RX1) (T := TX1) (N := 2) hx hb hts inlX1 tyX1 tyX1_ok nmX1 hown hE.1 hP hD hS 0 rfl rfl 0 (by decide) (hts _ (bg 24 17 rfl)) (fun _ h9 => h9) rfl (by decide +kernel) rfl rfl (Nat.le_of_ble_eq_true rfl) dX1_start_2 (fun H locs hP hD hS => ?_)
  have hP : va_P G vwCl (wX1 q cI cZ cO (upd I 0 x1)) H := hP
  have hD : va_D Z (wX1 q cI cZ cO (upd I 0 x1)) := hD
  refine lv_aload_n hx hb dX1_start_5 rfl (lv_at hl 0 rfl) ?_
  refine lv_iload_n hx hb dX1_start_6 rfl (lv_at hl 2 rfl) ?_
  refine va_put (D := G) (ci := 1) (v := .int x2) (ty := .int) (C := RX1) (T := TX1) (N := 2) hx hb hts inlX1 tyX1 tyX1_ok nmX1 hown hE.1 hP hD hS 0 rfl rfl 1 (by decide) (hts _ (bg 24 18 rfl)) (fun _ h9 => h9) rfl (by decide +kernel) rfl rfl (Nat.le_of_ble_eq_true rfl) dX1_start_7 (fun H locs hP hD hS => ?_)
  have hP : va_P G vwCl (wX1 q cI cZ cO (upd (upd I 0 x1) 1 x2)) H := hP
  have hD : va_D Z (wX1 q cI cZ cO (upd (upd I 0 x1) 1 x2)) := hD
  have e9 := Option.some.inj hf
  exact fin H locs 10 ls (by rw [← e9]; exact hP) hS dX1_start_10
def fX1_offer_14 (N : Nat) (I : Nat → Int32) : Option ((Nat → Int32)) := some I
def fX1_offer (N : Nat) (I : Nat → Int32) (x1 : Int32) (x2 : Int32) : Option ((Nat → Int32)) := if x1 ≤ (I 0) then fX1_offer_14 N I else (fX1_start N I x1 x2).bind fun z2 => fX1_offer_14 N z2
def rmX1_offer : Room := { frames := 1, cells := 0, slots := 0, locals := 22 }
theorem mb_X1_offer : Cond.instanceMethod yX1_offer ∈ wsL_law ∧ Cond.selects RX1 yX1_offer yX1_offer ∈ wsL_law ∧ Cond.initialized RX1 ∈ wsL_law ∧ Cond.code yX1_offer cX1_offer 3 none ∈ wsL_law := ⟨(bg 24 20 rfl), (bg 24 21 rfl), (bg 1 16 rfl), (bg 24 22 rfl)⟩
theorem hd_X1_offer : yX1_offer.cls = RX1 ∧ yX1_offer.cls ≠ "java/lang/invoke/MethodHandle" ∧ yX1_offer.cls ≠ "java/lang/invoke/VarHandle" ∧ (parseMethodDescriptor yX1_offer.desc).map (fun d => d.parameters.length) = some 2 := by decide +kernel
set_option maxRecDepth 100000 in
set_option maxHeartbeats 4000000 in
theorem ct_X1_offer (N : Nat) (l : Launch) (G : va_G) (cI cZ cO : ClassId) (q : Nat → Nat) (I : Nat → Int32) (x1 : Int32) (x2 : Int32) (Iz : Nat → Int32) (hf : fX1_offer N I x1 x2 = some Iz) : CtV l yX1_offer cX1_offer 3 rmX1_offer G cI cZ cO [.ref (q 0), .int x1, .int x2] (wX1 q cI cZ cO I) (wX1 q cI cZ cO Iz) := by
  refine mkCV (by decide) (Nat.le_of_ble_eq_true rfl) ?_
  intro p e s m below meth cd Q Z hC hP hE hD hA fin ls hl
  obtain ⟨hx, hb, hml, hown, hts⟩ := hC
  have hown : s.vm.findClass RX1 = some m.cls := hown
  have hl : lv_has ls 3 [(0, .ref (q 0)), (1, .int x1), (2, .int x2)] := hl
  have b_14 : ∀ (I : Nat → Int32), ∀ (H : Heap) (locs : List Loc), va_P G vwCl (wX1 q cI cZ cO I) H → va_D Z (wX1 q cI cZ cO I) → va_S Z s.heap H locs → ∀ ls : Array Slot, lv_has ls 3 [] → fX1_offer_14 N I = some Iz → W p l e rmX1_offer s m [.ref (q 0), .int x1, .int x2].toArray below meth cd H locs 0 0 Q (F0 m 14 ls []) := by
    intro I H locs hP hD hS ls hl hf
    unfold fX1_offer_14 at hf
    have e9 := Option.some.inj hf
    exact fin H locs 14 ls (by rw [← e9]; exact hP) hS dX1_offer_14
  unfold fX1_offer at hf
  have hS : va_S Z s.heap s.heap [] := va_S.rf
  obtain ⟨H, hH⟩ : ∃ H, H = s.heap := ⟨_, rfl⟩
  obtain ⟨locs, hlocs⟩ : ∃ locs : List Loc, locs = [] := ⟨_, rfl⟩
  rw [← hlocs]
  rw [← hlocs] at hS
  suffices hW : ∀ H : Heap, va_P G vwCl (wX1 q cI cZ cO I) H → va_S Z s.heap H locs → W p l e rmX1_offer s m [.ref (q 0), .int x1, .int x2].toArray below meth cd H locs 0 0 Q (F0 m 0 ls []) from hW s.heap hP hS
  clear hP hS hH H
  intro H hP hS
  refine lv_iload_n hx hb dX1_offer_0 rfl (lv_at hl 1 rfl) ?_
  refine lv_aload_n hx hb dX1_offer_1 rfl (lv_at hl 0 rfl) ?_
  refine va_get (D := G) (ci := 1) (v := .int ((I 0))) (C := RX1) (T := TX1) (N := 2) hx hb hts inlX1 hown hE.1 hP 0 rfl rfl 0 (by decide) (hts _ (bg 24 17 rfl)) (fun _ h9 => h9) rfl dX1_offer_2 ?_
  refine lv_icmp_le (tgt := 14) hx hb dX1_offer_5 (by decide) (fun c1 => ?_) (fun c1 => ?_)
  · rw [if_pos c1] at hf
    exact b_14 I H locs hP hD hS ls (lv_sub hl [] rfl) hf
  · rw [if_neg c1] at hf
    refine lv_aload_n hx hb dX1_offer_8 rfl (lv_at hl 0 rfl) ?_
    refine lv_iload_n hx hb dX1_offer_9 rfl (lv_at hl 1 rfl) ?_
    refine lv_iload_n hx hb dX1_offer_10 rfl (lv_at hl 2 rfl) ?_
    obtain ⟨z2, hz2, hf⟩ := bnd hf
    refine x_wwVv (C := RX1) (n := 2) (ci := 1) hx hb hml hown hts hE (ct_X1_start N l G cI cZ cO q I x1 x2 z2 hz2) (bg 24 23 rfl) mb_X1_start.1 mb_X1_start.2.1 mb_X1_start.2.2.1 mb_X1_start.2.2.2 hd_X1_start rfl (by decide) hP hD hS hA rfl rfl rfl rfl rfl hl.1 (Nat.le_of_ble_eq_true rfl) ⟨Nat.zero_le _, Nat.zero_le _⟩ dX1_offer_11 (fun H locs hP hD hS => ?_)
    have hP : va_P G vwCl (wX1 q cI cZ cO z2) H := hP
    have hD : va_D Z (wX1 q cI cZ cO z2) := hD
    exact b_14 z2 H locs hP hD hS ls (lv_sub hl [] rfl) hf
def fX6_bestDay_29s (N : Nat) (k_29 : (Nat → Int32) → (Nat → Nat → Int32) → (Nat → Int32) → (Nat → Nat → Int32) → (Nat → Int32) → Int32 → Int32 → Option (Int32 × (Nat → Int32))) (tI : Nat → Int32) (tA : Nat → Nat → Int32) (wI : Nat → Int32) (wA : Nat → Nat → Int32) (bI : Nat → Int32) (u1 : Int32) (u2 : Int32) : Option (Int32 × (Nat → Int32)) := if 8 < u2 then some ((bI 1), bI) else (fX6_purseIn N tI tA wI wA u1 u2).bind fun z2 => (fX1_offer N bI z2 u2).bind fun z3 => k_29 tI tA wI wA z3 u1 (u2 + 1)
def fX6_bestDay_29 (N : Nat) : Nat → (Nat → Int32) → (Nat → Nat → Int32) → (Nat → Int32) → (Nat → Nat → Int32) → (Nat → Int32) → Int32 → Int32 → Option (Int32 × (Nat → Int32))
  | 0 => fun _ _ _ _ _ _ _ => none
  | n + 1 => fX6_bestDay_29s N (fX6_bestDay_29 N n)
def fX6_bestDay (N : Nat) (tI : Nat → Int32) (tA : Nat → Nat → Int32) (wI : Nat → Int32) (wA : Nat → Nat → Int32) (bI : Nat → Int32) (x1 : Int32) : Option (Int32 × (Nat → Int32)) := (fX5_hasPerson N tI x1).bind fun z1 => if z1 = 0 then some ((-1), bI) else (fX6_purseIn N tI tA wI wA x1 0).bind fun z3 => (fX1_start N bI z3 0).bind fun z4 => fX6_bestDay_29 N N tI tA wI wA z4 x1 1
def rmX6_bestDay : Room := { frames := 5, cells := 0, slots := 0, locals := 138 }
theorem mb_X6_bestDay : Cond.instanceMethod yX6_bestDay ∈ wsL_law ∧ Cond.selects RX6 yX6_bestDay yX6_bestDay ∈ wsL_law ∧ Cond.initialized RX6 ∈ wsL_law ∧ Cond.code yX6_bestDay cX6_bestDay 3 (some .int) ∈ wsL_law := ⟨(bg 24 9 rfl), (bg 24 10 rfl), (bg 0 2 rfl), (bg 24 11 rfl)⟩
theorem hd_X6_bestDay : yX6_bestDay.cls = RX6 ∧ yX6_bestDay.cls ≠ "java/lang/invoke/MethodHandle" ∧ yX6_bestDay.cls ≠ "java/lang/invoke/VarHandle" ∧ (parseMethodDescriptor yX6_bestDay.desc).map (fun d => d.parameters.length) = some 1 := by decide +kernel
set_option maxRecDepth 100000 in
set_option maxHeartbeats 4000000 in
theorem ct_X6_bestDay (N : Nat) (l : Launch) (G : va_G) (cI cZ cO : ClassId) (q : Nat → Nat) (A : Nat → Nat → Int32) (L : Int64) (rI : Nat → Int32) (rA : Nat → Nat → Int32) (tI : Nat → Int32) (tA : Nat → Nat → Int32) (dI : Nat → Int32) (dA : Nat → Nat → Int32) (wI : Nat → Int32) (wA : Nat → Nat → Int32) (uI : Nat → Int32) (uA : Nat → Nat → Int32) (aI : Nat → Int32) (aS : Nat → Nat → Int32) (aT : Nat → Nat → Nat → Int32) (eI : Nat → Int32) (eA : Nat → Nat → Int32) (sS : Nat → Nat → Int32) (sT : Nat → Nat → Nat → Int32) (bI : Nat → Int32) (x1 : Int32) (r : Int32) (bIz : Nat → Int32) (hf : fX6_bestDay N tI tA wI wA bI x1 = some (r, bIz)) : CtI l yX6_bestDay cX6_bestDay 3 .int rmX6_bestDay G cI cZ cO [.ref (q 0), .int x1] (wX6 q cI cZ cO A L rI rA tI tA dI dA wI wA uI uA aI aS aT eI eA sS sT bI) (wX6 q cI cZ cO A L rI rA tI tA dI dA wI wA uI uA aI aS aT eI eA sS sT bIz) r := by
  refine mkCI (by decide) (Nat.le_of_ble_eq_true rfl) ?_
  intro p e s m below meth cd Q Z hC hP hE hD hA fin ls hl
  obtain ⟨hx, hb, hml, hown, hts⟩ := hC
  have hown : s.vm.findClass RX6 = some m.cls := hown
  have hl : lv_has ls 3 [(0, .ref (q 0)), (1, .int x1)] := hl
  have b_29 : ∀ n : Nat, ∀ (bI : Nat → Int32) (u1 : Int32) (u2 : Int32), ∀ (H : Heap) (locs : List Loc), va_P G vwCl (wX6 q cI cZ cO A L rI rA tI tA dI dA wI wA uI uA aI aS aT eI eA sS sT bI) H → va_D Z (wX6 q cI cZ cO A L rI rA tI tA dI dA wI wA uI uA aI aS aT eI eA sS sT bI) → va_S Z s.heap H locs → ∀ ls : Array Slot, lv_has ls 3 [(0, .ref (q 0)), (1, .int u1), (2, .int u2)] → fX6_bestDay_29 N n tI tA wI wA bI u1 u2 = some (r, bIz) → W p l e rmX6_bestDay s m [.ref (q 0), .int x1].toArray below meth cd H locs 0 0 Q (F0 m 29 ls []) := by
    intro n
    induction n with
    | zero =>
      intro bI u1 u2 H locs hP hD hS ls hl hf
      cases hf
    | succ n hk_29 =>
      intro bI u1 u2 H locs hP hD hS ls hl hf
      replace hf : fX6_bestDay_29s N (fX6_bestDay_29 N n) tI tA wI wA bI u1 u2 = some (r, bIz) := hf
      generalize fX6_bestDay_29 N n = k_29 at hf hk_29
      unfold fX6_bestDay_29s at hf
      refine lv_iload_n hx hb dX6_bestDay_29 rfl (lv_at hl 2 rfl) ?_
      refine lv_bipush (v := 8) hx hb dX6_bestDay_30 (by decide) ?_
      refine lv_icmp_gt (tgt := 55) hx hb dX6_bestDay_32 (by decide) (fun c1 => ?_) (fun c1 => ?_)
      · rw [if_pos c1] at hf
        refine lv_aload_n hx hb dX6_bestDay_55 rfl (lv_at hl 0 rfl) ?_
        refine va_get (D := G) (ci := 6) (v := .ref (q 98)) (C := RX6) (T := TX6) (N := 15) hx hb hts inlX6 hown hE.1 hP 0 rfl rfl 9 (by decide) (hts _ (bg 1 17 rfl)) (fun _ h9 => h9) rfl dX6_bestDay_56 ?_
        refine va_get (D := G) (ci := 1) (v := .int ((bI 1))) (C := RX1) (T := TX1) (N := 2) hx hb hts inlX1 hown hE.1 hP 98 rfl rfl 1 (by decide) (hts _ (bg 24 12 rfl)) (fun _ h9 => h9) rfl dX6_bestDay_59 ?_
        have e9 := Option.some.inj hf
        exact fin H locs 62 ls _ (Prod.mk.inj e9).1 (nar_i _) (by rw [← (Prod.mk.inj e9).2]; exact hP) hS dX6_bestDay_62
      · rw [if_neg c1] at hf
        refine lv_aload_n hx hb dX6_bestDay_35 rfl (lv_at hl 0 rfl) ?_
        refine va_get (D := G) (ci := 6) (v := .ref (q 98)) (C := RX6) (T := TX6) (N := 15) hx hb hts inlX6 hown hE.1 hP 0 rfl rfl 9 (by decide) (hts _ (bg 1 17 rfl)) (fun _ h9 => h9) rfl dX6_bestDay_36 ?_
        refine lv_aload_n hx hb dX6_bestDay_39 rfl (lv_at hl 0 rfl) ?_
        refine lv_iload_n hx hb dX6_bestDay_40 rfl (lv_at hl 1 rfl) ?_
        refine lv_iload_n hx hb dX6_bestDay_41 rfl (lv_at hl 2 rfl) ?_
        obtain ⟨z2, hz2, hf⟩ := bnd hf
        refine x_rdV (C := RX6) (n := 2) (ci := 6) hx hb hml hown hts hE (ct_X6_purseIn N l G cI cZ cO q A L rI rA tI tA dI dA wI wA uI uA aI aS aT eI eA sS sT bI u1 u2 z2 hz2) (bg 23 14 rfl) mb_X6_purseIn.1 mb_X6_purseIn.2.1 mb_X6_purseIn.2.2.1 mb_X6_purseIn.2.2.2 hd_X6_purseIn rfl (by decide) hP rfl rfl rfl rfl hl.1 (Nat.le_of_ble_eq_true rfl) ⟨Nat.zero_le _, Nat.zero_le _⟩ dX6_bestDay_42 ?_
        refine lv_iload_n hx hb dX6_bestDay_45 rfl (lv_at hl 2 rfl) ?_
        obtain ⟨z3, hz3, hf⟩ := bnd hf
        refine x_wrVv (C := RX1) (n := 2) (ci := 1) (ws1 := (wX6 q cI cZ cO A L rI rA tI tA dI dA wI wA uI uA aI aS aT eI eA sS sT z3)) hx hb hml hown hts hE (ct_X1_offer N l G cI cZ cO (sh q 98) bI z2 u2 z3 hz3) (bg 24 19 rfl) mb_X1_offer.1 mb_X1_offer.2.1 mb_X1_offer.2.2.1 mb_X1_offer.2.2.2 hd_X1_offer rfl (by decide) hP hD hS hA [98] [false, false, false, false, false, false, false, false, false, false, false, false, false, false, false, false, false, false, false, false, false, false, false, false, false, false, false, false, false, false, false, false, false, false, false, false, false, false, false, false, false, false, false, false, false, false, false, false, false, false, false, false, false, false, false, false, false, false, false, false, false, false, false, false, false, false, false, false, false, false, false, false, false, false, false, false, false, false, false, false, false, false, false, false, false, false, false, false, false, false, false, false, false, false, false, false, false, false, true, false, false, false, false] (by decide) (by decide +kernel) rfl rfl ⟨rfl, rfl, rfl, rfl, rfl, rfl, rfl, rfl, rfl, rfl, rfl, rfl, rfl, rfl, rfl, rfl, rfl, rfl, rfl, rfl, rfl, rfl, rfl, rfl, rfl, rfl, rfl, rfl, rfl, rfl, rfl, rfl, rfl, rfl, rfl, rfl, rfl, rfl, rfl, rfl, rfl, rfl, rfl, rfl, rfl, rfl, rfl, rfl, rfl, rfl, rfl, rfl, rfl, rfl, rfl, rfl, rfl, rfl, rfl, rfl, rfl, rfl, rfl, rfl, rfl, rfl, rfl, rfl, rfl, rfl, rfl, rfl, rfl, rfl, rfl, rfl, rfl, rfl, rfl, rfl, rfl, rfl, rfl, rfl, rfl, rfl, rfl, rfl, rfl, rfl, rfl, rfl, rfl, rfl, rfl, rfl, rfl, rfl, rfl, rfl, rfl, rfl, rfl, trivial⟩ rfl rfl rfl rfl hl.1 (Nat.le_of_ble_eq_true rfl) ⟨Nat.zero_le _, Nat.zero_le _⟩ dX6_bestDay_46 (fun H locs hP hD hS => ?_)
        refine lv_iinc (v := u2 + 1) (lv' := [(2, .int (u2 + 1)), (0, .ref (q 0)), (1, .int u1)]) hx hb dX6_bestDay_49 hl (k := 2) rfl rfl (by decide) rfl (fun ls hl => ?_)
        refine lv_goto (tgt := 29) hx hb dX6_bestDay_52 (by decide) ?_
        exact hk_29 z3 u1 (u2 + 1) H locs hP hD hS ls (lv_sub hl [1, 2, 0] rfl) hf
  unfold fX6_bestDay at hf
  have hS : va_S Z s.heap s.heap [] := va_S.rf
  obtain ⟨H, hH⟩ : ∃ H, H = s.heap := ⟨_, rfl⟩
  obtain ⟨locs, hlocs⟩ : ∃ locs : List Loc, locs = [] := ⟨_, rfl⟩
  rw [← hlocs]
  rw [← hlocs] at hS
  suffices hW : ∀ H : Heap, va_P G vwCl (wX6 q cI cZ cO A L rI rA tI tA dI dA wI wA uI uA aI aS aT eI eA sS sT bI) H → va_S Z s.heap H locs → W p l e rmX6_bestDay s m [.ref (q 0), .int x1].toArray below meth cd H locs 0 0 Q (F0 m 0 ls []) from hW s.heap hP hS
  clear hP hS hH H
  intro H hP hS
  refine lv_aload_n hx hb dX6_bestDay_0 rfl (lv_at hl 0 rfl) ?_
  refine va_get (D := G) (ci := 6) (v := .ref (q 3)) (C := RX6) (T := TX6) (N := 15) hx hb hts inlX6 hown hE.1 hP 0 rfl rfl 1 (by decide) (hts _ (bg 0 20 rfl)) (fun _ h9 => h9) rfl dX6_bestDay_1 ?_
  refine lv_iload_n hx hb dX6_bestDay_4 rfl (lv_at hl 1 rfl) ?_
  obtain ⟨z1, hz1, hf⟩ := bnd hf
  refine x_rdV (C := RX5) (n := 1) (ci := 5) hx hb hml hown hts hE (ct_X5_hasPerson N l G cI cZ cO (sh q 3) tI tA x1 z1 hz1) (bg 13 19 rfl) mb_X5_hasPerson.1 mb_X5_hasPerson.2.1 mb_X5_hasPerson.2.2.1 mb_X5_hasPerson.2.2.2 hd_X5_hasPerson rfl (by decide) (x_cut hP [3, 4, 5, 6, 7, 8, 9] rfl) rfl rfl rfl rfl hl.1 (Nat.le_of_ble_eq_true rfl) ⟨Nat.zero_le _, Nat.zero_le _⟩ dX6_bestDay_5 ?_
  refine lv_if_ne (tgt := 13) hx hb dX6_bestDay_8 (by decide) (fun c2 => ?_) (fun c2 => ?_)
  · rw [if_neg c2] at hf
    refine lv_aload_n hx hb dX6_bestDay_13 rfl (lv_at hl 0 rfl) ?_
    refine va_get (D := G) (ci := 6) (v := .ref (q 98)) (C := RX6) (T := TX6) (N := 15) hx hb hts inlX6 hown hE.1 hP 0 rfl rfl 9 (by decide) (hts _ (bg 1 17 rfl)) (fun _ h9 => h9) rfl dX6_bestDay_14 ?_
    refine lv_aload_n hx hb dX6_bestDay_17 rfl (lv_at hl 0 rfl) ?_
    refine lv_iload_n hx hb dX6_bestDay_18 rfl (lv_at hl 1 rfl) ?_
    refine lv_iconst (v := 0) hx hb dX6_bestDay_19 (by decide) ?_
    obtain ⟨z3, hz3, hf⟩ := bnd hf
    refine x_rdV (C := RX6) (n := 2) (ci := 6) hx hb hml hown hts hE (ct_X6_purseIn N l G cI cZ cO q A L rI rA tI tA dI dA wI wA uI uA aI aS aT eI eA sS sT bI x1 0 z3 hz3) (bg 23 14 rfl) mb_X6_purseIn.1 mb_X6_purseIn.2.1 mb_X6_purseIn.2.2.1 mb_X6_purseIn.2.2.2 hd_X6_purseIn rfl (by decide) hP rfl rfl rfl rfl hl.1 (Nat.le_of_ble_eq_true rfl) ⟨Nat.zero_le _, Nat.zero_le _⟩ dX6_bestDay_20 ?_
    refine lv_iconst (v := 0) hx hb dX6_bestDay_23 (by decide) ?_
    obtain ⟨z4, hz4, hf⟩ := bnd hf
    refine x_wrVv (C := RX1) (n := 2) (ci := 1) (ws1 := (wX6 q cI cZ cO A L rI rA tI tA dI dA wI wA uI uA aI aS aT eI eA sS sT z4)) hx hb hml hown hts hE (ct_X1_start N l G cI cZ cO (sh q 98) bI z3 0 z4 hz4) (bg 24 13 rfl) mb_X1_start.1 mb_X1_start.2.1 mb_X1_start.2.2.1 mb_X1_start.2.2.2 hd_X1_start rfl (by decide) hP hD hS hA [98] [false, false, false, false, false, false, false, false, false, false, false, false, false, false, false, false, false, false, false, false, false, false, false, false, false, false, false, false, false, false, false, false, false, false, false, false, false, false, false, false, false, false, false, false, false, false, false, false, false, false, false, false, false, false, false, false, false, false, false, false, false, false, false, false, false, false, false, false, false, false, false, false, false, false, false, false, false, false, false, false, false, false, false, false, false, false, false, false, false, false, false, false, false, false, false, false, false, false, true, false, false, false, false] (by decide) (by decide +kernel) rfl rfl ⟨rfl, rfl, rfl, rfl, rfl, rfl, rfl, rfl, rfl, rfl, rfl, rfl, rfl, rfl, rfl, rfl, rfl, rfl, rfl, rfl, rfl, rfl, rfl, rfl, rfl, rfl, rfl, rfl, rfl, rfl, rfl, rfl, rfl, rfl, rfl, rfl, rfl, rfl, rfl, rfl, rfl, rfl, rfl, rfl, rfl, rfl, rfl, rfl, rfl, rfl, rfl, rfl, rfl, rfl, rfl, rfl, rfl, rfl, rfl, rfl, rfl, rfl, rfl, rfl, rfl, rfl, rfl, rfl, rfl, rfl, rfl, rfl, rfl, rfl, rfl, rfl, rfl, rfl, rfl, rfl, rfl, rfl, rfl, rfl, rfl, rfl, rfl, rfl, rfl, rfl, rfl, rfl, rfl, rfl, rfl, rfl, rfl, rfl, rfl, rfl, rfl, rfl, rfl, trivial⟩ rfl rfl rfl rfl hl.1 (Nat.le_of_ble_eq_true rfl) ⟨Nat.zero_le _, Nat.zero_le _⟩ dX6_bestDay_24 (fun H locs hP hD hS => ?_)
    refine lv_iconst (v := 1) hx hb dX6_bestDay_27 (by decide) ?_
    refine lv_istore_n (lv' := [(2, .int 1), (0, .ref (q 0)), (1, .int x1)]) hx hb dX6_bestDay_28 rfl hl (by decide) rfl (fun ls hl => ?_)
    exact b_29 N z4 x1 1 H locs hP hD hS ls (lv_sub hl [1, 2, 0] rfl) hf
  · rw [if_pos c2] at hf
    refine lv_iconst (v := (-1)) hx hb dX6_bestDay_11 (by decide) ?_
    have e9 := Option.some.inj hf
    exact fin H locs 12 ls _ (Prod.mk.inj e9).1 (nar_i _) (by rw [← (Prod.mk.inj e9).2]; exact hP) hS dX6_bestDay_12
def fX6_reach_25s (N : Nat) (k_25 : (Nat → Int32) → (Nat → Nat → Int32) → (Nat → Int32) → (Nat → Nat → Int32) → Int32 → Int32 → Int32 → Option (Int32)) (tI : Nat → Int32) (tA : Nat → Nat → Int32) (wI : Nat → Int32) (wA : Nat → Nat → Int32) (u1 : Int32) (u2 : Int32) (u3 : Int32) : Option (Int32) := if 8 < u3 then some (-9) else (fX4_saidOf N wA u1).bind fun z2 => (fX6_saidIn N tI tA wI wA u1 z2 u3).bind fun z3 => (fX6_hasBit N z3 u2).bind fun z4 => if z4 = 0 then k_25 tI tA wI wA u1 u2 (u3 + 1) else some u3
def fX6_reach_25 (N : Nat) : Nat → (Nat → Int32) → (Nat → Nat → Int32) → (Nat → Int32) → (Nat → Nat → Int32) → Int32 → Int32 → Int32 → Option (Int32)
  | 0 => fun _ _ _ _ _ _ _ => none
  | n + 1 => fX6_reach_25s N (fX6_reach_25 N n)
def fX6_reach (N : Nat) (tI : Nat → Int32) (tA : Nat → Nat → Int32) (wI : Nat → Int32) (wA : Nat → Nat → Int32) (x1 : Int32) (x2 : Int32) : Option (Int32) := (fX5_hasRumour N tI x1).bind fun z1 => if z1 = 0 then some (-1) else (fX6_isTable N x2).bind fun z3 => if z3 = 0 then some (-2) else fX6_reach_25 N N tI tA wI wA x1 x2 0
def rmX6_reach : Room := { frames := 4, cells := 0, slots := 0, locals := 93 }
theorem mb_X6_reach : Cond.instanceMethod yX6_reach ∈ wsL_law ∧ Cond.selects RX6 yX6_reach yX6_reach ∈ wsL_law ∧ Cond.initialized RX6 ∈ wsL_law ∧ Cond.code yX6_reach cX6_reach 4 (some .int) ∈ wsL_law := ⟨(bg 25 5 rfl), (bg 25 6 rfl), (bg 0 2 rfl), (bg 25 7 rfl)⟩
theorem hd_X6_reach : yX6_reach.cls = RX6 ∧ yX6_reach.cls ≠ "java/lang/invoke/MethodHandle" ∧ yX6_reach.cls ≠ "java/lang/invoke/VarHandle" ∧ (parseMethodDescriptor yX6_reach.desc).map (fun d => d.parameters.length) = some 2 := by decide +kernel
set_option maxRecDepth 100000 in
set_option maxHeartbeats 4000000 in
theorem ct_X6_reach (N : Nat) (l : Launch) (G : va_G) (cI cZ cO : ClassId) (q : Nat → Nat) (A : Nat → Nat → Int32) (L : Int64) (rI : Nat → Int32) (rA : Nat → Nat → Int32) (tI : Nat → Int32) (tA : Nat → Nat → Int32) (dI : Nat → Int32) (dA : Nat → Nat → Int32) (wI : Nat → Int32) (wA : Nat → Nat → Int32) (uI : Nat → Int32) (uA : Nat → Nat → Int32) (aI : Nat → Int32) (aS : Nat → Nat → Int32) (aT : Nat → Nat → Nat → Int32) (eI : Nat → Int32) (eA : Nat → Nat → Int32) (sS : Nat → Nat → Int32) (sT : Nat → Nat → Nat → Int32) (bI : Nat → Int32) (x1 : Int32) (x2 : Int32) (r : Int32) (hf : fX6_reach N tI tA wI wA x1 x2 = some r) : RtI l yX6_reach cX6_reach 4 .int rmX6_reach G cI cZ cO [.ref (q 0), .int x1, .int x2] (wX6 q cI cZ cO A L rI rA tI tA dI dA wI wA uI uA aI aS aT eI eA sS sT bI) r := by
  refine mkRI (by decide) (Nat.le_of_ble_eq_true rfl) ?_
  intro p e s m below meth cd Q hC hP hE fin ls hl
  obtain ⟨hx, hb, hml, hown, hts⟩ := hC
  have hown : s.vm.findClass RX6 = some m.cls := hown
  have hl : lv_has ls 4 [(0, .ref (q 0)), (1, .int x1), (2, .int x2)] := hl
  have b_25 : ∀ n : Nat, ∀ (u1 : Int32) (u2 : Int32) (u3 : Int32), ∀ ls : Array Slot, lv_has ls 4 [(0, .ref (q 0)), (1, .int u1), (2, .int u2), (3, .int u3)] → fX6_reach_25 N n tI tA wI wA u1 u2 u3 = some r → W p l e rmX6_reach s m [.ref (q 0), .int x1, .int x2].toArray below meth cd s.heap [] 0 0 Q (F0 m 25 ls []) := by
    intro n
    induction n with
    | zero =>
      intro u1 u2 u3 ls hl hf
      cases hf
    | succ n hk_25 =>
      intro u1 u2 u3 ls hl hf
      replace hf : fX6_reach_25s N (fX6_reach_25 N n) tI tA wI wA u1 u2 u3 = some r := hf
      generalize fX6_reach_25 N n = k_25 at hf hk_25
      unfold fX6_reach_25s at hf
      refine lv_iload_n hx hb dX6_reach_25 rfl (lv_at hl 3 rfl) ?_
      refine lv_bipush (v := 8) hx hb dX6_reach_26 (by decide) ?_
      refine lv_icmp_gt (tgt := 60) hx hb dX6_reach_28 (by decide) (fun c1 => ?_) (fun c1 => ?_)
      · rw [if_pos c1] at hf
        refine lv_bipush (v := (-9)) hx hb dX6_reach_60 (by decide) ?_
        have e9 := Option.some.inj hf
        exact fin 62 ls _ e9 (nar_i _) dX6_reach_62
      · rw [if_neg c1] at hf
        refine lv_aload_n hx hb dX6_reach_31 rfl (lv_at hl 0 rfl) ?_
        refine lv_iload_n hx hb dX6_reach_32 rfl (lv_at hl 1 rfl) ?_
        refine lv_aload_n hx hb dX6_reach_33 rfl (lv_at hl 0 rfl) ?_
        refine va_get (D := G) (ci := 6) (v := .ref (q 17)) (C := RX6) (T := TX6) (N := 15) hx hb hts inlX6 hown hE.1 hP 0 rfl rfl 3 (by decide) (hts _ (bg 1 1 rfl)) (fun _ h9 => h9) rfl dX6_reach_34 ?_
        refine lv_iload_n hx hb dX6_reach_37 rfl (lv_at hl 1 rfl) ?_
        obtain ⟨z2, hz2, hf⟩ := bnd hf
        refine x_rdV (C := RX4) (n := 1) (ci := 4) hx hb hml hown hts hE (ct_X4_saidOf N l G cI cZ cO (sh q 17) wI wA u1 z2 hz2) (bg 12 12 rfl) mb_X4_saidOf.1 mb_X4_saidOf.2.1 mb_X4_saidOf.2.2.1 mb_X4_saidOf.2.2.2 hd_X4_saidOf rfl (by decide) (x_cut hP [17, 18, 19, 20] rfl) rfl rfl rfl rfl hl.1 (Nat.le_of_ble_eq_true rfl) ⟨Nat.zero_le _, Nat.zero_le _⟩ dX6_reach_38 ?_
        refine lv_iload_n hx hb dX6_reach_41 rfl (lv_at hl 3 rfl) ?_
        obtain ⟨z3, hz3, hf⟩ := bnd hf
        refine x_rdV (C := RX6) (n := 3) (ci := 6) hx hb hml hown hts hE (ct_X6_saidIn N l G cI cZ cO q A L rI rA tI tA dI dA wI wA uI uA aI aS aT eI eA sS sT bI u1 z2 u3 z3 hz3) (bg 22 15 rfl) mb_X6_saidIn.1 mb_X6_saidIn.2.1 mb_X6_saidIn.2.2.1 mb_X6_saidIn.2.2.2 hd_X6_saidIn rfl (by decide) hP rfl rfl rfl rfl hl.1 (Nat.le_of_ble_eq_true rfl) ⟨Nat.zero_le _, Nat.zero_le _⟩ dX6_reach_42 ?_
        refine lv_iload_n hx hb dX6_reach_45 rfl (lv_at hl 2 rfl) ?_
        obtain ⟨z4, hz4, hf⟩ := bnd hf
        refine x_rdS (n := 2) hx hb hml hown hts hE (ct_X6_hasBit N l G cI cZ cO z3 u2 z4 hz4) (bg 23 23 rfl) mb_X6_hasBit.1 mb_X6_hasBit.2.1 mb_X6_hasBit.2.2 hd_X6_hasBit rfl (by decide) va_P_nil rfl hl.1 (Nat.le_of_ble_eq_true rfl) ⟨Nat.zero_le _, Nat.zero_le _⟩ dX6_reach_46 ?_
        refine lv_if_eq (tgt := 54) hx hb dX6_reach_49 (by decide) (fun c5 => ?_) (fun c5 => ?_)
        · rw [if_pos c5] at hf
          refine lv_iinc (v := u3 + 1) (lv' := [(3, .int (u3 + 1)), (0, .ref (q 0)), (1, .int u1), (2, .int u2)]) hx hb dX6_reach_54 hl (k := 3) rfl rfl (by decide) rfl (fun ls hl => ?_)
          refine lv_goto (tgt := 25) hx hb dX6_reach_57 (by decide) ?_
          exact hk_25 u1 u2 (u3 + 1) ls (lv_sub hl [1, 2, 3, 0] rfl) hf
        · rw [if_neg c5] at hf
          refine lv_iload_n hx hb dX6_reach_52 rfl (lv_at hl 3 rfl) ?_
          have e9 := Option.some.inj hf
          exact fin 53 ls _ e9 (nar_i _) dX6_reach_53
  unfold fX6_reach at hf
  refine lv_aload_n hx hb dX6_reach_0 rfl (lv_at hl 0 rfl) ?_
  refine va_get (D := G) (ci := 6) (v := .ref (q 3)) (C := RX6) (T := TX6) (N := 15) hx hb hts inlX6 hown hE.1 hP 0 rfl rfl 1 (by decide) (hts _ (bg 0 20 rfl)) (fun _ h9 => h9) rfl dX6_reach_1 ?_
  refine lv_iload_n hx hb dX6_reach_4 rfl (lv_at hl 1 rfl) ?_
  obtain ⟨z1, hz1, hf⟩ := bnd hf
  refine x_rdV (C := RX5) (n := 1) (ci := 5) hx hb hml hown hts hE (ct_X5_hasRumour N l G cI cZ cO (sh q 3) tI tA x1 z1 hz1) (bg 12 7 rfl) mb_X5_hasRumour.1 mb_X5_hasRumour.2.1 mb_X5_hasRumour.2.2.1 mb_X5_hasRumour.2.2.2 hd_X5_hasRumour rfl (by decide) (x_cut hP [3, 4, 5, 6, 7, 8, 9] rfl) rfl rfl rfl rfl hl.1 (Nat.le_of_ble_eq_true rfl) ⟨Nat.zero_le _, Nat.zero_le _⟩ dX6_reach_5 ?_
  refine lv_if_ne (tgt := 13) hx hb dX6_reach_8 (by decide) (fun c2 => ?_) (fun c2 => ?_)
  · rw [if_neg c2] at hf
    refine lv_iload_n hx hb dX6_reach_13 rfl (lv_at hl 2 rfl) ?_
    obtain ⟨z3, hz3, hf⟩ := bnd hf
    refine x_rdS (n := 1) hx hb hml hown hts hE (ct_X6_isTable N l G cI cZ cO x2 z3 hz3) (bg 17 15 rfl) mb_X6_isTable.1 mb_X6_isTable.2.1 mb_X6_isTable.2.2 hd_X6_isTable rfl (by decide) va_P_nil rfl hl.1 (Nat.le_of_ble_eq_true rfl) ⟨Nat.zero_le _, Nat.zero_le _⟩ dX6_reach_14 ?_
    refine lv_if_ne (tgt := 23) hx hb dX6_reach_17 (by decide) (fun c4 => ?_) (fun c4 => ?_)
    · rw [if_neg c4] at hf
      refine lv_iconst (v := 0) hx hb dX6_reach_23 (by decide) ?_
      refine lv_istore_n (lv' := [(3, .int 0), (0, .ref (q 0)), (1, .int x1), (2, .int x2)]) hx hb dX6_reach_24 rfl hl (by decide) rfl (fun ls hl => ?_)
      exact b_25 N x1 x2 0 ls (lv_sub hl [1, 2, 3, 0] rfl) hf
    · rw [if_pos c4] at hf
      refine lv_bipush (v := (-2)) hx hb dX6_reach_20 (by decide) ?_
      have e9 := Option.some.inj hf
      exact fin 22 ls _ e9 (nar_i _) dX6_reach_22
  · rw [if_pos c2] at hf
    refine lv_iconst (v := (-1)) hx hb dX6_reach_11 (by decide) ?_
    have e9 := Option.some.inj hf
    exact fin 12 ls _ e9 (nar_i _) dX6_reach_12
