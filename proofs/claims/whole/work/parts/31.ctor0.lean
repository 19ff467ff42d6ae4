def rmX1_init : Room := { frames := 1, cells := 0, slots := 0, locals := 12 }
theorem mb_X1_init : Cond.instanceMethod yX1_init ∈ wsL_law ∧ Cond.initialized yX1_init.cls ∈ wsL_law ∧ Cond.code yX1_init cX1_init 1 none ∈ wsL_law := ⟨(bg 3 7 rfl), (bg 1 16 rfl), (bg 3 8 rfl)⟩
theorem hd_X1_init : yX1_init.cls ≠ "java/lang/invoke/MethodHandle" ∧ yX1_init.cls ≠ "java/lang/invoke/VarHandle" ∧ (parseMethodDescriptor yX1_init.desc).map (fun d => d.parameters.length) = some 0 := by decide +kernel
set_option maxRecDepth 100000 in
set_option maxHeartbeats 4000000 in
theorem ct_X1_init (l : Launch) (G : va_G) (cI cZ cO : ClassId) : CtN l yX1_init cX1_init 1 rmX1_init G cI cZ cO 1 [.int 0, .int 0] (fun q => wX1 q cI cZ cO ZI) 0 0 := by
  refine mkCN (by decide) rfl (by decide) ?_
  intro h0 p e s m below meth cd Q Z hC hin hP hE hO hD hA fin ls hl hS
  obtain ⟨hx, hb, hml, hown, hts⟩ := hC
  have hown : s.vm.findClass RX1 = some m.cls := hown
  refine lv_aload_n hx hb dX1_init_0 rfl (lv_at hl 0 rfl) ?_
  refine W.objInit hx hb hown (hts _ (bg 3 9 rfl)) (hts _ (bg 0 11 rfl)) (hts _ (bg 0 12 rfl)) rfl (by rw [hml]; exact hl.1) rfl dX1_init_1 (by decide) (Nat.le_of_ble_eq_true rfl) ?_
  refine W.eq (g2 := F0 m 4 ls []) rfl ?_
  exact fin _ _ 4 ls (fun k => ([h0] : List Nat).getD k 0) rfl hP hD hS dX1_init_4
def rmX2_init : Room := { frames := 1, cells := 4, slots := 24, locals := 12 }
theorem mb_X2_init : Cond.instanceMethod yX2_init ∈ wsL_law ∧ Cond.initialized yX2_init.cls ∈ wsL_law ∧ Cond.code yX2_init cX2_init 1 none ∈ wsL_law := ⟨(bg 3 0 rfl), (bg 1 9 rfl), (bg 3 1 rfl)⟩
theorem hd_X2_init : yX2_init.cls ≠ "java/lang/invoke/MethodHandle" ∧ yX2_init.cls ≠ "java/lang/invoke/VarHandle" ∧ (parseMethodDescriptor yX2_init.desc).map (fun d => d.parameters.length) = some 0 := by decide +kernel
set_option maxRecDepth 100000 in
set_option maxHeartbeats 4000000 in
theorem ct_X2_init (l : Launch) (G : va_G) (cI cZ cO : ClassId) : CtN l yX2_init cX2_init 1 rmX2_init G cI cZ cO 2 [.null, .null, .null, .null, .int 0] (fun q => wX2 q cI cZ cO ZI ZA) 4 24 := by
  refine mkCN (by decide) rfl (by decide) ?_
  intro h0 p e s m below meth cd Q Z hC hin hP hE hO hD hA fin ls hl hS
  obtain ⟨hx, hb, hml, hown, hts⟩ := hC
  have hown : s.vm.findClass RX2 = some m.cls := hown
  refine lv_aload_n hx hb dX2_init_0 rfl (lv_at hl 0 rfl) ?_
  refine W.objInit hx hb hown (hts _ (bg 3 2 rfl)) (hts _ (bg 0 11 rfl)) (hts _ (bg 0 12 rfl)) rfl (by rw [hml]; exact hl.1) rfl dX2_init_1 (by decide) (Nat.le_of_ble_eq_true rfl) ?_
  refine W.eq (g2 := F0 m 4 ls []) rfl ?_
  refine lv_aload_n hx hb dX2_init_4 rfl (lv_at hl 0 rfl) ?_
  refine lv_bipush (v := 6) hx hb dX2_init_5 (by decide) ?_
  refine x_newa (N' := 6) hx hb (hts _ (bg 1 18 rfl)) rfl hE hP hD hS hA 0 rfl rfl (by decide) (by decide) (by decide) (by decide) (by decide) dX2_init_7 (fun a1 H hP hD hS => ?_)
  have hP : va_P G vwCl ([(h0, .inr (2, [.null, .null, .null, .null, .int 0]))] ++ [(a1, .inl (cI, 6, .inl ZI))]) H := hP
  have hD : va_D Z ([(h0, .inr (2, [.null, .null, .null, .null, .int 0]))] ++ [(a1, .inl (cI, 6, .inl ZI))]) := hD
  refine va_putF (D := G) (ci := 2) (v := .ref a1) (ty := .array .int) (C := RX2) (T := TX2) (N := 5) hx hb hts inlX2 tyX2 tyX2_ok nmX2 hown hE.1 hP hD hS 0 rfl rfl 0 (by decide) (hts _ (bg 3 3 rfl)) (fun _ h9 => h9) rfl hin rfl (by decide +kernel) rfl rfl (Nat.le_of_ble_eq_true rfl) dX2_init_9 (fun H locs hP hD hS => ?_)
  have hP : va_P G vwCl ([(h0, .inr (2, [.ref a1, .null, .null, .null, .int 0]))] ++ [(a1, .inl (cI, 6, .inl ZI))]) H := hP
  have hD : va_D Z ([(h0, .inr (2, [.ref a1, .null, .null, .null, .int 0]))] ++ [(a1, .inl (cI, 6, .inl ZI))]) := hD
  refine lv_aload_n hx hb dX2_init_12 rfl (lv_at hl 0 rfl) ?_
  refine lv_bipush (v := 6) hx hb dX2_init_13 (by decide) ?_
  refine x_newa (N' := 6) hx hb (hts _ (bg 1 18 rfl)) rfl hE hP hD hS hA 0 rfl rfl (by decide) (by decide) (by decide) (by decide) (by decide) dX2_init_15 (fun a2 H hP hD hS => ?_)
  have hP : va_P G vwCl ([(h0, .inr (2, [.ref a1, .null, .null, .null, .int 0]))] ++ ([(a1, .inl (cI, 6, .inl ZI))] ++ [(a2, .inl (cI, 6, .inl ZI))])) H := hP
  have hD : va_D Z ([(h0, .inr (2, [.ref a1, .null, .null, .null, .int 0]))] ++ ([(a1, .inl (cI, 6, .inl ZI))] ++ [(a2, .inl (cI, 6, .inl ZI))])) := hD
  refine va_putF (D := G) (ci := 2) (v := .ref a2) (ty := .array .int) (C := RX2) (T := TX2) (N := 5) hx hb hts inlX2 tyX2 tyX2_ok nmX2 hown hE.1 hP hD hS 0 rfl rfl 1 (by decide) (hts _ (bg 3 4 rfl)) (fun _ h9 => h9) rfl hin rfl (by decide +kernel) rfl rfl (Nat.le_of_ble_eq_true rfl) dX2_init_17 (fun H locs hP hD hS => ?_)
  have hP : va_P G vwCl ([(h0, .inr (2, [.ref a1, .ref a2, .null, .null, .int 0]))] ++ ([(a1, .inl (cI, 6, .inl ZI))] ++ [(a2, .inl (cI, 6, .inl ZI))])) H := hP
  have hD : va_D Z ([(h0, .inr (2, [.ref a1, .ref a2, .null, .null, .int 0]))] ++ ([(a1, .inl (cI, 6, .inl ZI))] ++ [(a2, .inl (cI, 6, .inl ZI))])) := hD
  refine lv_aload_n hx hb dX2_init_20 rfl (lv_at hl 0 rfl) ?_
  refine lv_bipush (v := 6) hx hb dX2_init_21 (by decide) ?_
  refine x_newa (N' := 6) hx hb (hts _ (bg 1 18 rfl)) rfl hE hP hD hS hA 0 rfl rfl (by decide) (by decide) (by decide) (by decide) (by decide) dX2_init_23 (fun a3 H hP hD hS => ?_)
  have hP : va_P G vwCl ([(h0, .inr (2, [.ref a1, .ref a2, .null, .null, .int 0]))] ++ ([(a1, .inl (cI, 6, .inl ZI))] ++ ([(a2, .inl (cI, 6, .inl ZI))] ++ [(a3, .inl (cI, 6, .inl ZI))]))) H := hP
  have hD : va_D Z ([(h0, .inr (2, [.ref a1, .ref a2, .null, .null, .int 0]))] ++ ([(a1, .inl (cI, 6, .inl ZI))] ++ ([(a2, .inl (cI, 6, .inl ZI))] ++ [(a3, .inl (cI, 6, .inl ZI))]))) := hD
  refine va_putF (D := G) (ci := 2) (v := .ref a3) (ty := .array .int) (C := RX2) (T := TX2) (N := 5) hx hb hts inlX2 tyX2 tyX2_ok nmX2 hown hE.1 hP hD hS 0 rfl rfl 2 (by decide) (hts _ (bg 3 5 rfl)) (fun _ h9 => h9) rfl hin rfl (by decide +kernel) rfl rfl (Nat.le_of_ble_eq_true rfl) dX2_init_25 (fun H locs hP hD hS => ?_)
  have hP : va_P G vwCl ([(h0, .inr (2, [.ref a1, .ref a2, .ref a3, .null, .int 0]))] ++ ([(a1, .inl (cI, 6, .inl ZI))] ++ ([(a2, .inl (cI, 6, .inl ZI))] ++ [(a3, .inl (cI, 6, .inl ZI))]))) H := hP
  have hD : va_D Z ([(h0, .inr (2, [.ref a1, .ref a2, .ref a3, .null, .int 0]))] ++ ([(a1, .inl (cI, 6, .inl ZI))] ++ ([(a2, .inl (cI, 6, .inl ZI))] ++ [(a3, .inl (cI, 6, .inl ZI))]))) := hD
  refine lv_aload_n hx hb dX2_init_28 rfl (lv_at hl 0 rfl) ?_
  refine lv_bipush (v := 6) hx hb dX2_init_29 (by decide) ?_
  refine x_newa (N' := 6) hx hb (hts _ (bg 1 12 rfl)) rfl hE hP hD hS hA 1 rfl rfl (by decide) (by decide) (by decide) (by decide) (by decide) dX2_init_31 (fun a4 H hP hD hS => ?_)
  have hP : va_P G vwCl ([(h0, .inr (2, [.ref a1, .ref a2, .ref a3, .null, .int 0]))] ++ ([(a1, .inl (cI, 6, .inl ZI))] ++ ([(a2, .inl (cI, 6, .inl ZI))] ++ ([(a3, .inl (cI, 6, .inl ZI))] ++ [(a4, .inl (cZ, 6, .inl ZI))])))) H := hP
  have hD : va_D Z ([(h0, .inr (2, [.ref a1, .ref a2, .ref a3, .null, .int 0]))] ++ ([(a1, .inl (cI, 6, .inl ZI))] ++ ([(a2, .inl (cI, 6, .inl ZI))] ++ ([(a3, .inl (cI, 6, .inl ZI))] ++ [(a4, .inl (cZ, 6, .inl ZI))])))) := hD
  refine va_putF (D := G) (ci := 2) (v := .ref a4) (ty := .array .boolean) (C := RX2) (T := TX2) (N := 5) hx hb hts inlX2 tyX2 tyX2_ok nmX2 hown hE.1 hP hD hS 0 rfl rfl 3 (by decide) (hts _ (bg 3 6 rfl)) (fun _ h9 => h9) rfl hin rfl (by decide +kernel) rfl rfl (Nat.le_of_ble_eq_true rfl) dX2_init_33 (fun H locs hP hD hS => ?_)
  have hP : va_P G vwCl ([(h0, .inr (2, [.ref a1, .ref a2, .ref a3, .ref a4, .int 0]))] ++ ([(a1, .inl (cI, 6, .inl ZI))] ++ ([(a2, .inl (cI, 6, .inl ZI))] ++ ([(a3, .inl (cI, 6, .inl ZI))] ++ [(a4, .inl (cZ, 6, .inl ZI))])))) H := hP
  have hD : va_D Z ([(h0, .inr (2, [.ref a1, .ref a2, .ref a3, .ref a4, .int 0]))] ++ ([(a1, .inl (cI, 6, .inl ZI))] ++ ([(a2, .inl (cI, 6, .inl ZI))] ++ ([(a3, .inl (cI, 6, .inl ZI))] ++ [(a4, .inl (cZ, 6, .inl ZI))])))) := hD
  exact fin _ _ 36 ls (fun k => ([h0, a1, a2, a3, a4] : List Nat).getD k 0) rfl hP hD hS dX2_init_36
def rmX3_init : Room := { frames := 1, cells := 1, slots := 48, locals := 12 }
theorem mb_X3_init : Cond.instanceMethod yX3_init ∈ wsL_law ∧ Cond.initialized yX3_init.cls ∈ wsL_law ∧ Cond.code yX3_init cX3_init 1 none ∈ wsL_law := ⟨(bg 1 23 rfl), (bg 0 15 rfl), (bg 2 0 rfl)⟩
theorem hd_X3_init : yX3_init.cls ≠ "java/lang/invoke/MethodHandle" ∧ yX3_init.cls ≠ "java/lang/invoke/VarHandle" ∧ (parseMethodDescriptor yX3_init.desc).map (fun d => d.parameters.length) = some 0 := by decide +kernel
set_option maxRecDepth 100000 in
set_option maxHeartbeats 4000000 in
theorem ct_X3_init (l : Launch) (G : va_G) (cI cZ cO : ClassId) : CtN l yX3_init cX3_init 1 rmX3_init G cI cZ cO 3 [.null, .int 0, .int 0, .int 0, .int 0, .int 0] (fun q => wX3 q cI cZ cO ZI ZA) 1 48 := by
  refine mkCN (by decide) rfl (by decide) ?_
  intro h0 p e s m below meth cd Q Z hC hin hP hE hO hD hA fin ls hl hS
  obtain ⟨hx, hb, hml, hown, hts⟩ := hC
  have hown : s.vm.findClass RX3 = some m.cls := hown
  refine lv_aload_n hx hb dX3_init_0 rfl (lv_at hl 0 rfl) ?_
  refine W.objInit hx hb hown (hts _ (bg 2 1 rfl)) (hts _ (bg 0 11 rfl)) (hts _ (bg 0 12 rfl)) rfl (by rw [hml]; exact hl.1) rfl dX3_init_1 (by decide) (Nat.le_of_ble_eq_true rfl) ?_
  refine W.eq (g2 := F0 m 4 ls []) rfl ?_
  refine lv_aload_n hx hb dX3_init_4 rfl (lv_at hl 0 rfl) ?_
  refine lv_bipush (v := 48) hx hb dX3_init_5 (by decide) ?_
  refine x_newa (N' := 48) hx hb (hts _ (bg 1 18 rfl)) rfl hE hP hD hS hA 0 rfl rfl (by decide) (by decide) (by decide) (by decide) (by decide) dX3_init_7 (fun a1 H hP hD hS => ?_)
  have hP : va_P G vwCl ([(h0, .inr (3, [.null, .int 0, .int 0, .int 0, .int 0, .int 0]))] ++ [(a1, .inl (cI, 48, .inl ZI))]) H := hP
  have hD : va_D Z ([(h0, .inr (3, [.null, .int 0, .int 0, .int 0, .int 0, .int 0]))] ++ [(a1, .inl (cI, 48, .inl ZI))]) := hD
  refine va_putF (D := G) (ci := 3) (v := .ref a1) (ty := .array .int) (C := RX3) (T := TX3) (N := 6) hx hb hts inlX3 tyX3 tyX3_ok nmX3 hown hE.1 hP hD hS 0 rfl rfl 0 (by decide) (hts _ (bg 2 2 rfl)) (fun _ h9 => h9) rfl hin rfl (by decide +kernel) rfl rfl (Nat.le_of_ble_eq_true rfl) dX3_init_9 (fun H locs hP hD hS => ?_)
  have hP : va_P G vwCl ([(h0, .inr (3, [.ref a1, .int 0, .int 0, .int 0, .int 0, .int 0]))] ++ [(a1, .inl (cI, 48, .inl ZI))]) H := hP
  have hD : va_D Z ([(h0, .inr (3, [.ref a1, .int 0, .int 0, .int 0, .int 0, .int 0]))] ++ [(a1, .inl (cI, 48, .inl ZI))]) := hD
  exact fin _ _ 12 ls (fun k => ([h0, a1] : List Nat).getD k 0) rfl hP hD hS dX3_init_12
def rmX4_init : Room := { frames := 1, cells := 3, slots := 30, locals := 12 }
theorem mb_X4_init : Cond.instanceMethod yX4_init ∈ wsL_law ∧ Cond.initialized yX4_init.cls ∈ wsL_law ∧ Cond.code yX4_init cX4_init 1 none ∈ wsL_law := ⟨(bg 2 12 rfl), (bg 1 0 rfl), (bg 2 13 rfl)⟩
theorem hd_X4_init : yX4_init.cls ≠ "java/lang/invoke/MethodHandle" ∧ yX4_init.cls ≠ "java/lang/invoke/VarHandle" ∧ (parseMethodDescriptor yX4_init.desc).map (fun d => d.parameters.length) = some 0 := by decide +kernel
set_option maxRecDepth 100000 in
set_option maxHeartbeats 4000000 in
theorem ct_X4_init (l : Launch) (G : va_G) (cI cZ cO : ClassId) : CtN l yX4_init cX4_init 1 rmX4_init G cI cZ cO 4 [.null, .null, .null, .int 0] (fun q => wX4 q cI cZ cO ZI ZA) 3 30 := by
  refine mkCN (by decide) rfl (by decide) ?_
  intro h0 p e s m below meth cd Q Z hC hin hP hE hO hD hA fin ls hl hS
  obtain ⟨hx, hb, hml, hown, hts⟩ := hC
  have hown : s.vm.findClass RX4 = some m.cls := hown
  refine lv_aload_n hx hb dX4_init_0 rfl (lv_at hl 0 rfl) ?_
  refine W.objInit hx hb hown (hts _ (bg 2 14 rfl)) (hts _ (bg 0 11 rfl)) (hts _ (bg 0 12 rfl)) rfl (by rw [hml]; exact hl.1) rfl dX4_init_1 (by decide) (Nat.le_of_ble_eq_true rfl) ?_
  refine W.eq (g2 := F0 m 4 ls []) rfl ?_
  refine lv_aload_n hx hb dX4_init_4 rfl (lv_at hl 0 rfl) ?_
  refine lv_iconst (v := 5) hx hb dX4_init_5 (by decide) ?_
  refine x_newa (N' := 5) hx hb (hts _ (bg 1 18 rfl)) rfl hE hP hD hS hA 0 rfl rfl (by decide) (by decide) (by decide) (by decide) (by decide) dX4_init_6 (fun a1 H hP hD hS => ?_)
  have hP : va_P G vwCl ([(h0, .inr (4, [.null, .null, .null, .int 0]))] ++ [(a1, .inl (cI, 5, .inl ZI))]) H := hP
  have hD : va_D Z ([(h0, .inr (4, [.null, .null, .null, .int 0]))] ++ [(a1, .inl (cI, 5, .inl ZI))]) := hD
  refine va_putF (D := G) (ci := 4) (v := .ref a1) (ty := .array .int) (C := RX4) (T := TX4) (N := 4) hx hb hts inlX4 tyX4 tyX4_ok nmX4 hown hE.1 hP hD hS 0 rfl rfl 0 (by decide) (hts _ (bg 2 15 rfl)) (fun _ h9 => h9) rfl hin rfl (by decide +kernel) rfl rfl (Nat.le_of_ble_eq_true rfl) dX4_init_8 (fun H locs hP hD hS => ?_)
  have hP : va_P G vwCl ([(h0, .inr (4, [.ref a1, .null, .null, .int 0]))] ++ [(a1, .inl (cI, 5, .inl ZI))]) H := hP
  have hD : va_D Z ([(h0, .inr (4, [.ref a1, .null, .null, .int 0]))] ++ [(a1, .inl (cI, 5, .inl ZI))]) := hD
  refine lv_aload_n hx hb dX4_init_11 rfl (lv_at hl 0 rfl) ?_
  refine lv_iconst (v := 5) hx hb dX4_init_12 (by decide) ?_
  refine x_newa (N' := 5) hx hb (hts _ (bg 1 18 rfl)) rfl hE hP hD hS hA 0 rfl rfl (by decide) (by decide) (by decide) (by decide) (by decide) dX4_init_13 (fun a2 H hP hD hS => ?_)
  have hP : va_P G vwCl ([(h0, .inr (4, [.ref a1, .null, .null, .int 0]))] ++ ([(a1, .inl (cI, 5, .inl ZI))] ++ [(a2, .inl (cI, 5, .inl ZI))])) H := hP
  have hD : va_D Z ([(h0, .inr (4, [.ref a1, .null, .null, .int 0]))] ++ ([(a1, .inl (cI, 5, .inl ZI))] ++ [(a2, .inl (cI, 5, .inl ZI))])) := hD
  refine va_putF (D := G) (ci := 4) (v := .ref a2) (ty := .array .int) (C := RX4) (T := TX4) (N := 4) hx hb hts inlX4 tyX4 tyX4_ok nmX4 hown hE.1 hP hD hS 0 rfl rfl 1 (by decide) (hts _ (bg 2 16 rfl)) (fun _ h9 => h9) rfl hin rfl (by decide +kernel) rfl rfl (Nat.le_of_ble_eq_true rfl) dX4_init_15 (fun H locs hP hD hS => ?_)
  have hP : va_P G vwCl ([(h0, .inr (4, [.ref a1, .ref a2, .null, .int 0]))] ++ ([(a1, .inl (cI, 5, .inl ZI))] ++ [(a2, .inl (cI, 5, .inl ZI))])) H := hP
  have hD : va_D Z ([(h0, .inr (4, [.ref a1, .ref a2, .null, .int 0]))] ++ ([(a1, .inl (cI, 5, .inl ZI))] ++ [(a2, .inl (cI, 5, .inl ZI))])) := hD
  refine lv_aload_n hx hb dX4_init_18 rfl (lv_at hl 0 rfl) ?_
  refine lv_bipush (v := 20) hx hb dX4_init_19 (by decide) ?_
  refine x_newa (N' := 20) hx hb (hts _ (bg 1 18 rfl)) rfl hE hP hD hS hA 0 rfl rfl (by decide) (by decide) (by decide) (by decide) (by decide) dX4_init_21 (fun a3 H hP hD hS => ?_)
  have hP : va_P G vwCl ([(h0, .inr (4, [.ref a1, .ref a2, .null, .int 0]))] ++ ([(a1, .inl (cI, 5, .inl ZI))] ++ ([(a2, .inl (cI, 5, .inl ZI))] ++ [(a3, .inl (cI, 20, .inl ZI))]))) H := hP
  have hD : va_D Z ([(h0, .inr (4, [.ref a1, .ref a2, .null, .int 0]))] ++ ([(a1, .inl (cI, 5, .inl ZI))] ++ ([(a2, .inl (cI, 5, .inl ZI))] ++ [(a3, .inl (cI, 20, .inl ZI))]))) := hD
  refine va_putF (D := G) (ci := 4) (v := .ref a3) (ty := .array .int) (C := RX4) (T := TX4) (N := 4) hx hb hts inlX4 tyX4 tyX4_ok nmX4 hown hE.1 hP hD hS 0 rfl rfl 2 (by decide) (hts _ (bg 2 17 rfl)) (fun _ h9 => h9) rfl hin rfl (by decide +kernel) rfl rfl (Nat.le_of_ble_eq_true rfl) dX4_init_23 (fun H locs hP hD hS => ?_)
  have hP : va_P G vwCl ([(h0, .inr (4, [.ref a1, .ref a2, .ref a3, .int 0]))] ++ ([(a1, .inl (cI, 5, .inl ZI))] ++ ([(a2, .inl (cI, 5, .inl ZI))] ++ [(a3, .inl (cI, 20, .inl ZI))]))) H := hP
  have hD : va_D Z ([(h0, .inr (4, [.ref a1, .ref a2, .ref a3, .int 0]))] ++ ([(a1, .inl (cI, 5, .inl ZI))] ++ ([(a2, .inl (cI, 5, .inl ZI))] ++ [(a3, .inl (cI, 20, .inl ZI))]))) := hD
  exact fin _ _ 26 ls (fun k => ([h0, a1, a2, a3] : List Nat).getD k 0) rfl hP hD hS dX4_init_26
def rmX5_init : Room := { frames := 1, cells := 6, slots := 29, locals := 12 }
theorem mb_X5_init : Cond.instanceMethod yX5_init ∈ wsL_law ∧ Cond.initialized yX5_init.cls ∈ wsL_law ∧ Cond.code yX5_init cX5_init 1 none ∈ wsL_law := ⟨(bg 2 3 rfl), (bg 0 19 rfl), (bg 2 4 rfl)⟩
theorem hd_X5_init : yX5_init.cls ≠ "java/lang/invoke/MethodHandle" ∧ yX5_init.cls ≠ "java/lang/invoke/VarHandle" ∧ (parseMethodDescriptor yX5_init.desc).map (fun d => d.parameters.length) = some 0 := by decide +kernel
set_option maxRecDepth 100000 in
set_option maxHeartbeats 4000000 in
theorem ct_X5_init (l : Launch) (G : va_G) (cI cZ cO : ClassId) : CtN l yX5_init cX5_init 1 rmX5_init G cI cZ cO 5 [.null, .null, .null, .null, .null, .null, .int 0, .int 0] (fun q => wX5 q cI cZ cO ZI ZA) 6 29 := by
  refine mkCN (by decide) rfl (by decide) ?_
  intro h0 p e s m below meth cd Q Z hC hin hP hE hO hD hA fin ls hl hS
  obtain ⟨hx, hb, hml, hown, hts⟩ := hC
  have hown : s.vm.findClass RX5 = some m.cls := hown
  refine lv_aload_n hx hb dX5_init_0 rfl (lv_at hl 0 rfl) ?_
  refine W.objInit hx hb hown (hts _ (bg 2 5 rfl)) (hts _ (bg 0 11 rfl)) (hts _ (bg 0 12 rfl)) rfl (by rw [hml]; exact hl.1) rfl dX5_init_1 (by decide) (Nat.le_of_ble_eq_true rfl) ?_
  refine W.eq (g2 := F0 m 4 ls []) rfl ?_
  refine lv_aload_n hx hb dX5_init_4 rfl (lv_at hl 0 rfl) ?_
  refine lv_iconst (v := 5) hx hb dX5_init_5 (by decide) ?_
  refine x_newa (N' := 5) hx hb (hts _ (bg 1 18 rfl)) rfl hE hP hD hS hA 0 rfl rfl (by decide) (by decide) (by decide) (by decide) (by decide) dX5_init_6 (fun a1 H hP hD hS => ?_)
  have hP : va_P G vwCl ([(h0, .inr (5, [.null, .null, .null, .null, .null, .null, .int 0, .int 0]))] ++ [(a1, .inl (cI, 5, .inl ZI))]) H := hP
  have hD : va_D Z ([(h0, .inr (5, [.null, .null, .null, .null, .null, .null, .int 0, .int 0]))] ++ [(a1, .inl (cI, 5, .inl ZI))]) := hD
  refine va_putF (D := G) (ci := 5) (v := .ref a1) (ty := .array .int) (C := RX5) (T := TX5) (N := 8) hx hb hts inlX5 tyX5 tyX5_ok nmX5 hown hE.1 hP hD hS 0 rfl rfl 0 (by decide) (hts _ (bg 2 6 rfl)) (fun _ h9 => h9) rfl hin rfl (by decide +kernel) rfl rfl (Nat.le_of_ble_eq_true rfl) dX5_init_8 (fun H locs hP hD hS => ?_)
  have hP : va_P G vwCl ([(h0, .inr (5, [.ref a1, .null, .null, .null, .null, .null, .int 0, .int 0]))] ++ [(a1, .inl (cI, 5, .inl ZI))]) H := hP
  have hD : va_D Z ([(h0, .inr (5, [.ref a1, .null, .null, .null, .null, .null, .int 0, .int 0]))] ++ [(a1, .inl (cI, 5, .inl ZI))]) := hD
  refine lv_aload_n hx hb dX5_init_11 rfl (lv_at hl 0 rfl) ?_
  refine lv_iconst (v := 5) hx hb dX5_init_12 (by decide) ?_
  refine x_newa (N' := 5) hx hb (hts _ (bg 1 12 rfl)) rfl hE hP hD hS hA 1 rfl rfl (by decide) (by decide) (by decide) (by decide) (by decide) dX5_init_13 (fun a2 H hP hD hS => ?_)
  have hP : va_P G vwCl ([(h0, .inr (5, [.ref a1, .null, .null, .null, .null, .null, .int 0, .int 0]))] ++ ([(a1, .inl (cI, 5, .inl ZI))] ++ [(a2, .inl (cZ, 5, .inl ZI))])) H := hP
  have hD : va_D Z ([(h0, .inr (5, [.ref a1, .null, .null, .null, .null, .null, .int 0, .int 0]))] ++ ([(a1, .inl (cI, 5, .inl ZI))] ++ [(a2, .inl (cZ, 5, .inl ZI))])) := hD
  refine va_putF (D := G) (ci := 5) (v := .ref a2) (ty := .array .boolean) (C := RX5) (T := TX5) (N := 8) hx hb hts inlX5 tyX5 tyX5_ok nmX5 hown hE.1 hP hD hS 0 rfl rfl 1 (by decide) (hts _ (bg 2 7 rfl)) (fun _ h9 => h9) rfl hin rfl (by decide +kernel) rfl rfl (Nat.le_of_ble_eq_true rfl) dX5_init_15 (fun H locs hP hD hS => ?_)
  have hP : va_P G vwCl ([(h0, .inr (5, [.ref a1, .ref a2, .null, .null, .null, .null, .int 0, .int 0]))] ++ ([(a1, .inl (cI, 5, .inl ZI))] ++ [(a2, .inl (cZ, 5, .inl ZI))])) H := hP
  have hD : va_D Z ([(h0, .inr (5, [.ref a1, .ref a2, .null, .null, .null, .null, .int 0, .int 0]))] ++ ([(a1, .inl (cI, 5, .inl ZI))] ++ [(a2, .inl (cZ, 5, .inl ZI))])) := hD
  refine lv_aload_n hx hb dX5_init_18 rfl (lv_at hl 0 rfl) ?_
  refine lv_iconst (v := 5) hx hb dX5_init_19 (by decide) ?_
  refine x_newa (N' := 5) hx hb (hts _ (bg 1 18 rfl)) rfl hE hP hD hS hA 0 rfl rfl (by decide) (by decide) (by decide) (by decide) (by decide) dX5_init_20 (fun a3 H hP hD hS => ?_)
  have hP : va_P G vwCl ([(h0, .inr (5, [.ref a1, .ref a2, .null, .null, .null, .null, .int 0, .int 0]))] ++ ([(a1, .inl (cI, 5, .inl ZI))] ++ ([(a2, .inl (cZ, 5, .inl ZI))] ++ [(a3, .inl (cI, 5, .inl ZI))]))) H := hP
  have hD : va_D Z ([(h0, .inr (5, [.ref a1, .ref a2, .null, .null, .null, .null, .int 0, .int 0]))] ++ ([(a1, .inl (cI, 5, .inl ZI))] ++ ([(a2, .inl (cZ, 5, .inl ZI))] ++ [(a3, .inl (cI, 5, .inl ZI))]))) := hD
  refine va_putF (D := G) (ci := 5) (v := .ref a3) (ty := .array .int) (C := RX5) (T := TX5) (N := 8) hx hb hts inlX5 tyX5 tyX5_ok nmX5 hown hE.1 hP hD hS 0 rfl rfl 2 (by decide) (hts _ (bg 2 8 rfl)) (fun _ h9 => h9) rfl hin rfl (by decide +kernel) rfl rfl (Nat.le_of_ble_eq_true rfl) dX5_init_22 (fun H locs hP hD hS => ?_)
  have hP : va_P G vwCl ([(h0, .inr (5, [.ref a1, .ref a2, .ref a3, .null, .null, .null, .int 0, .int 0]))] ++ ([(a1, .inl (cI, 5, .inl ZI))] ++ ([(a2, .inl (cZ, 5, .inl ZI))] ++ [(a3, .inl (cI, 5, .inl ZI))]))) H := hP
  have hD : va_D Z ([(h0, .inr (5, [.ref a1, .ref a2, .ref a3, .null, .null, .null, .int 0, .int 0]))] ++ ([(a1, .inl (cI, 5, .inl ZI))] ++ ([(a2, .inl (cZ, 5, .inl ZI))] ++ [(a3, .inl (cI, 5, .inl ZI))]))) := hD
  refine lv_aload_n hx hb dX5_init_25 rfl (lv_at hl 0 rfl) ?_
  refine lv_iconst (v := 5) hx hb dX5_init_26 (by decide) ?_
  refine x_newa (N' := 5) hx hb (hts _ (bg 1 18 rfl)) rfl hE hP hD hS hA 0 rfl rfl (by decide) (by decide) (by decide) (by decide) (by decide) dX5_init_27 (fun a4 H hP hD hS => ?_)
  have hP : va_P G vwCl ([(h0, .inr (5, [.ref a1, .ref a2, .ref a3, .null, .null, .null, .int 0, .int 0]))] ++ ([(a1, .inl (cI, 5, .inl ZI))] ++ ([(a2, .inl (cZ, 5, .inl ZI))] ++ ([(a3, .inl (cI, 5, .inl ZI))] ++ [(a4, .inl (cI, 5, .inl ZI))])))) H := hP
  have hD : va_D Z ([(h0, .inr (5, [.ref a1, .ref a2, .ref a3, .null, .null, .null, .int 0, .int 0]))] ++ ([(a1, .inl (cI, 5, .inl ZI))] ++ ([(a2, .inl (cZ, 5, .inl ZI))] ++ ([(a3, .inl (cI, 5, .inl ZI))] ++ [(a4, .inl (cI, 5, .inl ZI))])))) := hD
  refine va_putF (D := G) (ci := 5) (v := .ref a4) (ty := .array .int) (C := RX5) (T := TX5) (N := 8) hx hb hts inlX5 tyX5 tyX5_ok nmX5 hown hE.1 hP hD hS 0 rfl rfl 3 (by decide) (hts _ (bg 2 9 rfl)) (fun _ h9 => h9) rfl hin rfl (by decide +kernel) rfl rfl (Nat.le_of_ble_eq_true rfl) dX5_init_29 (fun H locs hP hD hS => ?_)
  have hP : va_P G vwCl ([(h0, .inr (5, [.ref a1, .ref a2, .ref a3, .ref a4, .null, .null, .int 0, .int 0]))] ++ ([(a1, .inl (cI, 5, .inl ZI))] ++ ([(a2, .inl (cZ, 5, .inl ZI))] ++ ([(a3, .inl (cI, 5, .inl ZI))] ++ [(a4, .inl (cI, 5, .inl ZI))])))) H := hP
  have hD : va_D Z ([(h0, .inr (5, [.ref a1, .ref a2, .ref a3, .ref a4, .null, .null, .int 0, .int 0]))] ++ ([(a1, .inl (cI, 5, .inl ZI))] ++ ([(a2, .inl (cZ, 5, .inl ZI))] ++ ([(a3, .inl (cI, 5, .inl ZI))] ++ [(a4, .inl (cI, 5, .inl ZI))])))) := hD
  refine lv_aload_n hx hb dX5_init_32 rfl (lv_at hl 0 rfl) ?_
  refine lv_iconst (v := 5) hx hb dX5_init_33 (by decide) ?_
  refine x_newa (N' := 5) hx hb (hts _ (bg 1 18 rfl)) rfl hE hP hD hS hA 0 rfl rfl (by decide) (by decide) (by decide) (by decide) (by decide) dX5_init_34 (fun a5 H hP hD hS => ?_)
  have hP : va_P G vwCl ([(h0, .inr (5, [.ref a1, .ref a2, .ref a3, .ref a4, .null, .null, .int 0, .int 0]))] ++ ([(a1, .inl (cI, 5, .inl ZI))] ++ ([(a2, .inl (cZ, 5, .inl ZI))] ++ ([(a3, .inl (cI, 5, .inl ZI))] ++ ([(a4, .inl (cI, 5, .inl ZI))] ++ [(a5, .inl (cI, 5, .inl ZI))]))))) H := hP
  have hD : va_D Z ([(h0, .inr (5, [.ref a1, .ref a2, .ref a3, .ref a4, .null, .null, .int 0, .int 0]))] ++ ([(a1, .inl (cI, 5, .inl ZI))] ++ ([(a2, .inl (cZ, 5, .inl ZI))] ++ ([(a3, .inl (cI, 5, .inl ZI))] ++ ([(a4, .inl (cI, 5, .inl ZI))] ++ [(a5, .inl (cI, 5, .inl ZI))]))))) := hD
  refine va_putF (D := G) (ci := 5) (v := .ref a5) (ty := .array .int) (C := RX5) (T := TX5) (N := 8) hx hb hts inlX5 tyX5 tyX5_ok nmX5 hown hE.1 hP hD hS 0 rfl rfl 4 (by decide) (hts _ (bg 2 10 rfl)) (fun _ h9 => h9) rfl hin rfl (by decide +kernel) rfl rfl (Nat.le_of_ble_eq_true rfl) dX5_init_36 (fun H locs hP hD hS => ?_)
  have hP : va_P G vwCl ([(h0, .inr (5, [.ref a1, .ref a2, .ref a3, .ref a4, .ref a5, .null, .int 0, .int 0]))] ++ ([(a1, .inl (cI, 5, .inl ZI))] ++ ([(a2, .inl (cZ, 5, .inl ZI))] ++ ([(a3, .inl (cI, 5, .inl ZI))] ++ ([(a4, .inl (cI, 5, .inl ZI))] ++ [(a5, .inl (cI, 5, .inl ZI))]))))) H := hP
  have hD : va_D Z ([(h0, .inr (5, [.ref a1, .ref a2, .ref a3, .ref a4, .ref a5, .null, .int 0, .int 0]))] ++ ([(a1, .inl (cI, 5, .inl ZI))] ++ ([(a2, .inl (cZ, 5, .inl ZI))] ++ ([(a3, .inl (cI, 5, .inl ZI))] ++ ([(a4, .inl (cI, 5, .inl ZI))] ++ [(a5, .inl (cI, 5, .inl ZI))]))))) := hD
  refine lv_aload_n hx hb dX5_init_39 rfl (lv_at hl 0 rfl) ?_
  refine lv_iconst (v := 4) hx hb dX5_init_40 (by decide) ?_
  refine x_newa (N' := 4) hx hb (hts _ (bg 1 18 rfl)) rfl hE hP hD hS hA 0 rfl rfl (by decide) (by decide) (by decide) (by decide) (by decide) dX5_init_41 (fun a6 H hP hD hS => ?_)
  have hP : va_P G vwCl ([(h0, .inr (5, [.ref a1, .ref a2, .ref a3, .ref a4, .ref a5, .null, .int 0, .int 0]))] ++ ([(a1, .inl (cI, 5, .inl ZI))] ++ ([(a2, .inl (cZ, 5, .inl ZI))] ++ ([(a3, .inl (cI, 5, .inl ZI))] ++ ([(a4, .inl (cI, 5, .inl ZI))] ++ ([(a5, .inl (cI, 5, .inl ZI))] ++ [(a6, .inl (cI, 4, .inl ZI))])))))) H := hP
  have hD : va_D Z ([(h0, .inr (5, [.ref a1, .ref a2, .ref a3, .ref a4, .ref a5, .null, .int 0, .int 0]))] ++ ([(a1, .inl (cI, 5, .inl ZI))] ++ ([(a2, .inl (cZ, 5, .inl ZI))] ++ ([(a3, .inl (cI, 5, .inl ZI))] ++ ([(a4, .inl (cI, 5, .inl ZI))] ++ ([(a5, .inl (cI, 5, .inl ZI))] ++ [(a6, .inl (cI, 4, .inl ZI))])))))) := hD
  refine va_putF (D := G) (ci := 5) (v := .ref a6) (ty := .array .int) (C := RX5) (T := TX5) (N := 8) hx hb hts inlX5 tyX5 tyX5_ok nmX5 hown hE.1 hP hD hS 0 rfl rfl 5 (by decide) (hts _ (bg 2 11 rfl)) (fun _ h9 => h9) rfl hin rfl (by decide +kernel) rfl rfl (Nat.le_of_ble_eq_true rfl) dX5_init_43 (fun H locs hP hD hS => ?_)
  have hP : va_P G vwCl ([(h0, .inr (5, [.ref a1, .ref a2, .ref a3, .ref a4, .ref a5, .ref a6, .int 0, .int 0]))] ++ ([(a1, .inl (cI, 5, .inl ZI))] ++ ([(a2, .inl (cZ, 5, .inl ZI))] ++ ([(a3, .inl (cI, 5, .inl ZI))] ++ ([(a4, .inl (cI, 5, .inl ZI))] ++ ([(a5, .inl (cI, 5, .inl ZI))] ++ [(a6, .inl (cI, 4, .inl ZI))])))))) H := hP
  have hD : va_D Z ([(h0, .inr (5, [.ref a1, .ref a2, .ref a3, .ref a4, .ref a5, .ref a6, .int 0, .int 0]))] ++ ([(a1, .inl (cI, 5, .inl ZI))] ++ ([(a2, .inl (cZ, 5, .inl ZI))] ++ ([(a3, .inl (cI, 5, .inl ZI))] ++ ([(a4, .inl (cI, 5, .inl ZI))] ++ ([(a5, .inl (cI, 5, .inl ZI))] ++ [(a6, .inl (cI, 4, .inl ZI))])))))) := hD
  exact fin _ _ 46 ls (fun k => ([h0, a1, a2, a3, a4, a5, a6] : List Nat).getD k 0) rfl hP hD hS dX5_init_46
