theorem lc_6 {p : Program} {l : Launch} {e : Env} {s : State} {m : MethodId} {below : List Frame} {meth : Method} {c : Code} {Q : State → Prop} {b L : Nat} {xs : Nat → Int32} {G : va_G} {cI cZ cO : ClassId} {q6 q7 : Nat → Nat} {k : Nat} {H : Heap} {locs : List Loc} {ls : Array Slot} (C0 : lw_At p s m meth c b L xs) (hE : EnvO G cI cZ cO s) (hk : k + 5 ≤ L) (hL : L ≤ 320) (hI : LI G cI cZ cO s q6 q7 H locs) (hl : lv_has ls 4 [(0, .ref b), (1, .ref (q6 0)), (2, .ref (q7 0)), (3, .int (nI k))])
    (kk : ∀ (H1 : Heap) (locs1 : List Loc), LI G cI cZ cO s q6 q7 H1 locs1 → W p l e room_1 s m #[Value.ref b] below meth c H1 locs1 126 1703 Q (F0 m 1199 ls [])) : W p l e room_1 s m #[Value.ref b] below meth c H locs 126 1703 Q (F0 m 286 ls []) := by
  obtain ⟨hx, hb, hr, hml, hown, hts0, hX, hbl, hlocks, hgv⟩ := C0
  have hts : ∀ w ∈ wsL_law, w.before #[Value.ref b] s = true := fun w h => hts0 w (wsL_law_in w h)
  have hA : ∀ q : Nat, s.heap.size ≤ q → (fun q : Nat => s.heap.size ≤ q) q := fun _ h => h
  have hbA : ¬ (fun q : Nat => s.heap.size ≤ q) b := Nat.not_le.mpr hbl
  have i1 : vp_in (nI k + 1) L := by rw [show nI k + 1 = nI (k + 1) from nI_add k 1]; exact vp_in_nI (by omega) (by omega)
  have i2 : vp_in (nI k + 2) L := by rw [show nI k + 2 = nI (k + 2) from nI_add k 2]; exact vp_in_nI (by omega) (by omega)
  have i3 : vp_in (nI k + 3) L := by rw [show nI k + 3 = nI (k + 3) from nI_add k 3]; exact vp_in_nI (by omega) (by omega)
  have i4 : vp_in (nI k + 4) L := by rw [show nI k + 4 = nI (k + 4) from nI_add k 4]; exact vp_in_nI (by omega) (by omega)
  obtain ⟨I, A7, L7, A6, L6, rI, rA, tI, tA, dI, dA, wI, wA, uI, uA, aI, aS, aT, eI, eA, sS, sT, bI, hR, hP6, hP7, hD6, hD7, hq, hS⟩ := hI
  obtain ⟨rr, e7, e6⟩ := r_coins 10200 (Nat.le_refl _) hR (xs (nI k + 1).toNatClampNeg) (xs (nI k + 2).toNatClampNeg)
  refine lv_aload_n hx hb dL_law_286 rfl (lv_at hl 1 rfl) ?_
  refine lv_aload_n hx hb dL_law_287 rfl (lv_at hl 0 rfl) ?_
  refine lv_iload_n hx hb dL_law_288 rfl (lv_at hl 3 rfl) ?_
  refine lv_iconst (v := 1) hx hb dL_law_289 (by decide) ?_
  refine lv_iadd hx hb dL_law_290 ?_
  refine va_sld hx hb hX hbl hbA hS i1 dL_law_291 ?_
  refine lv_aload_n hx hb dL_law_292 rfl (lv_at hl 0 rfl) ?_
  refine lv_iload_n hx hb dL_law_293 rfl (lv_at hl 3 rfl) ?_
  refine lv_iconst (v := 2) hx hb dL_law_294 (by decide) ?_
  refine lv_iadd hx hb dL_law_295 ?_
  refine va_sld hx hb hX hbl hbA hS i2 dL_law_296 ?_
  refine x_rdV (rest := []) (C := RX6) (n := 2) (ci := 6) hx hb hml hown hts hE (ct_X6_coins 10200 l G cI cZ cO q6 A6 L6 rI rA tI tA dI dA wI wA uI uA aI aS aT eI eA sS sT bI (xs (nI k + 1).toNatClampNeg) (xs (nI k + 2).toNatClampNeg) rr e6) (bg 14 7 rfl) mb_X6_coins.1 mb_X6_coins.2.1 mb_X6_coins.2.2.1 mb_X6_coins.2.2.2 hd_X6_coins rfl (by decide) hP6 rfl rfl rfl rfl hl.1 (Nat.le_of_ble_eq_true rfl) (by decide) dL_law_297 ?_
  refine lv_aload_n hx hb dL_law_300 rfl (lv_at hl 2 rfl) ?_
  refine lv_aload_n hx hb dL_law_301 rfl (lv_at hl 0 rfl) ?_
  refine lv_iload_n hx hb dL_law_302 rfl (lv_at hl 3 rfl) ?_
  refine lv_iconst (v := 1) hx hb dL_law_303 (by decide) ?_
  refine lv_iadd hx hb dL_law_304 ?_
  refine va_sld hx hb hX hbl hbA hS i1 dL_law_305 ?_
  refine lv_aload_n hx hb dL_law_306 rfl (lv_at hl 0 rfl) ?_
  refine lv_iload_n hx hb dL_law_307 rfl (lv_at hl 3 rfl) ?_
  refine lv_iconst (v := 2) hx hb dL_law_308 (by decide) ?_
  refine lv_iadd hx hb dL_law_309 ?_
  refine va_sld hx hb hX hbl hbA hS i2 dL_law_310 ?_
  refine x_rdV (rest := [.int (rr)]) (C := RX7) (n := 2) (ci := 7) hx hb hml hown hts hE (ct_X7_coins 10200 l G cI cZ cO q7 I A7 L7 (xs (nI k + 1).toNatClampNeg) (xs (nI k + 2).toNatClampNeg) rr e7) (bg 14 15 rfl) mb_X7_coins.1 mb_X7_coins.2.1 mb_X7_coins.2.2.1 mb_X7_coins.2.2.2 hd_X7_coins rfl (by decide) hP7 rfl rfl rfl rfl hl.1 (Nat.le_of_ble_eq_true rfl) (by decide) dL_law_311 ?_
  refine lv_icmp_eq (tgt := 1199) hx hb dL_law_314 (by decide) (fun _ => ?_) (fun cc => absurd rfl cc)
  exact kk H locs ⟨I, A7, L7, A6, L6, rI, rA, tI, tA, dI, dA, wI, wA, uI, uA, aI, aS, aT, eI, eA, sS, sT, bI, hR, hP6, hP7, hD6, hD7, hq, hS⟩
theorem lc_7 {p : Program} {l : Launch} {e : Env} {s : State} {m : MethodId} {below : List Frame} {meth : Method} {c : Code} {Q : State → Prop} {b L : Nat} {xs : Nat → Int32} {G : va_G} {cI cZ cO : ClassId} {q6 q7 : Nat → Nat} {k : Nat} {H : Heap} {locs : List Loc} {ls : Array Slot} (C0 : lw_At p s m meth c b L xs) (hE : EnvO G cI cZ cO s) (hk : k + 5 ≤ L) (hL : L ≤ 320) (hI : LI G cI cZ cO s q6 q7 H locs) (hl : lv_has ls 4 [(0, .ref b), (1, .ref (q6 0)), (2, .ref (q7 0)), (3, .int (nI k))])
    (kk : ∀ (H1 : Heap) (locs1 : List Loc), LI G cI cZ cO s q6 q7 H1 locs1 → W p l e room_1 s m #[Value.ref b] below meth c H1 locs1 126 1703 Q (F0 m 1199 ls [])) : W p l e room_1 s m #[Value.ref b] below meth c H locs 126 1703 Q (F0 m 319 ls []) := by
  obtain ⟨hx, hb, hr, hml, hown, hts0, hX, hbl, hlocks, hgv⟩ := C0
  have hts : ∀ w ∈ wsL_law, w.before #[Value.ref b] s = true := fun w h => hts0 w (wsL_law_in w h)
  have hA : ∀ q : Nat, s.heap.size ≤ q → (fun q : Nat => s.heap.size ≤ q) q := fun _ h => h
  have hbA : ¬ (fun q : Nat => s.heap.size ≤ q) b := Nat.not_le.mpr hbl
  have i1 : vp_in (nI k + 1) L := by rw [show nI k + 1 = nI (k + 1) from nI_add k 1]; exact vp_in_nI (by omega) (by omega)
  have i2 : vp_in (nI k + 2) L := by rw [show nI k + 2 = nI (k + 2) from nI_add k 2]; exact vp_in_nI (by omega) (by omega)
  have i3 : vp_in (nI k + 3) L := by rw [show nI k + 3 = nI (k + 3) from nI_add k 3]; exact vp_in_nI (by omega) (by omega)
  have i4 : vp_in (nI k + 4) L := by rw [show nI k + 4 = nI (k + 4) from nI_add k 4]; exact vp_in_nI (by omega) (by omega)
  obtain ⟨I, A7, L7, A6, L6, rI, rA, tI, tA, dI, dA, wI, wA, uI, uA, aI, aS, aT, eI, eA, sS, sT, bI, hR, hP6, hP7, hD6, hD7, hq, hS⟩ := hI
  obtain ⟨rr, I', A7', wI', wA', aI', aS', aT', e7, e6, hR2⟩ := r_dawn 10200 (Nat.le_refl _) hR 
  refine lv_aload_n hx hb dL_law_319 rfl (lv_at hl 1 rfl) ?_
  refine x_cW (rest := []) (C := RX6) (n := 0) (ci := 6) hx hb hml hown hts hE (ct_X6_dawn 10200 l G cI cZ cO q6 A6 L6 rI rA tI tA dI dA wI wA uI uA aI aS aT eI eA sS sT bI rr wI' wA' aI' aS' aT' e6) (bg 14 23 rfl) mb_X6_dawn.1 mb_X6_dawn.2.1 mb_X6_dawn.2.2.1 mb_X6_dawn.2.2.2 hd_X6_dawn rfl (by decide) hP6 hP7 (ap_of hq (w6_fst _ _ _ _ _ _ _ _ _ _ _ _ _ _ _ _ _ _ _ _ _ _ _ _) (w7_fst _ _ _ _ _ _ _)) hD6 hS hA ((w6_fst _ _ _ _ _ _ _ _ _ _ _ _ _ _ _ _ _ _ _ _ _ _ _ _).trans (w6_fst _ _ _ _ _ _ _ _ _ _ _ _ _ _ _ _ _ _ _ _ _ _ _ _).symm) rfl rfl rfl rfl hl.1 (Nat.le_of_ble_eq_true rfl) (by decide) dL_law_320 (fun H locs hP6 hP7 hD6 hS => ?_)
  refine lv_aload_n hx hb dL_law_323 rfl (lv_at hl 2 rfl) ?_
  refine x_cW (rest := [.int (rr)]) (C := RX7) (n := 0) (ci := 7) hx hb hml hown hts hE (ct_X7_dawn 10200 l G cI cZ cO q7 I A7 L7 rr I' A7' e7) (bg 16 22 rfl) mb_X7_dawn.1 mb_X7_dawn.2.1 mb_X7_dawn.2.2.1 mb_X7_dawn.2.2.2 hd_X7_dawn rfl (by decide) hP7 hP6 (ap_of hq (w6_fst _ _ _ _ _ _ _ _ _ _ _ _ _ _ _ _ _ _ _ _ _ _ _ _) (w7_fst _ _ _ _ _ _ _)).sym hD7 hS hA ((w7_fst _ _ _ _ _ _ _).trans (w7_fst _ _ _ _ _ _ _).symm) rfl rfl rfl rfl hl.1 (Nat.le_of_ble_eq_true rfl) (by decide) dL_law_324 (fun H locs hP7 hP6 hD7 hS => ?_)
  refine lv_icmp_eq (tgt := 1199) hx hb dL_law_327 (by decide) (fun _ => ?_) (fun cc => absurd rfl cc)
  exact kk H locs ⟨I', A7', L7, A6, L6, rI, rA, tI, tA, dI, dA, wI', wA', uI, uA, aI', aS', aT', eI, eA, sS, sT, bI, hR2, hP6, hP7, hD6, hD7, hq, hS⟩
theorem lc_8 {p : Program} {l : Launch} {e : Env} {s : State} {m : MethodId} {below : List Frame} {meth : Method} {c : Code} {Q : State → Prop} {b L : Nat} {xs : Nat → Int32} {G : va_G} {cI cZ cO : ClassId} {q6 q7 : Nat → Nat} {k : Nat} {H : Heap} {locs : List Loc} {ls : Array Slot} (C0 : lw_At p s m meth c b L xs) (hE : EnvO G cI cZ cO s) (hk : k + 5 ≤ L) (hL : L ≤ 320) (hI : LI G cI cZ cO s q6 q7 H locs) (hl : lv_has ls 4 [(0, .ref b), (1, .ref (q6 0)), (2, .ref (q7 0)), (3, .int (nI k))])
    (kk : ∀ (H1 : Heap) (locs1 : List Loc), LI G cI cZ cO s q6 q7 H1 locs1 → W p l e room_1 s m #[Value.ref b] below meth c H1 locs1 126 1703 Q (F0 m 1199 ls [])) : W p l e room_1 s m #[Value.ref b] below meth c H locs 126 1703 Q (F0 m 332 ls []) := by
  obtain ⟨hx, hb, hr, hml, hown, hts0, hX, hbl, hlocks, hgv⟩ := C0
  have hts : ∀ w ∈ wsL_law, w.before #[Value.ref b] s = true := fun w h => hts0 w (wsL_law_in w h)
  have hA : ∀ q : Nat, s.heap.size ≤ q → (fun q : Nat => s.heap.size ≤ q) q := fun _ h => h
  have hbA : ¬ (fun q : Nat => s.heap.size ≤ q) b := Nat.not_le.mpr hbl
  have i1 : vp_in (nI k + 1) L := by rw [show nI k + 1 = nI (k + 1) from nI_add k 1]; exact vp_in_nI (by omega) (by omega)
  have i2 : vp_in (nI k + 2) L := by rw [show nI k + 2 = nI (k + 2) from nI_add k 2]; exact vp_in_nI (by omega) (by omega)
  have i3 : vp_in (nI k + 3) L := by rw [show nI k + 3 = nI (k + 3) from nI_add k 3]; exact vp_in_nI (by omega) (by omega)
  have i4 : vp_in (nI k + 4) L := by rw [show nI k + 4 = nI (k + 4) from nI_add k 4]; exact vp_in_nI (by omega) (by omega)
  obtain ⟨I, A7, L7, A6, L6, rI, rA, tI, tA, dI, dA, wI, wA, uI, uA, aI, aS, aT, eI, eA, sS, sT, bI, hR, hP6, hP7, hD6, hD7, hq, hS⟩ := hI
  obtain ⟨rr, I', A7', wA', aI', aS', aT', e7, e6, hR2⟩ := r_say 10200 (Nat.le_refl _) hR (xs (nI k + 1).toNatClampNeg) (xs (nI k + 2).toNatClampNeg)
  refine lv_aload_n hx hb dL_law_332 rfl (lv_at hl 1 rfl) ?_
  refine lv_aload_n hx hb dL_law_333 rfl (lv_at hl 0 rfl) ?_
  refine lv_iload_n hx hb dL_law_334 rfl (lv_at hl 3 rfl) ?_
  refine lv_iconst (v := 1) hx hb dL_law_335 (by decide) ?_
  refine lv_iadd hx hb dL_law_336 ?_
  refine va_sld hx hb hX hbl hbA hS i1 dL_law_337 ?_
  refine lv_aload_n hx hb dL_law_338 rfl (lv_at hl 0 rfl) ?_
  refine lv_iload_n hx hb dL_law_339 rfl (lv_at hl 3 rfl) ?_
  refine lv_iconst (v := 2) hx hb dL_law_340 (by decide) ?_
  refine lv_iadd hx hb dL_law_341 ?_
  refine va_sld hx hb hX hbl hbA hS i2 dL_law_342 ?_
  refine x_cW (rest := []) (C := RX6) (n := 2) (ci := 6) hx hb hml hown hts hE (ct_X6_say 10200 l G cI cZ cO q6 A6 L6 rI rA tI tA dI dA wI wA uI uA aI aS aT eI eA sS sT bI (xs (nI k + 1).toNatClampNeg) (xs (nI k + 2).toNatClampNeg) rr wA' aI' aS' aT' e6) (bg 17 11 rfl) mb_X6_say.1 mb_X6_say.2.1 mb_X6_say.2.2.1 mb_X6_say.2.2.2 hd_X6_say rfl (by decide) hP6 hP7 (ap_of hq (w6_fst _ _ _ _ _ _ _ _ _ _ _ _ _ _ _ _ _ _ _ _ _ _ _ _) (w7_fst _ _ _ _ _ _ _)) hD6 hS hA ((w6_fst _ _ _ _ _ _ _ _ _ _ _ _ _ _ _ _ _ _ _ _ _ _ _ _).trans (w6_fst _ _ _ _ _ _ _ _ _ _ _ _ _ _ _ _ _ _ _ _ _ _ _ _).symm) rfl rfl rfl rfl hl.1 (Nat.le_of_ble_eq_true rfl) (by decide) dL_law_343 (fun H locs hP6 hP7 hD6 hS => ?_)
  refine lv_aload_n hx hb dL_law_346 rfl (lv_at hl 2 rfl) ?_
  refine lv_aload_n hx hb dL_law_347 rfl (lv_at hl 0 rfl) ?_
  refine lv_iload_n hx hb dL_law_348 rfl (lv_at hl 3 rfl) ?_
  refine lv_iconst (v := 1) hx hb dL_law_349 (by decide) ?_
  refine lv_iadd hx hb dL_law_350 ?_
  refine va_sld hx hb hX hbl hbA hS i1 dL_law_351 ?_
  refine lv_aload_n hx hb dL_law_352 rfl (lv_at hl 0 rfl) ?_
  refine lv_iload_n hx hb dL_law_353 rfl (lv_at hl 3 rfl) ?_
  refine lv_iconst (v := 2) hx hb dL_law_354 (by decide) ?_
  refine lv_iadd hx hb dL_law_355 ?_
  refine va_sld hx hb hX hbl hbA hS i2 dL_law_356 ?_
  refine x_cW (rest := [.int (rr)]) (C := RX7) (n := 2) (ci := 7) hx hb hml hown hts hE (ct_X7_say 10200 l G cI cZ cO q7 I A7 L7 (xs (nI k + 1).toNatClampNeg) (xs (nI k + 2).toNatClampNeg) rr I' A7' e7) (bg 18 9 rfl) mb_X7_say.1 mb_X7_say.2.1 mb_X7_say.2.2.1 mb_X7_say.2.2.2 hd_X7_say rfl (by decide) hP7 hP6 (ap_of hq (w6_fst _ _ _ _ _ _ _ _ _ _ _ _ _ _ _ _ _ _ _ _ _ _ _ _) (w7_fst _ _ _ _ _ _ _)).sym hD7 hS hA ((w7_fst _ _ _ _ _ _ _).trans (w7_fst _ _ _ _ _ _ _).symm) rfl rfl rfl rfl hl.1 (Nat.le_of_ble_eq_true rfl) (by decide) dL_law_357 (fun H locs hP7 hP6 hD7 hS => ?_)
  refine lv_icmp_eq (tgt := 1199) hx hb dL_law_360 (by decide) (fun _ => ?_) (fun cc => absurd rfl cc)
  exact kk H locs ⟨I', A7', L7, A6, L6, rI, rA, tI, tA, dI, dA, wI, wA', uI, uA, aI', aS', aT', eI, eA, sS, sT, bI, hR2, hP6, hP7, hD6, hD7, hq, hS⟩
theorem lc_9 {p : Program} {l : Launch} {e : Env} {s : State} {m : MethodId} {below : List Frame} {meth : Method} {c : Code} {Q : State → Prop} {b L : Nat} {xs : Nat → Int32} {G : va_G} {cI cZ cO : ClassId} {q6 q7 : Nat → Nat} {k : Nat} {H : Heap} {locs : List Loc} {ls : Array Slot} (C0 : lw_At p s m meth c b L xs) (hE : EnvO G cI cZ cO s) (hk : k + 5 ≤ L) (hL : L ≤ 320) (hI : LI G cI cZ cO s q6 q7 H locs) (hl : lv_has ls 4 [(0, .ref b), (1, .ref (q6 0)), (2, .ref (q7 0)), (3, .int (nI k))])
    (kk : ∀ (H1 : Heap) (locs1 : List Loc), LI G cI cZ cO s q6 q7 H1 locs1 → W p l e room_1 s m #[Value.ref b] below meth c H1 locs1 126 1703 Q (F0 m 1199 ls [])) : W p l e room_1 s m #[Value.ref b] below meth c H locs 126 1703 Q (F0 m 365 ls []) := by
  obtain ⟨hx, hb, hr, hml, hown, hts0, hX, hbl, hlocks, hgv⟩ := C0
  have hts : ∀ w ∈ wsL_law, w.before #[Value.ref b] s = true := fun w h => hts0 w (wsL_law_in w h)
  have hA : ∀ q : Nat, s.heap.size ≤ q → (fun q : Nat => s.heap.size ≤ q) q := fun _ h => h
  have hbA : ¬ (fun q : Nat => s.heap.size ≤ q) b := Nat.not_le.mpr hbl
  have i1 : vp_in (nI k + 1) L := by rw [show nI k + 1 = nI (k + 1) from nI_add k 1]; exact vp_in_nI (by omega) (by omega)
  have i2 : vp_in (nI k + 2) L := by rw [show nI k + 2 = nI (k + 2) from nI_add k 2]; exact vp_in_nI (by omega) (by omega)
  have i3 : vp_in (nI k + 3) L := by rw [show nI k + 3 = nI (k + 3) from nI_add k 3]; exact vp_in_nI (by omega) (by omega)
  have i4 : vp_in (nI k + 4) L := by rw [show nI k + 4 = nI (k + 4) from nI_add k 4]; exact vp_in_nI (by omega) (by omega)
  obtain ⟨I, A7, L7, A6, L6, rI, rA, tI, tA, dI, dA, wI, wA, uI, uA, aI, aS, aT, eI, eA, sS, sT, bI, hR, hP6, hP7, hD6, hD7, hq, hS⟩ := hI
  obtain ⟨rr, I', A7', wA', aI', aS', aT', e7, e6, hR2⟩ := r_deny 10200 (Nat.le_refl _) hR (xs (nI k + 1).toNatClampNeg) (xs (nI k + 2).toNatClampNeg)
  refine lv_aload_n hx hb dL_law_365 rfl (lv_at hl 1 rfl) ?_
  refine lv_aload_n hx hb dL_law_366 rfl (lv_at hl 0 rfl) ?_
  refine lv_iload_n hx hb dL_law_367 rfl (lv_at hl 3 rfl) ?_
  refine lv_iconst (v := 1) hx hb dL_law_368 (by decide) ?_
  refine lv_iadd hx hb dL_law_369 ?_
  refine va_sld hx hb hX hbl hbA hS i1 dL_law_370 ?_
  refine lv_aload_n hx hb dL_law_371 rfl (lv_at hl 0 rfl) ?_
  refine lv_iload_n hx hb dL_law_372 rfl (lv_at hl 3 rfl) ?_
  refine lv_iconst (v := 2) hx hb dL_law_373 (by decide) ?_
  refine lv_iadd hx hb dL_law_374 ?_
  refine va_sld hx hb hX hbl hbA hS i2 dL_law_375 ?_
  refine x_cW (rest := []) (C := RX6) (n := 2) (ci := 6) hx hb hml hown hts hE (ct_X6_deny 10200 l G cI cZ cO q6 A6 L6 rI rA tI tA dI dA wI wA uI uA aI aS aT eI eA sS sT bI (xs (nI k + 1).toNatClampNeg) (xs (nI k + 2).toNatClampNeg) rr wA' aI' aS' aT' e6) (bg 19 0 rfl) mb_X6_deny.1 mb_X6_deny.2.1 mb_X6_deny.2.2.1 mb_X6_deny.2.2.2 hd_X6_deny rfl (by decide) hP6 hP7 (ap_of hq (w6_fst _ _ _ _ _ _ _ _ _ _ _ _ _ _ _ _ _ _ _ _ _ _ _ _) (w7_fst _ _ _ _ _ _ _)) hD6 hS hA ((w6_fst _ _ _ _ _ _ _ _ _ _ _ _ _ _ _ _ _ _ _ _ _ _ _ _).trans (w6_fst _ _ _ _ _ _ _ _ _ _ _ _ _ _ _ _ _ _ _ _ _ _ _ _).symm) rfl rfl rfl rfl hl.1 (Nat.le_of_ble_eq_true rfl) (by decide) dL_law_376 (fun H locs hP6 hP7 hD6 hS => ?_)
  refine lv_aload_n hx hb dL_law_379 rfl (lv_at hl 2 rfl) ?_
  refine lv_aload_n hx hb dL_law_380 rfl (lv_at hl 0 rfl) ?_
  refine lv_iload_n hx hb dL_law_381 rfl (lv_at hl 3 rfl) ?_
  refine lv_iconst (v := 1) hx hb dL_law_382 (by decide) ?_
  refine lv_iadd hx hb dL_law_383 ?_
  refine va_sld hx hb hX hbl hbA hS i1 dL_law_384 ?_
  refine lv_aload_n hx hb dL_law_385 rfl (lv_at hl 0 rfl) ?_
  refine lv_iload_n hx hb dL_law_386 rfl (lv_at hl 3 rfl) ?_
  refine lv_iconst (v := 2) hx hb dL_law_387 (by decide) ?_
  refine lv_iadd hx hb dL_law_388 ?_
  refine va_sld hx hb hX hbl hbA hS i2 dL_law_389 ?_
  refine x_cW (rest := [.int (rr)]) (C := RX7) (n := 2) (ci := 7) hx hb hml hown hts hE (ct_X7_deny 10200 l G cI cZ cO q7 I A7 L7 (xs (nI k + 1).toNatClampNeg) (xs (nI k + 2).toNatClampNeg) rr I' A7' e7) (bg 19 16 rfl) mb_X7_deny.1 mb_X7_deny.2.1 mb_X7_deny.2.2.1 mb_X7_deny.2.2.2 hd_X7_deny rfl (by decide) hP7 hP6 (ap_of hq (w6_fst _ _ _ _ _ _ _ _ _ _ _ _ _ _ _ _ _ _ _ _ _ _ _ _) (w7_fst _ _ _ _ _ _ _)).sym hD7 hS hA ((w7_fst _ _ _ _ _ _ _).trans (w7_fst _ _ _ _ _ _ _).symm) rfl rfl rfl rfl hl.1 (Nat.le_of_ble_eq_true rfl) (by decide) dL_law_390 (fun H locs hP7 hP6 hD7 hS => ?_)
  refine lv_icmp_eq (tgt := 1199) hx hb dL_law_393 (by decide) (fun _ => ?_) (fun cc => absurd rfl cc)
  exact kk H locs ⟨I', A7', L7, A6, L6, rI, rA, tI, tA, dI, dA, wI, wA', uI, uA, aI', aS', aT', eI, eA, sS, sT, bI, hR2, hP6, hP7, hD6, hD7, hq, hS⟩
theorem lc_10 {p : Program} {l : Launch} {e : Env} {s : State} {m : MethodId} {below : List Frame} {meth : Method} {c : Code} {Q : State → Prop} {b L : Nat} {xs : Nat → Int32} {G : va_G} {cI cZ cO : ClassId} {q6 q7 : Nat → Nat} {k : Nat} {H : Heap} {locs : List Loc} {ls : Array Slot} (C0 : lw_At p s m meth c b L xs) (hE : EnvO G cI cZ cO s) (hk : k + 5 ≤ L) (hL : L ≤ 320) (hI : LI G cI cZ cO s q6 q7 H locs) (hl : lv_has ls 4 [(0, .ref b), (1, .ref (q6 0)), (2, .ref (q7 0)), (3, .int (nI k))])
    (kk : ∀ (H1 : Heap) (locs1 : List Loc), LI G cI cZ cO s q6 q7 H1 locs1 → W p l e room_1 s m #[Value.ref b] below meth c H1 locs1 126 1703 Q (F0 m 1199 ls [])) : W p l e room_1 s m #[Value.ref b] below meth c H locs 126 1703 Q (F0 m 398 ls []) := by
  obtain ⟨hx, hb, hr, hml, hown, hts0, hX, hbl, hlocks, hgv⟩ := C0
  have hts : ∀ w ∈ wsL_law, w.before #[Value.ref b] s = true := fun w h => hts0 w (wsL_law_in w h)
  have hA : ∀ q : Nat, s.heap.size ≤ q → (fun q : Nat => s.heap.size ≤ q) q := fun _ h => h
  have hbA : ¬ (fun q : Nat => s.heap.size ≤ q) b := Nat.not_le.mpr hbl
  have i1 : vp_in (nI k + 1) L := by rw [show nI k + 1 = nI (k + 1) from nI_add k 1]; exact vp_in_nI (by omega) (by omega)
  have i2 : vp_in (nI k + 2) L := by rw [show nI k + 2 = nI (k + 2) from nI_add k 2]; exact vp_in_nI (by omega) (by omega)
  have i3 : vp_in (nI k + 3) L := by rw [show nI k + 3 = nI (k + 3) from nI_add k 3]; exact vp_in_nI (by omega) (by omega)
  have i4 : vp_in (nI k + 4) L := by rw [show nI k + 4 = nI (k + 4) from nI_add k 4]; exact vp_in_nI (by omega) (by omega)
  obtain ⟨I, A7, L7, A6, L6, rI, rA, tI, tA, dI, dA, wI, wA, uI, uA, aI, aS, aT, eI, eA, sS, sT, bI, hR, hP6, hP7, hD6, hD7, hq, hS⟩ := hI
  obtain ⟨rr, I', A7', wA', aI', aS', aT', e7, e6, hR2⟩ := r_pay 10200 (Nat.le_refl _) hR (xs (nI k + 1).toNatClampNeg) (xs (nI k + 2).toNatClampNeg) (xs (nI k + 3).toNatClampNeg)
  refine lv_aload_n hx hb dL_law_398 rfl (lv_at hl 1 rfl) ?_
  refine lv_aload_n hx hb dL_law_399 rfl (lv_at hl 0 rfl) ?_
  refine lv_iload_n hx hb dL_law_400 rfl (lv_at hl 3 rfl) ?_
  refine lv_iconst (v := 1) hx hb dL_law_401 (by decide) ?_
  refine lv_iadd hx hb dL_law_402 ?_
  refine va_sld hx hb hX hbl hbA hS i1 dL_law_403 ?_
  refine lv_aload_n hx hb dL_law_404 rfl (lv_at hl 0 rfl) ?_
  refine lv_iload_n hx hb dL_law_405 rfl (lv_at hl 3 rfl) ?_
  refine lv_iconst (v := 2) hx hb dL_law_406 (by decide) ?_
  refine lv_iadd hx hb dL_law_407 ?_
  refine va_sld hx hb hX hbl hbA hS i2 dL_law_408 ?_
  refine lv_aload_n hx hb dL_law_409 rfl (lv_at hl 0 rfl) ?_
  refine lv_iload_n hx hb dL_law_410 rfl (lv_at hl 3 rfl) ?_
  refine lv_iconst (v := 3) hx hb dL_law_411 (by decide) ?_
  refine lv_iadd hx hb dL_law_412 ?_
  refine va_sld hx hb hX hbl hbA hS i3 dL_law_413 ?_
  refine x_cW (rest := []) (C := RX6) (n := 3) (ci := 6) hx hb hml hown hts hE (ct_X6_pay 10200 l G cI cZ cO q6 A6 L6 rI rA tI tA dI dA wI wA uI uA aI aS aT eI eA sS sT bI (xs (nI k + 1).toNatClampNeg) (xs (nI k + 2).toNatClampNeg) (xs (nI k + 3).toNatClampNeg) rr wA' aI' aS' aT' e6) (bg 20 4 rfl) mb_X6_pay.1 mb_X6_pay.2.1 mb_X6_pay.2.2.1 mb_X6_pay.2.2.2 hd_X6_pay rfl (by decide) hP6 hP7 (ap_of hq (w6_fst _ _ _ _ _ _ _ _ _ _ _ _ _ _ _ _ _ _ _ _ _ _ _ _) (w7_fst _ _ _ _ _ _ _)) hD6 hS hA ((w6_fst _ _ _ _ _ _ _ _ _ _ _ _ _ _ _ _ _ _ _ _ _ _ _ _).trans (w6_fst _ _ _ _ _ _ _ _ _ _ _ _ _ _ _ _ _ _ _ _ _ _ _ _).symm) rfl rfl rfl rfl hl.1 (Nat.le_of_ble_eq_true rfl) (by decide) dL_law_414 (fun H locs hP6 hP7 hD6 hS => ?_)
  refine lv_aload_n hx hb dL_law_417 rfl (lv_at hl 2 rfl) ?_
  refine lv_aload_n hx hb dL_law_418 rfl (lv_at hl 0 rfl) ?_
  refine lv_iload_n hx hb dL_law_419 rfl (lv_at hl 3 rfl) ?_
  refine lv_iconst (v := 1) hx hb dL_law_420 (by decide) ?_
  refine lv_iadd hx hb dL_law_421 ?_
  refine va_sld hx hb hX hbl hbA hS i1 dL_law_422 ?_
  refine lv_aload_n hx hb dL_law_423 rfl (lv_at hl 0 rfl) ?_
  refine lv_iload_n hx hb dL_law_424 rfl (lv_at hl 3 rfl) ?_
  refine lv_iconst (v := 2) hx hb dL_law_425 (by decide) ?_
  refine lv_iadd hx hb dL_law_426 ?_
  refine va_sld hx hb hX hbl hbA hS i2 dL_law_427 ?_
  refine lv_aload_n hx hb dL_law_428 rfl (lv_at hl 0 rfl) ?_
  refine lv_iload_n hx hb dL_law_429 rfl (lv_at hl 3 rfl) ?_
  refine lv_iconst (v := 3) hx hb dL_law_430 (by decide) ?_
  refine lv_iadd hx hb dL_law_431 ?_
  refine va_sld hx hb hX hbl hbA hS i3 dL_law_432 ?_
  refine x_cW (rest := [.int (rr)]) (C := RX7) (n := 3) (ci := 7) hx hb hml hown hts hE (ct_X7_pay 10200 l G cI cZ cO q7 I A7 L7 (xs (nI k + 1).toNatClampNeg) (xs (nI k + 2).toNatClampNeg) (xs (nI k + 3).toNatClampNeg) rr I' A7' e7) (bg 21 7 rfl) mb_X7_pay.1 mb_X7_pay.2.1 mb_X7_pay.2.2.1 mb_X7_pay.2.2.2 hd_X7_pay rfl (by decide) hP7 hP6 (ap_of hq (w6_fst _ _ _ _ _ _ _ _ _ _ _ _ _ _ _ _ _ _ _ _ _ _ _ _) (w7_fst _ _ _ _ _ _ _)).sym hD7 hS hA ((w7_fst _ _ _ _ _ _ _).trans (w7_fst _ _ _ _ _ _ _).symm) rfl rfl rfl rfl hl.1 (Nat.le_of_ble_eq_true rfl) (by decide) dL_law_433 (fun H locs hP7 hP6 hD7 hS => ?_)
  refine lv_icmp_eq (tgt := 1199) hx hb dL_law_436 (by decide) (fun _ => ?_) (fun cc => absurd rfl cc)
  exact kk H locs ⟨I', A7', L7, A6, L6, rI, rA, tI, tA, dI, dA, wI, wA', uI, uA, aI', aS', aT', eI, eA, sS, sT, bI, hR2, hP6, hP7, hD6, hD7, hq, hS⟩
theorem lc_11 {p : Program} {l : Launch} {e : Env} {s : State} {m : MethodId} {below : List Frame} {meth : Method} {c : Code} {Q : State → Prop} {b L : Nat} {xs : Nat → Int32} {G : va_G} {cI cZ cO : ClassId} {q6 q7 : Nat → Nat} {k : Nat} {H : Heap} {locs : List Loc} {ls : Array Slot} (C0 : lw_At p s m meth c b L xs) (hE : EnvO G cI cZ cO s) (hk : k + 5 ≤ L) (hL : L ≤ 320) (hI : LI G cI cZ cO s q6 q7 H locs) (hl : lv_has ls 4 [(0, .ref b), (1, .ref (q6 0)), (2, .ref (q7 0)), (3, .int (nI k))])
    (kk : ∀ (H1 : Heap) (locs1 : List Loc), LI G cI cZ cO s q6 q7 H1 locs1 → W p l e room_1 s m #[Value.ref b] below meth c H1 locs1 126 1703 Q (F0 m 1199 ls [])) : W p l e room_1 s m #[Value.ref b] below meth c H locs 126 1703 Q (F0 m 441 ls []) := by
  obtain ⟨hx, hb, hr, hml, hown, hts0, hX, hbl, hlocks, hgv⟩ := C0
  have hts : ∀ w ∈ wsL_law, w.before #[Value.ref b] s = true := fun w h => hts0 w (wsL_law_in w h)
  have hA : ∀ q : Nat, s.heap.size ≤ q → (fun q : Nat => s.heap.size ≤ q) q := fun _ h => h
  have hbA : ¬ (fun q : Nat => s.heap.size ≤ q) b := Nat.not_le.mpr hbl
  have i1 : vp_in (nI k + 1) L := by rw [show nI k + 1 = nI (k + 1) from nI_add k 1]; exact vp_in_nI (by omega) (by omega)
  have i2 : vp_in (nI k + 2) L := by rw [show nI k + 2 = nI (k + 2) from nI_add k 2]; exact vp_in_nI (by omega) (by omega)
  have i3 : vp_in (nI k + 3) L := by rw [show nI k + 3 = nI (k + 3) from nI_add k 3]; exact vp_in_nI (by omega) (by omega)
  have i4 : vp_in (nI k + 4) L := by rw [show nI k + 4 = nI (k + 4) from nI_add k 4]; exact vp_in_nI (by omega) (by omega)
  obtain ⟨I, A7, L7, A6, L6, rI, rA, tI, tA, dI, dA, wI, wA, uI, uA, aI, aS, aT, eI, eA, sS, sT, bI, hR, hP6, hP7, hD6, hD7, hq, hS⟩ := hI
  obtain ⟨rr, I', A7', wI', wA', aI', e7, e6, hR2⟩ := r_undo 10200 (Nat.le_refl _) hR 
  refine lv_aload_n hx hb dL_law_441 rfl (lv_at hl 1 rfl) ?_
  refine x_cW (rest := []) (C := RX6) (n := 0) (ci := 6) hx hb hml hown hts hE (ct_X6_undo 10200 l G cI cZ cO q6 A6 L6 rI rA tI tA dI dA wI wA uI uA aI aS aT eI eA sS sT bI rr wI' wA' aI' e6) (bg 21 19 rfl) mb_X6_undo.1 mb_X6_undo.2.1 mb_X6_undo.2.2.1 mb_X6_undo.2.2.2 hd_X6_undo rfl (by decide) hP6 hP7 (ap_of hq (w6_fst _ _ _ _ _ _ _ _ _ _ _ _ _ _ _ _ _ _ _ _ _ _ _ _) (w7_fst _ _ _ _ _ _ _)) hD6 hS hA ((w6_fst _ _ _ _ _ _ _ _ _ _ _ _ _ _ _ _ _ _ _ _ _ _ _ _).trans (w6_fst _ _ _ _ _ _ _ _ _ _ _ _ _ _ _ _ _ _ _ _ _ _ _ _).symm) rfl rfl rfl rfl hl.1 (Nat.le_of_ble_eq_true rfl) (by decide) dL_law_442 (fun H locs hP6 hP7 hD6 hS => ?_)
  refine lv_aload_n hx hb dL_law_445 rfl (lv_at hl 2 rfl) ?_
  refine x_cW (rest := [.int (rr)]) (C := RX7) (n := 0) (ci := 7) hx hb hml hown hts hE (ct_X7_undo 10200 l G cI cZ cO q7 I A7 L7 rr I' A7' e7) (bg 22 3 rfl) mb_X7_undo.1 mb_X7_undo.2.1 mb_X7_undo.2.2.1 mb_X7_undo.2.2.2 hd_X7_undo rfl (by decide) hP7 hP6 (ap_of hq (w6_fst _ _ _ _ _ _ _ _ _ _ _ _ _ _ _ _ _ _ _ _ _ _ _ _) (w7_fst _ _ _ _ _ _ _)).sym hD7 hS hA ((w7_fst _ _ _ _ _ _ _).trans (w7_fst _ _ _ _ _ _ _).symm) rfl rfl rfl rfl hl.1 (Nat.le_of_ble_eq_true rfl) (by decide) dL_law_446 (fun H locs hP7 hP6 hD7 hS => ?_)
  refine lv_icmp_eq (tgt := 1199) hx hb dL_law_449 (by decide) (fun _ => ?_) (fun cc => absurd rfl cc)
  exact kk H locs ⟨I', A7', L7, A6, L6, rI, rA, tI, tA, dI, dA, wI', wA', uI, uA, aI', aS, aT, eI, eA, sS, sT, bI, hR2, hP6, hP7, hD6, hD7, hq, hS⟩
