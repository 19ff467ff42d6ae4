theorem lc_12 {p : Program} {l : Launch} {e : Env} {s : State} {m : MethodId} {below : List Frame} {meth : Method} {c : Code} {Q : State → Prop} {b L : Nat} {xs : Nat → Int32} {G : va_G} {cI cZ cO : ClassId} {q6 q7 : Nat → Nat} {k : Nat} {H : Heap} {locs : List Loc} {ls : Array Slot} (C0 : lw_At p s m meth c b L xs) (hE : EnvO G cI cZ cO s) (hk : k + 5 ≤ L) (hL : L ≤ 320) (hI : LI G cI cZ cO s q6 q7 H locs) (hl : lv_has ls 4 [(0, .ref b), (1, .ref (q6 0)), (2, .ref (q7 0)), (3, .int (nI k))])
    (kk : ∀ (H1 : Heap) (locs1 : List Loc), LI G cI cZ cO s q6 q7 H1 locs1 → W p l e room_1 s m #[Value.ref b] below meth c H1 locs1 126 1703 Q (F0 m 1199 ls [])) : W p l e room_1 s m #[Value.ref b] below meth c H locs 126 1703 Q (F0 m 454 ls []) := by
  obtain ⟨hx, hb, hr, hml, hown, hts0, hX, hbl, hlocks, hgv⟩ := C0
  have hts : ∀ w ∈ wsL_law, w.before #[Value.ref b] s = true := fun w h => hts0 w (wsL_law_in w h)
  have hA : ∀ q : Nat, s.heap.size ≤ q → (fun q : Nat => s.heap.size ≤ q) q := fun _ h => h
  have hbA : ¬ (fun q : Nat => s.heap.size ≤ q) b := Nat.not_le.mpr hbl
  have i1 : vp_in (nI k + 1) L := by rw [show nI k + 1 = nI (k + 1) from nI_add k 1]; exact vp_in_nI (by omega) (by omega)
  have i2 : vp_in (nI k + 2) L := by rw [show nI k + 2 = nI (k + 2) from nI_add k 2]; exact vp_in_nI (by omega) (by omega)
  have i3 : vp_in (nI k + 3) L := by rw [show nI k + 3 = nI (k + 3) from nI_add k 3]; exact vp_in_nI (by omega) (by omega)
  have i4 : vp_in (nI k + 4) L := by rw [show nI k + 4 = nI (k + 4) from nI_add k 4]; exact vp_in_nI (by omega) (by omega)
  obtain ⟨I, A7, L7, A6, L6, rI, rA, tI, tA, dI, dA, wI, wA, uI, uA, aI, aS, aT, eI, eA, sS, sT, bI, hR, hP6, hP7, hD6, hD7, hq, hS⟩ := hI
  obtain ⟨rr, A7', e7, e6, hR2⟩ := r_worth 10200 (Nat.le_refl _) hR (xs (nI k + 1).toNatClampNeg) (xs (nI k + 2).toNatClampNeg)
  refine lv_aload_n hx hb dL_law_454 rfl (lv_at hl 1 rfl) ?_
  refine lv_aload_n hx hb dL_law_455 rfl (lv_at hl 0 rfl) ?_
  refine lv_iload_n hx hb dL_law_456 rfl (lv_at hl 3 rfl) ?_
  refine lv_iconst (v := 1) hx hb dL_law_457 (by decide) ?_
  refine lv_iadd hx hb dL_law_458 ?_
  refine va_sld hx hb hX hbl hbA hS i1 dL_law_459 ?_
  refine lv_aload_n hx hb dL_law_460 rfl (lv_at hl 0 rfl) ?_
  refine lv_iload_n hx hb dL_law_461 rfl (lv_at hl 3 rfl) ?_
  refine lv_iconst (v := 2) hx hb dL_law_462 (by decide) ?_
  refine lv_iadd hx hb dL_law_463 ?_
  refine va_sld hx hb hX hbl hbA hS i2 dL_law_464 ?_
  refine x_rdV (rest := []) (C := RX6) (n := 2) (ci := 6) hx hb hml hown hts hE (ct_X6_worth 10200 l G cI cZ cO q6 A6 L6 rI rA tI tA dI dA wI wA uI uA aI aS aT eI eA sS sT bI (xs (nI k + 1).toNatClampNeg) (xs (nI k + 2).toNatClampNeg) rr e6) (bg 22 7 rfl) mb_X6_worth.1 mb_X6_worth.2.1 mb_X6_worth.2.2.1 mb_X6_worth.2.2.2 hd_X6_worth rfl (by decide) hP6 rfl rfl rfl rfl hl.1 (Nat.le_of_ble_eq_true rfl) (by decide) dL_law_465 ?_
  refine lv_aload_n hx hb dL_law_468 rfl (lv_at hl 2 rfl) ?_
  refine lv_aload_n hx hb dL_law_469 rfl (lv_at hl 0 rfl) ?_
  refine lv_iload_n hx hb dL_law_470 rfl (lv_at hl 3 rfl) ?_
  refine lv_iconst (v := 1) hx hb dL_law_471 (by decide) ?_
  refine lv_iadd hx hb dL_law_472 ?_
  refine va_sld hx hb hX hbl hbA hS i1 dL_law_473 ?_
  refine lv_aload_n hx hb dL_law_474 rfl (lv_at hl 0 rfl) ?_
  refine lv_iload_n hx hb dL_law_475 rfl (lv_at hl 3 rfl) ?_
  refine lv_iconst (v := 2) hx hb dL_law_476 (by decide) ?_
  refine lv_iadd hx hb dL_law_477 ?_
  refine va_sld hx hb hX hbl hbA hS i2 dL_law_478 ?_
  refine x_cW (rest := [.int (rr)]) (C := RX7) (n := 2) (ci := 7) hx hb hml hown hts hE (ct_X7_worth 10200 l G cI cZ cO q7 I A7 L7 (xs (nI k + 1).toNatClampNeg) (xs (nI k + 2).toNatClampNeg) rr A7' e7) (bg 22 21 rfl) mb_X7_worth.1 mb_X7_worth.2.1 mb_X7_worth.2.2.1 mb_X7_worth.2.2.2 hd_X7_worth rfl (by decide) hP7 hP6 (ap_of hq (w6_fst _ _ _ _ _ _ _ _ _ _ _ _ _ _ _ _ _ _ _ _ _ _ _ _) (w7_fst _ _ _ _ _ _ _)).sym hD7 hS hA ((w7_fst _ _ _ _ _ _ _).trans (w7_fst _ _ _ _ _ _ _).symm) rfl rfl rfl rfl hl.1 (Nat.le_of_ble_eq_true rfl) (by decide) dL_law_479 (fun H locs hP7 hP6 hD7 hS => ?_)
  refine lv_icmp_eq (tgt := 1199) hx hb dL_law_482 (by decide) (fun _ => ?_) (fun cc => absurd rfl cc)
  exact kk H locs ⟨I, A7', L7, A6, L6, rI, rA, tI, tA, dI, dA, wI, wA, uI, uA, aI, aS, aT, eI, eA, sS, sT, bI, hR2, hP6, hP7, hD6, hD7, hq, hS⟩
theorem lc_13 {p : Program} {l : Launch} {e : Env} {s : State} {m : MethodId} {below : List Frame} {meth : Method} {c : Code} {Q : State → Prop} {b L : Nat} {xs : Nat → Int32} {G : va_G} {cI cZ cO : ClassId} {q6 q7 : Nat → Nat} {k : Nat} {H : Heap} {locs : List Loc} {ls : Array Slot} (C0 : lw_At p s m meth c b L xs) (hE : EnvO G cI cZ cO s) (hk : k + 5 ≤ L) (hL : L ≤ 320) (hI : LI G cI cZ cO s q6 q7 H locs) (hl : lv_has ls 4 [(0, .ref b), (1, .ref (q6 0)), (2, .ref (q7 0)), (3, .int (nI k))])
    (kk : ∀ (H1 : Heap) (locs1 : List Loc), LI G cI cZ cO s q6 q7 H1 locs1 → W p l e room_1 s m #[Value.ref b] below meth c H1 locs1 126 1703 Q (F0 m 1199 ls [])) : W p l e room_1 s m #[Value.ref b] below meth c H locs 126 1703 Q (F0 m 487 ls []) := by
  obtain ⟨hx, hb, hr, hml, hown, hts0, hX, hbl, hlocks, hgv⟩ := C0
  have hts : ∀ w ∈ wsL_law, w.before #[Value.ref b] s = true := fun w h => hts0 w (wsL_law_in w h)
  have hA : ∀ q : Nat, s.heap.size ≤ q → (fun q : Nat => s.heap.size ≤ q) q := fun _ h => h
  have hbA : ¬ (fun q : Nat => s.heap.size ≤ q) b := Nat.not_le.mpr hbl
  have i1 : vp_in (nI k + 1) L := by rw [show nI k + 1 = nI (k + 1) from nI_add k 1]; exact vp_in_nI (by omega) (by omega)
  have i2 : vp_in (nI k + 2) L := by rw [show nI k + 2 = nI (k + 2) from nI_add k 2]; exact vp_in_nI (by omega) (by omega)
  have i3 : vp_in (nI k + 3) L := by rw [show nI k + 3 = nI (k + 3) from nI_add k 3]; exact vp_in_nI (by omega) (by omega)
  have i4 : vp_in (nI k + 4) L := by rw [show nI k + 4 = nI (k + 4) from nI_add k 4]; exact vp_in_nI (by omega) (by omega)
  obtain ⟨I, A7, L7, A6, L6, rI, rA, tI, tA, dI, dA, wI, wA, uI, uA, aI, aS, aT, eI, eA, sS, sT, bI, hR, hP6, hP7, hD6, hD7, hq, hS⟩ := hI
  obtain ⟨rr, A7', e7, e6, hR2⟩ := r_purse 10200 (Nat.le_refl _) hR (xs (nI k + 1).toNatClampNeg) (xs (nI k + 2).toNatClampNeg)
  refine lv_aload_n hx hb dL_law_487 rfl (lv_at hl 1 rfl) ?_
  refine lv_aload_n hx hb dL_law_488 rfl (lv_at hl 0 rfl) ?_
  refine lv_iload_n hx hb dL_law_489 rfl (lv_at hl 3 rfl) ?_
  refine lv_iconst (v := 1) hx hb dL_law_490 (by decide) ?_
  refine lv_iadd hx hb dL_law_491 ?_
  refine va_sld hx hb hX hbl hbA hS i1 dL_law_492 ?_
  refine lv_aload_n hx hb dL_law_493 rfl (lv_at hl 0 rfl) ?_
  refine lv_iload_n hx hb dL_law_494 rfl (lv_at hl 3 rfl) ?_
  refine lv_iconst (v := 2) hx hb dL_law_495 (by decide) ?_
  refine lv_iadd hx hb dL_law_496 ?_
  refine va_sld hx hb hX hbl hbA hS i2 dL_law_497 ?_
  refine x_rdV (rest := []) (C := RX6) (n := 2) (ci := 6) hx hb hml hown hts hE (ct_X6_purse 10200 l G cI cZ cO q6 A6 L6 rI rA tI tA dI dA wI wA uI uA aI aS aT eI eA sS sT bI (xs (nI k + 1).toNatClampNeg) (xs (nI k + 2).toNatClampNeg) rr e6) (bg 23 10 rfl) mb_X6_purse.1 mb_X6_purse.2.1 mb_X6_purse.2.2.1 mb_X6_purse.2.2.2 hd_X6_purse rfl (by decide) hP6 rfl rfl rfl rfl hl.1 (Nat.le_of_ble_eq_true rfl) (by decide) dL_law_498 ?_
  refine lv_aload_n hx hb dL_law_501 rfl (lv_at hl 2 rfl) ?_
  refine lv_aload_n hx hb dL_law_502 rfl (lv_at hl 0 rfl) ?_
  refine lv_iload_n hx hb dL_law_503 rfl (lv_at hl 3 rfl) ?_
  refine lv_iconst (v := 1) hx hb dL_law_504 (by decide) ?_
  refine lv_iadd hx hb dL_law_505 ?_
  refine va_sld hx hb hX hbl hbA hS i1 dL_law_506 ?_
  refine lv_aload_n hx hb dL_law_507 rfl (lv_at hl 0 rfl) ?_
  refine lv_iload_n hx hb dL_law_508 rfl (lv_at hl 3 rfl) ?_
  refine lv_iconst (v := 2) hx hb dL_law_509 (by decide) ?_
  refine lv_iadd hx hb dL_law_510 ?_
  refine va_sld hx hb hX hbl hbA hS i2 dL_law_511 ?_
  refine x_cW (rest := [.int (rr)]) (C := RX7) (n := 2) (ci := 7) hx hb hml hown hts hE (ct_X7_purse 10200 l G cI cZ cO q7 I A7 L7 (xs (nI k + 1).toNatClampNeg) (xs (nI k + 2).toNatClampNeg) rr A7' e7) (bg 24 0 rfl) mb_X7_purse.1 mb_X7_purse.2.1 mb_X7_purse.2.2.1 mb_X7_purse.2.2.2 hd_X7_purse rfl (by decide) hP7 hP6 (ap_of hq (w6_fst _ _ _ _ _ _ _ _ _ _ _ _ _ _ _ _ _ _ _ _ _ _ _ _) (w7_fst _ _ _ _ _ _ _)).sym hD7 hS hA ((w7_fst _ _ _ _ _ _ _).trans (w7_fst _ _ _ _ _ _ _).symm) rfl rfl rfl rfl hl.1 (Nat.le_of_ble_eq_true rfl) (by decide) dL_law_512 (fun H locs hP7 hP6 hD7 hS => ?_)
  refine lv_icmp_eq (tgt := 1199) hx hb dL_law_515 (by decide) (fun _ => ?_) (fun cc => absurd rfl cc)
  exact kk H locs ⟨I, A7', L7, A6, L6, rI, rA, tI, tA, dI, dA, wI, wA, uI, uA, aI, aS, aT, eI, eA, sS, sT, bI, hR2, hP6, hP7, hD6, hD7, hq, hS⟩
theorem lc_14 {p : Program} {l : Launch} {e : Env} {s : State} {m : MethodId} {below : List Frame} {meth : Method} {c : Code} {Q : State → Prop} {b L : Nat} {xs : Nat → Int32} {G : va_G} {cI cZ cO : ClassId} {q6 q7 : Nat → Nat} {k : Nat} {H : Heap} {locs : List Loc} {ls : Array Slot} (C0 : lw_At p s m meth c b L xs) (hE : EnvO G cI cZ cO s) (hk : k + 5 ≤ L) (hL : L ≤ 320) (hI : LI G cI cZ cO s q6 q7 H locs) (hl : lv_has ls 4 [(0, .ref b), (1, .ref (q6 0)), (2, .ref (q7 0)), (3, .int (nI k))])
    (kk : ∀ (H1 : Heap) (locs1 : List Loc), LI G cI cZ cO s q6 q7 H1 locs1 → W p l e room_1 s m #[Value.ref b] below meth c H1 locs1 126 1703 Q (F0 m 1199 ls [])) : W p l e room_1 s m #[Value.ref b] below meth c H locs 126 1703 Q (F0 m 520 ls []) := by
  obtain ⟨hx, hb, hr, hml, hown, hts0, hX, hbl, hlocks, hgv⟩ := C0
  have hts : ∀ w ∈ wsL_law, w.before #[Value.ref b] s = true := fun w h => hts0 w (wsL_law_in w h)
  have hA : ∀ q : Nat, s.heap.size ≤ q → (fun q : Nat => s.heap.size ≤ q) q := fun _ h => h
  have hbA : ¬ (fun q : Nat => s.heap.size ≤ q) b := Nat.not_le.mpr hbl
  have i1 : vp_in (nI k + 1) L := by rw [show nI k + 1 = nI (k + 1) from nI_add k 1]; exact vp_in_nI (by omega) (by omega)
  have i2 : vp_in (nI k + 2) L := by rw [show nI k + 2 = nI (k + 2) from nI_add k 2]; exact vp_in_nI (by omega) (by omega)
  have i3 : vp_in (nI k + 3) L := by rw [show nI k + 3 = nI (k + 3) from nI_add k 3]; exact vp_in_nI (by omega) (by omega)
  have i4 : vp_in (nI k + 4) L := by rw [show nI k + 4 = nI (k + 4) from nI_add k 4]; exact vp_in_nI (by omega) (by omega)
  obtain ⟨I, A7, L7, A6, L6, rI, rA, tI, tA, dI, dA, wI, wA, uI, uA, aI, aS, aT, eI, eA, sS, sT, bI, hR, hP6, hP7, hD6, hD7, hq, hS⟩ := hI
  obtain ⟨rr, A7', bI', e7, e6, hR2⟩ := r_bestDay 10200 (Nat.le_refl _) hR bI (xs (nI k + 1).toNatClampNeg)
  refine lv_aload_n hx hb dL_law_520 rfl (lv_at hl 1 rfl) ?_
  refine lv_aload_n hx hb dL_law_521 rfl (lv_at hl 0 rfl) ?_
  refine lv_iload_n hx hb dL_law_522 rfl (lv_at hl 3 rfl) ?_
  refine lv_iconst (v := 1) hx hb dL_law_523 (by decide) ?_
  refine lv_iadd hx hb dL_law_524 ?_
  refine va_sld hx hb hX hbl hbA hS i1 dL_law_525 ?_
  refine x_cW (rest := []) (C := RX6) (n := 1) (ci := 6) hx hb hml hown hts hE (ct_X6_bestDay 10200 l G cI cZ cO q6 A6 L6 rI rA tI tA dI dA wI wA uI uA aI aS aT eI eA sS sT bI (xs (nI k + 1).toNatClampNeg) rr bI' e6) (bg 24 8 rfl) mb_X6_bestDay.1 mb_X6_bestDay.2.1 mb_X6_bestDay.2.2.1 mb_X6_bestDay.2.2.2 hd_X6_bestDay rfl (by decide) hP6 hP7 (ap_of hq (w6_fst _ _ _ _ _ _ _ _ _ _ _ _ _ _ _ _ _ _ _ _ _ _ _ _) (w7_fst _ _ _ _ _ _ _)) hD6 hS hA ((w6_fst _ _ _ _ _ _ _ _ _ _ _ _ _ _ _ _ _ _ _ _ _ _ _ _).trans (w6_fst _ _ _ _ _ _ _ _ _ _ _ _ _ _ _ _ _ _ _ _ _ _ _ _).symm) rfl rfl rfl rfl hl.1 (Nat.le_of_ble_eq_true rfl) (by decide) dL_law_526 (fun H locs hP6 hP7 hD6 hS => ?_)
  refine lv_aload_n hx hb dL_law_529 rfl (lv_at hl 2 rfl) ?_
  refine lv_aload_n hx hb dL_law_530 rfl (lv_at hl 0 rfl) ?_
  refine lv_iload_n hx hb dL_law_531 rfl (lv_at hl 3 rfl) ?_
  refine lv_iconst (v := 1) hx hb dL_law_532 (by decide) ?_
  refine lv_iadd hx hb dL_law_533 ?_
  refine va_sld hx hb hX hbl hbA hS i1 dL_law_534 ?_
  refine x_cW (rest := [.int (rr)]) (C := RX7) (n := 1) (ci := 7) hx hb hml hown hts hE (ct_X7_bestDay 10200 l G cI cZ cO q7 I A7 L7 (xs (nI k + 1).toNatClampNeg) rr A7' e7) (bg 25 0 rfl) mb_X7_bestDay.1 mb_X7_bestDay.2.1 mb_X7_bestDay.2.2.1 mb_X7_bestDay.2.2.2 hd_X7_bestDay rfl (by decide) hP7 hP6 (ap_of hq (w6_fst _ _ _ _ _ _ _ _ _ _ _ _ _ _ _ _ _ _ _ _ _ _ _ _) (w7_fst _ _ _ _ _ _ _)).sym hD7 hS hA ((w7_fst _ _ _ _ _ _ _).trans (w7_fst _ _ _ _ _ _ _).symm) rfl rfl rfl rfl hl.1 (Nat.le_of_ble_eq_true rfl) (by decide) dL_law_535 (fun H locs hP7 hP6 hD7 hS => ?_)
  refine lv_icmp_eq (tgt := 1199) hx hb dL_law_538 (by decide) (fun _ => ?_) (fun cc => absurd rfl cc)
  exact kk H locs ⟨I, A7', L7, A6, L6, rI, rA, tI, tA, dI, dA, wI, wA, uI, uA, aI, aS, aT, eI, eA, sS, sT, bI', hR2, hP6, hP7, hD6, hD7, hq, hS⟩
theorem lc_15 {p : Program} {l : Launch} {e : Env} {s : State} {m : MethodId} {below : List Frame} {meth : Method} {c : Code} {Q : State → Prop} {b L : Nat} {xs : Nat → Int32} {G : va_G} {cI cZ cO : ClassId} {q6 q7 : Nat → Nat} {k : Nat} {H : Heap} {locs : List Loc} {ls : Array Slot} (C0 : lw_At p s m meth c b L xs) (hE : EnvO G cI cZ cO s) (hk : k + 5 ≤ L) (hL : L ≤ 320) (hI : LI G cI cZ cO s q6 q7 H locs) (hl : lv_has ls 4 [(0, .ref b), (1, .ref (q6 0)), (2, .ref (q7 0)), (3, .int (nI k))])
    (kk : ∀ (H1 : Heap) (locs1 : List Loc), LI G cI cZ cO s q6 q7 H1 locs1 → W p l e room_1 s m #[Value.ref b] below meth c H1 locs1 126 1703 Q (F0 m 1199 ls [])) : W p l e room_1 s m #[Value.ref b] below meth c H locs 126 1703 Q (F0 m 543 ls []) := by
  obtain ⟨hx, hb, hr, hml, hown, hts0, hX, hbl, hlocks, hgv⟩ := C0
  have hts : ∀ w ∈ wsL_law, w.before #[Value.ref b] s = true := fun w h => hts0 w (wsL_law_in w h)
  have hA : ∀ q : Nat, s.heap.size ≤ q → (fun q : Nat => s.heap.size ≤ q) q := fun _ h => h
  have hbA : ¬ (fun q : Nat => s.heap.size ≤ q) b := Nat.not_le.mpr hbl
  have i1 : vp_in (nI k + 1) L := by rw [show nI k + 1 = nI (k + 1) from nI_add k 1]; exact vp_in_nI (by omega) (by omega)
  have i2 : vp_in (nI k + 2) L := by rw [show nI k + 2 = nI (k + 2) from nI_add k 2]; exact vp_in_nI (by omega) (by omega)
  have i3 : vp_in (nI k + 3) L := by rw [show nI k + 3 = nI (k + 3) from nI_add k 3]; exact vp_in_nI (by omega) (by omega)
  have i4 : vp_in (nI k + 4) L := by rw [show nI k + 4 = nI (k + 4) from nI_add k 4]; exact vp_in_nI (by omega) (by omega)
  obtain ⟨I, A7, L7, A6, L6, rI, rA, tI, tA, dI, dA, wI, wA, uI, uA, aI, aS, aT, eI, eA, sS, sT, bI, hR, hP6, hP7, hD6, hD7, hq, hS⟩ := hI
  obtain ⟨rr, A7', e7, e6, hR2⟩ := r_reach 10200 (Nat.le_refl _) hR (xs (nI k + 1).toNatClampNeg) (xs (nI k + 2).toNatClampNeg)
  refine lv_aload_n hx hb dL_law_543 rfl (lv_at hl 1 rfl) ?_
  refine lv_aload_n hx hb dL_law_544 rfl (lv_at hl 0 rfl) ?_
  refine lv_iload_n hx hb dL_law_545 rfl (lv_at hl 3 rfl) ?_
  refine lv_iconst (v := 1) hx hb dL_law_546 (by decide) ?_
  refine lv_iadd hx hb dL_law_547 ?_
  refine va_sld hx hb hX hbl hbA hS i1 dL_law_548 ?_
  refine lv_aload_n hx hb dL_law_549 rfl (lv_at hl 0 rfl) ?_
  refine lv_iload_n hx hb dL_law_550 rfl (lv_at hl 3 rfl) ?_
  refine lv_iconst (v := 2) hx hb dL_law_551 (by decide) ?_
  refine lv_iadd hx hb dL_law_552 ?_
  refine va_sld hx hb hX hbl hbA hS i2 dL_law_553 ?_
  refine x_rdV (rest := []) (C := RX6) (n := 2) (ci := 6) hx hb hml hown hts hE (ct_X6_reach 10200 l G cI cZ cO q6 A6 L6 rI rA tI tA dI dA wI wA uI uA aI aS aT eI eA sS sT bI (xs (nI k + 1).toNatClampNeg) (xs (nI k + 2).toNatClampNeg) rr e6) (bg 25 4 rfl) mb_X6_reach.1 mb_X6_reach.2.1 mb_X6_reach.2.2.1 mb_X6_reach.2.2.2 hd_X6_reach rfl (by decide) hP6 rfl rfl rfl rfl hl.1 (Nat.le_of_ble_eq_true rfl) (by decide) dL_law_554 ?_
  refine lv_aload_n hx hb dL_law_557 rfl (lv_at hl 2 rfl) ?_
  refine lv_aload_n hx hb dL_law_558 rfl (lv_at hl 0 rfl) ?_
  refine lv_iload_n hx hb dL_law_559 rfl (lv_at hl 3 rfl) ?_
  refine lv_iconst (v := 1) hx hb dL_law_560 (by decide) ?_
  refine lv_iadd hx hb dL_law_561 ?_
  refine va_sld hx hb hX hbl hbA hS i1 dL_law_562 ?_
  refine lv_aload_n hx hb dL_law_563 rfl (lv_at hl 0 rfl) ?_
  refine lv_iload_n hx hb dL_law_564 rfl (lv_at hl 3 rfl) ?_
  refine lv_iconst (v := 2) hx hb dL_law_565 (by decide) ?_
  refine lv_iadd hx hb dL_law_566 ?_
  refine va_sld hx hb hX hbl hbA hS i2 dL_law_567 ?_
  refine x_cW (rest := [.int (rr)]) (C := RX7) (n := 2) (ci := 7) hx hb hml hown hts hE (ct_X7_reach 10200 l G cI cZ cO q7 I A7 L7 (xs (nI k + 1).toNatClampNeg) (xs (nI k + 2).toNatClampNeg) rr A7' e7) (bg 25 8 rfl) mb_X7_reach.1 mb_X7_reach.2.1 mb_X7_reach.2.2.1 mb_X7_reach.2.2.2 hd_X7_reach rfl (by decide) hP7 hP6 (ap_of hq (w6_fst _ _ _ _ _ _ _ _ _ _ _ _ _ _ _ _ _ _ _ _ _ _ _ _) (w7_fst _ _ _ _ _ _ _)).sym hD7 hS hA ((w7_fst _ _ _ _ _ _ _).trans (w7_fst _ _ _ _ _ _ _).symm) rfl rfl rfl rfl hl.1 (Nat.le_of_ble_eq_true rfl) (by decide) dL_law_568 (fun H locs hP7 hP6 hD7 hS => ?_)
  refine lv_icmp_eq (tgt := 1199) hx hb dL_law_571 (by decide) (fun _ => ?_) (fun cc => absurd rfl cc)
  exact kk H locs ⟨I, A7', L7, A6, L6, rI, rA, tI, tA, dI, dA, wI, wA, uI, uA, aI, aS, aT, eI, eA, sS, sT, bI, hR2, hP6, hP7, hD6, hD7, hq, hS⟩
theorem lc_16 {p : Program} {l : Launch} {e : Env} {s : State} {m : MethodId} {below : List Frame} {meth : Method} {c : Code} {Q : State → Prop} {b L : Nat} {xs : Nat → Int32} {G : va_G} {cI cZ cO : ClassId} {q6 q7 : Nat → Nat} {k : Nat} {H : Heap} {locs : List Loc} {ls : Array Slot} (C0 : lw_At p s m meth c b L xs) (hE : EnvO G cI cZ cO s) (hk : k + 5 ≤ L) (hL : L ≤ 320) (hI : LI G cI cZ cO s q6 q7 H locs) (hl : lv_has ls 4 [(0, .ref b), (1, .ref (q6 0)), (2, .ref (q7 0)), (3, .int (nI k))])
    (kk : ∀ (H1 : Heap) (locs1 : List Loc), LI G cI cZ cO s q6 q7 H1 locs1 → W p l e room_1 s m #[Value.ref b] below meth c H1 locs1 126 1703 Q (F0 m 1199 ls [])) : W p l e room_1 s m #[Value.ref b] below meth c H locs 126 1703 Q (F0 m 576 ls []) := by
  obtain ⟨hx, hb, hr, hml, hown, hts0, hX, hbl, hlocks, hgv⟩ := C0
  have hts : ∀ w ∈ wsL_law, w.before #[Value.ref b] s = true := fun w h => hts0 w (wsL_law_in w h)
  have hA : ∀ q : Nat, s.heap.size ≤ q → (fun q : Nat => s.heap.size ≤ q) q := fun _ h => h
  have hbA : ¬ (fun q : Nat => s.heap.size ≤ q) b := Nat.not_le.mpr hbl
  have i1 : vp_in (nI k + 1) L := by rw [show nI k + 1 = nI (k + 1) from nI_add k 1]; exact vp_in_nI (by omega) (by omega)
  have i2 : vp_in (nI k + 2) L := by rw [show nI k + 2 = nI (k + 2) from nI_add k 2]; exact vp_in_nI (by omega) (by omega)
  have i3 : vp_in (nI k + 3) L := by rw [show nI k + 3 = nI (k + 3) from nI_add k 3]; exact vp_in_nI (by omega) (by omega)
  have i4 : vp_in (nI k + 4) L := by rw [show nI k + 4 = nI (k + 4) from nI_add k 4]; exact vp_in_nI (by omega) (by omega)
  obtain ⟨I, A7, L7, A6, L6, rI, rA, tI, tA, dI, dA, wI, wA, uI, uA, aI, aS, aT, eI, eA, sS, sT, bI, hR, hP6, hP7, hD6, hD7, hq, hS⟩ := hI
  obtain ⟨rr, A7', A6', bI', e7, e6, hR2⟩ := r_plan 10200 (Nat.le_refl _) hR bI (xs (nI k + 1).toNatClampNeg) (xs (nI k + 2).toNatClampNeg) (if xs (nI k + 3).toNatClampNeg = 0 then 0 else 1)
  refine lv_aload_n hx hb dL_law_576 rfl (lv_at hl 1 rfl) ?_
  refine lv_aload_n hx hb dL_law_577 rfl (lv_at hl 0 rfl) ?_
  refine lv_iload_n hx hb dL_law_578 rfl (lv_at hl 3 rfl) ?_
  refine lv_iconst (v := 1) hx hb dL_law_579 (by decide) ?_
  refine lv_iadd hx hb dL_law_580 ?_
  refine va_sld hx hb hX hbl hbA hS i1 dL_law_581 ?_
  refine lv_aload_n hx hb dL_law_582 rfl (lv_at hl 0 rfl) ?_
  refine lv_iload_n hx hb dL_law_583 rfl (lv_at hl 3 rfl) ?_
  refine lv_iconst (v := 2) hx hb dL_law_584 (by decide) ?_
  refine lv_iadd hx hb dL_law_585 ?_
  refine va_sld hx hb hX hbl hbA hS i2 dL_law_586 ?_
  refine lv_aload_n hx hb dL_law_587 rfl (lv_at hl 0 rfl) ?_
  refine lv_iload_n hx hb dL_law_588 rfl (lv_at hl 3 rfl) ?_
  refine lv_iconst (v := 3) hx hb dL_law_589 (by decide) ?_
  refine lv_iadd hx hb dL_law_590 ?_
  refine va_sld hx hb hX hbl hbA hS i3 dL_law_591 ?_
  refine x_bool hx hb dL_law_592 dL_law_595 dL_law_596 dL_law_599 ?_
  refine x_cW (rest := []) (C := RX6) (n := 3) (ci := 6) hx hb hml hown hts hE (ct_X6_plan 10200 l G cI cZ cO q6 A6 L6 rI rA tI tA dI dA wI wA uI uA aI aS aT eI eA sS sT bI (xs (nI k + 1).toNatClampNeg) (xs (nI k + 2).toNatClampNeg) (if xs (nI k + 3).toNatClampNeg = 0 then 0 else 1) rr A6' bI' e6) (bg 25 12 rfl) mb_X6_plan.1 mb_X6_plan.2.1 mb_X6_plan.2.2.1 mb_X6_plan.2.2.2 hd_X6_plan rfl (by decide) hP6 hP7 (ap_of hq (w6_fst _ _ _ _ _ _ _ _ _ _ _ _ _ _ _ _ _ _ _ _ _ _ _ _) (w7_fst _ _ _ _ _ _ _)) hD6 hS hA ((w6_fst _ _ _ _ _ _ _ _ _ _ _ _ _ _ _ _ _ _ _ _ _ _ _ _).trans (w6_fst _ _ _ _ _ _ _ _ _ _ _ _ _ _ _ _ _ _ _ _ _ _ _ _).symm) rfl rfl rfl rfl hl.1 (Nat.le_of_ble_eq_true rfl) (by decide) dL_law_600 (fun H locs hP6 hP7 hD6 hS => ?_)
  refine lv_aload_n hx hb dL_law_603 rfl (lv_at hl 2 rfl) ?_
  refine lv_aload_n hx hb dL_law_604 rfl (lv_at hl 0 rfl) ?_
  refine lv_iload_n hx hb dL_law_605 rfl (lv_at hl 3 rfl) ?_
  refine lv_iconst (v := 1) hx hb dL_law_606 (by decide) ?_
  refine lv_iadd hx hb dL_law_607 ?_
  refine va_sld hx hb hX hbl hbA hS i1 dL_law_608 ?_
  refine lv_aload_n hx hb dL_law_609 rfl (lv_at hl 0 rfl) ?_
  refine lv_iload_n hx hb dL_law_610 rfl (lv_at hl 3 rfl) ?_
  refine lv_iconst (v := 2) hx hb dL_law_611 (by decide) ?_
  refine lv_iadd hx hb dL_law_612 ?_
  refine va_sld hx hb hX hbl hbA hS i2 dL_law_613 ?_
  refine lv_aload_n hx hb dL_law_614 rfl (lv_at hl 0 rfl) ?_
  refine lv_iload_n hx hb dL_law_615 rfl (lv_at hl 3 rfl) ?_
  refine lv_iconst (v := 3) hx hb dL_law_616 (by decide) ?_
  refine lv_iadd hx hb dL_law_617 ?_
  refine va_sld hx hb hX hbl hbA hS i3 dL_law_618 ?_
  refine x_bool hx hb dL_law_619 dL_law_622 dL_law_623 dL_law_626 ?_
  refine x_cW (rest := [.int (rr)]) (C := RX7) (n := 3) (ci := 7) hx hb hml hown hts hE (ct_X7_plan 10200 l G cI cZ cO q7 I A7 L7 (xs (nI k + 1).toNatClampNeg) (xs (nI k + 2).toNatClampNeg) (if xs (nI k + 3).toNatClampNeg = 0 then 0 else 1) rr A7' e7) (bg 26 16 rfl) mb_X7_plan.1 mb_X7_plan.2.1 mb_X7_plan.2.2.1 mb_X7_plan.2.2.2 hd_X7_plan rfl (by decide) hP7 hP6 (ap_of hq (w6_fst _ _ _ _ _ _ _ _ _ _ _ _ _ _ _ _ _ _ _ _ _ _ _ _) (w7_fst _ _ _ _ _ _ _)).sym hD7 hS hA ((w7_fst _ _ _ _ _ _ _).trans (w7_fst _ _ _ _ _ _ _).symm) rfl rfl rfl rfl hl.1 (Nat.le_of_ble_eq_true rfl) (by decide) dL_law_627 (fun H locs hP7 hP6 hD7 hS => ?_)
  refine lv_icmp_eq (tgt := 1199) hx hb dL_law_630 (by decide) (fun _ => ?_) (fun cc => absurd rfl cc)
  exact kk H locs ⟨I, A7', L7, A6', L6, rI, rA, tI, tA, dI, dA, wI, wA, uI, uA, aI, aS, aT, eI, eA, sS, sT, bI', hR2, hP6, hP7, hD6, hD7, hq, hS⟩
theorem lc_17 {p : Program} {l : Launch} {e : Env} {s : State} {m : MethodId} {below : List Frame} {meth : Method} {c : Code} {Q : State → Prop} {b L : Nat} {xs : Nat → Int32} {G : va_G} {cI cZ cO : ClassId} {q6 q7 : Nat → Nat} {k : Nat} {H : Heap} {locs : List Loc} {ls : Array Slot} (C0 : lw_At p s m meth c b L xs) (hE : EnvO G cI cZ cO s) (hk : k + 5 ≤ L) (hL : L ≤ 320) (hI : LI G cI cZ cO s q6 q7 H locs) (hl : lv_has ls 4 [(0, .ref b), (1, .ref (q6 0)), (2, .ref (q7 0)), (3, .int (nI k))])
    (kk : ∀ (H1 : Heap) (locs1 : List Loc), LI G cI cZ cO s q6 q7 H1 locs1 → W p l e room_1 s m #[Value.ref b] below meth c H1 locs1 126 1703 Q (F0 m 1199 ls [])) : W p l e room_1 s m #[Value.ref b] below meth c H locs 126 1703 Q (F0 m 635 ls []) := by
  obtain ⟨hx, hb, hr, hml, hown, hts0, hX, hbl, hlocks, hgv⟩ := C0
  have hts : ∀ w ∈ wsL_law, w.before #[Value.ref b] s = true := fun w h => hts0 w (wsL_law_in w h)
  have hA : ∀ q : Nat, s.heap.size ≤ q → (fun q : Nat => s.heap.size ≤ q) q := fun _ h => h
  have hbA : ¬ (fun q : Nat => s.heap.size ≤ q) b := Nat.not_le.mpr hbl
  have i1 : vp_in (nI k + 1) L := by rw [show nI k + 1 = nI (k + 1) from nI_add k 1]; exact vp_in_nI (by omega) (by omega)
  have i2 : vp_in (nI k + 2) L := by rw [show nI k + 2 = nI (k + 2) from nI_add k 2]; exact vp_in_nI (by omega) (by omega)
  have i3 : vp_in (nI k + 3) L := by rw [show nI k + 3 = nI (k + 3) from nI_add k 3]; exact vp_in_nI (by omega) (by omega)
  have i4 : vp_in (nI k + 4) L := by rw [show nI k + 4 = nI (k + 4) from nI_add k 4]; exact vp_in_nI (by omega) (by omega)
  obtain ⟨I, A7, L7, A6, L6, rI, rA, tI, tA, dI, dA, wI, wA, uI, uA, aI, aS, aT, eI, eA, sS, sT, bI, hR, hP6, hP7, hD6, hD7, hq, hS⟩ := hI
  obtain ⟨rr, e7, e6⟩ := r_holds 10200 (Nat.le_refl _) hR (xs (nI k + 1).toNatClampNeg) (if xs (nI k + 2).toNatClampNeg = 0 then 0 else 1)
  refine lv_aload_n hx hb dL_law_635 rfl (lv_at hl 1 rfl) ?_
  refine lv_aload_n hx hb dL_law_636 rfl (lv_at hl 0 rfl) ?_
  refine lv_iload_n hx hb dL_law_637 rfl (lv_at hl 3 rfl) ?_
  refine lv_iconst (v := 1) hx hb dL_law_638 (by decide) ?_
  refine lv_iadd hx hb dL_law_639 ?_
  refine va_sld hx hb hX hbl hbA hS i1 dL_law_640 ?_
  refine lv_aload_n hx hb dL_law_641 rfl (lv_at hl 0 rfl) ?_
  refine lv_iload_n hx hb dL_law_642 rfl (lv_at hl 3 rfl) ?_
  refine lv_iconst (v := 2) hx hb dL_law_643 (by decide) ?_
  refine lv_iadd hx hb dL_law_644 ?_
  refine va_sld hx hb hX hbl hbA hS i2 dL_law_645 ?_
  refine x_bool hx hb dL_law_646 dL_law_649 dL_law_650 dL_law_653 ?_
  refine x_rdV (rest := []) (C := RX6) (n := 2) (ci := 6) hx hb hml hown hts hE (ct_X6_holds 10200 l G cI cZ cO q6 A6 L6 rI rA tI tA dI dA wI wA uI uA aI aS aT eI eA sS sT bI (xs (nI k + 1).toNatClampNeg) (if xs (nI k + 2).toNatClampNeg = 0 then 0 else 1) rr e6) (bg 27 4 rfl) mb_X6_holds.1 mb_X6_holds.2.1 mb_X6_holds.2.2.1 mb_X6_holds.2.2.2 hd_X6_holds rfl (by decide) hP6 rfl rfl rfl rfl hl.1 (Nat.le_of_ble_eq_true rfl) (by decide) dL_law_654 ?_
  refine lv_aload_n hx hb dL_law_657 rfl (lv_at hl 2 rfl) ?_
  refine lv_aload_n hx hb dL_law_658 rfl (lv_at hl 0 rfl) ?_
  refine lv_iload_n hx hb dL_law_659 rfl (lv_at hl 3 rfl) ?_
  refine lv_iconst (v := 1) hx hb dL_law_660 (by decide) ?_
  refine lv_iadd hx hb dL_law_661 ?_
  refine va_sld hx hb hX hbl hbA hS i1 dL_law_662 ?_
  refine lv_aload_n hx hb dL_law_663 rfl (lv_at hl 0 rfl) ?_
  refine lv_iload_n hx hb dL_law_664 rfl (lv_at hl 3 rfl) ?_
  refine lv_iconst (v := 2) hx hb dL_law_665 (by decide) ?_
  refine lv_iadd hx hb dL_law_666 ?_
  refine va_sld hx hb hX hbl hbA hS i2 dL_law_667 ?_
  refine x_bool hx hb dL_law_668 dL_law_671 dL_law_672 dL_law_675 ?_
  refine x_rdV (rest := [.int (rr)]) (C := RX7) (n := 2) (ci := 7) hx hb hml hown hts hE (ct_X7_holds 10200 l G cI cZ cO q7 I A7 L7 (xs (nI k + 1).toNatClampNeg) (if xs (nI k + 2).toNatClampNeg = 0 then 0 else 1) rr e7) (bg 27 17 rfl) mb_X7_holds.1 mb_X7_holds.2.1 mb_X7_holds.2.2.1 mb_X7_holds.2.2.2 hd_X7_holds rfl (by decide) hP7 rfl rfl rfl rfl hl.1 (Nat.le_of_ble_eq_true rfl) (by decide) dL_law_676 ?_
  refine lv_icmp_eq (tgt := 1199) hx hb dL_law_679 (by decide) (fun _ => ?_) (fun cc => absurd rfl cc)
  exact kk H locs ⟨I, A7, L7, A6, L6, rI, rA, tI, tA, dI, dA, wI, wA, uI, uA, aI, aS, aT, eI, eA, sS, sT, bI, hR, hP6, hP7, hD6, hD7, hq, hS⟩
