theorem lc_18 {p : Program} {l : Launch} {e : Env} {s : State} {m : MethodId} {below : List Frame} {meth : Method} {c : Code} {Q : State → Prop} {b L : Nat} {xs : Nat → Int32} {G : va_G} {cI cZ cO : ClassId} {q6 q7 : Nat → Nat} {k : Nat} {H : Heap} {locs : List Loc} {ls : Array Slot} (C0 : lw_At p s m meth c b L xs) (hE : EnvO G cI cZ cO s) (hk : k + 5 ≤ L) (hL : L ≤ 320) (hI : LI G cI cZ cO s q6 q7 H locs) (hl : lv_has ls 4 [(0, .ref b), (1, .ref (q6 0)), (2, .ref (q7 0)), (3, .int (nI k))])
    (kk : ∀ (H1 : Heap) (locs1 : List Loc), LI G cI cZ cO s q6 q7 H1 locs1 → W p l e room_1 s m #[Value.ref b] below meth c H1 locs1 126 1703 Q (F0 m 1199 ls [])) : W p l e room_1 s m #[Value.ref b] below meth c H locs 126 1703 Q (F0 m 684 ls []) := by
  obtain ⟨hx, hb, hr, hml, hown, hts0, hX, hbl, hlocks, hgv⟩ := C0
  have hts : ∀ w ∈ wsL_law, w.before #[Value.ref b] s = true := fun w h => hts0 w (wsL_law_in w h)
  have hA : ∀ q : Nat, s.heap.size ≤ q → (fun q : Nat => s.heap.size ≤ q) q := fun _ h => h
  have hbA : ¬ (fun q : Nat => s.heap.size ≤ q) b := Nat.not_le.mpr hbl
  have i1 : vp_in (nI k + 1) L := by rw [show nI k + 1 = nI (k + 1) from nI_add k 1]; exact vp_in_nI (by omega) (by omega)
  have i2 : vp_in (nI k + 2) L := by rw [show nI k + 2 = nI (k + 2) from nI_add k 2]; exact vp_in_nI (by omega) (by omega)
  have i3 : vp_in (nI k + 3) L := by rw [show nI k + 3 = nI (k + 3) from nI_add k 3]; exact vp_in_nI (by omega) (by omega)
  have i4 : vp_in (nI k + 4) L := by rw [show nI k + 4 = nI (k + 4) from nI_add k 4]; exact vp_in_nI (by omega) (by omega)
  obtain ⟨I, A7, L7, A6, L6, rI, rA, tI, tA, dI, dA, wI, wA, uI, uA, aI, aS, aT, eI, eA, sS, sT, bI, hR, hP6, hP7, hD6, hD7, hq, hS⟩ := hI
  obtain ⟨rr, A7', A6', uI', uA', e7, e6, hR2⟩ := r_judge 10200 (Nat.le_refl _) hR uI uA (xs (nI k + 1).toNatClampNeg) ((shlL (Int32.toInt64 (xs (nI k + 2).toNatClampNeg)) 32) ||| ((Int32.toInt64 (xs (nI k + 3).toNatClampNeg)) &&& (4294967295)))
  refine lv_aload_n hx hb dL_law_684 rfl (lv_at hl 1 rfl) ?_
  refine lv_aload_n hx hb dL_law_685 rfl (lv_at hl 0 rfl) ?_
  refine lv_iload_n hx hb dL_law_686 rfl (lv_at hl 3 rfl) ?_
  refine lv_iconst (v := 1) hx hb dL_law_687 (by decide) ?_
  refine lv_iadd hx hb dL_law_688 ?_
  refine va_sld hx hb hX hbl hbA hS i1 dL_law_689 ?_
  refine lv_aload_n hx hb dL_law_690 rfl (lv_at hl 0 rfl) ?_
  refine lv_iload_n hx hb dL_law_691 rfl (lv_at hl 3 rfl) ?_
  refine lv_iconst (v := 2) hx hb dL_law_692 (by decide) ?_
  refine lv_iadd hx hb dL_law_693 ?_
  refine va_sld hx hb hX hbl hbA hS i2 dL_law_694 ?_
  refine lv_i2l (v := Int32.toInt64 (xs (nI k + 2).toNatClampNeg)) hx hb dL_law_695 rfl ?_
  refine lv_bipush (v := 32) hx hb dL_law_696 (by decide) ?_
  refine lv_lshl (v := shlL (Int32.toInt64 (xs (nI k + 2).toNatClampNeg)) 32) hx hb dL_law_698 rfl ?_
  refine lv_aload_n hx hb dL_law_699 rfl (lv_at hl 0 rfl) ?_
  refine lv_iload_n hx hb dL_law_700 rfl (lv_at hl 3 rfl) ?_
  refine lv_iconst (v := 3) hx hb dL_law_701 (by decide) ?_
  refine lv_iadd hx hb dL_law_702 ?_
  refine va_sld hx hb hX hbl hbA hS i3 dL_law_703 ?_
  refine lv_i2l (v := Int32.toInt64 (xs (nI k + 3).toNatClampNeg)) hx hb dL_law_704 rfl ?_
  refine lv_ldc2 hx hb hown (hts _ (bg 0 6 rfl)) dL_law_705 ?_
  refine lv_land hx hb dL_law_708 ?_
  refine lv_lor hx hb dL_law_709 ?_
  refine x_cW (rest := []) (C := RX6) (n := 2) (ci := 6) hx hb hml hown hts hE (ct_X6_judge 10200 l G cI cZ cO q6 A6 L6 rI rA tI tA dI dA wI wA uI uA aI aS aT eI eA sS sT bI (xs (nI k + 1).toNatClampNeg) ((shlL (Int32.toInt64 (xs (nI k + 2).toNatClampNeg)) 32) ||| ((Int32.toInt64 (xs (nI k + 3).toNatClampNeg)) &&& (4294967295))) rr A6' uI' uA' e6) (bg 28 1 rfl) mb_X6_judge.1 mb_X6_judge.2.1 mb_X6_judge.2.2.1 mb_X6_judge.2.2.2 hd_X6_judge rfl (by decide) hP6 hP7 (ap_of hq (w6_fst _ _ _ _ _ _ _ _ _ _ _ _ _ _ _ _ _ _ _ _ _ _ _ _) (w7_fst _ _ _ _ _ _ _)) hD6 hS hA ((w6_fst _ _ _ _ _ _ _ _ _ _ _ _ _ _ _ _ _ _ _ _ _ _ _ _).trans (w6_fst _ _ _ _ _ _ _ _ _ _ _ _ _ _ _ _ _ _ _ _ _ _ _ _).symm) rfl rfl rfl rfl hl.1 (Nat.le_of_ble_eq_true rfl) (by decide) dL_law_710 (fun H locs hP6 hP7 hD6 hS => ?_)
  refine lv_aload_n hx hb dL_law_713 rfl (lv_at hl 2 rfl) ?_
  refine lv_aload_n hx hb dL_law_714 rfl (lv_at hl 0 rfl) ?_
  refine lv_iload_n hx hb dL_law_715 rfl (lv_at hl 3 rfl) ?_
  refine lv_iconst (v := 1) hx hb dL_law_716 (by decide) ?_
  refine lv_iadd hx hb dL_law_717 ?_
  refine va_sld hx hb hX hbl hbA hS i1 dL_law_718 ?_
  refine lv_aload_n hx hb dL_law_719 rfl (lv_at hl 0 rfl) ?_
  refine lv_iload_n hx hb dL_law_720 rfl (lv_at hl 3 rfl) ?_
  refine lv_iconst (v := 2) hx hb dL_law_721 (by decide) ?_
  refine lv_iadd hx hb dL_law_722 ?_
  refine va_sld hx hb hX hbl hbA hS i2 dL_law_723 ?_
  refine lv_i2l (v := Int32.toInt64 (xs (nI k + 2).toNatClampNeg)) hx hb dL_law_724 rfl ?_
  refine lv_bipush (v := 32) hx hb dL_law_725 (by decide) ?_
  refine lv_lshl (v := shlL (Int32.toInt64 (xs (nI k + 2).toNatClampNeg)) 32) hx hb dL_law_727 rfl ?_
  refine lv_aload_n hx hb dL_law_728 rfl (lv_at hl 0 rfl) ?_
  refine lv_iload_n hx hb dL_law_729 rfl (lv_at hl 3 rfl) ?_
  refine lv_iconst (v := 3) hx hb dL_law_730 (by decide) ?_
  refine lv_iadd hx hb dL_law_731 ?_
  refine va_sld hx hb hX hbl hbA hS i3 dL_law_732 ?_
  refine lv_i2l (v := Int32.toInt64 (xs (nI k + 3).toNatClampNeg)) hx hb dL_law_733 rfl ?_
  refine lv_ldc2 hx hb hown (hts _ (bg 0 6 rfl)) dL_law_734 ?_
  refine lv_land hx hb dL_law_737 ?_
  refine lv_lor hx hb dL_law_738 ?_
  refine x_cW (rest := [.int (rr)]) (C := RX7) (n := 2) (ci := 7) hx hb hml hown hts hE (ct_X7_judge 10200 l G cI cZ cO q7 I A7 L7 (xs (nI k + 1).toNatClampNeg) ((shlL (Int32.toInt64 (xs (nI k + 2).toNatClampNeg)) 32) ||| ((Int32.toInt64 (xs (nI k + 3).toNatClampNeg)) &&& (4294967295))) rr A7' e7) (bg 28 23 rfl) mb_X7_judge.1 mb_X7_judge.2.1 mb_X7_judge.2.2.1 mb_X7_judge.2.2.2 hd_X7_judge rfl (by decide) hP7 hP6 (ap_of hq (w6_fst _ _ _ _ _ _ _ _ _ _ _ _ _ _ _ _ _ _ _ _ _ _ _ _) (w7_fst _ _ _ _ _ _ _)).sym hD7 hS hA ((w7_fst _ _ _ _ _ _ _).trans (w7_fst _ _ _ _ _ _ _).symm) rfl rfl rfl rfl hl.1 (Nat.le_of_ble_eq_true rfl) (by decide) dL_law_739 (fun H locs hP7 hP6 hD7 hS => ?_)
  refine lv_icmp_eq (tgt := 1199) hx hb dL_law_742 (by decide) (fun _ => ?_) (fun cc => absurd rfl cc)
  exact kk H locs ⟨I, A7', L7, A6', L6, rI, rA, tI, tA, dI, dA, wI, wA, uI', uA', aI, aS, aT, eI, eA, sS, sT, bI, hR2, hP6, hP7, hD6, hD7, hq, hS⟩
theorem lc_19 {p : Program} {l : Launch} {e : Env} {s : State} {m : MethodId} {below : List Frame} {meth : Method} {c : Code} {Q : State → Prop} {b L : Nat} {xs : Nat → Int32} {G : va_G} {cI cZ cO : ClassId} {q6 q7 : Nat → Nat} {k : Nat} {H : Heap} {locs : List Loc} {ls : Array Slot} (C0 : lw_At p s m meth c b L xs) (hE : EnvO G cI cZ cO s) (hk : k + 5 ≤ L) (hL : L ≤ 320) (hI : LI G cI cZ cO s q6 q7 H locs) (hl : lv_has ls 4 [(0, .ref b), (1, .ref (q6 0)), (2, .ref (q7 0)), (3, .int (nI k))])
    (kk : ∀ (H1 : Heap) (locs1 : List Loc), LI G cI cZ cO s q6 q7 H1 locs1 → W p l e room_1 s m #[Value.ref b] below meth c H1 locs1 126 1703 Q (F0 m 1199 ls [])) : W p l e room_1 s m #[Value.ref b] below meth c H locs 126 1703 Q (F0 m 747 ls []) := by
  obtain ⟨hx, hb, hr, hml, hown, hts0, hX, hbl, hlocks, hgv⟩ := C0
  have hts : ∀ w ∈ wsL_law, w.before #[Value.ref b] s = true := fun w h => hts0 w (wsL_law_in w h)
  have hA : ∀ q : Nat, s.heap.size ≤ q → (fun q : Nat => s.heap.size ≤ q) q := fun _ h => h
  have hbA : ¬ (fun q : Nat => s.heap.size ≤ q) b := Nat.not_le.mpr hbl
  have i1 : vp_in (nI k + 1) L := by rw [show nI k + 1 = nI (k + 1) from nI_add k 1]; exact vp_in_nI (by omega) (by omega)
  have i2 : vp_in (nI k + 2) L := by rw [show nI k + 2 = nI (k + 2) from nI_add k 2]; exact vp_in_nI (by omega) (by omega)
  have i3 : vp_in (nI k + 3) L := by rw [show nI k + 3 = nI (k + 3) from nI_add k 3]; exact vp_in_nI (by omega) (by omega)
  have i4 : vp_in (nI k + 4) L := by rw [show nI k + 4 = nI (k + 4) from nI_add k 4]; exact vp_in_nI (by omega) (by omega)
  obtain ⟨I, A7, L7, A6, L6, rI, rA, tI, tA, dI, dA, wI, wA, uI, uA, aI, aS, aT, eI, eA, sS, sT, bI, hR, hP6, hP7, hD6, hD7, hq, hS⟩ := hI
  obtain ⟨rr, I', A7', eI', eA', e7, e6, hR2⟩ := r_hear 10200 (Nat.le_refl _) hR (xs (nI k + 1).toNatClampNeg) (xs (nI k + 2).toNatClampNeg) (xs (nI k + 3).toNatClampNeg) (if xs (nI k + 4).toNatClampNeg = 0 then 0 else 1) (b01 _)
  refine lv_aload_n hx hb dL_law_747 rfl (lv_at hl 1 rfl) ?_
  refine lv_aload_n hx hb dL_law_748 rfl (lv_at hl 0 rfl) ?_
  refine lv_iload_n hx hb dL_law_749 rfl (lv_at hl 3 rfl) ?_
  refine lv_iconst (v := 1) hx hb dL_law_750 (by decide) ?_
  refine lv_iadd hx hb dL_law_751 ?_
  refine va_sld hx hb hX hbl hbA hS i1 dL_law_752 ?_
  refine lv_aload_n hx hb dL_law_753 rfl (lv_at hl 0 rfl) ?_
  refine lv_iload_n hx hb dL_law_754 rfl (lv_at hl 3 rfl) ?_
  refine lv_iconst (v := 2) hx hb dL_law_755 (by decide) ?_
  refine lv_iadd hx hb dL_law_756 ?_
  refine va_sld hx hb hX hbl hbA hS i2 dL_law_757 ?_
  refine lv_aload_n hx hb dL_law_758 rfl (lv_at hl 0 rfl) ?_
  refine lv_iload_n hx hb dL_law_759 rfl (lv_at hl 3 rfl) ?_
  refine lv_iconst (v := 3) hx hb dL_law_760 (by decide) ?_
  refine lv_iadd hx hb dL_law_761 ?_
  refine va_sld hx hb hX hbl hbA hS i3 dL_law_762 ?_
  refine lv_aload_n hx hb dL_law_763 rfl (lv_at hl 0 rfl) ?_
  refine lv_iload_n hx hb dL_law_764 rfl (lv_at hl 3 rfl) ?_
  refine lv_iconst (v := 4) hx hb dL_law_765 (by decide) ?_
  refine lv_iadd hx hb dL_law_766 ?_
  refine va_sld hx hb hX hbl hbA hS i4 dL_law_767 ?_
  refine x_bool hx hb dL_law_768 dL_law_771 dL_law_772 dL_law_775 ?_
  refine x_cW (rest := []) (C := RX6) (n := 4) (ci := 6) hx hb hml hown hts hE (ct_X6_hear 10200 l G cI cZ cO q6 A6 L6 rI rA tI tA dI dA wI wA uI uA aI aS aT eI eA sS sT bI (xs (nI k + 1).toNatClampNeg) (xs (nI k + 2).toNatClampNeg) (xs (nI k + 3).toNatClampNeg) (if xs (nI k + 4).toNatClampNeg = 0 then 0 else 1) rr eI' eA' e6) (bg 29 17 rfl) mb_X6_hear.1 mb_X6_hear.2.1 mb_X6_hear.2.2.1 mb_X6_hear.2.2.2 hd_X6_hear rfl (by decide) hP6 hP7 (ap_of hq (w6_fst _ _ _ _ _ _ _ _ _ _ _ _ _ _ _ _ _ _ _ _ _ _ _ _) (w7_fst _ _ _ _ _ _ _)) hD6 hS hA ((w6_fst _ _ _ _ _ _ _ _ _ _ _ _ _ _ _ _ _ _ _ _ _ _ _ _).trans (w6_fst _ _ _ _ _ _ _ _ _ _ _ _ _ _ _ _ _ _ _ _ _ _ _ _).symm) rfl rfl rfl rfl hl.1 (Nat.le_of_ble_eq_true rfl) (by decide) dL_law_776 (fun H locs hP6 hP7 hD6 hS => ?_)
  refine lv_aload_n hx hb dL_law_779 rfl (lv_at hl 2 rfl) ?_
  refine lv_aload_n hx hb dL_law_780 rfl (lv_at hl 0 rfl) ?_
  refine lv_iload_n hx hb dL_law_781 rfl (lv_at hl 3 rfl) ?_
  refine lv_iconst (v := 1) hx hb dL_law_782 (by decide) ?_
  refine lv_iadd hx hb dL_law_783 ?_
  refine va_sld hx hb hX hbl hbA hS i1 dL_law_784 ?_
  refine lv_aload_n hx hb dL_law_785 rfl (lv_at hl 0 rfl) ?_
  refine lv_iload_n hx hb dL_law_786 rfl (lv_at hl 3 rfl) ?_
  refine lv_iconst (v := 2) hx hb dL_law_787 (by decide) ?_
  refine lv_iadd hx hb dL_law_788 ?_
  refine va_sld hx hb hX hbl hbA hS i2 dL_law_789 ?_
  refine lv_aload_n hx hb dL_law_790 rfl (lv_at hl 0 rfl) ?_
  refine lv_iload_n hx hb dL_law_791 rfl (lv_at hl 3 rfl) ?_
  refine lv_iconst (v := 3) hx hb dL_law_792 (by decide) ?_
  refine lv_iadd hx hb dL_law_793 ?_
  refine va_sld hx hb hX hbl hbA hS i3 dL_law_794 ?_
  refine lv_aload_n hx hb dL_law_795 rfl (lv_at hl 0 rfl) ?_
  refine lv_iload_n hx hb dL_law_796 rfl (lv_at hl 3 rfl) ?_
  refine lv_iconst (v := 4) hx hb dL_law_797 (by decide) ?_
  refine lv_iadd hx hb dL_law_798 ?_
  refine va_sld hx hb hX hbl hbA hS i4 dL_law_799 ?_
  refine x_bool hx hb dL_law_800 dL_law_803 dL_law_804 dL_law_807 ?_
  refine x_cW (rest := [.int (rr)]) (C := RX7) (n := 4) (ci := 7) hx hb hml hown hts hE (ct_X7_hear 10200 l G cI cZ cO q7 I A7 L7 (xs (nI k + 1).toNatClampNeg) (xs (nI k + 2).toNatClampNeg) (xs (nI k + 3).toNatClampNeg) (if xs (nI k + 4).toNatClampNeg = 0 then 0 else 1) rr I' A7' e7) (bg 30 2 rfl) mb_X7_hear.1 mb_X7_hear.2.1 mb_X7_hear.2.2.1 mb_X7_hear.2.2.2 hd_X7_hear rfl (by decide) hP7 hP6 (ap_of hq (w6_fst _ _ _ _ _ _ _ _ _ _ _ _ _ _ _ _ _ _ _ _ _ _ _ _) (w7_fst _ _ _ _ _ _ _)).sym hD7 hS hA ((w7_fst _ _ _ _ _ _ _).trans (w7_fst _ _ _ _ _ _ _).symm) rfl rfl rfl rfl hl.1 (Nat.le_of_ble_eq_true rfl) (by decide) dL_law_808 (fun H locs hP7 hP6 hD7 hS => ?_)
  refine lv_icmp_eq (tgt := 1199) hx hb dL_law_811 (by decide) (fun _ => ?_) (fun cc => absurd rfl cc)
  exact kk H locs ⟨I', A7', L7, A6, L6, rI, rA, tI, tA, dI, dA, wI, wA, uI, uA, aI, aS, aT, eI', eA', sS, sT, bI, hR2, hP6, hP7, hD6, hD7, hq, hS⟩
theorem lc_20 {p : Program} {l : Launch} {e : Env} {s : State} {m : MethodId} {below : List Frame} {meth : Method} {c : Code} {Q : State → Prop} {b L : Nat} {xs : Nat → Int32} {G : va_G} {cI cZ cO : ClassId} {q6 q7 : Nat → Nat} {k : Nat} {H : Heap} {locs : List Loc} {ls : Array Slot} (C0 : lw_At p s m meth c b L xs) (hE : EnvO G cI cZ cO s) (hk : k + 5 ≤ L) (hL : L ≤ 320) (hI : LI G cI cZ cO s q6 q7 H locs) (hl : lv_has ls 4 [(0, .ref b), (1, .ref (q6 0)), (2, .ref (q7 0)), (3, .int (nI k))])
    (kk : ∀ (H1 : Heap) (locs1 : List Loc), LI G cI cZ cO s q6 q7 H1 locs1 → W p l e room_1 s m #[Value.ref b] below meth c H1 locs1 126 1703 Q (F0 m 1199 ls [])) : W p l e room_1 s m #[Value.ref b] below meth c H locs 126 1703 Q (F0 m 816 ls []) := by
  obtain ⟨hx, hb, hr, hml, hown, hts0, hX, hbl, hlocks, hgv⟩ := C0
  have hts : ∀ w ∈ wsL_law, w.before #[Value.ref b] s = true := fun w h => hts0 w (wsL_law_in w h)
  have hA : ∀ q : Nat, s.heap.size ≤ q → (fun q : Nat => s.heap.size ≤ q) q := fun _ h => h
  have hbA : ¬ (fun q : Nat => s.heap.size ≤ q) b := Nat.not_le.mpr hbl
  have i1 : vp_in (nI k + 1) L := by rw [show nI k + 1 = nI (k + 1) from nI_add k 1]; exact vp_in_nI (by omega) (by omega)
  have i2 : vp_in (nI k + 2) L := by rw [show nI k + 2 = nI (k + 2) from nI_add k 2]; exact vp_in_nI (by omega) (by omega)
  have i3 : vp_in (nI k + 3) L := by rw [show nI k + 3 = nI (k + 3) from nI_add k 3]; exact vp_in_nI (by omega) (by omega)
  have i4 : vp_in (nI k + 4) L := by rw [show nI k + 4 = nI (k + 4) from nI_add k 4]; exact vp_in_nI (by omega) (by omega)
  obtain ⟨I, A7, L7, A6, L6, rI, rA, tI, tA, dI, dA, wI, wA, uI, uA, aI, aS, aT, eI, eA, sS, sT, bI, hR, hP6, hP7, hD6, hD7, hq, hS⟩ := hI
  obtain ⟨rr, I', eI', e7, e6, hR2⟩ := r_unhear 10200 (Nat.le_refl _) hR 
  refine lv_aload_n hx hb dL_law_816 rfl (lv_at hl 1 rfl) ?_
  refine x_cW (rest := []) (C := RX6) (n := 0) (ci := 6) hx hb hml hown hts hE (ct_X6_unhear 10200 l G cI cZ cO q6 A6 L6 rI rA tI tA dI dA wI wA uI uA aI aS aT eI eA sS sT bI rr eI' e6) (bg 30 7 rfl) mb_X6_unhear.1 mb_X6_unhear.2.1 mb_X6_unhear.2.2.1 mb_X6_unhear.2.2.2 hd_X6_unhear rfl (by decide) hP6 hP7 (ap_of hq (w6_fst _ _ _ _ _ _ _ _ _ _ _ _ _ _ _ _ _ _ _ _ _ _ _ _) (w7_fst _ _ _ _ _ _ _)) hD6 hS hA ((w6_fst _ _ _ _ _ _ _ _ _ _ _ _ _ _ _ _ _ _ _ _ _ _ _ _).trans (w6_fst _ _ _ _ _ _ _ _ _ _ _ _ _ _ _ _ _ _ _ _ _ _ _ _).symm) rfl rfl rfl rfl hl.1 (Nat.le_of_ble_eq_true rfl) (by decide) dL_law_817 (fun H locs hP6 hP7 hD6 hS => ?_)
  refine lv_aload_n hx hb dL_law_820 rfl (lv_at hl 2 rfl) ?_
  refine x_cW (rest := [.int (rr)]) (C := RX7) (n := 0) (ci := 7) hx hb hml hown hts hE (ct_X7_unhear 10200 l G cI cZ cO q7 I A7 L7 rr I' e7) (bg 30 12 rfl) mb_X7_unhear.1 mb_X7_unhear.2.1 mb_X7_unhear.2.2.1 mb_X7_unhear.2.2.2 hd_X7_unhear rfl (by decide) hP7 hP6 (ap_of hq (w6_fst _ _ _ _ _ _ _ _ _ _ _ _ _ _ _ _ _ _ _ _ _ _ _ _) (w7_fst _ _ _ _ _ _ _)).sym hD7 hS hA ((w7_fst _ _ _ _ _ _ _).trans (w7_fst _ _ _ _ _ _ _).symm) rfl rfl rfl rfl hl.1 (Nat.le_of_ble_eq_true rfl) (by decide) dL_law_821 (fun H locs hP7 hP6 hD7 hS => ?_)
  refine lv_icmp_eq (tgt := 1199) hx hb dL_law_824 (by decide) (fun _ => ?_) (fun cc => absurd rfl cc)
  exact kk H locs ⟨I', A7, L7, A6, L6, rI, rA, tI, tA, dI, dA, wI, wA, uI, uA, aI, aS, aT, eI', eA, sS, sT, bI, hR2, hP6, hP7, hD6, hD7, hq, hS⟩
theorem lc_21 {p : Program} {l : Launch} {e : Env} {s : State} {m : MethodId} {below : List Frame} {meth : Method} {c : Code} {Q : State → Prop} {b L : Nat} {xs : Nat → Int32} {G : va_G} {cI cZ cO : ClassId} {q6 q7 : Nat → Nat} {k : Nat} {H : Heap} {locs : List Loc} {ls : Array Slot} (C0 : lw_At p s m meth c b L xs) (hE : EnvO G cI cZ cO s) (hk : k + 5 ≤ L) (hL : L ≤ 320) (hI : LI G cI cZ cO s q6 q7 H locs) (hl : lv_has ls 4 [(0, .ref b), (1, .ref (q6 0)), (2, .ref (q7 0)), (3, .int (nI k))])
    (kk : ∀ (H1 : Heap) (locs1 : List Loc), LI G cI cZ cO s q6 q7 H1 locs1 → W p l e room_1 s m #[Value.ref b] below meth c H1 locs1 126 1703 Q (F0 m 1199 ls [])) : W p l e room_1 s m #[Value.ref b] below meth c H locs 126 1703 Q (F0 m 829 ls []) := by
  obtain ⟨hx, hb, hr, hml, hown, hts0, hX, hbl, hlocks, hgv⟩ := C0
  have hts : ∀ w ∈ wsL_law, w.before #[Value.ref b] s = true := fun w h => hts0 w (wsL_law_in w h)
  have hA : ∀ q : Nat, s.heap.size ≤ q → (fun q : Nat => s.heap.size ≤ q) q := fun _ h => h
  have hbA : ¬ (fun q : Nat => s.heap.size ≤ q) b := Nat.not_le.mpr hbl
  have i1 : vp_in (nI k + 1) L := by rw [show nI k + 1 = nI (k + 1) from nI_add k 1]; exact vp_in_nI (by omega) (by omega)
  have i2 : vp_in (nI k + 2) L := by rw [show nI k + 2 = nI (k + 2) from nI_add k 2]; exact vp_in_nI (by omega) (by omega)
  have i3 : vp_in (nI k + 3) L := by rw [show nI k + 3 = nI (k + 3) from nI_add k 3]; exact vp_in_nI (by omega) (by omega)
  have i4 : vp_in (nI k + 4) L := by rw [show nI k + 4 = nI (k + 4) from nI_add k 4]; exact vp_in_nI (by omega) (by omega)
  obtain ⟨I, A7, L7, A6, L6, rI, rA, tI, tA, dI, dA, wI, wA, uI, uA, aI, aS, aT, eI, eA, sS, sT, bI, hR, hP6, hP7, hD6, hD7, hq, hS⟩ := hI
  obtain ⟨rr, A7', e7, e6, hR2⟩ := r_where 10200 (Nat.le_refl _) hR (xs (nI k + 1).toNatClampNeg) (xs (nI k + 2).toNatClampNeg)
  refine lv_aload_n hx hb dL_law_829 rfl (lv_at hl 1 rfl) ?_
  refine lv_aload_n hx hb dL_law_830 rfl (lv_at hl 0 rfl) ?_
  refine lv_iload_n hx hb dL_law_831 rfl (lv_at hl 3 rfl) ?_
  refine lv_iconst (v := 1) hx hb dL_law_832 (by decide) ?_
  refine lv_iadd hx hb dL_law_833 ?_
  refine va_sld hx hb hX hbl hbA hS i1 dL_law_834 ?_
  refine lv_aload_n hx hb dL_law_835 rfl (lv_at hl 0 rfl) ?_
  refine lv_iload_n hx hb dL_law_836 rfl (lv_at hl 3 rfl) ?_
  refine lv_iconst (v := 2) hx hb dL_law_837 (by decide) ?_
  refine lv_iadd hx hb dL_law_838 ?_
  refine va_sld hx hb hX hbl hbA hS i2 dL_law_839 ?_
  refine x_rdV (rest := []) (C := RX6) (n := 2) (ci := 6) hx hb hml hown hts hE (ct_X6_where 10200 l G cI cZ cO q6 A6 L6 rI rA tI tA dI dA wI wA uI uA aI aS aT eI eA sS sT bI (xs (nI k + 1).toNatClampNeg) (xs (nI k + 2).toNatClampNeg) rr e6) (bg 30 16 rfl) mb_X6_where.1 mb_X6_where.2.1 mb_X6_where.2.2.1 mb_X6_where.2.2.2 hd_X6_where rfl (by decide) hP6 rfl rfl rfl rfl hl.1 (Nat.le_of_ble_eq_true rfl) (by decide) dL_law_840 ?_
  refine lv_aload_n hx hb dL_law_843 rfl (lv_at hl 2 rfl) ?_
  refine lv_aload_n hx hb dL_law_844 rfl (lv_at hl 0 rfl) ?_
  refine lv_iload_n hx hb dL_law_845 rfl (lv_at hl 3 rfl) ?_
  refine lv_iconst (v := 1) hx hb dL_law_846 (by decide) ?_
  refine lv_iadd hx hb dL_law_847 ?_
  refine va_sld hx hb hX hbl hbA hS i1 dL_law_848 ?_
  refine lv_aload_n hx hb dL_law_849 rfl (lv_at hl 0 rfl) ?_
  refine lv_iload_n hx hb dL_law_850 rfl (lv_at hl 3 rfl) ?_
  refine lv_iconst (v := 2) hx hb dL_law_851 (by decide) ?_
  refine lv_iadd hx hb dL_law_852 ?_
  refine va_sld hx hb hX hbl hbA hS i2 dL_law_853 ?_
  refine x_cW (rest := [.int (rr)]) (C := RX7) (n := 2) (ci := 7) hx hb hml hown hts hE (ct_X7_where 10200 l G cI cZ cO q7 I A7 L7 (xs (nI k + 1).toNatClampNeg) (xs (nI k + 2).toNatClampNeg) rr A7' e7) (bg 31 4 rfl) mb_X7_where.1 mb_X7_where.2.1 mb_X7_where.2.2.1 mb_X7_where.2.2.2 hd_X7_where rfl (by decide) hP7 hP6 (ap_of hq (w6_fst _ _ _ _ _ _ _ _ _ _ _ _ _ _ _ _ _ _ _ _ _ _ _ _) (w7_fst _ _ _ _ _ _ _)).sym hD7 hS hA ((w7_fst _ _ _ _ _ _ _).trans (w7_fst _ _ _ _ _ _ _).symm) rfl rfl rfl rfl hl.1 (Nat.le_of_ble_eq_true rfl) (by decide) dL_law_854 (fun H locs hP7 hP6 hD7 hS => ?_)
  refine lv_icmp_eq (tgt := 1199) hx hb dL_law_857 (by decide) (fun _ => ?_) (fun cc => absurd rfl cc)
  exact kk H locs ⟨I, A7', L7, A6, L6, rI, rA, tI, tA, dI, dA, wI, wA, uI, uA, aI, aS, aT, eI, eA, sS, sT, bI, hR2, hP6, hP7, hD6, hD7, hq, hS⟩
theorem lc_22 {p : Program} {l : Launch} {e : Env} {s : State} {m : MethodId} {below : List Frame} {meth : Method} {c : Code} {Q : State → Prop} {b L : Nat} {xs : Nat → Int32} {G : va_G} {cI cZ cO : ClassId} {q6 q7 : Nat → Nat} {k : Nat} {H : Heap} {locs : List Loc} {ls : Array Slot} (C0 : lw_At p s m meth c b L xs) (hE : EnvO G cI cZ cO s) (hk : k + 5 ≤ L) (hL : L ≤ 320) (hI : LI G cI cZ cO s q6 q7 H locs) (hl : lv_has ls 4 [(0, .ref b), (1, .ref (q6 0)), (2, .ref (q7 0)), (3, .int (nI k))])
    (kk : ∀ (H1 : Heap) (locs1 : List Loc), LI G cI cZ cO s q6 q7 H1 locs1 → W p l e room_1 s m #[Value.ref b] below meth c H1 locs1 126 1703 Q (F0 m 1199 ls [])) : W p l e room_1 s m #[Value.ref b] below meth c H locs 126 1703 Q (F0 m 862 ls []) := by
  obtain ⟨hx, hb, hr, hml, hown, hts0, hX, hbl, hlocks, hgv⟩ := C0
  have hts : ∀ w ∈ wsL_law, w.before #[Value.ref b] s = true := fun w h => hts0 w (wsL_law_in w h)
  have hA : ∀ q : Nat, s.heap.size ≤ q → (fun q : Nat => s.heap.size ≤ q) q := fun _ h => h
  have hbA : ¬ (fun q : Nat => s.heap.size ≤ q) b := Nat.not_le.mpr hbl
  have i1 : vp_in (nI k + 1) L := by rw [show nI k + 1 = nI (k + 1) from nI_add k 1]; exact vp_in_nI (by omega) (by omega)
  have i2 : vp_in (nI k + 2) L := by rw [show nI k + 2 = nI (k + 2) from nI_add k 2]; exact vp_in_nI (by omega) (by omega)
  have i3 : vp_in (nI k + 3) L := by rw [show nI k + 3 = nI (k + 3) from nI_add k 3]; exact vp_in_nI (by omega) (by omega)
  have i4 : vp_in (nI k + 4) L := by rw [show nI k + 4 = nI (k + 4) from nI_add k 4]; exact vp_in_nI (by omega) (by omega)
  obtain ⟨I, A7, L7, A6, L6, rI, rA, tI, tA, dI, dA, wI, wA, uI, uA, aI, aS, aT, eI, eA, sS, sT, bI, hR, hP6, hP7, hD6, hD7, hq, hS⟩ := hI
  obtain ⟨rr, A7', e7, e6, hR2⟩ := r_share 10200 (Nat.le_refl _) hR (xs (nI k + 1).toNatClampNeg) (xs (nI k + 2).toNatClampNeg) (xs (nI k + 3).toNatClampNeg) (if xs (nI k + 4).toNatClampNeg = 0 then 0 else 1)
  refine lv_aload_n hx hb dL_law_862 rfl (lv_at hl 1 rfl) ?_
  refine lv_aload_n hx hb dL_law_863 rfl (lv_at hl 0 rfl) ?_
  refine lv_iload_n hx hb dL_law_864 rfl (lv_at hl 3 rfl) ?_
  refine lv_iconst (v := 1) hx hb dL_law_865 (by decide) ?_
  refine lv_iadd hx hb dL_law_866 ?_
  refine va_sld hx hb hX hbl hbA hS i1 dL_law_867 ?_
  refine lv_aload_n hx hb dL_law_868 rfl (lv_at hl 0 rfl) ?_
  refine lv_iload_n hx hb dL_law_869 rfl (lv_at hl 3 rfl) ?_
  refine lv_iconst (v := 2) hx hb dL_law_870 (by decide) ?_
  refine lv_iadd hx hb dL_law_871 ?_
  refine va_sld hx hb hX hbl hbA hS i2 dL_law_872 ?_
  refine lv_aload_n hx hb dL_law_873 rfl (lv_at hl 0 rfl) ?_
  refine lv_iload_n hx hb dL_law_874 rfl (lv_at hl 3 rfl) ?_
  refine lv_iconst (v := 3) hx hb dL_law_875 (by decide) ?_
  refine lv_iadd hx hb dL_law_876 ?_
  refine va_sld hx hb hX hbl hbA hS i3 dL_law_877 ?_
  refine lv_aload_n hx hb dL_law_878 rfl (lv_at hl 0 rfl) ?_
  refine lv_iload_n hx hb dL_law_879 rfl (lv_at hl 3 rfl) ?_
  refine lv_iconst (v := 4) hx hb dL_law_880 (by decide) ?_
  refine lv_iadd hx hb dL_law_881 ?_
  refine va_sld hx hb hX hbl hbA hS i4 dL_law_882 ?_
  refine x_bool hx hb dL_law_883 dL_law_886 dL_law_887 dL_law_890 ?_
  refine x_rdV (rest := []) (C := RX6) (n := 4) (ci := 6) hx hb hml hown hts hE (ct_X6_share 10200 l G cI cZ cO q6 A6 L6 rI rA tI tA dI dA wI wA uI uA aI aS aT eI eA sS sT bI (xs (nI k + 1).toNatClampNeg) (xs (nI k + 2).toNatClampNeg) (xs (nI k + 3).toNatClampNeg) (if xs (nI k + 4).toNatClampNeg = 0 then 0 else 1) rr e6) (bg 31 13 rfl) mb_X6_share.1 mb_X6_share.2.1 mb_X6_share.2.2.1 mb_X6_share.2.2.2 hd_X6_share rfl (by decide) hP6 rfl rfl rfl rfl hl.1 (Nat.le_of_ble_eq_true rfl) (by decide) dL_law_891 ?_
  refine lv_aload_n hx hb dL_law_894 rfl (lv_at hl 2 rfl) ?_
  refine lv_aload_n hx hb dL_law_895 rfl (lv_at hl 0 rfl) ?_
  refine lv_iload_n hx hb dL_law_896 rfl (lv_at hl 3 rfl) ?_
  refine lv_iconst (v := 1) hx hb dL_law_897 (by decide) ?_
  refine lv_iadd hx hb dL_law_898 ?_
  refine va_sld hx hb hX hbl hbA hS i1 dL_law_899 ?_
  refine lv_aload_n hx hb dL_law_900 rfl (lv_at hl 0 rfl) ?_
  refine lv_iload_n hx hb dL_law_901 rfl (lv_at hl 3 rfl) ?_
  refine lv_iconst (v := 2) hx hb dL_law_902 (by decide) ?_
  refine lv_iadd hx hb dL_law_903 ?_
  refine va_sld hx hb hX hbl hbA hS i2 dL_law_904 ?_
  refine lv_aload_n hx hb dL_law_905 rfl (lv_at hl 0 rfl) ?_
  refine lv_iload_n hx hb dL_law_906 rfl (lv_at hl 3 rfl) ?_
  refine lv_iconst (v := 3) hx hb dL_law_907 (by decide) ?_
  refine lv_iadd hx hb dL_law_908 ?_
  refine va_sld hx hb hX hbl hbA hS i3 dL_law_909 ?_
  refine lv_aload_n hx hb dL_law_910 rfl (lv_at hl 0 rfl) ?_
  refine lv_iload_n hx hb dL_law_911 rfl (lv_at hl 3 rfl) ?_
  refine lv_iconst (v := 4) hx hb dL_law_912 (by decide) ?_
  refine lv_iadd hx hb dL_law_913 ?_
  refine va_sld hx hb hX hbl hbA hS i4 dL_law_914 ?_
  refine x_bool hx hb dL_law_915 dL_law_918 dL_law_919 dL_law_922 ?_
  refine x_cW (rest := [.int (rr)]) (C := RX7) (n := 4) (ci := 7) hx hb hml hown hts hE (ct_X7_share 10200 l G cI cZ cO q7 I A7 L7 (xs (nI k + 1).toNatClampNeg) (xs (nI k + 2).toNatClampNeg) (xs (nI k + 3).toNatClampNeg) (if xs (nI k + 4).toNatClampNeg = 0 then 0 else 1) rr A7' e7) (bg 32 5 rfl) mb_X7_share.1 mb_X7_share.2.1 mb_X7_share.2.2.1 mb_X7_share.2.2.2 hd_X7_share rfl (by decide) hP7 hP6 (ap_of hq (w6_fst _ _ _ _ _ _ _ _ _ _ _ _ _ _ _ _ _ _ _ _ _ _ _ _) (w7_fst _ _ _ _ _ _ _)).sym hD7 hS hA ((w7_fst _ _ _ _ _ _ _).trans (w7_fst _ _ _ _ _ _ _).symm) rfl rfl rfl rfl hl.1 (Nat.le_of_ble_eq_true rfl) (by decide) dL_law_923 (fun H locs hP7 hP6 hD7 hS => ?_)
  refine lv_icmp_eq (tgt := 1199) hx hb dL_law_926 (by decide) (fun _ => ?_) (fun cc => absurd rfl cc)
  exact kk H locs ⟨I, A7', L7, A6, L6, rI, rA, tI, tA, dI, dA, wI, wA, uI, uA, aI, aS, aT, eI, eA, sS, sT, bI, hR2, hP6, hP7, hD6, hD7, hq, hS⟩
theorem lc_23 {p : Program} {l : Launch} {e : Env} {s : State} {m : MethodId} {below : List Frame} {meth : Method} {c : Code} {Q : State → Prop} {b L : Nat} {xs : Nat → Int32} {G : va_G} {cI cZ cO : ClassId} {q6 q7 : Nat → Nat} {k : Nat} {H : Heap} {locs : List Loc} {ls : Array Slot} (C0 : lw_At p s m meth c b L xs) (hE : EnvO G cI cZ cO s) (hk : k + 5 ≤ L) (hL : L ≤ 320) (hI : LI G cI cZ cO s q6 q7 H locs) (hl : lv_has ls 4 [(0, .ref b), (1, .ref (q6 0)), (2, .ref (q7 0)), (3, .int (nI k))])
    (kk : ∀ (H1 : Heap) (locs1 : List Loc), LI G cI cZ cO s q6 q7 H1 locs1 → W p l e room_1 s m #[Value.ref b] below meth c H1 locs1 126 1703 Q (F0 m 1199 ls [])) : W p l e room_1 s m #[Value.ref b] below meth c H locs 126 1703 Q (F0 m 931 ls []) := by
  obtain ⟨hx, hb, hr, hml, hown, hts0, hX, hbl, hlocks, hgv⟩ := C0
  have hts : ∀ w ∈ wsL_law, w.before #[Value.ref b] s = true := fun w h => hts0 w (wsL_law_in w h)
  have hA : ∀ q : Nat, s.heap.size ≤ q → (fun q : Nat => s.heap.size ≤ q) q := fun _ h => h
  have hbA : ¬ (fun q : Nat => s.heap.size ≤ q) b := Nat.not_le.mpr hbl
  have i1 : vp_in (nI k + 1) L := by rw [show nI k + 1 = nI (k + 1) from nI_add k 1]; exact vp_in_nI (by omega) (by omega)
  have i2 : vp_in (nI k + 2) L := by rw [show nI k + 2 = nI (k + 2) from nI_add k 2]; exact vp_in_nI (by omega) (by omega)
  have i3 : vp_in (nI k + 3) L := by rw [show nI k + 3 = nI (k + 3) from nI_add k 3]; exact vp_in_nI (by omega) (by omega)
  have i4 : vp_in (nI k + 4) L := by rw [show nI k + 4 = nI (k + 4) from nI_add k 4]; exact vp_in_nI (by omega) (by omega)
  obtain ⟨I, A7, L7, A6, L6, rI, rA, tI, tA, dI, dA, wI, wA, uI, uA, aI, aS, aT, eI, eA, sS, sT, bI, hR, hP6, hP7, hD6, hD7, hq, hS⟩ := hI
  obtain ⟨rr, A7', A6', e7, e6, hR2⟩ := r_rests 10200 (Nat.le_refl _) hR (xs (nI k + 1).toNatClampNeg) (xs (nI k + 2).toNatClampNeg) (xs (nI k + 3).toNatClampNeg) (xs (nI k + 4).toNatClampNeg)
  refine lv_aload_n hx hb dL_law_931 rfl (lv_at hl 1 rfl) ?_
  refine lv_aload_n hx hb dL_law_932 rfl (lv_at hl 0 rfl) ?_
  refine lv_iload_n hx hb dL_law_933 rfl (lv_at hl 3 rfl) ?_
  refine lv_iconst (v := 1) hx hb dL_law_934 (by decide) ?_
  refine lv_iadd hx hb dL_law_935 ?_
  refine va_sld hx hb hX hbl hbA hS i1 dL_law_936 ?_
  refine lv_aload_n hx hb dL_law_937 rfl (lv_at hl 0 rfl) ?_
  refine lv_iload_n hx hb dL_law_938 rfl (lv_at hl 3 rfl) ?_
  refine lv_iconst (v := 2) hx hb dL_law_939 (by decide) ?_
  refine lv_iadd hx hb dL_law_940 ?_
  refine va_sld hx hb hX hbl hbA hS i2 dL_law_941 ?_
  refine lv_aload_n hx hb dL_law_942 rfl (lv_at hl 0 rfl) ?_
  refine lv_iload_n hx hb dL_law_943 rfl (lv_at hl 3 rfl) ?_
  refine lv_iconst (v := 3) hx hb dL_law_944 (by decide) ?_
  refine lv_iadd hx hb dL_law_945 ?_
  refine va_sld hx hb hX hbl hbA hS i3 dL_law_946 ?_
  refine lv_aload_n hx hb dL_law_947 rfl (lv_at hl 0 rfl) ?_
  refine lv_iload_n hx hb dL_law_948 rfl (lv_at hl 3 rfl) ?_
  refine lv_iconst (v := 4) hx hb dL_law_949 (by decide) ?_
  refine lv_iadd hx hb dL_law_950 ?_
  refine va_sld hx hb hX hbl hbA hS i4 dL_law_951 ?_
  refine x_cW (rest := []) (C := RX6) (n := 4) (ci := 6) hx hb hml hown hts hE (ct_X6_rests 10200 l G cI cZ cO q6 A6 L6 rI rA tI tA dI dA wI wA uI uA aI aS aT eI eA sS sT bI (xs (nI k + 1).toNatClampNeg) (xs (nI k + 2).toNatClampNeg) (xs (nI k + 3).toNatClampNeg) (xs (nI k + 4).toNatClampNeg) rr A6' e6) (bg 32 19 rfl) mb_X6_rests.1 mb_X6_rests.2.1 mb_X6_rests.2.2.1 mb_X6_rests.2.2.2 hd_X6_rests rfl (by decide) hP6 hP7 (ap_of hq (w6_fst _ _ _ _ _ _ _ _ _ _ _ _ _ _ _ _ _ _ _ _ _ _ _ _) (w7_fst _ _ _ _ _ _ _)) hD6 hS hA ((w6_fst _ _ _ _ _ _ _ _ _ _ _ _ _ _ _ _ _ _ _ _ _ _ _ _).trans (w6_fst _ _ _ _ _ _ _ _ _ _ _ _ _ _ _ _ _ _ _ _ _ _ _ _).symm) rfl rfl rfl rfl hl.1 (Nat.le_of_ble_eq_true rfl) (by decide) dL_law_952 (fun H locs hP6 hP7 hD6 hS => ?_)
  refine lv_aload_n hx hb dL_law_955 rfl (lv_at hl 2 rfl) ?_
  refine lv_aload_n hx hb dL_law_956 rfl (lv_at hl 0 rfl) ?_
  refine lv_iload_n hx hb dL_law_957 rfl (lv_at hl 3 rfl) ?_
  refine lv_iconst (v := 1) hx hb dL_law_958 (by decide) ?_
  refine lv_iadd hx hb dL_law_959 ?_
  refine va_sld hx hb hX hbl hbA hS i1 dL_law_960 ?_
  refine lv_aload_n hx hb dL_law_961 rfl (lv_at hl 0 rfl) ?_
  refine lv_iload_n hx hb dL_law_962 rfl (lv_at hl 3 rfl) ?_
  refine lv_iconst (v := 2) hx hb dL_law_963 (by decide) ?_
  refine lv_iadd hx hb dL_law_964 ?_
  refine va_sld hx hb hX hbl hbA hS i2 dL_law_965 ?_
  refine lv_aload_n hx hb dL_law_966 rfl (lv_at hl 0 rfl) ?_
  refine lv_iload_n hx hb dL_law_967 rfl (lv_at hl 3 rfl) ?_
  refine lv_iconst (v := 3) hx hb dL_law_968 (by decide) ?_
  refine lv_iadd hx hb dL_law_969 ?_
  refine va_sld hx hb hX hbl hbA hS i3 dL_law_970 ?_
  refine lv_aload_n hx hb dL_law_971 rfl (lv_at hl 0 rfl) ?_
  refine lv_iload_n hx hb dL_law_972 rfl (lv_at hl 3 rfl) ?_
  refine lv_iconst (v := 4) hx hb dL_law_973 (by decide) ?_
  refine lv_iadd hx hb dL_law_974 ?_
  refine va_sld hx hb hX hbl hbA hS i4 dL_law_975 ?_
  refine x_cW (rest := [.int (rr)]) (C := RX7) (n := 4) (ci := 7) hx hb hml hown hts hE (ct_X7_rests 10200 l G cI cZ cO q7 I A7 L7 (xs (nI k + 1).toNatClampNeg) (xs (nI k + 2).toNatClampNeg) (xs (nI k + 3).toNatClampNeg) (xs (nI k + 4).toNatClampNeg) rr A7' e7) (bg 33 14 rfl) mb_X7_rests.1 mb_X7_rests.2.1 mb_X7_rests.2.2.1 mb_X7_rests.2.2.2 hd_X7_rests rfl (by decide) hP7 hP6 (ap_of hq (w6_fst _ _ _ _ _ _ _ _ _ _ _ _ _ _ _ _ _ _ _ _ _ _ _ _) (w7_fst _ _ _ _ _ _ _)).sym hD7 hS hA ((w7_fst _ _ _ _ _ _ _).trans (w7_fst _ _ _ _ _ _ _).symm) rfl rfl rfl rfl hl.1 (Nat.le_of_ble_eq_true rfl) (by decide) dL_law_976 (fun H locs hP7 hP6 hD7 hS => ?_)
  refine lv_icmp_eq (tgt := 1199) hx hb dL_law_979 (by decide) (fun _ => ?_) (fun cc => absurd rfl cc)
  exact kk H locs ⟨I, A7', L7, A6', L6, rI, rA, tI, tA, dI, dA, wI, wA, uI, uA, aI, aS, aT, eI, eA, sS, sT, bI, hR2, hP6, hP7, hD6, hD7, hq, hS⟩
