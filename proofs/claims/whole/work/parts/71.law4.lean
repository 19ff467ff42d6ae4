theorem lc_24 {p : Program} {l : Launch} {e : Env} {s : State} {m : MethodId} {below : List Frame} {meth : Method} {c : Code} {Q : State → Prop} {b L : Nat} {xs : Nat → Int32} {G : va_G} {cI cZ cO : ClassId} {q6 q7 : Nat → Nat} {k : Nat} {H : Heap} {locs : List Loc} {ls : Array Slot} (C0 : lw_At p s m meth c b L xs) (hE : EnvO G cI cZ cO s) (hk : k + 5 ≤ L) (hL : L ≤ 320) (hI : LI G cI cZ cO s q6 q7 H locs) (hl : lv_has ls 4 [(0, .ref b), (1, .ref (q6 0)), (2, .ref (q7 0)), (3, .int (nI k))])
    (kk : ∀ (H1 : Heap) (locs1 : List Loc), LI G cI cZ cO s q6 q7 H1 locs1 → W p l e room_1 s m #[Value.ref b] below meth c H1 locs1 126 1703 Q (F0 m 1199 ls [])) : W p l e room_1 s m #[Value.ref b] below meth c H locs 126 1703 Q (F0 m 984 ls []) := by
  obtain ⟨hx, hb, hr, hml, hown, hts0, hX, hbl, hlocks, hgv⟩ := C0
  have hts : ∀ w ∈ wsL_law, w.before #[Value.ref b] s = true := fun w h => hts0 w (wsL_law_in w h)
  have hA : ∀ q : Nat, s.heap.size ≤ q → (fun q : Nat => s.heap.size ≤ q) q := fun _ h => h
  have hbA : ¬ (fun q : Nat => s.heap.size ≤ q) b := Nat.not_le.mpr hbl
  have i1 : vp_in (nI k + 1) L := by rw [show nI k + 1 = nI (k + 1) from nI_add k 1]; exact vp_in_nI (by omega) (by omega)
  have i2 : vp_in (nI k + 2) L := by rw [show nI k + 2 = nI (k + 2) from nI_add k 2]; exact vp_in_nI (by omega) (by omega)
  have i3 : vp_in (nI k + 3) L := by rw [show nI k + 3 = nI (k + 3) from nI_add k 3]; exact vp_in_nI (by omega) (by omega)
  have i4 : vp_in (nI k + 4) L := by rw [show nI k + 4 = nI (k + 4) from nI_add k 4]; exact vp_in_nI (by omega) (by omega)
  obtain ⟨I, A7, L7, A6, L6, rI, rA, tI, tA, dI, dA, wI, wA, uI, uA, aI, aS, aT, eI, eA, sS, sT, bI, hR, hP6, hP7, hD6, hD7, hq, hS⟩ := hI
  obtain ⟨rr, A7', e7, e6, hR2⟩ := r_chance 10200 (Nat.le_refl _) hR (xs (nI k + 1).toNatClampNeg) (xs (nI k + 2).toNatClampNeg) (xs (nI k + 3).toNatClampNeg) (if xs (nI k + 4).toNatClampNeg = 0 then 0 else 1)
  refine lv_aload_n hx hb dL_law_984 rfl (lv_at hl 1 rfl) ?_
  refine lv_aload_n hx hb dL_law_985 rfl (lv_at hl 0 rfl) ?_
  refine lv_iload_n hx hb dL_law_986 rfl (lv_at hl 3 rfl) ?_
  refine lv_iconst (v := 1) hx hb dL_law_987 (by decide) ?_
  refine lv_iadd hx hb dL_law_988 ?_
  refine va_sld hx hb hX hbl hbA hS i1 dL_law_989 ?_
  refine lv_aload_n hx hb dL_law_990 rfl (lv_at hl 0 rfl) ?_
  refine lv_iload_n hx hb dL_law_991 rfl (lv_at hl 3 rfl) ?_
  refine lv_iconst (v := 2) hx hb dL_law_992 (by decide) ?_
  refine lv_iadd hx hb dL_law_993 ?_
  refine va_sld hx hb hX hbl hbA hS i2 dL_law_994 ?_
  refine lv_aload_n hx hb dL_law_995 rfl (lv_at hl 0 rfl) ?_
  refine lv_iload_n hx hb dL_law_996 rfl (lv_at hl 3 rfl) ?_
  refine lv_iconst (v := 3) hx hb dL_law_997 (by decide) ?_
  refine lv_iadd hx hb dL_law_998 ?_
  refine va_sld hx hb hX hbl hbA hS i3 dL_law_999 ?_
  refine lv_aload_n hx hb dL_law_1000 rfl (lv_at hl 0 rfl) ?_
  refine lv_iload_n hx hb dL_law_1001 rfl (lv_at hl 3 rfl) ?_
  refine lv_iconst (v := 4) hx hb dL_law_1002 (by decide) ?_
  refine lv_iadd hx hb dL_law_1003 ?_
  refine va_sld hx hb hX hbl hbA hS i4 dL_law_1004 ?_
  refine x_bool hx hb dL_law_1005 dL_law_1008 dL_law_1009 dL_law_1012 ?_
  refine x_rdV (rest := []) (C := RX6) (n := 4) (ci := 6) hx hb hml hown hts hE (ct_X6_chance 10200 l G cI cZ cO q6 A6 L6 rI rA tI tA dI dA wI wA uI uA aI aS aT eI eA sS sT bI (xs (nI k + 1).toNatClampNeg) (xs (nI k + 2).toNatClampNeg) (xs (nI k + 3).toNatClampNeg) (if xs (nI k + 4).toNatClampNeg = 0 then 0 else 1) rr e6) (bg 34 6 rfl) mb_X6_chance.1 mb_X6_chance.2.1 mb_X6_chance.2.2.1 mb_X6_chance.2.2.2 hd_X6_chance rfl (by decide) hP6 rfl rfl rfl rfl hl.1 (Nat.le_of_ble_eq_true rfl) (by decide) dL_law_1013 ?_
  refine lv_aload_n hx hb dL_law_1016 rfl (lv_at hl 2 rfl) ?_
  refine lv_aload_n hx hb dL_law_1017 rfl (lv_at hl 0 rfl) ?_
  refine lv_iload_n hx hb dL_law_1018 rfl (lv_at hl 3 rfl) ?_
  refine lv_iconst (v := 1) hx hb dL_law_1019 (by decide) ?_
  refine lv_iadd hx hb dL_law_1020 ?_
  refine va_sld hx hb hX hbl hbA hS i1 dL_law_1021 ?_
  refine lv_aload_n hx hb dL_law_1022 rfl (lv_at hl 0 rfl) ?_
  refine lv_iload_n hx hb dL_law_1023 rfl (lv_at hl 3 rfl) ?_
  refine lv_iconst (v := 2) hx hb dL_law_1024 (by decide) ?_
  refine lv_iadd hx hb dL_law_1025 ?_
  refine va_sld hx hb hX hbl hbA hS i2 dL_law_1026 ?_
  refine lv_aload_n hx hb dL_law_1027 rfl (lv_at hl 0 rfl) ?_
  refine lv_iload_n hx hb dL_law_1028 rfl (lv_at hl 3 rfl) ?_
  refine lv_iconst (v := 3) hx hb dL_law_1029 (by decide) ?_
  refine lv_iadd hx hb dL_law_1030 ?_
  refine va_sld hx hb hX hbl hbA hS i3 dL_law_1031 ?_
  refine lv_aload_n hx hb dL_law_1032 rfl (lv_at hl 0 rfl) ?_
  refine lv_iload_n hx hb dL_law_1033 rfl (lv_at hl 3 rfl) ?_
  refine lv_iconst (v := 4) hx hb dL_law_1034 (by decide) ?_
  refine lv_iadd hx hb dL_law_1035 ?_
  refine va_sld hx hb hX hbl hbA hS i4 dL_law_1036 ?_
  refine x_bool hx hb dL_law_1037 dL_law_1040 dL_law_1041 dL_law_1044 ?_
  refine x_cW (rest := [.int (rr)]) (C := RX7) (n := 4) (ci := 7) hx hb hml hown hts hE (ct_X7_chance 10200 l G cI cZ cO q7 I A7 L7 (xs (nI k + 1).toNatClampNeg) (xs (nI k + 2).toNatClampNeg) (xs (nI k + 3).toNatClampNeg) (if xs (nI k + 4).toNatClampNeg = 0 then 0 else 1) rr A7' e7) (bg 34 18 rfl) mb_X7_chance.1 mb_X7_chance.2.1 mb_X7_chance.2.2.1 mb_X7_chance.2.2.2 hd_X7_chance rfl (by decide) hP7 hP6 (ap_of hq (w6_fst _ _ _ _ _ _ _ _ _ _ _ _ _ _ _ _ _ _ _ _ _ _ _ _) (w7_fst _ _ _ _ _ _ _)).sym hD7 hS hA ((w7_fst _ _ _ _ _ _ _).trans (w7_fst _ _ _ _ _ _ _).symm) rfl rfl rfl rfl hl.1 (Nat.le_of_ble_eq_true rfl) (by decide) dL_law_1045 (fun H locs hP7 hP6 hD7 hS => ?_)
  refine lv_icmp_eq (tgt := 1199) hx hb dL_law_1048 (by decide) (fun _ => ?_) (fun cc => absurd rfl cc)
  exact kk H locs ⟨I, A7', L7, A6, L6, rI, rA, tI, tA, dI, dA, wI, wA, uI, uA, aI, aS, aT, eI, eA, sS, sT, bI, hR2, hP6, hP7, hD6, hD7, hq, hS⟩
theorem lc_25 {p : Program} {l : Launch} {e : Env} {s : State} {m : MethodId} {below : List Frame} {meth : Method} {c : Code} {Q : State → Prop} {b L : Nat} {xs : Nat → Int32} {G : va_G} {cI cZ cO : ClassId} {q6 q7 : Nat → Nat} {k : Nat} {H : Heap} {locs : List Loc} {ls : Array Slot} (C0 : lw_At p s m meth c b L xs) (hE : EnvO G cI cZ cO s) (hk : k + 5 ≤ L) (hL : L ≤ 320) (hI : LI G cI cZ cO s q6 q7 H locs) (hl : lv_has ls 4 [(0, .ref b), (1, .ref (q6 0)), (2, .ref (q7 0)), (3, .int (nI k))])
    (kk : ∀ (H1 : Heap) (locs1 : List Loc), LI G cI cZ cO s q6 q7 H1 locs1 → W p l e room_1 s m #[Value.ref b] below meth c H1 locs1 126 1703 Q (F0 m 1199 ls [])) : W p l e room_1 s m #[Value.ref b] below meth c H locs 126 1703 Q (F0 m 1053 ls []) := by
  obtain ⟨hx, hb, hr, hml, hown, hts0, hX, hbl, hlocks, hgv⟩ := C0
  have hts : ∀ w ∈ wsL_law, w.before #[Value.ref b] s = true := fun w h => hts0 w (wsL_law_in w h)
  have hA : ∀ q : Nat, s.heap.size ≤ q → (fun q : Nat => s.heap.size ≤ q) q := fun _ h => h
  have hbA : ¬ (fun q : Nat => s.heap.size ≤ q) b := Nat.not_le.mpr hbl
  have i1 : vp_in (nI k + 1) L := by rw [show nI k + 1 = nI (k + 1) from nI_add k 1]; exact vp_in_nI (by omega) (by omega)
  have i2 : vp_in (nI k + 2) L := by rw [show nI k + 2 = nI (k + 2) from nI_add k 2]; exact vp_in_nI (by omega) (by omega)
  have i3 : vp_in (nI k + 3) L := by rw [show nI k + 3 = nI (k + 3) from nI_add k 3]; exact vp_in_nI (by omega) (by omega)
  have i4 : vp_in (nI k + 4) L := by rw [show nI k + 4 = nI (k + 4) from nI_add k 4]; exact vp_in_nI (by omega) (by omega)
  obtain ⟨I, A7, L7, A6, L6, rI, rA, tI, tA, dI, dA, wI, wA, uI, uA, aI, aS, aT, eI, eA, sS, sT, bI, hR, hP6, hP7, hD6, hD7, hq, hS⟩ := hI
  obtain ⟨rr, L7', L6', e7, e6, hR2⟩ := r_seed 10200 (Nat.le_refl _) hR ((shlL (Int32.toInt64 (xs (nI k + 1).toNatClampNeg)) 32) ||| ((Int32.toInt64 (xs (nI k + 2).toNatClampNeg)) &&& (4294967295)))
  refine lv_aload_n hx hb dL_law_1053 rfl (lv_at hl 1 rfl) ?_
  refine lv_aload_n hx hb dL_law_1054 rfl (lv_at hl 0 rfl) ?_
  refine lv_iload_n hx hb dL_law_1055 rfl (lv_at hl 3 rfl) ?_
  refine lv_iconst (v := 1) hx hb dL_law_1056 (by decide) ?_
  refine lv_iadd hx hb dL_law_1057 ?_
  refine va_sld hx hb hX hbl hbA hS i1 dL_law_1058 ?_
  refine lv_i2l (v := Int32.toInt64 (xs (nI k + 1).toNatClampNeg)) hx hb dL_law_1059 rfl ?_
  refine lv_bipush (v := 32) hx hb dL_law_1060 (by decide) ?_
  refine lv_lshl (v := shlL (Int32.toInt64 (xs (nI k + 1).toNatClampNeg)) 32) hx hb dL_law_1062 rfl ?_
  refine lv_aload_n hx hb dL_law_1063 rfl (lv_at hl 0 rfl) ?_
  refine lv_iload_n hx hb dL_law_1064 rfl (lv_at hl 3 rfl) ?_
  refine lv_iconst (v := 2) hx hb dL_law_1065 (by decide) ?_
  refine lv_iadd hx hb dL_law_1066 ?_
  refine va_sld hx hb hX hbl hbA hS i2 dL_law_1067 ?_
  refine lv_i2l (v := Int32.toInt64 (xs (nI k + 2).toNatClampNeg)) hx hb dL_law_1068 rfl ?_
  refine lv_ldc2 hx hb hown (hts _ (bg 0 6 rfl)) dL_law_1069 ?_
  refine lv_land hx hb dL_law_1072 ?_
  refine lv_lor hx hb dL_law_1073 ?_
  refine x_cWL (rest := []) (C := RX6) (n := 1) (ci := 6) hx hb hml hown hts hE (ct_X6_seed 10200 l G cI cZ cO q6 A6 L6 rI rA tI tA dI dA wI wA uI uA aI aS aT eI eA sS sT bI ((shlL (Int32.toInt64 (xs (nI k + 1).toNatClampNeg)) 32) ||| ((Int32.toInt64 (xs (nI k + 2).toNatClampNeg)) &&& (4294967295))) rr L6' e6) (bg 34 23 rfl) mb_X6_seed.1 mb_X6_seed.2.1 mb_X6_seed.2.2.1 mb_X6_seed.2.2.2 hd_X6_seed rfl (by decide) hP6 hP7 (ap_of hq (w6_fst _ _ _ _ _ _ _ _ _ _ _ _ _ _ _ _ _ _ _ _ _ _ _ _) (w7_fst _ _ _ _ _ _ _)) hD6 hS hA ((w6_fst _ _ _ _ _ _ _ _ _ _ _ _ _ _ _ _ _ _ _ _ _ _ _ _).trans (w6_fst _ _ _ _ _ _ _ _ _ _ _ _ _ _ _ _ _ _ _ _ _ _ _ _).symm) rfl rfl rfl rfl hl.1 (Nat.le_of_ble_eq_true rfl) (by decide) dL_law_1074 (fun H locs hP6 hP7 hD6 hS => ?_)
  refine lv_aload_n hx hb dL_law_1077 rfl (lv_at hl 2 rfl) ?_
  refine lv_aload_n hx hb dL_law_1078 rfl (lv_at hl 0 rfl) ?_
  refine lv_iload_n hx hb dL_law_1079 rfl (lv_at hl 3 rfl) ?_
  refine lv_iconst (v := 1) hx hb dL_law_1080 (by decide) ?_
  refine lv_iadd hx hb dL_law_1081 ?_
  refine va_sld hx hb hX hbl hbA hS i1 dL_law_1082 ?_
  refine lv_i2l (v := Int32.toInt64 (xs (nI k + 1).toNatClampNeg)) hx hb dL_law_1083 rfl ?_
  refine lv_bipush (v := 32) hx hb dL_law_1084 (by decide) ?_
  refine lv_lshl (v := shlL (Int32.toInt64 (xs (nI k + 1).toNatClampNeg)) 32) hx hb dL_law_1086 rfl ?_
  refine lv_aload_n hx hb dL_law_1087 rfl (lv_at hl 0 rfl) ?_
  refine lv_iload_n hx hb dL_law_1088 rfl (lv_at hl 3 rfl) ?_
  refine lv_iconst (v := 2) hx hb dL_law_1089 (by decide) ?_
  refine lv_iadd hx hb dL_law_1090 ?_
  refine va_sld hx hb hX hbl hbA hS i2 dL_law_1091 ?_
  refine lv_i2l (v := Int32.toInt64 (xs (nI k + 2).toNatClampNeg)) hx hb dL_law_1092 rfl ?_
  refine lv_ldc2 hx hb hown (hts _ (bg 0 6 rfl)) dL_law_1093 ?_
  refine lv_land hx hb dL_law_1096 ?_
  refine lv_lor hx hb dL_law_1097 ?_
  refine x_cWL (rest := [.long (rr)]) (C := RX7) (n := 1) (ci := 7) hx hb hml hown hts hE (ct_X7_seed 10200 l G cI cZ cO q7 I A7 L7 ((shlL (Int32.toInt64 (xs (nI k + 1).toNatClampNeg)) 32) ||| ((Int32.toInt64 (xs (nI k + 2).toNatClampNeg)) &&& (4294967295))) rr L7' e7) (bg 35 4 rfl) mb_X7_seed.1 mb_X7_seed.2.1 mb_X7_seed.2.2.1 mb_X7_seed.2.2.2 hd_X7_seed rfl (by decide) hP7 hP6 (ap_of hq (w6_fst _ _ _ _ _ _ _ _ _ _ _ _ _ _ _ _ _ _ _ _ _ _ _ _) (w7_fst _ _ _ _ _ _ _)).sym hD7 hS hA ((w7_fst _ _ _ _ _ _ _).trans (w7_fst _ _ _ _ _ _ _).symm) rfl rfl rfl rfl hl.1 (Nat.le_of_ble_eq_true rfl) (by decide) dL_law_1098 (fun H locs hP7 hP6 hD7 hS => ?_)
  refine W.lcmp hx hb dL_law_1101 ?_
  refine lv_if_eq (tgt := 1199) hx hb dL_law_1102 (by decide) (fun _ => ?_) (fun cc => absurd (lg_self rr) cc)
  exact kk H locs ⟨I, A7, L7', A6, L6', rI, rA, tI, tA, dI, dA, wI, wA, uI, uA, aI, aS, aT, eI, eA, sS, sT, bI, hR2, hP6, hP7, hD6, hD7, hq, hS⟩
theorem lc_26 {p : Program} {l : Launch} {e : Env} {s : State} {m : MethodId} {below : List Frame} {meth : Method} {c : Code} {Q : State → Prop} {b L : Nat} {xs : Nat → Int32} {G : va_G} {cI cZ cO : ClassId} {q6 q7 : Nat → Nat} {k : Nat} {H : Heap} {locs : List Loc} {ls : Array Slot} (C0 : lw_At p s m meth c b L xs) (hE : EnvO G cI cZ cO s) (hk : k + 5 ≤ L) (hL : L ≤ 320) (hI : LI G cI cZ cO s q6 q7 H locs) (hl : lv_has ls 4 [(0, .ref b), (1, .ref (q6 0)), (2, .ref (q7 0)), (3, .int (nI k))])
    (kk : ∀ (H1 : Heap) (locs1 : List Loc), LI G cI cZ cO s q6 q7 H1 locs1 → W p l e room_1 s m #[Value.ref b] below meth c H1 locs1 126 1703 Q (F0 m 1199 ls [])) : W p l e room_1 s m #[Value.ref b] below meth c H locs 126 1703 Q (F0 m 1107 ls []) := by
  obtain ⟨hx, hb, hr, hml, hown, hts0, hX, hbl, hlocks, hgv⟩ := C0
  have hts : ∀ w ∈ wsL_law, w.before #[Value.ref b] s = true := fun w h => hts0 w (wsL_law_in w h)
  have hA : ∀ q : Nat, s.heap.size ≤ q → (fun q : Nat => s.heap.size ≤ q) q := fun _ h => h
  have hbA : ¬ (fun q : Nat => s.heap.size ≤ q) b := Nat.not_le.mpr hbl
  have i1 : vp_in (nI k + 1) L := by rw [show nI k + 1 = nI (k + 1) from nI_add k 1]; exact vp_in_nI (by omega) (by omega)
  have i2 : vp_in (nI k + 2) L := by rw [show nI k + 2 = nI (k + 2) from nI_add k 2]; exact vp_in_nI (by omega) (by omega)
  have i3 : vp_in (nI k + 3) L := by rw [show nI k + 3 = nI (k + 3) from nI_add k 3]; exact vp_in_nI (by omega) (by omega)
  have i4 : vp_in (nI k + 4) L := by rw [show nI k + 4 = nI (k + 4) from nI_add k 4]; exact vp_in_nI (by omega) (by omega)
  obtain ⟨I, A7, L7, A6, L6, rI, rA, tI, tA, dI, dA, wI, wA, uI, uA, aI, aS, aT, eI, eA, sS, sT, bI, hR, hP6, hP7, hD6, hD7, hq, hS⟩ := hI
  obtain ⟨rr, A7', L7', L6', uI', uA', e7, e6, hR2⟩ := r_weeks 10200 (Nat.le_refl _) hR uI uA (xs (nI k + 1).toNatClampNeg)
  refine lv_aload_n hx hb dL_law_1107 rfl (lv_at hl 1 rfl) ?_
  refine lv_aload_n hx hb dL_law_1108 rfl (lv_at hl 0 rfl) ?_
  refine lv_iload_n hx hb dL_law_1109 rfl (lv_at hl 3 rfl) ?_
  refine lv_iconst (v := 1) hx hb dL_law_1110 (by decide) ?_
  refine lv_iadd hx hb dL_law_1111 ?_
  refine va_sld hx hb hX hbl hbA hS i1 dL_law_1112 ?_
  refine x_cW (rest := []) (C := RX6) (n := 1) (ci := 6) hx hb hml hown hts hE (ct_X6_weeks 10200 l G cI cZ cO q6 A6 L6 rI rA tI tA dI dA wI wA uI uA aI aS aT eI eA sS sT bI (xs (nI k + 1).toNatClampNeg) rr L6' uI' uA' e6) (bg 35 9 rfl) mb_X6_weeks.1 mb_X6_weeks.2.1 mb_X6_weeks.2.2.1 mb_X6_weeks.2.2.2 hd_X6_weeks rfl (by decide) hP6 hP7 (ap_of hq (w6_fst _ _ _ _ _ _ _ _ _ _ _ _ _ _ _ _ _ _ _ _ _ _ _ _) (w7_fst _ _ _ _ _ _ _)) hD6 hS hA ((w6_fst _ _ _ _ _ _ _ _ _ _ _ _ _ _ _ _ _ _ _ _ _ _ _ _).trans (w6_fst _ _ _ _ _ _ _ _ _ _ _ _ _ _ _ _ _ _ _ _ _ _ _ _).symm) rfl rfl rfl rfl hl.1 (Nat.le_of_ble_eq_true rfl) (by decide) dL_law_1113 (fun H locs hP6 hP7 hD6 hS => ?_)
  refine lv_aload_n hx hb dL_law_1116 rfl (lv_at hl 2 rfl) ?_
  refine lv_aload_n hx hb dL_law_1117 rfl (lv_at hl 0 rfl) ?_
  refine lv_iload_n hx hb dL_law_1118 rfl (lv_at hl 3 rfl) ?_
  refine lv_iconst (v := 1) hx hb dL_law_1119 (by decide) ?_
  refine lv_iadd hx hb dL_law_1120 ?_
  refine va_sld hx hb hX hbl hbA hS i1 dL_law_1121 ?_
  refine x_cW (rest := [.int (rr)]) (C := RX7) (n := 1) (ci := 7) hx hb hml hown hts hE (ct_X7_weeks 10200 l G cI cZ cO q7 I A7 L7 (xs (nI k + 1).toNatClampNeg) rr A7' L7' e7) (bg 35 20 rfl) mb_X7_weeks.1 mb_X7_weeks.2.1 mb_X7_weeks.2.2.1 mb_X7_weeks.2.2.2 hd_X7_weeks rfl (by decide) hP7 hP6 (ap_of hq (w6_fst _ _ _ _ _ _ _ _ _ _ _ _ _ _ _ _ _ _ _ _ _ _ _ _) (w7_fst _ _ _ _ _ _ _)).sym hD7 hS hA ((w7_fst _ _ _ _ _ _ _).trans (w7_fst _ _ _ _ _ _ _).symm) rfl rfl rfl rfl hl.1 (Nat.le_of_ble_eq_true rfl) (by decide) dL_law_1122 (fun H locs hP7 hP6 hD7 hS => ?_)
  refine lv_icmp_eq (tgt := 1199) hx hb dL_law_1125 (by decide) (fun _ => ?_) (fun cc => absurd rfl cc)
  exact kk H locs ⟨I, A7', L7', A6, L6', rI, rA, tI, tA, dI, dA, wI, wA, uI', uA', aI, aS, aT, eI, eA, sS, sT, bI, hR2, hP6, hP7, hD6, hD7, hq, hS⟩
theorem lc_27 {p : Program} {l : Launch} {e : Env} {s : State} {m : MethodId} {below : List Frame} {meth : Method} {c : Code} {Q : State → Prop} {b L : Nat} {xs : Nat → Int32} {G : va_G} {cI cZ cO : ClassId} {q6 q7 : Nat → Nat} {k : Nat} {H : Heap} {locs : List Loc} {ls : Array Slot} (C0 : lw_At p s m meth c b L xs) (hE : EnvO G cI cZ cO s) (hk : k + 5 ≤ L) (hL : L ≤ 320) (hI : LI G cI cZ cO s q6 q7 H locs) (hl : lv_has ls 4 [(0, .ref b), (1, .ref (q6 0)), (2, .ref (q7 0)), (3, .int (nI k))])
    (kk : ∀ (H1 : Heap) (locs1 : List Loc), LI G cI cZ cO s q6 q7 H1 locs1 → W p l e room_1 s m #[Value.ref b] below meth c H1 locs1 126 1703 Q (F0 m 1199 ls [])) : W p l e room_1 s m #[Value.ref b] below meth c H locs 126 1703 Q (F0 m 1130 ls []) := by
  obtain ⟨hx, hb, hr, hml, hown, hts0, hX, hbl, hlocks, hgv⟩ := C0
  have hts : ∀ w ∈ wsL_law, w.before #[Value.ref b] s = true := fun w h => hts0 w (wsL_law_in w h)
  have hA : ∀ q : Nat, s.heap.size ≤ q → (fun q : Nat => s.heap.size ≤ q) q := fun _ h => h
  have hbA : ¬ (fun q : Nat => s.heap.size ≤ q) b := Nat.not_le.mpr hbl
  have i1 : vp_in (nI k + 1) L := by rw [show nI k + 1 = nI (k + 1) from nI_add k 1]; exact vp_in_nI (by omega) (by omega)
  have i2 : vp_in (nI k + 2) L := by rw [show nI k + 2 = nI (k + 2) from nI_add k 2]; exact vp_in_nI (by omega) (by omega)
  have i3 : vp_in (nI k + 3) L := by rw [show nI k + 3 = nI (k + 3) from nI_add k 3]; exact vp_in_nI (by omega) (by omega)
  have i4 : vp_in (nI k + 4) L := by rw [show nI k + 4 = nI (k + 4) from nI_add k 4]; exact vp_in_nI (by omega) (by omega)
  obtain ⟨I, A7, L7, A6, L6, rI, rA, tI, tA, dI, dA, wI, wA, uI, uA, aI, aS, aT, eI, eA, sS, sT, bI, hR, hP6, hP7, hD6, hD7, hq, hS⟩ := hI
  obtain ⟨rr, A7', A6', sS', sT', e7, e6, hR2⟩ := r_keep 10200 (Nat.le_refl _) hR (xs (nI k + 1).toNatClampNeg)
  refine lv_aload_n hx hb dL_law_1130 rfl (lv_at hl 1 rfl) ?_
  refine lv_aload_n hx hb dL_law_1131 rfl (lv_at hl 0 rfl) ?_
  refine lv_iload_n hx hb dL_law_1132 rfl (lv_at hl 3 rfl) ?_
  refine lv_iconst (v := 1) hx hb dL_law_1133 (by decide) ?_
  refine lv_iadd hx hb dL_law_1134 ?_
  refine va_sld hx hb hX hbl hbA hS i1 dL_law_1135 ?_
  refine x_cW (rest := []) (C := RX6) (n := 1) (ci := 6) hx hb hml hown hts hE (ct_X6_keep 10200 l G cI cZ cO q6 A6 L6 rI rA tI tA dI dA wI wA uI uA aI aS aT eI eA sS sT bI (xs (nI k + 1).toNatClampNeg) rr A6' sS' sT' e6) (bg 36 7 rfl) mb_X6_keep.1 mb_X6_keep.2.1 mb_X6_keep.2.2.1 mb_X6_keep.2.2.2 hd_X6_keep rfl (by decide) hP6 hP7 (ap_of hq (w6_fst _ _ _ _ _ _ _ _ _ _ _ _ _ _ _ _ _ _ _ _ _ _ _ _) (w7_fst _ _ _ _ _ _ _)) hD6 hS hA ((w6_fst _ _ _ _ _ _ _ _ _ _ _ _ _ _ _ _ _ _ _ _ _ _ _ _).trans (w6_fst _ _ _ _ _ _ _ _ _ _ _ _ _ _ _ _ _ _ _ _ _ _ _ _).symm) rfl rfl rfl rfl hl.1 (Nat.le_of_ble_eq_true rfl) (by decide) dL_law_1136 (fun H locs hP6 hP7 hD6 hS => ?_)
  refine lv_aload_n hx hb dL_law_1139 rfl (lv_at hl 2 rfl) ?_
  refine lv_aload_n hx hb dL_law_1140 rfl (lv_at hl 0 rfl) ?_
  refine lv_iload_n hx hb dL_law_1141 rfl (lv_at hl 3 rfl) ?_
  refine lv_iconst (v := 1) hx hb dL_law_1142 (by decide) ?_
  refine lv_iadd hx hb dL_law_1143 ?_
  refine va_sld hx hb hX hbl hbA hS i1 dL_law_1144 ?_
  refine x_cW (rest := [.int (rr)]) (C := RX7) (n := 1) (ci := 7) hx hb hml hown hts hE (ct_X7_keep 10200 l G cI cZ cO q7 I A7 L7 (xs (nI k + 1).toNatClampNeg) rr A7' e7) (bg 36 16 rfl) mb_X7_keep.1 mb_X7_keep.2.1 mb_X7_keep.2.2.1 mb_X7_keep.2.2.2 hd_X7_keep rfl (by decide) hP7 hP6 (ap_of hq (w6_fst _ _ _ _ _ _ _ _ _ _ _ _ _ _ _ _ _ _ _ _ _ _ _ _) (w7_fst _ _ _ _ _ _ _)).sym hD7 hS hA ((w7_fst _ _ _ _ _ _ _).trans (w7_fst _ _ _ _ _ _ _).symm) rfl rfl rfl rfl hl.1 (Nat.le_of_ble_eq_true rfl) (by decide) dL_law_1145 (fun H locs hP7 hP6 hD7 hS => ?_)
  refine lv_icmp_eq (tgt := 1199) hx hb dL_law_1148 (by decide) (fun _ => ?_) (fun cc => absurd rfl cc)
  exact kk H locs ⟨I, A7', L7, A6', L6, rI, rA, tI, tA, dI, dA, wI, wA, uI, uA, aI, aS, aT, eI, eA, sS', sT', bI, hR2, hP6, hP7, hD6, hD7, hq, hS⟩
theorem lc_28 {p : Program} {l : Launch} {e : Env} {s : State} {m : MethodId} {below : List Frame} {meth : Method} {c : Code} {Q : State → Prop} {b L : Nat} {xs : Nat → Int32} {G : va_G} {cI cZ cO : ClassId} {q6 q7 : Nat → Nat} {k : Nat} {H : Heap} {locs : List Loc} {ls : Array Slot} (C0 : lw_At p s m meth c b L xs) (hE : EnvO G cI cZ cO s) (hk : k + 5 ≤ L) (hL : L ≤ 320) (hI : LI G cI cZ cO s q6 q7 H locs) (hl : lv_has ls 4 [(0, .ref b), (1, .ref (q6 0)), (2, .ref (q7 0)), (3, .int (nI k))])
    (kk : ∀ (H1 : Heap) (locs1 : List Loc), LI G cI cZ cO s q6 q7 H1 locs1 → W p l e room_1 s m #[Value.ref b] below meth c H1 locs1 126 1703 Q (F0 m 1199 ls [])) : W p l e room_1 s m #[Value.ref b] below meth c H locs 126 1703 Q (F0 m 1153 ls []) := by
  obtain ⟨hx, hb, hr, hml, hown, hts0, hX, hbl, hlocks, hgv⟩ := C0
  have hts : ∀ w ∈ wsL_law, w.before #[Value.ref b] s = true := fun w h => hts0 w (wsL_law_in w h)
  have hA : ∀ q : Nat, s.heap.size ≤ q → (fun q : Nat => s.heap.size ≤ q) q := fun _ h => h
  have hbA : ¬ (fun q : Nat => s.heap.size ≤ q) b := Nat.not_le.mpr hbl
  have i1 : vp_in (nI k + 1) L := by rw [show nI k + 1 = nI (k + 1) from nI_add k 1]; exact vp_in_nI (by omega) (by omega)
  have i2 : vp_in (nI k + 2) L := by rw [show nI k + 2 = nI (k + 2) from nI_add k 2]; exact vp_in_nI (by omega) (by omega)
  have i3 : vp_in (nI k + 3) L := by rw [show nI k + 3 = nI (k + 3) from nI_add k 3]; exact vp_in_nI (by omega) (by omega)
  have i4 : vp_in (nI k + 4) L := by rw [show nI k + 4 = nI (k + 4) from nI_add k 4]; exact vp_in_nI (by omega) (by omega)
  obtain ⟨I, A7, L7, A6, L6, rI, rA, tI, tA, dI, dA, wI, wA, uI, uA, aI, aS, aT, eI, eA, sS, sT, bI, hR, hP6, hP7, hD6, hD7, hq, hS⟩ := hI
  obtain ⟨rr, I', A7', wI', wA', aI', e7, e6, hR2⟩ := r_again 10200 (Nat.le_refl _) hR (xs (nI k + 1).toNatClampNeg)
  refine lv_aload_n hx hb dL_law_1153 rfl (lv_at hl 1 rfl) ?_
  refine lv_aload_n hx hb dL_law_1154 rfl (lv_at hl 0 rfl) ?_
  refine lv_iload_n hx hb dL_law_1155 rfl (lv_at hl 3 rfl) ?_
  refine lv_iconst (v := 1) hx hb dL_law_1156 (by decide) ?_
  refine lv_iadd hx hb dL_law_1157 ?_
  refine va_sld hx hb hX hbl hbA hS i1 dL_law_1158 ?_
  refine x_cW (rest := []) (C := RX6) (n := 1) (ci := 6) hx hb hml hown hts hE (ct_X6_again 10200 l G cI cZ cO q6 A6 L6 rI rA tI tA dI dA wI wA uI uA aI aS aT eI eA sS sT bI (xs (nI k + 1).toNatClampNeg) rr wI' wA' aI' e6) (bg 36 20 rfl) mb_X6_again.1 mb_X6_again.2.1 mb_X6_again.2.2.1 mb_X6_again.2.2.2 hd_X6_again rfl (by decide) hP6 hP7 (ap_of hq (w6_fst _ _ _ _ _ _ _ _ _ _ _ _ _ _ _ _ _ _ _ _ _ _ _ _) (w7_fst _ _ _ _ _ _ _)) hD6 hS hA ((w6_fst _ _ _ _ _ _ _ _ _ _ _ _ _ _ _ _ _ _ _ _ _ _ _ _).trans (w6_fst _ _ _ _ _ _ _ _ _ _ _ _ _ _ _ _ _ _ _ _ _ _ _ _).symm) rfl rfl rfl rfl hl.1 (Nat.le_of_ble_eq_true rfl) (by decide) dL_law_1159 (fun H locs hP6 hP7 hD6 hS => ?_)
  refine lv_aload_n hx hb dL_law_1162 rfl (lv_at hl 2 rfl) ?_
  refine lv_aload_n hx hb dL_law_1163 rfl (lv_at hl 0 rfl) ?_
  refine lv_iload_n hx hb dL_law_1164 rfl (lv_at hl 3 rfl) ?_
  refine lv_iconst (v := 1) hx hb dL_law_1165 (by decide) ?_
  refine lv_iadd hx hb dL_law_1166 ?_
  refine va_sld hx hb hX hbl hbA hS i1 dL_law_1167 ?_
  refine x_cW (rest := [.int (rr)]) (C := RX7) (n := 1) (ci := 7) hx hb hml hown hts hE (ct_X7_again 10200 l G cI cZ cO q7 I A7 L7 (xs (nI k + 1).toNatClampNeg) rr I' A7' e7) (bg 37 0 rfl) mb_X7_again.1 mb_X7_again.2.1 mb_X7_again.2.2.1 mb_X7_again.2.2.2 hd_X7_again rfl (by decide) hP7 hP6 (ap_of hq (w6_fst _ _ _ _ _ _ _ _ _ _ _ _ _ _ _ _ _ _ _ _ _ _ _ _) (w7_fst _ _ _ _ _ _ _)).sym hD7 hS hA ((w7_fst _ _ _ _ _ _ _).trans (w7_fst _ _ _ _ _ _ _).symm) rfl rfl rfl rfl hl.1 (Nat.le_of_ble_eq_true rfl) (by decide) dL_law_1168 (fun H locs hP7 hP6 hD7 hS => ?_)
  refine lv_icmp_eq (tgt := 1199) hx hb dL_law_1171 (by decide) (fun _ => ?_) (fun cc => absurd rfl cc)
  exact kk H locs ⟨I', A7', L7, A6, L6, rI, rA, tI, tA, dI, dA, wI', wA', uI, uA, aI', aS, aT, eI, eA, sS, sT, bI, hR2, hP6, hP7, hD6, hD7, hq, hS⟩
theorem lc_29 {p : Program} {l : Launch} {e : Env} {s : State} {m : MethodId} {below : List Frame} {meth : Method} {c : Code} {Q : State → Prop} {b L : Nat} {xs : Nat → Int32} {G : va_G} {cI cZ cO : ClassId} {q6 q7 : Nat → Nat} {k : Nat} {H : Heap} {locs : List Loc} {ls : Array Slot} (C0 : lw_At p s m meth c b L xs) (hE : EnvO G cI cZ cO s) (hk : k + 5 ≤ L) (hL : L ≤ 320) (hI : LI G cI cZ cO s q6 q7 H locs) (hl : lv_has ls 4 [(0, .ref b), (1, .ref (q6 0)), (2, .ref (q7 0)), (3, .int (nI k))])
    (kk : ∀ (H1 : Heap) (locs1 : List Loc), LI G cI cZ cO s q6 q7 H1 locs1 → W p l e room_1 s m #[Value.ref b] below meth c H1 locs1 126 1703 Q (F0 m 1199 ls [])) : W p l e room_1 s m #[Value.ref b] below meth c H locs 126 1703 Q (F0 m 1176 ls []) := by
  obtain ⟨hx, hb, hr, hml, hown, hts0, hX, hbl, hlocks, hgv⟩ := C0
  have hts : ∀ w ∈ wsL_law, w.before #[Value.ref b] s = true := fun w h => hts0 w (wsL_law_in w h)
  have hA : ∀ q : Nat, s.heap.size ≤ q → (fun q : Nat => s.heap.size ≤ q) q := fun _ h => h
  have hbA : ¬ (fun q : Nat => s.heap.size ≤ q) b := Nat.not_le.mpr hbl
  have i1 : vp_in (nI k + 1) L := by rw [show nI k + 1 = nI (k + 1) from nI_add k 1]; exact vp_in_nI (by omega) (by omega)
  have i2 : vp_in (nI k + 2) L := by rw [show nI k + 2 = nI (k + 2) from nI_add k 2]; exact vp_in_nI (by omega) (by omega)
  have i3 : vp_in (nI k + 3) L := by rw [show nI k + 3 = nI (k + 3) from nI_add k 3]; exact vp_in_nI (by omega) (by omega)
  have i4 : vp_in (nI k + 4) L := by rw [show nI k + 4 = nI (k + 4) from nI_add k 4]; exact vp_in_nI (by omega) (by omega)
  obtain ⟨I, A7, L7, A6, L6, rI, rA, tI, tA, dI, dA, wI, wA, uI, uA, aI, aS, aT, eI, eA, sS, sT, bI, hR, hP6, hP7, hD6, hD7, hq, hS⟩ := hI
  obtain ⟨rr, e7, e6⟩ := r_count 10200 (Nat.le_refl _) hR (xs (nI k + 1).toNatClampNeg)
  refine lv_aload_n hx hb dL_law_1176 rfl (lv_at hl 1 rfl) ?_
  refine lv_aload_n hx hb dL_law_1177 rfl (lv_at hl 0 rfl) ?_
  refine lv_iload_n hx hb dL_law_1178 rfl (lv_at hl 3 rfl) ?_
  refine lv_iconst (v := 1) hx hb dL_law_1179 (by decide) ?_
  refine lv_iadd hx hb dL_law_1180 ?_
  refine va_sld hx hb hX hbl hbA hS i1 dL_law_1181 ?_
  refine x_rdV (rest := []) (C := RX6) (n := 1) (ci := 6) hx hb hml hown hts hE (ct_X6_count 10200 l G cI cZ cO q6 A6 L6 rI rA tI tA dI dA wI wA uI uA aI aS aT eI eA sS sT bI (xs (nI k + 1).toNatClampNeg) rr e6) (bg 37 4 rfl) mb_X6_count.1 mb_X6_count.2.1 mb_X6_count.2.2.1 mb_X6_count.2.2.2 hd_X6_count rfl (by decide) hP6 rfl rfl rfl rfl hl.1 (Nat.le_of_ble_eq_true rfl) (by decide) dL_law_1182 ?_
  refine lv_aload_n hx hb dL_law_1185 rfl (lv_at hl 2 rfl) ?_
  refine lv_aload_n hx hb dL_law_1186 rfl (lv_at hl 0 rfl) ?_
  refine lv_iload_n hx hb dL_law_1187 rfl (lv_at hl 3 rfl) ?_
  refine lv_iconst (v := 1) hx hb dL_law_1188 (by decide) ?_
  refine lv_iadd hx hb dL_law_1189 ?_
  refine va_sld hx hb hX hbl hbA hS i1 dL_law_1190 ?_
  refine x_rdV (rest := [.int (rr)]) (C := RX7) (n := 1) (ci := 7) hx hb hml hown hts hE (ct_X7_count 10200 l G cI cZ cO q7 I A7 L7 (xs (nI k + 1).toNatClampNeg) rr e7) (bg 37 16 rfl) mb_X7_count.1 mb_X7_count.2.1 mb_X7_count.2.2.1 mb_X7_count.2.2.2 hd_X7_count rfl (by decide) hP7 rfl rfl rfl rfl hl.1 (Nat.le_of_ble_eq_true rfl) (by decide) dL_law_1191 ?_
  refine lv_icmp_eq (tgt := 1199) hx hb dL_law_1194 (by decide) (fun _ => ?_) (fun cc => absurd rfl cc)
  exact kk H locs ⟨I, A7, L7, A6, L6, rI, rA, tI, tA, dI, dA, wI, wA, uI, uA, aI, aS, aT, eI, eA, sS, sT, bI, hR, hP6, hP7, hD6, hD7, hq, hS⟩
