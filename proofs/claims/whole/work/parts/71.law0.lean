theorem lc_0 {p : Program} {l : Launch} {e : Env} {s : State} {m : MethodId} {below : List Frame} {meth : Method} {c : Code} {Q : State → Prop} {b L : Nat} {xs : Nat → Int32} {G : va_G} {cI cZ cO : ClassId} {q6 q7 : Nat → Nat} {k : Nat} {H : Heap} {locs : List Loc} {ls : Array Slot} (C0 : lw_At p s m meth c b L xs) (hE : EnvO G cI cZ cO s) (hk : k + 5 ≤ L) (hL : L ≤ 320) (hI : LI G cI cZ cO s q6 q7 H locs) (hl : lv_has ls 4 [(0, .ref b), (1, .ref (q6 0)), (2, .ref (q7 0)), (3, .int (nI k))])
    (kk : ∀ (H1 : Heap) (locs1 : List Loc), LI G cI cZ cO s q6 q7 H1 locs1 → W p l e room_1 s m #[Value.ref b] below meth c H1 locs1 126 1703 Q (F0 m 1199 ls [])) : W p l e room_1 s m #[Value.ref b] below meth c H locs 126 1703 Q (F0 m 168 ls []) := by
  obtain ⟨hx, hb, hr, hml, hown, hts0, hX, hbl, hlocks, hgv⟩ := C0
  have hts : ∀ w ∈ wsL_law, w.before #[Value.ref b] s = true := fun w h => hts0 w (wsL_law_in w h)
  have hA : ∀ q : Nat, s.heap.size ≤ q → (fun q : Nat => s.heap.size ≤ q) q := fun _ h => h
  have hbA : ¬ (fun q : Nat => s.heap.size ≤ q) b := Nat.not_le.mpr hbl
  have i1 : vp_in (nI k + 1) L := by rw [show nI k + 1 = nI (k + 1) from nI_add k 1]; exact vp_in_nI (by omega) (by omega)
  have i2 : vp_in (nI k + 2) L := by rw [show nI k + 2 = nI (k + 2) from nI_add k 2]; exact vp_in_nI (by omega) (by omega)
  have i3 : vp_in (nI k + 3) L := by rw [show nI k + 3 = nI (k + 3) from nI_add k 3]; exact vp_in_nI (by omega) (by omega)
  have i4 : vp_in (nI k + 4) L := by rw [show nI k + 4 = nI (k + 4) from nI_add k 4]; exact vp_in_nI (by omega) (by omega)
  obtain ⟨I, A7, L7, A6, L6, rI, rA, tI, tA, dI, dA, wI, wA, uI, uA, aI, aS, aT, eI, eA, sS, sT, bI, hR, hP6, hP7, hD6, hD7, hq, hS⟩ := hI
  obtain ⟨rr, I', A7', rI', rA', e7, e6, hR2⟩ := r_write 10200 (Nat.le_refl _) hR (xs (nI k + 1).toNatClampNeg)
  refine lv_aload_n hx hb dL_law_168 rfl (lv_at hl 1 rfl) ?_
  refine lv_aload_n hx hb dL_law_169 rfl (lv_at hl 0 rfl) ?_
  refine lv_iload_n hx hb dL_law_170 rfl (lv_at hl 3 rfl) ?_
  refine lv_iconst (v := 1) hx hb dL_law_171 (by decide) ?_
  refine lv_iadd hx hb dL_law_172 ?_
  refine va_sld hx hb hX hbl hbA hS i1 dL_law_173 ?_
  refine x_cW (rest := []) (C := RX6) (n := 1) (ci := 6) hx hb hml hown hts hE (ct_X6_write 10200 l G cI cZ cO q6 A6 L6 rI rA tI tA dI dA wI wA uI uA aI aS aT eI eA sS sT bI (xs (nI k + 1).toNatClampNeg) rr rI' rA' e6) (bg 4 13 rfl) mb_X6_write.1 mb_X6_write.2.1 mb_X6_write.2.2.1 mb_X6_write.2.2.2 hd_X6_write rfl (by decide) hP6 hP7 (ap_of hq (w6_fst _ _ _ _ _ _ _ _ _ _ _ _ _ _ _ _ _ _ _ _ _ _ _ _) (w7_fst _ _ _ _ _ _ _)) hD6 hS hA ((w6_fst _ _ _ _ _ _ _ _ _ _ _ _ _ _ _ _ _ _ _ _ _ _ _ _).trans (w6_fst _ _ _ _ _ _ _ _ _ _ _ _ _ _ _ _ _ _ _ _ _ _ _ _).symm) rfl rfl rfl rfl hl.1 (Nat.le_of_ble_eq_true rfl) (by decide) dL_law_174 (fun H locs hP6 hP7 hD6 hS => ?_)
  refine lv_aload_n hx hb dL_law_177 rfl (lv_at hl 2 rfl) ?_
  refine lv_aload_n hx hb dL_law_178 rfl (lv_at hl 0 rfl) ?_
  refine lv_iload_n hx hb dL_law_179 rfl (lv_at hl 3 rfl) ?_
  refine lv_iconst (v := 1) hx hb dL_law_180 (by decide) ?_
  refine lv_iadd hx hb dL_law_181 ?_
  refine va_sld hx hb hX hbl hbA hS i1 dL_law_182 ?_
  refine x_cW (rest := [.int (rr)]) (C := RX7) (n := 1) (ci := 7) hx hb hml hown hts hE (ct_X7_write 10200 l G cI cZ cO q7 I A7 L7 (xs (nI k + 1).toNatClampNeg) rr I' A7' e7) (bg 5 3 rfl) mb_X7_write.1 mb_X7_write.2.1 mb_X7_write.2.2.1 mb_X7_write.2.2.2 hd_X7_write rfl (by decide) hP7 hP6 (ap_of hq (w6_fst _ _ _ _ _ _ _ _ _ _ _ _ _ _ _ _ _ _ _ _ _ _ _ _) (w7_fst _ _ _ _ _ _ _)).sym hD7 hS hA ((w7_fst _ _ _ _ _ _ _).trans (w7_fst _ _ _ _ _ _ _).symm) rfl rfl rfl rfl hl.1 (Nat.le_of_ble_eq_true rfl) (by decide) dL_law_183 (fun H locs hP7 hP6 hD7 hS => ?_)
  refine lv_icmp_eq (tgt := 1199) hx hb dL_law_186 (by decide) (fun _ => ?_) (fun cc => absurd rfl cc)
  exact kk H locs ⟨I', A7', L7, A6, L6, rI', rA', tI, tA, dI, dA, wI, wA, uI, uA, aI, aS, aT, eI, eA, sS, sT, bI, hR2, hP6, hP7, hD6, hD7, hq, hS⟩
theorem lc_1 {p : Program} {l : Launch} {e : Env} {s : State} {m : MethodId} {below : List Frame} {meth : Method} {c : Code} {Q : State → Prop} {b L : Nat} {xs : Nat → Int32} {G : va_G} {cI cZ cO : ClassId} {q6 q7 : Nat → Nat} {k : Nat} {H : Heap} {locs : List Loc} {ls : Array Slot} (C0 : lw_At p s m meth c b L xs) (hE : EnvO G cI cZ cO s) (hk : k + 5 ≤ L) (hL : L ≤ 320) (hI : LI G cI cZ cO s q6 q7 H locs) (hl : lv_has ls 4 [(0, .ref b), (1, .ref (q6 0)), (2, .ref (q7 0)), (3, .int (nI k))])
    (kk : ∀ (H1 : Heap) (locs1 : List Loc), LI G cI cZ cO s q6 q7 H1 locs1 → W p l e room_1 s m #[Value.ref b] below meth c H1 locs1 126 1703 Q (F0 m 1199 ls [])) : W p l e room_1 s m #[Value.ref b] below meth c H locs 126 1703 Q (F0 m 191 ls []) := by
  obtain ⟨hx, hb, hr, hml, hown, hts0, hX, hbl, hlocks, hgv⟩ := C0
  have hts : ∀ w ∈ wsL_law, w.before #[Value.ref b] s = true := fun w h => hts0 w (wsL_law_in w h)
  have hA : ∀ q : Nat, s.heap.size ≤ q → (fun q : Nat => s.heap.size ≤ q) q := fun _ h => h
  have hbA : ¬ (fun q : Nat => s.heap.size ≤ q) b := Nat.not_le.mpr hbl
  have i1 : vp_in (nI k + 1) L := by rw [show nI k + 1 = nI (k + 1) from nI_add k 1]; exact vp_in_nI (by omega) (by omega)
  have i2 : vp_in (nI k + 2) L := by rw [show nI k + 2 = nI (k + 2) from nI_add k 2]; exact vp_in_nI (by omega) (by omega)
  have i3 : vp_in (nI k + 3) L := by rw [show nI k + 3 = nI (k + 3) from nI_add k 3]; exact vp_in_nI (by omega) (by omega)
  have i4 : vp_in (nI k + 4) L := by rw [show nI k + 4 = nI (k + 4) from nI_add k 4]; exact vp_in_nI (by omega) (by omega)
  obtain ⟨I, A7, L7, A6, L6, rI, rA, tI, tA, dI, dA, wI, wA, uI, uA, aI, aS, aT, eI, eA, sS, sT, bI, hR, hP6, hP7, hD6, hD7, hq, hS⟩ := hI
  obtain ⟨rr, I', rI', e7, e6, hR2⟩ := r_wipe 10200 (Nat.le_refl _) hR 
  refine lv_aload_n hx hb dL_law_191 rfl (lv_at hl 1 rfl) ?_
  refine x_cW (rest := []) (C := RX6) (n := 0) (ci := 6) hx hb hml hown hts hE (ct_X6_wipe 10200 l G cI cZ cO q6 A6 L6 rI rA tI tA dI dA wI wA uI uA aI aS aT eI eA sS sT bI rr rI' e6) (bg 5 12 rfl) mb_X6_wipe.1 mb_X6_wipe.2.1 mb_X6_wipe.2.2.1 mb_X6_wipe.2.2.2 hd_X6_wipe rfl (by decide) hP6 hP7 (ap_of hq (w6_fst _ _ _ _ _ _ _ _ _ _ _ _ _ _ _ _ _ _ _ _ _ _ _ _) (w7_fst _ _ _ _ _ _ _)) hD6 hS hA ((w6_fst _ _ _ _ _ _ _ _ _ _ _ _ _ _ _ _ _ _ _ _ _ _ _ _).trans (w6_fst _ _ _ _ _ _ _ _ _ _ _ _ _ _ _ _ _ _ _ _ _ _ _ _).symm) rfl rfl rfl rfl hl.1 (Nat.le_of_ble_eq_true rfl) (by decide) dL_law_192 (fun H locs hP6 hP7 hD6 hS => ?_)
  refine lv_aload_n hx hb dL_law_195 rfl (lv_at hl 2 rfl) ?_
  refine x_cW (rest := [.int (rr)]) (C := RX7) (n := 0) (ci := 7) hx hb hml hown hts hE (ct_X7_wipe 10200 l G cI cZ cO q7 I A7 L7 rr I' e7) (bg 5 17 rfl) mb_X7_wipe.1 mb_X7_wipe.2.1 mb_X7_wipe.2.2.1 mb_X7_wipe.2.2.2 hd_X7_wipe rfl (by decide) hP7 hP6 (ap_of hq (w6_fst _ _ _ _ _ _ _ _ _ _ _ _ _ _ _ _ _ _ _ _ _ _ _ _) (w7_fst _ _ _ _ _ _ _)).sym hD7 hS hA ((w7_fst _ _ _ _ _ _ _).trans (w7_fst _ _ _ _ _ _ _).symm) rfl rfl rfl rfl hl.1 (Nat.le_of_ble_eq_true rfl) (by decide) dL_law_196 (fun H locs hP7 hP6 hD7 hS => ?_)
  refine lv_icmp_eq (tgt := 1199) hx hb dL_law_199 (by decide) (fun _ => ?_) (fun cc => absurd rfl cc)
  exact kk H locs ⟨I', A7, L7, A6, L6, rI', rA, tI, tA, dI, dA, wI, wA, uI, uA, aI, aS, aT, eI, eA, sS, sT, bI, hR2, hP6, hP7, hD6, hD7, hq, hS⟩
theorem lc_2 {p : Program} {l : Launch} {e : Env} {s : State} {m : MethodId} {below : List Frame} {meth : Method} {c : Code} {Q : State → Prop} {b L : Nat} {xs : Nat → Int32} {G : va_G} {cI cZ cO : ClassId} {q6 q7 : Nat → Nat} {k : Nat} {H : Heap} {locs : List Loc} {ls : Array Slot} (C0 : lw_At p s m meth c b L xs) (hE : EnvO G cI cZ cO s) (hk : k + 5 ≤ L) (hL : L ≤ 320) (hI : LI G cI cZ cO s q6 q7 H locs) (hl : lv_has ls 4 [(0, .ref b), (1, .ref (q6 0)), (2, .ref (q7 0)), (3, .int (nI k))])
    (kk : ∀ (H1 : Heap) (locs1 : List Loc), LI G cI cZ cO s q6 q7 H1 locs1 → W p l e room_1 s m #[Value.ref b] below meth c H1 locs1 126 1703 Q (F0 m 1199 ls [])) : W p l e room_1 s m #[Value.ref b] below meth c H locs 126 1703 Q (F0 m 204 ls []) := by
  obtain ⟨hx, hb, hr, hml, hown, hts0, hX, hbl, hlocks, hgv⟩ := C0
  have hts : ∀ w ∈ wsL_law, w.before #[Value.ref b] s = true := fun w h => hts0 w (wsL_law_in w h)
  have hA : ∀ q : Nat, s.heap.size ≤ q → (fun q : Nat => s.heap.size ≤ q) q := fun _ h => h
  have hbA : ¬ (fun q : Nat => s.heap.size ≤ q) b := Nat.not_le.mpr hbl
  have i1 : vp_in (nI k + 1) L := by rw [show nI k + 1 = nI (k + 1) from nI_add k 1]; exact vp_in_nI (by omega) (by omega)
  have i2 : vp_in (nI k + 2) L := by rw [show nI k + 2 = nI (k + 2) from nI_add k 2]; exact vp_in_nI (by omega) (by omega)
  have i3 : vp_in (nI k + 3) L := by rw [show nI k + 3 = nI (k + 3) from nI_add k 3]; exact vp_in_nI (by omega) (by omega)
  have i4 : vp_in (nI k + 4) L := by rw [show nI k + 4 = nI (k + 4) from nI_add k 4]; exact vp_in_nI (by omega) (by omega)
  obtain ⟨I, A7, L7, A6, L6, rI, rA, tI, tA, dI, dA, wI, wA, uI, uA, aI, aS, aT, eI, eA, sS, sT, bI, hR, hP6, hP7, hD6, hD7, hq, hS⟩ := hI
  obtain ⟨rr, I', A7', rI', dI', dA', e7, e6, hR2⟩ := r_fault 10200 (Nat.le_refl _) hR dI dA 
  refine lv_aload_n hx hb dL_law_204 rfl (lv_at hl 1 rfl) ?_
  refine x_cW (rest := []) (C := RX6) (n := 0) (ci := 6) hx hb hml hown hts hE (ct_X6_fault 10200 l G cI cZ cO q6 A6 L6 rI rA tI tA dI dA wI wA uI uA aI aS aT eI eA sS sT bI rr rI' dI' dA' e6) (bg 5 21 rfl) mb_X6_fault.1 mb_X6_fault.2.1 mb_X6_fault.2.2.1 mb_X6_fault.2.2.2 hd_X6_fault rfl (by decide) hP6 hP7 (ap_of hq (w6_fst _ _ _ _ _ _ _ _ _ _ _ _ _ _ _ _ _ _ _ _ _ _ _ _) (w7_fst _ _ _ _ _ _ _)) hD6 hS hA ((w6_fst _ _ _ _ _ _ _ _ _ _ _ _ _ _ _ _ _ _ _ _ _ _ _ _).trans (w6_fst _ _ _ _ _ _ _ _ _ _ _ _ _ _ _ _ _ _ _ _ _ _ _ _).symm) rfl rfl rfl rfl hl.1 (Nat.le_of_ble_eq_true rfl) (by decide) dL_law_205 (fun H locs hP6 hP7 hD6 hS => ?_)
  refine lv_aload_n hx hb dL_law_208 rfl (lv_at hl 2 rfl) ?_
  refine x_cW (rest := [.int (rr)]) (C := RX7) (n := 0) (ci := 7) hx hb hml hown hts hE (ct_X7_fault 10200 l G cI cZ cO q7 I A7 L7 rr I' A7' e7) (bg 9 15 rfl) mb_X7_fault.1 mb_X7_fault.2.1 mb_X7_fault.2.2.1 mb_X7_fault.2.2.2 hd_X7_fault rfl (by decide) hP7 hP6 (ap_of hq (w6_fst _ _ _ _ _ _ _ _ _ _ _ _ _ _ _ _ _ _ _ _ _ _ _ _) (w7_fst _ _ _ _ _ _ _)).sym hD7 hS hA ((w7_fst _ _ _ _ _ _ _).trans (w7_fst _ _ _ _ _ _ _).symm) rfl rfl rfl rfl hl.1 (Nat.le_of_ble_eq_true rfl) (by decide) dL_law_209 (fun H locs hP7 hP6 hD7 hS => ?_)
  refine lv_icmp_eq (tgt := 1199) hx hb dL_law_212 (by decide) (fun _ => ?_) (fun cc => absurd rfl cc)
  exact kk H locs ⟨I', A7', L7, A6, L6, rI', rA, tI, tA, dI', dA', wI, wA, uI, uA, aI, aS, aT, eI, eA, sS, sT, bI, hR2, hP6, hP7, hD6, hD7, hq, hS⟩
theorem lc_3 {p : Program} {l : Launch} {e : Env} {s : State} {m : MethodId} {below : List Frame} {meth : Method} {c : Code} {Q : State → Prop} {b L : Nat} {xs : Nat → Int32} {G : va_G} {cI cZ cO : ClassId} {q6 q7 : Nat → Nat} {k : Nat} {H : Heap} {locs : List Loc} {ls : Array Slot} (C0 : lw_At p s m meth c b L xs) (hE : EnvO G cI cZ cO s) (hk : k + 5 ≤ L) (hL : L ≤ 320) (hI : LI G cI cZ cO s q6 q7 H locs) (hl : lv_has ls 4 [(0, .ref b), (1, .ref (q6 0)), (2, .ref (q7 0)), (3, .int (nI k))])
    (kk : ∀ (H1 : Heap) (locs1 : List Loc), LI G cI cZ cO s q6 q7 H1 locs1 → W p l e room_1 s m #[Value.ref b] below meth c H1 locs1 126 1703 Q (F0 m 1199 ls [])) : W p l e room_1 s m #[Value.ref b] below meth c H locs 126 1703 Q (F0 m 217 ls []) := by
  obtain ⟨hx, hb, hr, hml, hown, hts0, hX, hbl, hlocks, hgv⟩ := C0
  have hts : ∀ w ∈ wsL_law, w.before #[Value.ref b] s = true := fun w h => hts0 w (wsL_law_in w h)
  have hA : ∀ q : Nat, s.heap.size ≤ q → (fun q : Nat => s.heap.size ≤ q) q := fun _ h => h
  have hbA : ¬ (fun q : Nat => s.heap.size ≤ q) b := Nat.not_le.mpr hbl
  have i1 : vp_in (nI k + 1) L := by rw [show nI k + 1 = nI (k + 1) from nI_add k 1]; exact vp_in_nI (by omega) (by omega)
  have i2 : vp_in (nI k + 2) L := by rw [show nI k + 2 = nI (k + 2) from nI_add k 2]; exact vp_in_nI (by omega) (by omega)
  have i3 : vp_in (nI k + 3) L := by rw [show nI k + 3 = nI (k + 3) from nI_add k 3]; exact vp_in_nI (by omega) (by omega)
  have i4 : vp_in (nI k + 4) L := by rw [show nI k + 4 = nI (k + 4) from nI_add k 4]; exact vp_in_nI (by omega) (by omega)
  obtain ⟨I, A7, L7, A6, L6, rI, rA, tI, tA, dI, dA, wI, wA, uI, uA, aI, aS, aT, eI, eA, sS, sT, bI, hR, hP6, hP7, hD6, hD7, hq, hS⟩ := hI
  obtain ⟨rr, I', A7', A6', rI', tI', tA', dI', dA', wI', wA', aI', e7, e6, hR2⟩ := r_town 10200 (Nat.le_refl _) hR dI dA 
  refine lv_aload_n hx hb dL_law_217 rfl (lv_at hl 1 rfl) ?_
  refine x_cW (rest := []) (C := RX6) (n := 0) (ci := 6) hx hb hml hown hts hE (ct_X6_town 10200 l G cI cZ cO q6 A6 L6 rI rA tI tA dI dA wI wA uI uA aI aS aT eI eA sS sT bI rr A6' rI' tI' tA' dI' dA' wI' wA' aI' e6) (bg 11 3 rfl) mb_X6_town.1 mb_X6_town.2.1 mb_X6_town.2.2.1 mb_X6_town.2.2.2 hd_X6_town rfl (by decide) hP6 hP7 (ap_of hq (w6_fst _ _ _ _ _ _ _ _ _ _ _ _ _ _ _ _ _ _ _ _ _ _ _ _) (w7_fst _ _ _ _ _ _ _)) hD6 hS hA ((w6_fst _ _ _ _ _ _ _ _ _ _ _ _ _ _ _ _ _ _ _ _ _ _ _ _).trans (w6_fst _ _ _ _ _ _ _ _ _ _ _ _ _ _ _ _ _ _ _ _ _ _ _ _).symm) rfl rfl rfl rfl hl.1 (Nat.le_of_ble_eq_true rfl) (by decide) dL_law_218 (fun H locs hP6 hP7 hD6 hS => ?_)
  refine lv_aload_n hx hb dL_law_221 rfl (lv_at hl 2 rfl) ?_
  refine x_cW (rest := [.int (rr)]) (C := RX7) (n := 0) (ci := 7) hx hb hml hown hts hE (ct_X7_town 10200 l G cI cZ cO q7 I A7 L7 rr I' A7' e7) (bg 11 17 rfl) mb_X7_town.1 mb_X7_town.2.1 mb_X7_town.2.2.1 mb_X7_town.2.2.2 hd_X7_town rfl (by decide) hP7 hP6 (ap_of hq (w6_fst _ _ _ _ _ _ _ _ _ _ _ _ _ _ _ _ _ _ _ _ _ _ _ _) (w7_fst _ _ _ _ _ _ _)).sym hD7 hS hA ((w7_fst _ _ _ _ _ _ _).trans (w7_fst _ _ _ _ _ _ _).symm) rfl rfl rfl rfl hl.1 (Nat.le_of_ble_eq_true rfl) (by decide) dL_law_222 (fun H locs hP7 hP6 hD7 hS => ?_)
  refine lv_icmp_eq (tgt := 1199) hx hb dL_law_225 (by decide) (fun _ => ?_) (fun cc => absurd rfl cc)
  exact kk H locs ⟨I', A7', L7, A6', L6, rI', rA, tI', tA', dI', dA', wI', wA', uI, uA, aI', aS, aT, eI, eA, sS, sT, bI, hR2, hP6, hP7, hD6, hD7, hq, hS⟩
theorem lc_4 {p : Program} {l : Launch} {e : Env} {s : State} {m : MethodId} {below : List Frame} {meth : Method} {c : Code} {Q : State → Prop} {b L : Nat} {xs : Nat → Int32} {G : va_G} {cI cZ cO : ClassId} {q6 q7 : Nat → Nat} {k : Nat} {H : Heap} {locs : List Loc} {ls : Array Slot} (C0 : lw_At p s m meth c b L xs) (hE : EnvO G cI cZ cO s) (hk : k + 5 ≤ L) (hL : L ≤ 320) (hI : LI G cI cZ cO s q6 q7 H locs) (hl : lv_has ls 4 [(0, .ref b), (1, .ref (q6 0)), (2, .ref (q7 0)), (3, .int (nI k))])
    (kk : ∀ (H1 : Heap) (locs1 : List Loc), LI G cI cZ cO s q6 q7 H1 locs1 → W p l e room_1 s m #[Value.ref b] below meth c H1 locs1 126 1703 Q (F0 m 1199 ls [])) : W p l e room_1 s m #[Value.ref b] below meth c H locs 126 1703 Q (F0 m 230 ls []) := by
  obtain ⟨hx, hb, hr, hml, hown, hts0, hX, hbl, hlocks, hgv⟩ := C0
  have hts : ∀ w ∈ wsL_law, w.before #[Value.ref b] s = true := fun w h => hts0 w (wsL_law_in w h)
  have hA : ∀ q : Nat, s.heap.size ≤ q → (fun q : Nat => s.heap.size ≤ q) q := fun _ h => h
  have hbA : ¬ (fun q : Nat => s.heap.size ≤ q) b := Nat.not_le.mpr hbl
  have i1 : vp_in (nI k + 1) L := by rw [show nI k + 1 = nI (k + 1) from nI_add k 1]; exact vp_in_nI (by omega) (by omega)
  have i2 : vp_in (nI k + 2) L := by rw [show nI k + 2 = nI (k + 2) from nI_add k 2]; exact vp_in_nI (by omega) (by omega)
  have i3 : vp_in (nI k + 3) L := by rw [show nI k + 3 = nI (k + 3) from nI_add k 3]; exact vp_in_nI (by omega) (by omega)
  have i4 : vp_in (nI k + 4) L := by rw [show nI k + 4 = nI (k + 4) from nI_add k 4]; exact vp_in_nI (by omega) (by omega)
  obtain ⟨I, A7, L7, A6, L6, rI, rA, tI, tA, dI, dA, wI, wA, uI, uA, aI, aS, aT, eI, eA, sS, sT, bI, hR, hP6, hP7, hD6, hD7, hq, hS⟩ := hI
  obtain ⟨rr, e7, e6⟩ := r_rumour 10200 (Nat.le_refl _) hR (xs (nI k + 1).toNatClampNeg) (xs (nI k + 2).toNatClampNeg)
  refine lv_aload_n hx hb dL_law_230 rfl (lv_at hl 1 rfl) ?_
  refine lv_aload_n hx hb dL_law_231 rfl (lv_at hl 0 rfl) ?_
  refine lv_iload_n hx hb dL_law_232 rfl (lv_at hl 3 rfl) ?_
  refine lv_iconst (v := 1) hx hb dL_law_233 (by decide) ?_
  refine lv_iadd hx hb dL_law_234 ?_
  refine va_sld hx hb hX hbl hbA hS i1 dL_law_235 ?_
  refine lv_aload_n hx hb dL_law_236 rfl (lv_at hl 0 rfl) ?_
  refine lv_iload_n hx hb dL_law_237 rfl (lv_at hl 3 rfl) ?_
  refine lv_iconst (v := 2) hx hb dL_law_238 (by decide) ?_
  refine lv_iadd hx hb dL_law_239 ?_
  refine va_sld hx hb hX hbl hbA hS i2 dL_law_240 ?_
  refine x_rdV (rest := []) (C := RX6) (n := 2) (ci := 6) hx hb hml hown hts hE (ct_X6_rumour 10200 l G cI cZ cO q6 A6 L6 rI rA tI tA dI dA wI wA uI uA aI aS aT eI eA sS sT bI (xs (nI k + 1).toNatClampNeg) (xs (nI k + 2).toNatClampNeg) rr e6) (bg 11 23 rfl) mb_X6_rumour.1 mb_X6_rumour.2.1 mb_X6_rumour.2.2.1 mb_X6_rumour.2.2.2 hd_X6_rumour rfl (by decide) hP6 rfl rfl rfl rfl hl.1 (Nat.le_of_ble_eq_true rfl) (by decide) dL_law_241 ?_
  refine lv_aload_n hx hb dL_law_244 rfl (lv_at hl 2 rfl) ?_
  refine lv_aload_n hx hb dL_law_245 rfl (lv_at hl 0 rfl) ?_
  refine lv_iload_n hx hb dL_law_246 rfl (lv_at hl 3 rfl) ?_
  refine lv_iconst (v := 1) hx hb dL_law_247 (by decide) ?_
  refine lv_iadd hx hb dL_law_248 ?_
  refine va_sld hx hb hX hbl hbA hS i1 dL_law_249 ?_
  refine lv_aload_n hx hb dL_law_250 rfl (lv_at hl 0 rfl) ?_
  refine lv_iload_n hx hb dL_law_251 rfl (lv_at hl 3 rfl) ?_
  refine lv_iconst (v := 2) hx hb dL_law_252 (by decide) ?_
  refine lv_iadd hx hb dL_law_253 ?_
  refine va_sld hx hb hX hbl hbA hS i2 dL_law_254 ?_
  refine x_rdV (rest := [.int (rr)]) (C := RX7) (n := 2) (ci := 7) hx hb hml hown hts hE (ct_X7_rumour 10200 l G cI cZ cO q7 I A7 L7 (xs (nI k + 1).toNatClampNeg) (xs (nI k + 2).toNatClampNeg) rr e7) (bg 13 2 rfl) mb_X7_rumour.1 mb_X7_rumour.2.1 mb_X7_rumour.2.2.1 mb_X7_rumour.2.2.2 hd_X7_rumour rfl (by decide) hP7 rfl rfl rfl rfl hl.1 (Nat.le_of_ble_eq_true rfl) (by decide) dL_law_255 ?_
  refine lv_icmp_eq (tgt := 1199) hx hb dL_law_258 (by decide) (fun _ => ?_) (fun cc => absurd rfl cc)
  exact kk H locs ⟨I, A7, L7, A6, L6, rI, rA, tI, tA, dI, dA, wI, wA, uI, uA, aI, aS, aT, eI, eA, sS, sT, bI, hR, hP6, hP7, hD6, hD7, hq, hS⟩
theorem lc_5 {p : Program} {l : Launch} {e : Env} {s : State} {m : MethodId} {below : List Frame} {meth : Method} {c : Code} {Q : State → Prop} {b L : Nat} {xs : Nat → Int32} {G : va_G} {cI cZ cO : ClassId} {q6 q7 : Nat → Nat} {k : Nat} {H : Heap} {locs : List Loc} {ls : Array Slot} (C0 : lw_At p s m meth c b L xs) (hE : EnvO G cI cZ cO s) (hk : k + 5 ≤ L) (hL : L ≤ 320) (hI : LI G cI cZ cO s q6 q7 H locs) (hl : lv_has ls 4 [(0, .ref b), (1, .ref (q6 0)), (2, .ref (q7 0)), (3, .int (nI k))])
    (kk : ∀ (H1 : Heap) (locs1 : List Loc), LI G cI cZ cO s q6 q7 H1 locs1 → W p l e room_1 s m #[Value.ref b] below meth c H1 locs1 126 1703 Q (F0 m 1199 ls [])) : W p l e room_1 s m #[Value.ref b] below meth c H locs 126 1703 Q (F0 m 263 ls []) := by
  obtain ⟨hx, hb, hr, hml, hown, hts0, hX, hbl, hlocks, hgv⟩ := C0
  have hts : ∀ w ∈ wsL_law, w.before #[Value.ref b] s = true := fun w h => hts0 w (wsL_law_in w h)
  have hA : ∀ q : Nat, s.heap.size ≤ q → (fun q : Nat => s.heap.size ≤ q) q := fun _ h => h
  have hbA : ¬ (fun q : Nat => s.heap.size ≤ q) b := Nat.not_le.mpr hbl
  have i1 : vp_in (nI k + 1) L := by rw [show nI k + 1 = nI (k + 1) from nI_add k 1]; exact vp_in_nI (by omega) (by omega)
  have i2 : vp_in (nI k + 2) L := by rw [show nI k + 2 = nI (k + 2) from nI_add k 2]; exact vp_in_nI (by omega) (by omega)
  have i3 : vp_in (nI k + 3) L := by rw [show nI k + 3 = nI (k + 3) from nI_add k 3]; exact vp_in_nI (by omega) (by omega)
  have i4 : vp_in (nI k + 4) L := by rw [show nI k + 4 = nI (k + 4) from nI_add k 4]; exact vp_in_nI (by omega) (by omega)
  obtain ⟨I, A7, L7, A6, L6, rI, rA, tI, tA, dI, dA, wI, wA, uI, uA, aI, aS, aT, eI, eA, sS, sT, bI, hR, hP6, hP7, hD6, hD7, hq, hS⟩ := hI
  obtain ⟨rr, e7, e6⟩ := r_table 10200 (Nat.le_refl _) hR (xs (nI k + 1).toNatClampNeg)
  refine lv_aload_n hx hb dL_law_263 rfl (lv_at hl 1 rfl) ?_
  refine lv_aload_n hx hb dL_law_264 rfl (lv_at hl 0 rfl) ?_
  refine lv_iload_n hx hb dL_law_265 rfl (lv_at hl 3 rfl) ?_
  refine lv_iconst (v := 1) hx hb dL_law_266 (by decide) ?_
  refine lv_iadd hx hb dL_law_267 ?_
  refine va_sld hx hb hX hbl hbA hS i1 dL_law_268 ?_
  refine x_rdV (rest := []) (C := RX6) (n := 1) (ci := 6) hx hb hml hown hts hE (ct_X6_table 10200 l G cI cZ cO q6 A6 L6 rI rA tI tA dI dA wI wA uI uA aI aS aT eI eA sS sT bI (xs (nI k + 1).toNatClampNeg) rr e6) (bg 13 14 rfl) mb_X6_table.1 mb_X6_table.2.1 mb_X6_table.2.2.1 mb_X6_table.2.2.2 hd_X6_table rfl (by decide) hP6 rfl rfl rfl rfl hl.1 (Nat.le_of_ble_eq_true rfl) (by decide) dL_law_269 ?_
  refine lv_aload_n hx hb dL_law_272 rfl (lv_at hl 2 rfl) ?_
  refine lv_aload_n hx hb dL_law_273 rfl (lv_at hl 0 rfl) ?_
  refine lv_iload_n hx hb dL_law_274 rfl (lv_at hl 3 rfl) ?_
  refine lv_iconst (v := 1) hx hb dL_law_275 (by decide) ?_
  refine lv_iadd hx hb dL_law_276 ?_
  refine va_sld hx hb hX hbl hbA hS i1 dL_law_277 ?_
  refine x_rdV (rest := [.int (rr)]) (C := RX7) (n := 1) (ci := 7) hx hb hml hown hts hE (ct_X7_table 10200 l G cI cZ cO q7 I A7 L7 (xs (nI k + 1).toNatClampNeg) rr e7) (bg 13 23 rfl) mb_X7_table.1 mb_X7_table.2.1 mb_X7_table.2.2.1 mb_X7_table.2.2.2 hd_X7_table rfl (by decide) hP7 rfl rfl rfl rfl hl.1 (Nat.le_of_ble_eq_true rfl) (by decide) dL_law_278 ?_
  refine lv_icmp_eq (tgt := 1199) hx hb dL_law_281 (by decide) (fun _ => ?_) (fun cc => absurd rfl cc)
  exact kk H locs ⟨I, A7, L7, A6, L6, rI, rA, tI, tA, dI, dA, wI, wA, uI, uA, aI, aS, aT, eI, eA, sS, sT, bI, hR, hP6, hP7, hD6, hD7, hq, hS⟩
