theorem va_P_app {G : va_G} {u v : va_W} {H : Heap} (h : va_P G vwCl (u ++ v) H) : va_P G vwCl u H ∧ va_P G vwCl v H := by
  refine ⟨fun i q hi => h i q ?_, fun i q hi => h (u.length + i) q ?_⟩
  · rw [List.getElem?_append_left (List.getElem?_eq_some_iff.mp hi).1]; exact hi
  · rw [List.getElem?_append_right (by omega), Nat.add_sub_cancel_left]; exact hi
theorem va_D_app {A : Nat → Prop} {u v : va_W} (h : va_D A (u ++ v)) : va_D A u ∧ va_D A v ∧ Ap u v := by
  have at1 : ∀ (i : Nat) (q : Nat × va_E), u[i]? = some q → (u ++ v)[i]? = some q := fun i q hi => by rw [List.getElem?_append_left (List.getElem?_eq_some_iff.mp hi).1]; exact hi
  have at2 : ∀ (i : Nat) (q : Nat × va_E), v[i]? = some q → (u ++ v)[u.length + i]? = some q := fun i q hi => by rw [List.getElem?_append_right (by omega), Nat.add_sub_cancel_left]; exact hi
  refine ⟨⟨fun i j x z hx hz e => h.1 i j x z (at1 i x hx) (at1 j z hz) e, fun k q hk => h.2 k q (at1 k q hk)⟩, ⟨fun i j x z hx hz e => ?_, fun k q hk => h.2 _ q (at2 k q hk)⟩, fun i j x z hx hz e => ?_⟩
  · have := h.1 _ _ x z (at2 i x hx) (at2 j z hz) e
    omega
  · have := h.1 _ _ x z (at1 i x hx) (at2 j z hz) e
    have h2 := (List.getElem?_eq_some_iff.mp hx).1
    omega
theorem rng_ex {w : va_W} {q : Nat → Nat} {n i : Nat} (hw : w.map Prod.fst = (List.range n).map q) (hi : i < n) : ∃ x, w[i]? = some x ∧ x.1 = q i := by
  have h2 : (w.map Prod.fst)[i]? = some (q i) := by
    rw [hw, List.getElem?_map, List.getElem?_range hi]; rfl
  rw [List.getElem?_map] at h2
  cases h3 : w[i]? with
  | none => rw [h3] at h2; cases h2
  | some x =>
    rw [h3] at h2
    exact ⟨x, rfl, Option.some.inj h2⟩
theorem tb_in {w : Cond} (i : Nat) (h : tables_1[i]? = some w) : w ∈ lw_tbl := List.mem_append_right _ (List.mem_of_getElem? h)
theorem arr_K {s : State} {args : Array Value} {ty : FieldType} (h : (Cond.arrayClass ty).before args s = true) (hty : ∀ C, ty ≠ .object C) : ∃ cA, ArrOfT s cA ty ∧ va_RA s cA ty := by
  obtain ⟨cA, kA, comp, h1, h2, h3⟩ := Cond.arrayClass_spec h
  refine ⟨cA, fun n z => ⟨fun k h => (by cases h), kA, h2, comp, h3⟩, ?_⟩
  cases ty with
  | object C => exact absurd rfl (hty C)
  | _ => exact h1
theorem arr_O {s : State} {args : Array Value} {C : String} (h : (Cond.arrayOver (.object C)).before args s = true) : ∃ cA, ArrOfT s cA (.object C) ∧ va_RA s cA (.object C) := by
  obtain ⟨comp, cA, kA, h1, h2, h3, h4, h5⟩ := Cond.arrayOver_spec h
  exact ⟨cA, fun n z => ⟨fun k h => (by cases h), kA, h3, comp, h4⟩, kA, comp, h3, h4, h1, h5⟩
theorem ns_all {s : State} {b : Nat} (hts0 : ∀ w ∈ lw_tbl, w.before #[Value.ref b] s = true) : ∀ q ∈ nsL, va_Nw (.methodLinkNest q.1 q.2.1 q.2.2 "DawnCoin") s := by
  intro q hq
  simp only [nsL, List.mem_cons, List.not_mem_nil, or_false] at hq
  rcases hq with rfl | rfl | rfl | rfl | rfl | rfl | rfl | rfl | rfl | rfl | rfl | rfl | rfl | rfl | rfl | rfl | rfl | rfl | rfl
  · exact va_Nw.of rfl (hts0 _ (tb_in 22 (by decide +kernel)))
  · exact va_Nw.of rfl (hts0 _ (tb_in 49 (by decide +kernel)))
  · exact va_Nw.of rfl (hts0 _ (tb_in 93 (by decide +kernel)))
  · exact va_Nw.of rfl (hts0 _ (tb_in 119 (by decide +kernel)))
  · exact va_Nw.of rfl (hts0 _ (tb_in 133 (by decide +kernel)))
  · exact va_Nw.of rfl (hts0 _ (tb_in 160 (by decide +kernel)))
  · exact va_Nw.of rfl (hts0 _ (tb_in 230 (by decide +kernel)))
  · exact va_Nw.of rfl (hts0 _ (tb_in 281 (by decide +kernel)))
  · exact va_Nw.of rfl (hts0 _ (tb_in 290 (by decide +kernel)))
  · exact va_Nw.of rfl (hts0 _ (tb_in 296 (by decide +kernel)))
  · exact va_Nw.of rfl (hts0 _ (tb_in 307 (by decide +kernel)))
  · exact va_Nw.of rfl (hts0 _ (tb_in 345 (by decide +kernel)))
  · exact va_Nw.of rfl (hts0 _ (tb_in 356 (by decide +kernel)))
  · exact va_Nw.of rfl (hts0 _ (tb_in 381 (by decide +kernel)))
  · exact va_Nw.of rfl (hts0 _ (tb_in 405 (by decide +kernel)))
  · exact va_Nw.of rfl (hts0 _ (tb_in 411 (by decide +kernel)))
  · exact va_Nw.of rfl (hts0 _ (tb_in 427 (by decide +kernel)))
  · exact va_Nw.of rfl (hts0 _ (tb_in 574 (by decide +kernel)))
  · exact va_Nw.of rfl (hts0 _ (tb_in 605 (by decide +kernel)))
theorem env_start {s : State} {b : Nat} (hts0 : ∀ w ∈ lw_tbl, w.before #[Value.ref b] s = true) : ∃ (G : va_G) (cI cZ cO : ClassId), EnvO G cI cZ cO s ∧ va_AO "DawnCoin$Standing" s := by
  have hts : ∀ w ∈ wsL_law, w.before #[Value.ref b] s = true := fun w h => hts0 w (wsL_law_in w h)
  obtain ⟨c0, iS0, hK0⟩ := u_known (C := RX0) (T := TX0) (N := 3) (n := 3) hts0 inX0 (hts (.instantiable RX0 3) (bg 1 4 rfl))
  obtain ⟨c1, iS1, hK1⟩ := u_known (C := RX1) (T := TX1) (N := 2) (n := 2) hts0 inX1 (hts (.instantiable RX1 2) (bg 1 15 rfl))
  obtain ⟨c2, iS2, hK2⟩ := u_known (C := RX2) (T := TX2) (N := 5) (n := 5) hts0 inX2 (hts (.instantiable RX2 5) (bg 1 8 rfl))
  obtain ⟨c3, iS3, hK3⟩ := u_known (C := RX3) (T := TX3) (N := 6) (n := 6) hts0 inX3 (hts (.instantiable RX3 6) (bg 0 14 rfl))
  obtain ⟨c4, iS4, hK4⟩ := u_known (C := RX4) (T := TX4) (N := 4) (n := 4) hts0 inX4 (hts (.instantiable RX4 4) (bg 0 23 rfl))
  obtain ⟨c5, iS5, hK5⟩ := u_known (C := RX5) (T := TX5) (N := 8) (n := 8) hts0 inX5 (hts (.instantiable RX5 8) (bg 0 18 rfl))
  obtain ⟨c6, iS6, hK6⟩ := u_known (C := RX6) (T := TX6) (N := 15) (n := 15) hts0 inX6 (hts (.instantiable RX6 15) (bg 0 1 rfl))
  obtain ⟨c7, iS7, hK7⟩ := u_known (C := RX7) (T := TX7) (N := 33) (n := 33) hts0 inX7 (hts (.instantiable RX7 33) (bg 0 4 rfl))
  obtain ⟨cI, kI⟩ := arr_K (ty := .int) (hts0 _ (tb_in 46 (by decide +kernel))) (fun C h => by cases h)
  obtain ⟨cZ, kZ⟩ := arr_K (ty := .boolean) (hts0 _ (tb_in 90 (by decide +kernel))) (fun C h => by cases h)
  have hAO : (Cond.arrayOver (.object "DawnCoin$Standing")).before #[Value.ref b] s = true := hts0 _ (tb_in 118 (by decide +kernel))
  obtain ⟨cO, kO⟩ := arr_O hAO
  refine ⟨(fun k => match k with | 0 => c0 | 1 => c1 | 2 => c2 | 3 => c3 | 4 => c4 | 5 => c5 | 6 => c6 | _ => c7, fun k => match k with | 0 => iS0 | 1 => iS1 | 2 => iS2 | 3 => iS3 | 4 => iS4 | 5 => iS5 | 6 => iS6 | _ => iS7), cI, cZ, cO, ⟨⟨?_, ?_⟩, ns_all hts0⟩, va_AO.of hAO⟩
  · intro k q hq
    match k, hq with
    | 0, hq => cases hq; exact hK0
    | 1, hq => cases hq; exact hK1
    | 2, hq => cases hq; exact hK2
    | 3, hq => cases hq; exact hK3
    | 4, hq => cases hq; exact hK4
    | 5, hq => cases hq; exact hK5
    | 6, hq => cases hq; exact hK6
    | 7, hq => cases hq; exact hK7
    | k + 8, hq => simp [vwCl] at hq
  · intro k q hq
    match k, hq with
    | 0, hq => cases hq; exact kI
    | 1, hq => cases hq; exact kZ
    | 2, hq => cases hq; exact kO
    | k + 3, hq => simp [tyG] at hq
set_option maxHeartbeats 4000000 in
set_option maxRecDepth 100000 in
/-- the law's loop -/
theorem law_loop {p : Program} {l : Launch} {e : Env} {s : State} {m : MethodId} {below : List Frame} {meth : Method} {c : Code} {b L : Nat} {xs : Nat → Int32} {G : va_G} {cI cZ cO : ClassId} {q6 q7 : Nat → Nat} (hL : L ≤ 320) (C0 : lw_At p s m meth c b L xs) (hE : EnvO G cI cZ cO s) :
    ∀ (n k : Nat), k ≤ L → L + 1 ≤ k + n → ∀ (H : Heap) (locs : List Loc), LI G cI cZ cO s q6 q7 H locs → ∀ (ls : Array Slot), lv_has ls 4 [(0, .ref b), (1, .ref (q6 0)), (2, .ref (q7 0)), (3, .int (nI k))] → W p l e room_1 s m #[Value.ref b] below meth c H locs 126 1703 (lw_Z below #[Value.ref b] s) (F0 m 18 ls []) := by
  intro n
  induction n with
  | zero =>
    intro k h1 h2
    exact absurd h2 (by omega)
  | succ n ih =>
    intro k hkL hkn H locs hI ls hl
    obtain ⟨hx, hb, hr, hml, hown, hts0, hX, hbl, hlocks, hgv⟩ := id C0
    have hbA : ¬ (fun q : Nat => s.heap.size ≤ q) b := Nat.not_le.mpr hbl
    have hS : va_S (fun q : Nat => s.heap.size ≤ q) s.heap H locs := by
      obtain ⟨I, A7, L7, A6, L6, rI, rA, tI, tA, dI, dA, wI, wA, uI, uA, aI, aS, aT, eI, eA, sS, sT, bI, hR, hP6, hP7, hD6, hD7, hq, hS⟩ := hI
      exact hS
    refine lv_iload_n hx hb dL_law_18 rfl (lv_at hl 3 rfl) ?_
    refine lv_aload_n hx hb dL_law_19 rfl (lv_at hl 0 rfl) ?_
    refine va_slen hx hb hX hbl hbA hS dL_law_20 ?_
    refine lv_iconst (v := 5) hx hb dL_law_21 (by decide) ?_
    refine lv_isub hx hb dL_law_22 ?_
    have hgt : (nI L - 5 < nI k) ↔ L < k + 5 := by
      rw [Int32.lt_iff_toInt_lt, show (nI L - 5).toInt = (L : Int) - (5 : Nat) from pk_sub_toInt (a := L) (b := 5) (by omega) (by omega), nI_toInt (by omega)]
      omega
    refine lv_icmp_gt (tgt := 1205) hx hb dL_law_23 (by decide) (fun cg => ?_) (fun cg => ?_)
    · refine lv_iconst (v := 1) hx hb dL_law_1205 (by decide) ?_
      refine va_forget (fun q hq => hS.2.2 q hq) ?_
      refine W.widen (k := 600000) (n := 7302250) (by decide) (by decide) ?_
      exact lw_ret hx hb hr hlocks dL_law_1206
    · have hk5 : k + 5 ≤ L := by
        rcases Nat.lt_or_ge L (k + 5) with q | q
        · exact absurd (hgt.mpr q) cg
        · exact q
      have back : ∀ (H1 : Heap) (locs1 : List Loc), LI G cI cZ cO s q6 q7 H1 locs1 → W p l e room_1 s m #[Value.ref b] below meth c H1 locs1 126 1703 (lw_Z below #[Value.ref b] s) (F0 m 1199 ls []) := by
        intro H1 locs1 hI1
        refine lv_iinc (v := nI k + 5) (lv' := [(3, .int (nI k + 5)), (0, .ref b), (1, .ref (q6 0)), (2, .ref (q7 0))]) hx hb dL_law_1199 hl (k := 3) rfl rfl (by decide) rfl (fun ls hl => ?_)
        refine lv_goto (tgt := 18) hx hb dL_law_1202 (by decide) ?_
        rw [show nI k + 5 = nI (k + 5) from nI_add k 5] at hl
        exact ih (k + 5) (by omega) (by omega) H1 locs1 hI1 ls (lv_sub hl [1, 2, 3, 0] rfl)
      refine lv_aload_n hx hb dL_law_26 rfl (lv_at hl 0 rfl) ?_
      refine lv_iload_n hx hb dL_law_27 rfl (lv_at hl 3 rfl) ?_
      refine va_sld hx hb hX hbl hbA hS (vp_in_nI (by omega) (by omega)) dL_law_28 ?_
      refine lv_bipush (v := 31) hx hb dL_law_29 (by decide) ?_
      refine lv_iand hx hb dL_law_31 ?_
      obtain ⟨j, hj, ej⟩ := pk_andE (xs (nI k).toNatClampNeg) (m := 31) 5 (by decide)
      have hj32 : j = 0 ∨ j = 1 ∨ j = 2 ∨ j = 3 ∨ j = 4 ∨ j = 5 ∨ j = 6 ∨ j = 7 ∨ j = 8 ∨ j = 9 ∨ j = 10 ∨ j = 11 ∨ j = 12 ∨ j = 13 ∨ j = 14 ∨ j = 15 ∨ j = 16 ∨ j = 17 ∨ j = 18 ∨ j = 19 ∨ j = 20 ∨ j = 21 ∨ j = 22 ∨ j = 23 ∨ j = 24 ∨ j = 25 ∨ j = 26 ∨ j = 27 ∨ j = 28 ∨ j = 29 ∨ j = 30 ∨ j = 31 := by omega
      rcases hj32 with rfl | rfl | rfl | rfl | rfl | rfl | rfl | rfl | rfl | rfl | rfl | rfl | rfl | rfl | rfl | rfl | rfl | rfl | rfl | rfl | rfl | rfl | rfl | rfl | rfl | rfl | rfl | rfl | rfl | rfl | rfl | rfl
      · exact x_tsw (k := 0) (tgt := 168) hx hb ej dL_law_32 (by decide) (by decide) rfl (by decide) (lc_0 C0 hE hk5 hL hI hl back)
      · exact x_tsw (k := 1) (tgt := 191) hx hb ej dL_law_32 (by decide) (by decide) rfl (by decide) (lc_1 C0 hE hk5 hL hI hl back)
      · exact x_tsw (k := 2) (tgt := 204) hx hb ej dL_law_32 (by decide) (by decide) rfl (by decide) (lc_2 C0 hE hk5 hL hI hl back)
      · exact x_tsw (k := 3) (tgt := 217) hx hb ej dL_law_32 (by decide) (by decide) rfl (by decide) (lc_3 C0 hE hk5 hL hI hl back)
      · exact x_tsw (k := 4) (tgt := 230) hx hb ej dL_law_32 (by decide) (by decide) rfl (by decide) (lc_4 C0 hE hk5 hL hI hl back)
      · exact x_tsw (k := 5) (tgt := 263) hx hb ej dL_law_32 (by decide) (by decide) rfl (by decide) (lc_5 C0 hE hk5 hL hI hl back)
      · exact x_tsw (k := 6) (tgt := 286) hx hb ej dL_law_32 (by decide) (by decide) rfl (by decide) (lc_6 C0 hE hk5 hL hI hl back)
      · exact x_tsw (k := 7) (tgt := 319) hx hb ej dL_law_32 (by decide) (by decide) rfl (by decide) (lc_7 C0 hE hk5 hL hI hl back)
      · exact x_tsw (k := 8) (tgt := 332) hx hb ej dL_law_32 (by decide) (by decide) rfl (by decide) (lc_8 C0 hE hk5 hL hI hl back)
      · exact x_tsw (k := 9) (tgt := 365) hx hb ej dL_law_32 (by decide) (by decide) rfl (by decide) (lc_9 C0 hE hk5 hL hI hl back)
      · exact x_tsw (k := 10) (tgt := 398) hx hb ej dL_law_32 (by decide) (by decide) rfl (by decide) (lc_10 C0 hE hk5 hL hI hl back)
      · exact x_tsw (k := 11) (tgt := 441) hx hb ej dL_law_32 (by decide) (by decide) rfl (by decide) (lc_11 C0 hE hk5 hL hI hl back)
      · exact x_tsw (k := 12) (tgt := 454) hx hb ej dL_law_32 (by decide) (by decide) rfl (by decide) (lc_12 C0 hE hk5 hL hI hl back)
      · exact x_tsw (k := 13) (tgt := 487) hx hb ej dL_law_32 (by decide) (by decide) rfl (by decide) (lc_13 C0 hE hk5 hL hI hl back)
      · exact x_tsw (k := 14) (tgt := 520) hx hb ej dL_law_32 (by decide) (by decide) rfl (by decide) (lc_14 C0 hE hk5 hL hI hl back)
      · exact x_tsw (k := 15) (tgt := 543) hx hb ej dL_law_32 (by decide) (by decide) rfl (by decide) (lc_15 C0 hE hk5 hL hI hl back)
      · exact x_tsw (k := 16) (tgt := 576) hx hb ej dL_law_32 (by decide) (by decide) rfl (by decide) (lc_16 C0 hE hk5 hL hI hl back)
      · exact x_tsw (k := 17) (tgt := 635) hx hb ej dL_law_32 (by decide) (by decide) rfl (by decide) (lc_17 C0 hE hk5 hL hI hl back)
      · exact x_tsw (k := 18) (tgt := 684) hx hb ej dL_law_32 (by decide) (by decide) rfl (by decide) (lc_18 C0 hE hk5 hL hI hl back)
      · exact x_tsw (k := 19) (tgt := 747) hx hb ej dL_law_32 (by decide) (by decide) rfl (by decide) (lc_19 C0 hE hk5 hL hI hl back)
      · exact x_tsw (k := 20) (tgt := 816) hx hb ej dL_law_32 (by decide) (by decide) rfl (by decide) (lc_20 C0 hE hk5 hL hI hl back)
      · exact x_tsw (k := 21) (tgt := 829) hx hb ej dL_law_32 (by decide) (by decide) rfl (by decide) (lc_21 C0 hE hk5 hL hI hl back)
      · exact x_tsw (k := 22) (tgt := 862) hx hb ej dL_law_32 (by decide) (by decide) rfl (by decide) (lc_22 C0 hE hk5 hL hI hl back)
      · exact x_tsw (k := 23) (tgt := 931) hx hb ej dL_law_32 (by decide) (by decide) rfl (by decide) (lc_23 C0 hE hk5 hL hI hl back)
      · exact x_tsw (k := 24) (tgt := 984) hx hb ej dL_law_32 (by decide) (by decide) rfl (by decide) (lc_24 C0 hE hk5 hL hI hl back)
      · exact x_tsw (k := 25) (tgt := 1053) hx hb ej dL_law_32 (by decide) (by decide) rfl (by decide) (lc_25 C0 hE hk5 hL hI hl back)
      · exact x_tsw (k := 26) (tgt := 1107) hx hb ej dL_law_32 (by decide) (by decide) rfl (by decide) (lc_26 C0 hE hk5 hL hI hl back)
      · exact x_tsw (k := 27) (tgt := 1130) hx hb ej dL_law_32 (by decide) (by decide) rfl (by decide) (lc_27 C0 hE hk5 hL hI hl back)
      · exact x_tsw (k := 28) (tgt := 1153) hx hb ej dL_law_32 (by decide) (by decide) rfl (by decide) (lc_28 C0 hE hk5 hL hI hl back)
      · exact x_tsw (k := 29) (tgt := 1176) hx hb ej dL_law_32 (by decide) (by decide) rfl (by decide) (lc_29 C0 hE hk5 hL hI hl back)
      · exact lv_tableOut (tgt := 1199) hx hb dL_law_32 (by rw [ej]; decide) (by decide) (back H locs hI)
      · exact lv_tableOut (tgt := 1199) hx hb dL_law_32 (by rw [ej]; decide) (by decide) (back H locs hI)
set_option maxHeartbeats 4000000 in
set_option maxRecDepth 100000 in
theorem whole_start {p : Program} {e : Env} {s : State} {m : MethodId} {below : List Frame} {meth : Method} {c : Code} (l : Launch) {b L : Nat} {xs : Nat → Int32} (hL : L ≤ 320) (C0 : lw_At p s m meth c b L xs) : W p l e room_1 s m #[Value.ref b] below meth c s.heap [] 0 0 (lw_Z below #[Value.ref b] s) (entryFrame m ([Value.ref b] : List Value).toArray 4) := by
  obtain ⟨hx, hb, hr, hml, hown, hts0, hX, hbl, hlocks, hgv⟩ := id C0
  have hts : ∀ w ∈ wsL_law, w.before #[Value.ref b] s = true := fun w h => hts0 w (wsL_law_in w h)
  have hA : ∀ q : Nat, s.heap.size ≤ q → (fun q : Nat => s.heap.size ≤ q) q := fun _ h => h
  obtain ⟨G, cI, cZ, cO, hE, hO⟩ := env_start hts0
  have hS : va_S (fun q : Nat => s.heap.size ≤ q) s.heap s.heap [] := va_S.rf
  have hP : va_P G vwCl [] s.heap := fun k q h => by simp at h
  have hD : va_D (fun q : Nat => s.heap.size ≤ q) [] := ⟨fun i j p q h => by simp at h, fun k q h => by simp at h⟩
  have hl := lv_entry ([.ref b]) (n := 4) (Nat.le_of_ble_eq_true rfl)
  rw [lg_entry_eq]
  generalize (lg_sl ([.ref b]) ++ List.replicate (4 - (lg_sl ([.ref b])).length) Slot.unset).toArray = ls at hl ⊢
  have hl : lv_has ls 4 [(0, .ref b)] := hl
  refine va_new (ci := 6) (fs := [.null, .null, .null, .null, .null, .null, .null, .null, .null, .null, .null, .null, .null, .null, .long 0]) (C := RX6) (T := TX6) (N := 15) hx hb hts0 inX6 tyX6 tyX6_ok hown (hts _ (bg 0 0 rfl)) (hts _ (bg 0 1 rfl)) (hts _ (bg 0 2 rfl)) hE.1 hP hD hS hA rfl (by decide +kernel) (by decide) (by decide) dL_law_0 (fun b1 H hP hD hS => ?_)
  refine lv_dup hx hb dL_law_3 rfl ?_
  refine x_ctS (wr := []) hx hb hml hown hts hE hO (ct_X6_init l G cI cZ cO) (bg 0 7 rfl) mb_X6_init.1 mb_X6_init.2.1 mb_X6_init.2.2 rfl hd_X6_init (by decide) hP hD hS hA (fun z => [.ref z]) rfl hl.1 (Nat.le_of_ble_eq_true rfl) (by decide) dL_law_4 (fun q6 H locs hP hD hS => ?_)
  rw [List.nil_append] at hP hD
  refine lv_astore_n (lv' := [(1, .ref (q6 0)), (0, .ref b)]) hx hb dL_law_7 rfl hl (by decide) rfl (fun ls hl => ?_)
  refine va_new (ci := 7) (fs := [.int 0, .int 0, .null, .null, .null, .null, .null, .null, .null, .null, .null, .null, .null, .null, .int 0, .int 0, .null, .int 0, .int 0, .int 0, .int 0, .int 0, .null, .int 0, .null, .null, .null, .null, .null, .null, .long 0, .null, .null]) (C := RX7) (T := TX7) (N := 33) hx hb hts0 inX7 tyX7 tyX7_ok hown (hts _ (bg 0 3 rfl)) (hts _ (bg 0 4 rfl)) (hts _ (bg 0 5 rfl)) hE.1 hP hD hS hA rfl (by decide +kernel) (by decide) (by decide) dL_law_8 (fun b2 H hP hD hS => ?_)
  refine lv_dup hx hb dL_law_11 rfl ?_
  refine x_ctS hx hb hml hown hts hE hO (ct_X7_init l G cI cZ cO) (bg 3 10 rfl) mb_X7_init.1 mb_X7_init.2.1 mb_X7_init.2.2 rfl hd_X7_init (by decide) hP hD hS hA (fun z => [.ref z]) rfl hl.1 (Nat.le_of_ble_eq_true rfl) (by decide) dL_law_12 (fun q7 H locs hP hD hS => ?_)
  refine lv_astore_n (lv' := [(2, .ref (q7 0)), (1, .ref (q6 0)), (0, .ref b)]) hx hb dL_law_15 rfl hl (by decide) rfl (fun ls hl => ?_)
  refine lv_iconst (v := 0) hx hb dL_law_16 (by decide) ?_
  refine lv_istore_n (lv' := [(3, .int 0), (2, .ref (q7 0)), (1, .ref (q6 0)), (0, .ref b)]) hx hb dL_law_17 rfl hl (by decide) rfl (fun ls hl => ?_)
  have w6 := w6_fst q6 cI cZ cO ZA 0 ZI ZA ZI ZA ZI ZA ZI ZA ZI ZA ZI ZA ZT ZI ZA ZA ZT ZI
  have w7 := w7_fst q7 cI cZ cO ZI ZA 0
  have l6 : (wX6 q6 cI cZ cO ZA 0 ZI ZA ZI ZA ZI ZA ZI ZA ZI ZA ZI ZA ZT ZI ZA ZA ZT ZI).length = 103 := by
    have := congrArg List.length w6
    simpa using this
  obtain ⟨hP6, hP7⟩ := va_P_app hP
  obtain ⟨hD6, hD7, hap⟩ := va_D_app hD
  have hq : Aq q6 q7 := by
    intro i j hi hj e
    obtain ⟨x, hx1, hx2⟩ := rng_ex w6 hi
    obtain ⟨z, hz1, hz2⟩ := rng_ex w7 hj
    exact hap i j x z hx1 hz1 (by rw [hx2, hz2, e])
  exact law_loop hL C0 hE (L + 1) 0 (Nat.zero_le L) (by omega) H locs ⟨ZI, ZA, 0, ZA, 0, ZI, ZA, ZI, ZA, ZI, ZA, ZI, ZA, ZI, ZA, ZI, ZA, ZT, ZI, ZA, ZA, ZT, ZI, R_init, hP6, hP7, hD6, hD7, hq, hS⟩ ls (lv_sub hl [3, 2, 1, 0] rfl)
