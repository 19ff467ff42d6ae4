def fX5_hasFreePair_29 (N : Nat) (k_4 : (Nat → Int32) → (Nat → Nat → Int32) → Int32 → Int32 → Option (Int32)) (I : Nat → Int32) (A : Nat → Nat → Int32) (u2 : Int32) (y0 : Int32) : Option (Int32) := k_4 I A y0 (u2 + 1)
def fX5_hasFreePair_24 (N : Nat) (k_4 : (Nat → Int32) → (Nat → Nat → Int32) → Int32 → Int32 → Option (Int32)) (I : Nat → Int32) (A : Nat → Nat → Int32) (u2 : Int32) : Option (Int32) := fX5_hasFreePair_29 N k_4 I A u2 1
def fX5_hasFreePair_4s (N : Nat) (k_4 : (Nat → Int32) → (Nat → Nat → Int32) → Int32 → Int32 → Option (Int32)) (I : Nat → Int32) (A : Nat → Nat → Int32) (u1 : Int32) (u2 : Int32) : Option (Int32) := if (I 0) ≤ u2 then (bz u1).bind fun v2 => some v2 else if u1 = 0 then (fX5_freePartners N I A u2).bind fun z4 => if z4 = 0 then fX5_hasFreePair_29 N k_4 I A u2 0 else fX5_hasFreePair_24 N k_4 I A u2 else fX5_hasFreePair_24 N k_4 I A u2
def fX5_hasFreePair_4 (N : Nat) : Nat → (Nat → Int32) → (Nat → Nat → Int32) → Int32 → Int32 → Option (Int32)
  | 0 => fun _ _ _ _ => none
  | n + 1 => fX5_hasFreePair_4s N (fX5_hasFreePair_4 N n)
def fX5_hasFreePair (N : Nat) (I : Nat → Int32) (A : Nat → Nat → Int32) : Option (Int32) := fX5_hasFreePair_4 N N I A 0 0
def rmX5_hasFreePair : Room := { frames := 2, cells := 0, slots := 0, locals := 43 }
theorem mb_X5_hasFreePair : Cond.instanceMethod yX5_hasFreePair ∈ wsL_law ∧ Cond.selects RX5 yX5_hasFreePair yX5_hasFreePair ∈ wsL_law ∧ Cond.initialized RX5 ∈ wsL_law ∧ Cond.code yX5_hasFreePair cX5_hasFreePair 3 (some .boolean) ∈ wsL_law := ⟨(bg 7 0 rfl), (bg 7 1 rfl), (bg 0 19 rfl), (bg 7 2 rfl)⟩
theorem hd_X5_hasFreePair : yX5_hasFreePair.cls = RX5 ∧ yX5_hasFreePair.cls ≠ "java/lang/invoke/MethodHandle" ∧ yX5_hasFreePair.cls ≠ "java/lang/invoke/VarHandle" ∧ (parseMethodDescriptor yX5_hasFreePair.desc).map (fun d => d.parameters.length) = some 0 := by decide +kernel
set_option maxRecDepth 100000 in
set_option maxHeartbeats 4000000 in
theorem ct_X5_hasFreePair (N : Nat) (l : Launch) (G : va_G) (cI cZ cO : ClassId) (q : Nat → Nat) (I : Nat → Int32) (A : Nat → Nat → Int32) (r : Int32) (hf : fX5_hasFreePair N I A = some r) : RtI l yX5_hasFreePair cX5_hasFreePair 3 .boolean rmX5_hasFreePair G cI cZ cO [.ref (q 0)] (wX5 q cI cZ cO I A) r := by
  refine mkRI (by decide) (Nat.le_of_ble_eq_true rfl) ?_
  intro p e s m below meth cd Q hC hP hE fin ls hl
  obtain ⟨hx, hb, hml, hown, hts⟩ := hC
  have hown : s.vm.findClass RX5 = some m.cls := hown
  have hl : lv_has ls 3 [(0, .ref (q 0))] := hl
  have b_29 : ∀ (k_4 : (Nat → Int32) → (Nat → Nat → Int32) → Int32 → Int32 → Option (Int32)) (hk_4 : ∀ (u1 : Int32) (u2 : Int32), ∀ ls : Array Slot, lv_has ls 3 [(0, .ref (q 0)), (1, .int u1), (2, .int u2)] → k_4 I A u1 u2 = some r → W p l e rmX5_hasFreePair s m [.ref (q 0)].toArray below meth cd s.heap [] 0 0 Q (F0 m 4 ls [])), ∀ (u2 : Int32) (y0 : Int32), ∀ ls : Array Slot, lv_has ls 3 [(0, .ref (q 0)), (2, .int u2)] → fX5_hasFreePair_29 N k_4 I A u2 y0 = some r → W p l e rmX5_hasFreePair s m [.ref (q 0)].toArray below meth cd s.heap [] 0 0 Q (F0 m 29 ls [.int y0]) := by
    intro k_4 hk_4 u2 y0 ls hl hf
    unfold fX5_hasFreePair_29 at hf
    refine lv_istore_n (lv' := [(1, .int y0), (0, .ref (q 0)), (2, .int u2)]) hx hb dX5_hasFreePair_29 rfl hl (by decide) rfl (fun ls hl => ?_)
    refine lv_iinc (v := u2 + 1) (lv' := [(2, .int (u2 + 1)), (1, .int y0), (0, .ref (q 0))]) hx hb dX5_hasFreePair_30 hl (k := 2) rfl rfl (by decide) rfl (fun ls hl => ?_)
    refine lv_goto (tgt := 4) hx hb dX5_hasFreePair_33 (by decide) ?_
    exact hk_4 y0 (u2 + 1) ls (lv_sub hl [2, 1, 0] rfl) hf
  have b_24 : ∀ (k_4 : (Nat → Int32) → (Nat → Nat → Int32) → Int32 → Int32 → Option (Int32)) (hk_4 : ∀ (u1 : Int32) (u2 : Int32), ∀ ls : Array Slot, lv_has ls 3 [(0, .ref (q 0)), (1, .int u1), (2, .int u2)] → k_4 I A u1 u2 = some r → W p l e rmX5_hasFreePair s m [.ref (q 0)].toArray below meth cd s.heap [] 0 0 Q (F0 m 4 ls [])), ∀ (u2 : Int32), ∀ ls : Array Slot, lv_has ls 3 [(0, .ref (q 0)), (2, .int u2)] → fX5_hasFreePair_24 N k_4 I A u2 = some r → W p l e rmX5_hasFreePair s m [.ref (q 0)].toArray below meth cd s.heap [] 0 0 Q (F0 m 24 ls []) := by
    intro k_4 hk_4 u2 ls hl hf
    unfold fX5_hasFreePair_24 at hf
    refine lv_iconst (v := 1) hx hb dX5_hasFreePair_24 (by decide) ?_
    refine lv_goto (tgt := 29) hx hb dX5_hasFreePair_25 (by decide) ?_
    exact b_29 k_4 hk_4 u2 1 ls (lv_sub hl [0, 1] rfl) hf
  have b_4 : ∀ n : Nat, ∀ (u1 : Int32) (u2 : Int32), ∀ ls : Array Slot, lv_has ls 3 [(0, .ref (q 0)), (1, .int u1), (2, .int u2)] → fX5_hasFreePair_4 N n I A u1 u2 = some r → W p l e rmX5_hasFreePair s m [.ref (q 0)].toArray below meth cd s.heap [] 0 0 Q (F0 m 4 ls []) := by
    intro n
    induction n with
    | zero =>
      intro u1 u2 ls hl hf
      cases hf
    | succ n hk_4 =>
      intro u1 u2 ls hl hf
      replace hf : fX5_hasFreePair_4s N (fX5_hasFreePair_4 N n) I A u1 u2 = some r := hf
      generalize fX5_hasFreePair_4 N n = k_4 at hf hk_4
      unfold fX5_hasFreePair_4s at hf
      refine lv_iload_n hx hb dX5_hasFreePair_4 rfl (lv_at hl 2 rfl) ?_
      refine lv_aload_n hx hb dX5_hasFreePair_5 rfl (lv_at hl 0 rfl) ?_
      refine va_get (D := G) (ci := 5) (v := .int ((I 0))) (C := RX5) (T := TX5) (N := 8) hx hb hts inlX5 hown hE.1 hP 0 rfl rfl 6 (by decide) (hts _ (bg 6 10 rfl)) (fun _ h9 => h9) rfl dX5_hasFreePair_6 ?_
      refine lv_icmp_ge (tgt := 36) hx hb dX5_hasFreePair_9 (by decide) (fun c1 => ?_) (fun c1 => ?_)
      · rw [if_pos c1] at hf
        refine lv_iload_n hx hb dX5_hasFreePair_36 rfl (lv_at hl 1 rfl) ?_
        obtain ⟨v2, hv2, hf⟩ := bnd hf
        obtain ⟨ev2, hv2⟩ := bz_in hv2
        rw [ev2]
        have e9 := Option.some.inj hf
        exact fin 37 ls _ e9 (nar_z (by rw [← e9]; exact hv2)) dX5_hasFreePair_37
      · rw [if_neg c1] at hf
        refine lv_iload_n hx hb dX5_hasFreePair_12 rfl (lv_at hl 1 rfl) ?_
        refine lv_if_ne (tgt := 24) hx hb dX5_hasFreePair_13 (by decide) (fun c3 => ?_) (fun c3 => ?_)
        · rw [if_neg c3] at hf
          exact b_24 k_4 hk_4 u2 ls (lv_sub hl [0, 2] rfl) hf
        · rw [if_pos c3] at hf
          refine lv_aload_n hx hb dX5_hasFreePair_16 rfl (lv_at hl 0 rfl) ?_
          refine lv_iload_n hx hb dX5_hasFreePair_17 rfl (lv_at hl 2 rfl) ?_
          obtain ⟨z4, hz4, hf⟩ := bnd hf
          refine x_rdV (C := RX5) (n := 1) (ci := 5) hx hb hml hown hts hE (ct_X5_freePartners N l G cI cZ cO q I A u2 z4 hz4) (bg 7 3 rfl) mb_X5_freePartners.1 mb_X5_freePartners.2.1 mb_X5_freePartners.2.2.1 mb_X5_freePartners.2.2.2 hd_X5_freePartners rfl (by decide) hP rfl rfl rfl rfl hl.1 (Nat.le_of_ble_eq_true rfl) ⟨Nat.zero_le _, Nat.zero_le _⟩ dX5_hasFreePair_18 ?_
          refine lv_if_eq (tgt := 28) hx hb dX5_hasFreePair_21 (by decide) (fun c5 => ?_) (fun c5 => ?_)
          · rw [if_pos c5] at hf
            refine lv_iconst (v := 0) hx hb dX5_hasFreePair_28 (by decide) ?_
            exact b_29 k_4 hk_4 u2 0 ls (lv_sub hl [0, 2] rfl) hf
          · rw [if_neg c5] at hf
            exact b_24 k_4 hk_4 u2 ls (lv_sub hl [0, 2] rfl) hf
  unfold fX5_hasFreePair at hf
  refine lv_iconst (v := 0) hx hb dX5_hasFreePair_0 (by decide) ?_
  refine lv_istore_n (lv' := [(1, .int 0), (0, .ref (q 0))]) hx hb dX5_hasFreePair_1 rfl hl (by decide) rfl (fun ls hl => ?_)
  refine lv_iconst (v := 0) hx hb dX5_hasFreePair_2 (by decide) ?_
  refine lv_istore_n (lv' := [(2, .int 0), (1, .int 0), (0, .ref (q 0))]) hx hb dX5_hasFreePair_3 rfl hl (by decide) rfl (fun ls hl => ?_)
  exact b_4 N 0 0 ls (lv_sub hl [2, 1, 0] rfl) hf
def fX5_freeTables_23 (N : Nat) (I : Nat → Int32) (A : Nat → Nat → Int32) (y0 : Int32) : Option (Int32) := some y0
def fX5_freeTables (N : Nat) (I : Nat → Int32) (A : Nat → Nat → Int32) (x1 : Int32) : Option (Int32) := (fX5_hasRumour N I x1).bind fun z1 => if z1 = 0 then fX5_freeTables_23 N I A 0 else (rd 5 (A 4) x1).bind fun v3 => fX5_freeTables_23 N I A (63 &&& (v3 ^^^ (-1)))
def rmX5_freeTables : Room := { frames := 1, cells := 0, slots := 0, locals := 21 }
theorem mb_X5_freeTables : Cond.instanceMethod yX5_freeTables ∈ wsL_law ∧ Cond.selects RX5 yX5_freeTables yX5_freeTables ∈ wsL_law ∧ Cond.initialized RX5 ∈ wsL_law ∧ Cond.code yX5_freeTables cX5_freeTables 2 (some .int) ∈ wsL_law := ⟨(bg 7 16 rfl), (bg 7 17 rfl), (bg 0 19 rfl), (bg 7 18 rfl)⟩
theorem hd_X5_freeTables : yX5_freeTables.cls = RX5 ∧ yX5_freeTables.cls ≠ "java/lang/invoke/MethodHandle" ∧ yX5_freeTables.cls ≠ "java/lang/invoke/VarHandle" ∧ (parseMethodDescriptor yX5_freeTables.desc).map (fun d => d.parameters.length) = some 1 := by decide +kernel
set_option maxRecDepth 100000 in
set_option maxHeartbeats 4000000 in
theorem ct_X5_freeTables (N : Nat) (l : Launch) (G : va_G) (cI cZ cO : ClassId) (q : Nat → Nat) (I : Nat → Int32) (A : Nat → Nat → Int32) (x1 : Int32) (r : Int32) (hf : fX5_freeTables N I A x1 = some r) : RtI l yX5_freeTables cX5_freeTables 2 .int rmX5_freeTables G cI cZ cO [.ref (q 0), .int x1] (wX5 q cI cZ cO I A) r := by
  refine mkRI (by decide) (Nat.le_of_ble_eq_true rfl) ?_
  intro p e s m below meth cd Q hC hP hE fin ls hl
  obtain ⟨hx, hb, hml, hown, hts⟩ := hC
  have hown : s.vm.findClass RX5 = some m.cls := hown
  have hl : lv_has ls 2 [(0, .ref (q 0)), (1, .int x1)] := hl
  have b_23 : ∀ (y0 : Int32), ∀ ls : Array Slot, lv_has ls 2 [] → fX5_freeTables_23 N I A y0 = some r → W p l e rmX5_freeTables s m [.ref (q 0), .int x1].toArray below meth cd s.heap [] 0 0 Q (F0 m 23 ls [.int y0]) := by
    intro y0 ls hl hf
    unfold fX5_freeTables_23 at hf
    have e9 := Option.some.inj hf
    exact fin 23 ls _ e9 (nar_i _) dX5_freeTables_23
  unfold fX5_freeTables at hf
  refine lv_aload_n hx hb dX5_freeTables_0 rfl (lv_at hl 0 rfl) ?_
  refine lv_iload_n hx hb dX5_freeTables_1 rfl (lv_at hl 1 rfl) ?_
  obtain ⟨z1, hz1, hf⟩ := bnd hf
  refine x_rdV (C := RX5) (n := 1) (ci := 5) hx hb hml hown hts hE (ct_X5_hasRumour N l G cI cZ cO q I A x1 z1 hz1) (bg 7 7 rfl) mb_X5_hasRumour.1 mb_X5_hasRumour.2.1 mb_X5_hasRumour.2.2.1 mb_X5_hasRumour.2.2.2 hd_X5_hasRumour rfl (by decide) hP rfl rfl rfl rfl hl.1 (Nat.le_of_ble_eq_true rfl) ⟨Nat.zero_le _, Nat.zero_le _⟩ dX5_freeTables_2 ?_
  refine lv_if_eq (tgt := 22) hx hb dX5_freeTables_5 (by decide) (fun c2 => ?_) (fun c2 => ?_)
  · rw [if_pos c2] at hf
    refine lv_iconst (v := 0) hx hb dX5_freeTables_22 (by decide) ?_
    exact b_23 0 ls (lv_sub hl [] rfl) hf
  · rw [if_neg c2] at hf
    refine lv_bipush (v := 63) hx hb dX5_freeTables_8 (by decide) ?_
    refine lv_aload_n hx hb dX5_freeTables_10 rfl (lv_at hl 0 rfl) ?_
    refine va_get (D := G) (ci := 5) (v := .ref (q 5)) (C := RX5) (T := TX5) (N := 8) hx hb hts inlX5 hown hE.1 hP 0 rfl rfl 4 (by decide) (hts _ (bg 2 10 rfl)) (fun _ h9 => h9) rfl dX5_freeTables_11 ?_
    refine lv_iload_n hx hb dX5_freeTables_14 rfl (lv_at hl 1 rfl) ?_
    obtain ⟨v3, hv3, hf⟩ := bnd hf
    refine x_iald hx hb hE.1 hP 5 0 rfl rfl hv3 dX5_freeTables_15 ?_
    refine lv_iconst (v := (-1)) hx hb dX5_freeTables_16 (by decide) ?_
    refine lv_ixor hx hb dX5_freeTables_17 ?_
    refine lv_iand hx hb dX5_freeTables_18 ?_
    refine lv_goto (tgt := 23) hx hb dX5_freeTables_19 (by decide) ?_
    exact b_23 (63 &&& (v3 ^^^ (-1))) ls (lv_sub hl [] rfl) hf
def fX5_hasFreeTable_29 (N : Nat) (k_4 : (Nat → Int32) → (Nat → Nat → Int32) → Int32 → Int32 → Option (Int32)) (I : Nat → Int32) (A : Nat → Nat → Int32) (u2 : Int32) (y0 : Int32) : Option (Int32) := k_4 I A y0 (u2 + 1)
def fX5_hasFreeTable_24 (N : Nat) (k_4 : (Nat → Int32) → (Nat → Nat → Int32) → Int32 → Int32 → Option (Int32)) (I : Nat → Int32) (A : Nat → Nat → Int32) (u2 : Int32) : Option (Int32) := fX5_hasFreeTable_29 N k_4 I A u2 1
def fX5_hasFreeTable_4s (N : Nat) (k_4 : (Nat → Int32) → (Nat → Nat → Int32) → Int32 → Int32 → Option (Int32)) (I : Nat → Int32) (A : Nat → Nat → Int32) (u1 : Int32) (u2 : Int32) : Option (Int32) := if (I 0) ≤ u2 then (bz u1).bind fun v2 => some v2 else if u1 = 0 then (fX5_freeTables N I A u2).bind fun z4 => if z4 = 0 then fX5_hasFreeTable_29 N k_4 I A u2 0 else fX5_hasFreeTable_24 N k_4 I A u2 else fX5_hasFreeTable_24 N k_4 I A u2
def fX5_hasFreeTable_4 (N : Nat) : Nat → (Nat → Int32) → (Nat → Nat → Int32) → Int32 → Int32 → Option (Int32)
  | 0 => fun _ _ _ _ => none
  | n + 1 => fX5_hasFreeTable_4s N (fX5_hasFreeTable_4 N n)
def fX5_hasFreeTable (N : Nat) (I : Nat → Int32) (A : Nat → Nat → Int32) : Option (Int32) := fX5_hasFreeTable_4 N N I A 0 0
def rmX5_hasFreeTable : Room := { frames := 2, cells := 0, slots := 0, locals := 42 }
theorem mb_X5_hasFreeTable : Cond.instanceMethod yX5_hasFreeTable ∈ wsL_law ∧ Cond.selects RX5 yX5_hasFreeTable yX5_hasFreeTable ∈ wsL_law ∧ Cond.initialized RX5 ∈ wsL_law ∧ Cond.code yX5_hasFreeTable cX5_hasFreeTable 3 (some .boolean) ∈ wsL_law := ⟨(bg 7 12 rfl), (bg 7 13 rfl), (bg 0 19 rfl), (bg 7 14 rfl)⟩
theorem hd_X5_hasFreeTable : yX5_hasFreeTable.cls = RX5 ∧ yX5_hasFreeTable.cls ≠ "java/lang/invoke/MethodHandle" ∧ yX5_hasFreeTable.cls ≠ "java/lang/invoke/VarHandle" ∧ (parseMethodDescriptor yX5_hasFreeTable.desc).map (fun d => d.parameters.length) = some 0 := by decide +kernel
set_option maxRecDepth 100000 in
set_option maxHeartbeats 4000000 in
theorem ct_X5_hasFreeTable (N : Nat) (l : Launch) (G : va_G) (cI cZ cO : ClassId) (q : Nat → Nat) (I : Nat → Int32) (A : Nat → Nat → Int32) (r : Int32) (hf : fX5_hasFreeTable N I A = some r) : RtI l yX5_hasFreeTable cX5_hasFreeTable 3 .boolean rmX5_hasFreeTable G cI cZ cO [.ref (q 0)] (wX5 q cI cZ cO I A) r := by
  refine mkRI (by decide) (Nat.le_of_ble_eq_true rfl) ?_
  intro p e s m below meth cd Q hC hP hE fin ls hl
  obtain ⟨hx, hb, hml, hown, hts⟩ := hC
  have hown : s.vm.findClass RX5 = some m.cls := hown
  have hl : lv_has ls 3 [(0, .ref (q 0))] := hl
  have b_29 : ∀ (k_4 : (Nat → Int32) → (Nat → Nat → Int32) → Int32 → Int32 → Option (Int32)) (hk_4 : ∀ (u1 : Int32) (u2 : Int32), ∀ ls : Array Slot, lv_has ls 3 [(0, .ref (q 0)), (1, .int u1), (2, .int u2)] → k_4 I A u1 u2 = some r → W p l e rmX5_hasFreeTable s m [.ref (q 0)].toArray below meth cd s.heap [] 0 0 Q (F0 m 4 ls [])), ∀ (u2 : Int32) (y0 : Int32), ∀ ls : Array Slot, lv_has ls 3 [(0, .ref (q 0)), (2, .int u2)] → fX5_hasFreeTable_29 N k_4 I A u2 y0 = some r → W p l e rmX5_hasFreeTable s m [.ref (q 0)].toArray below meth cd s.heap [] 0 0 Q (F0 m 29 ls [.int y0]) := by
    intro k_4 hk_4 u2 y0 ls hl hf
    unfold fX5_hasFreeTable_29 at hf
    refine lv_istore_n (lv' := [(1, .int y0), (0, .ref (q 0)), (2, .int u2)]) hx hb dX5_hasFreeTable_29 rfl hl (by decide) rfl (fun ls hl => ?_)
    refine lv_iinc (v := u2 + 1) (lv' := [(2, .int (u2 + 1)), (1, .int y0), (0, .ref (q 0))]) hx hb dX5_hasFreeTable_30 hl (k := 2) rfl rfl (by decide) rfl (fun ls hl => ?_)
    refine lv_goto (tgt := 4) hx hb dX5_hasFreeTable_33 (by decide) ?_
    exact hk_4 y0 (u2 + 1) ls (lv_sub hl [2, 1, 0] rfl) hf
  have b_24 : ∀ (k_4 : (Nat → Int32) → (Nat → Nat → Int32) → Int32 → Int32 → Option (Int32)) (hk_4 : ∀ (u1 : Int32) (u2 : Int32), ∀ ls : Array Slot, lv_has ls 3 [(0, .ref (q 0)), (1, .int u1), (2, .int u2)] → k_4 I A u1 u2 = some r → W p l e rmX5_hasFreeTable s m [.ref (q 0)].toArray below meth cd s.heap [] 0 0 Q (F0 m 4 ls [])), ∀ (u2 : Int32), ∀ ls : Array Slot, lv_has ls 3 [(0, .ref (q 0)), (2, .int u2)] → fX5_hasFreeTable_24 N k_4 I A u2 = some r → W p l e rmX5_hasFreeTable s m [.ref (q 0)].toArray below meth cd s.heap [] 0 0 Q (F0 m 24 ls []) := by
    intro k_4 hk_4 u2 ls hl hf
    unfold fX5_hasFreeTable_24 at hf
    refine lv_iconst (v := 1) hx hb dX5_hasFreeTable_24 (by decide) ?_
    refine lv_goto (tgt := 29) hx hb dX5_hasFreeTable_25 (by decide) ?_
    exact b_29 k_4 hk_4 u2 1 ls (lv_sub hl [0, 1] rfl) hf
  have b_4 : ∀ n : Nat, ∀ (u1 : Int32) (u2 : Int32), ∀ ls : Array Slot, lv_has ls 3 [(0, .ref (q 0)), (1, .int u1), (2, .int u2)] → fX5_hasFreeTable_4 N n I A u1 u2 = some r → W p l e rmX5_hasFreeTable s m [.ref (q 0)].toArray below meth cd s.heap [] 0 0 Q (F0 m 4 ls []) := by
    intro n
    induction n with
    | zero =>
      intro u1 u2 ls hl hf
      cases hf
    | succ n hk_4 =>
      intro u1 u2 ls hl hf
      replace hf : fX5_hasFreeTable_4s N (fX5_hasFreeTable_4 N n) I A u1 u2 = some r := hf
      generalize fX5_hasFreeTable_4 N n = k_4 at hf hk_4
      unfold fX5_hasFreeTable_4s at hf
      refine lv_iload_n hx hb dX5_hasFreeTable_4 rfl (lv_at hl 2 rfl) ?_
      refine lv_aload_n hx hb dX5_hasFreeTable_5 rfl (lv_at hl 0 rfl) ?_
      refine va_get (D := G) (ci := 5) (v := .int ((I 0))) (C := RX5) (T := TX5) (N := 8) hx hb hts inlX5 hown hE.1 hP 0 rfl rfl 6 (by decide) (hts _ (bg 6 10 rfl)) (fun _ h9 => h9) rfl dX5_hasFreeTable_6 ?_
      refine lv_icmp_ge (tgt := 36) hx hb dX5_hasFreeTable_9 (by decide) (fun c1 => ?_) (fun c1 => ?_)
      · rw [if_pos c1] at hf
        refine lv_iload_n hx hb dX5_hasFreeTable_36 rfl (lv_at hl 1 rfl) ?_
        obtain ⟨v2, hv2, hf⟩ := bnd hf
        obtain ⟨ev2, hv2⟩ := bz_in hv2
        rw [ev2]
        have e9 := Option.some.inj hf
        exact fin 37 ls _ e9 (nar_z (by rw [← e9]; exact hv2)) dX5_hasFreeTable_37
      · rw [if_neg c1] at hf
        refine lv_iload_n hx hb dX5_hasFreeTable_12 rfl (lv_at hl 1 rfl) ?_
        refine lv_if_ne (tgt := 24) hx hb dX5_hasFreeTable_13 (by decide) (fun c3 => ?_) (fun c3 => ?_)
        · rw [if_neg c3] at hf
          exact b_24 k_4 hk_4 u2 ls (lv_sub hl [0, 2] rfl) hf
        · rw [if_pos c3] at hf
          refine lv_aload_n hx hb dX5_hasFreeTable_16 rfl (lv_at hl 0 rfl) ?_
          refine lv_iload_n hx hb dX5_hasFreeTable_17 rfl (lv_at hl 2 rfl) ?_
          obtain ⟨z4, hz4, hf⟩ := bnd hf
          refine x_rdV (C := RX5) (n := 1) (ci := 5) hx hb hml hown hts hE (ct_X5_freeTables N l G cI cZ cO q I A u2 z4 hz4) (bg 7 15 rfl) mb_X5_freeTables.1 mb_X5_freeTables.2.1 mb_X5_freeTables.2.2.1 mb_X5_freeTables.2.2.2 hd_X5_freeTables rfl (by decide) hP rfl rfl rfl rfl hl.1 (Nat.le_of_ble_eq_true rfl) ⟨Nat.zero_le _, Nat.zero_le _⟩ dX5_hasFreeTable_18 ?_
          refine lv_if_eq (tgt := 28) hx hb dX5_hasFreeTable_21 (by decide) (fun c5 => ?_) (fun c5 => ?_)
          · rw [if_pos c5] at hf
            refine lv_iconst (v := 0) hx hb dX5_hasFreeTable_28 (by decide) ?_
            exact b_29 k_4 hk_4 u2 0 ls (lv_sub hl [0, 2] rfl) hf
          · rw [if_neg c5] at hf
            exact b_24 k_4 hk_4 u2 ls (lv_sub hl [0, 2] rfl) hf
  unfold fX5_hasFreeTable at hf
  refine lv_iconst (v := 0) hx hb dX5_hasFreeTable_0 (by decide) ?_
  refine lv_istore_n (lv' := [(1, .int 0), (0, .ref (q 0))]) hx hb dX5_hasFreeTable_1 rfl hl (by decide) rfl (fun ls hl => ?_)
  refine lv_iconst (v := 0) hx hb dX5_hasFreeTable_2 (by decide) ?_
  refine lv_istore_n (lv' := [(2, .int 0), (1, .int 0), (0, .ref (q 0))]) hx hb dX5_hasFreeTable_3 rfl hl (by decide) rfl (fun ls hl => ?_)
  exact b_4 N 0 0 ls (lv_sub hl [2, 1, 0] rfl) hf
def fX3_opensPart_84 (N : Nat) (I1 : Nat → Int32) (A1 : Nat → Nat → Int32) (y0 : Int32) : Option (Int32) := (bz y0).bind fun v1 => some v1
def fX3_opensPart_65 (N : Nat) (I1 : Nat → Int32) (A1 : Nat → Nat → Int32) (y0 : Int32) : Option (Int32) := (bz y0).bind fun v1 => some v1
def fX3_opensPart (N : Nat) (I1 : Nat → Int32) (A1 : Nat → Nat → Int32) (x2 : Int32) : Option (Int32) := if x2 = 80 then if 4 ≤ (I1 1) then fX3_opensPart_84 N I1 A1 0 else fX3_opensPart_84 N I1 A1 1 else if x2 = 81 then some 0 else if x2 = 82 then if 5 ≤ (I1 0) then fX3_opensPart_65 N I1 A1 0 else fX3_opensPart_65 N I1 A1 1 else if x2 = 83 then (fX5_hasFreeTable N I1 A1).bind fun z7 => (bz z7).bind fun v8 => some v8 else if x2 = 84 then some 0 else if x2 = 85 then some 0 else if x2 = 86 then some 0 else if x2 = 87 then some 0 else if x2 = 88 then (fX5_hasFreePair N I1 A1).bind fun z14 => (bz z14).bind fun v15 => some v15 else some 0
def rmX3_opensPart : Room := { frames := 3, cells := 0, slots := 0, locals := 65 }
theorem mb_X3_opensPart : Cond.instanceMethod yX3_opensPart ∈ wsL_law ∧ Cond.selects RX3 yX3_opensPart yX3_opensPart ∈ wsL_law ∧ Cond.initialized RX3 ∈ wsL_law ∧ Cond.code yX3_opensPart cX3_opensPart 3 (some .boolean) ∈ wsL_law := ⟨(bg 6 18 rfl), (bg 6 19 rfl), (bg 0 15 rfl), (bg 6 20 rfl)⟩
theorem hd_X3_opensPart : yX3_opensPart.cls = RX3 ∧ yX3_opensPart.cls ≠ "java/lang/invoke/MethodHandle" ∧ yX3_opensPart.cls ≠ "java/lang/invoke/VarHandle" ∧ (parseMethodDescriptor yX3_opensPart.desc).map (fun d => d.parameters.length) = some 2 := by decide +kernel
set_option maxRecDepth 100000 in
set_option maxHeartbeats 4000000 in
theorem ct_X3_opensPart (N : Nat) (l : Launch) (G : va_G) (cI cZ cO : ClassId) (q : Nat → Nat) (I : Nat → Int32) (A : Nat → Nat → Int32) (q1 : Nat → Nat) (I1 : Nat → Int32) (A1 : Nat → Nat → Int32) (x2 : Int32) (r : Int32) (hf : fX3_opensPart N I1 A1 x2 = some r) : RtI l yX3_opensPart cX3_opensPart 3 .boolean rmX3_opensPart G cI cZ cO [.ref (q 0), .ref (q1 0), .int x2] (wX3 q cI cZ cO I A ++ wX5 q1 cI cZ cO I1 A1) r := by
  refine mkRI (by decide) (Nat.le_of_ble_eq_true rfl) ?_
  intro p e s m below meth cd Q hC hP hE fin ls hl
  obtain ⟨hx, hb, hml, hown, hts⟩ := hC
  have hown : s.vm.findClass RX3 = some m.cls := hown
  have hl : lv_has ls 3 [(0, .ref (q 0)), (1, .ref (q1 0)), (2, .int x2)] := hl
  have b_84 : ∀ (y0 : Int32), ∀ ls : Array Slot, lv_has ls 3 [] → fX3_opensPart_84 N I1 A1 y0 = some r → W p l e rmX3_opensPart s m [.ref (q 0), .ref (q1 0), .int x2].toArray below meth cd s.heap [] 0 0 Q (F0 m 84 ls [.int y0]) := by
    intro y0 ls hl hf
    unfold fX3_opensPart_84 at hf
    obtain ⟨v1, hv1, hf⟩ := bnd hf
    obtain ⟨ev1, hv1⟩ := bz_in hv1
    rw [ev1]
    have e9 := Option.some.inj hf
    exact fin 84 ls _ e9 (nar_z (by rw [← e9]; exact hv1)) dX3_opensPart_84
  have b_65 : ∀ (y0 : Int32), ∀ ls : Array Slot, lv_has ls 3 [] → fX3_opensPart_65 N I1 A1 y0 = some r → W p l e rmX3_opensPart s m [.ref (q 0), .ref (q1 0), .int x2].toArray below meth cd s.heap [] 0 0 Q (F0 m 65 ls [.int y0]) := by
    intro y0 ls hl hf
    unfold fX3_opensPart_65 at hf
    obtain ⟨v1, hv1, hf⟩ := bnd hf
    obtain ⟨ev1, hv1⟩ := bz_in hv1
    rw [ev1]
    have e9 := Option.some.inj hf
    exact fin 65 ls _ e9 (nar_z (by rw [← e9]; exact hv1)) dX3_opensPart_65
  unfold fX3_opensPart at hf
  refine lv_iload_n hx hb dX3_opensPart_0 rfl (lv_at hl 2 rfl) ?_
  by_cases c1 : x2 = 80
  · rw [if_pos c1] at hf
    refine x_tsw (tgt := 71) hx hb c1 dX3_opensPart_1 (by decide) (by decide) rfl (by decide) ?_
    refine lv_aload_n hx hb dX3_opensPart_71 rfl (lv_at hl 1 rfl) ?_
    refine va_get (D := G) (ci := 5) (v := .int ((I1 1))) (C := RX5) (T := TX5) (N := 8) hx hb hts inlX5 hown hE.1 hP 2 rfl rfl 7 (by decide) (hts _ (bg 6 22 rfl)) (fun _ h9 => h9) rfl dX3_opensPart_72 ?_
    refine lv_iconst (v := 4) hx hb dX3_opensPart_75 (by decide) ?_
    refine lv_icmp_ge (tgt := 83) hx hb dX3_opensPart_76 (by decide) (fun c2 => ?_) (fun c2 => ?_)
    · rw [if_pos c2] at hf
      refine lv_iconst (v := 0) hx hb dX3_opensPart_83 (by decide) ?_
      exact b_84 0 ls (lv_sub hl [] rfl) hf
    · rw [if_neg c2] at hf
      refine lv_iconst (v := 1) hx hb dX3_opensPart_79 (by decide) ?_
      refine lv_goto (tgt := 84) hx hb dX3_opensPart_80 (by decide) ?_
      exact b_84 1 ls (lv_sub hl [] rfl) hf
  · rw [if_neg c1] at hf
    by_cases c3 : x2 = 81
    · rw [if_pos c3] at hf
      refine x_tsw (tgt := 90) hx hb c3 dX3_opensPart_1 (by decide) (by decide) rfl (by decide) ?_
      refine lv_iconst (v := 0) hx hb dX3_opensPart_90 (by decide) ?_
      have e9 := Option.some.inj hf
      exact fin 91 ls _ e9 (nar_z (Or.inl e9.symm)) dX3_opensPart_91
    · rw [if_neg c3] at hf
      by_cases c4 : x2 = 82
      · rw [if_pos c4] at hf
        refine x_tsw (tgt := 52) hx hb c4 dX3_opensPart_1 (by decide) (by decide) rfl (by decide) ?_
        refine lv_aload_n hx hb dX3_opensPart_52 rfl (lv_at hl 1 rfl) ?_
        refine va_get (D := G) (ci := 5) (v := .int ((I1 0))) (C := RX5) (T := TX5) (N := 8) hx hb hts inlX5 hown hE.1 hP 2 rfl rfl 6 (by decide) (hts _ (bg 6 21 rfl)) (fun _ h9 => h9) rfl dX3_opensPart_53 ?_
        refine lv_iconst (v := 5) hx hb dX3_opensPart_56 (by decide) ?_
        refine lv_icmp_ge (tgt := 64) hx hb dX3_opensPart_57 (by decide) (fun c5 => ?_) (fun c5 => ?_)
        · rw [if_pos c5] at hf
          refine lv_iconst (v := 0) hx hb dX3_opensPart_64 (by decide) ?_
          exact b_65 0 ls (lv_sub hl [] rfl) hf
        · rw [if_neg c5] at hf
          refine lv_iconst (v := 1) hx hb dX3_opensPart_60 (by decide) ?_
          refine lv_goto (tgt := 65) hx hb dX3_opensPart_61 (by decide) ?_
          exact b_65 1 ls (lv_sub hl [] rfl) hf
      · rw [if_neg c4] at hf
        by_cases c6 : x2 = 83
        · rw [if_pos c6] at hf
          refine x_tsw (tgt := 85) hx hb c6 dX3_opensPart_1 (by decide) (by decide) rfl (by decide) ?_
          refine lv_aload_n hx hb dX3_opensPart_85 rfl (lv_at hl 1 rfl) ?_
          obtain ⟨z7, hz7, hf⟩ := bnd hf
          refine x_rdV (C := RX5) (n := 0) (ci := 5) hx hb hml hown hts hE (ct_X5_hasFreeTable N l G cI cZ cO q1 I1 A1 z7 hz7) (bg 7 11 rfl) mb_X5_hasFreeTable.1 mb_X5_hasFreeTable.2.1 mb_X5_hasFreeTable.2.2.1 mb_X5_hasFreeTable.2.2.2 hd_X5_hasFreeTable rfl (by decide) (x_cut hP [2, 3, 4, 5, 6, 7, 8] rfl) rfl rfl rfl rfl hl.1 (Nat.le_of_ble_eq_true rfl) ⟨Nat.zero_le _, Nat.zero_le _⟩ dX3_opensPart_86 ?_
          obtain ⟨v8, hv8, hf⟩ := bnd hf
          obtain ⟨ev8, hv8⟩ := bz_in hv8
          rw [ev8]
          have e9 := Option.some.inj hf
          exact fin 89 ls _ e9 (nar_z (by rw [← e9]; exact hv8)) dX3_opensPart_89
        · rw [if_neg c6] at hf
          by_cases c9 : x2 = 84
          · rw [if_pos c9] at hf
            refine x_tsw (tgt := 90) hx hb c9 dX3_opensPart_1 (by decide) (by decide) rfl (by decide) ?_
            refine lv_iconst (v := 0) hx hb dX3_opensPart_90 (by decide) ?_
            have e9 := Option.some.inj hf
            exact fin 91 ls _ e9 (nar_z (Or.inl e9.symm)) dX3_opensPart_91
          · rw [if_neg c9] at hf
            by_cases c10 : x2 = 85
            · rw [if_pos c10] at hf
              refine x_tsw (tgt := 90) hx hb c10 dX3_opensPart_1 (by decide) (by decide) rfl (by decide) ?_
              refine lv_iconst (v := 0) hx hb dX3_opensPart_90 (by decide) ?_
              have e9 := Option.some.inj hf
              exact fin 91 ls _ e9 (nar_z (Or.inl e9.symm)) dX3_opensPart_91
            · rw [if_neg c10] at hf
              by_cases c11 : x2 = 86
              · rw [if_pos c11] at hf
                refine x_tsw (tgt := 90) hx hb c11 dX3_opensPart_1 (by decide) (by decide) rfl (by decide) ?_
                refine lv_iconst (v := 0) hx hb dX3_opensPart_90 (by decide) ?_
                have e9 := Option.some.inj hf
                exact fin 91 ls _ e9 (nar_z (Or.inl e9.symm)) dX3_opensPart_91
              · rw [if_neg c11] at hf
                by_cases c12 : x2 = 87
                · rw [if_pos c12] at hf
                  refine x_tsw (tgt := 90) hx hb c12 dX3_opensPart_1 (by decide) (by decide) rfl (by decide) ?_
                  refine lv_iconst (v := 0) hx hb dX3_opensPart_90 (by decide) ?_
                  have e9 := Option.some.inj hf
                  exact fin 91 ls _ e9 (nar_z (Or.inl e9.symm)) dX3_opensPart_91
                · rw [if_neg c12] at hf
                  by_cases c13 : x2 = 88
                  · rw [if_pos c13] at hf
                    refine x_tsw (tgt := 66) hx hb c13 dX3_opensPart_1 (by decide) (by decide) rfl (by decide) ?_
                    refine lv_aload_n hx hb dX3_opensPart_66 rfl (lv_at hl 1 rfl) ?_
                    obtain ⟨z14, hz14, hf⟩ := bnd hf
                    refine x_rdV (C := RX5) (n := 0) (ci := 5) hx hb hml hown hts hE (ct_X5_hasFreePair N l G cI cZ cO q1 I1 A1 z14 hz14) (bg 6 23 rfl) mb_X5_hasFreePair.1 mb_X5_hasFreePair.2.1 mb_X5_hasFreePair.2.2.1 mb_X5_hasFreePair.2.2.2 hd_X5_hasFreePair rfl (by decide) (x_cut hP [2, 3, 4, 5, 6, 7, 8] rfl) rfl rfl rfl rfl hl.1 (Nat.le_of_ble_eq_true rfl) ⟨Nat.zero_le _, Nat.zero_le _⟩ dX3_opensPart_67 ?_
                    obtain ⟨v15, hv15, hf⟩ := bnd hf
                    obtain ⟨ev15, hv15⟩ := bz_in hv15
                    rw [ev15]
                    have e9 := Option.some.inj hf
                    exact fin 70 ls _ e9 (nar_z (by rw [← e9]; exact hv15)) dX3_opensPart_70
                  · rw [if_neg c13] at hf
                    refine lv_tableOut (tgt := 90) hx hb dX3_opensPart_1 (by have tc1 := lv_neT (a := 80) c1 (by decide); have tc3 := lv_neT (a := 81) c3 (by decide); have tc4 := lv_neT (a := 82) c4 (by decide); have tc6 := lv_neT (a := 83) c6 (by decide); have tc9 := lv_neT (a := 84) c9 (by decide); have tc10 := lv_neT (a := 85) c10 (by decide); have tc11 := lv_neT (a := 86) c11 (by decide); have tc12 := lv_neT (a := 87) c12 (by decide); have tc13 := lv_neT (a := 88) c13 (by decide); omega) (by decide) ?_
                    refine lv_iconst (v := 0) hx hb dX3_opensPart_90 (by decide) ?_
                    have e9 := Option.some.inj hf
                    exact fin 91 ls _ e9 (nar_z (Or.inl e9.symm)) dX3_opensPart_91
def fX5_addRumour_71 (N : Nat) (I : Nat → Int32) (A : Nat → Nat → Int32) : Option ((Nat → Int32) × (Nat → Nat → Int32)) := some (I, A)
def fX5_addRumour (N : Nat) (I : Nat → Int32) (A : Nat → Nat → Int32) (x1 : Int32) (x2 : Int32) (x3 : Int32) : Option ((Nat → Int32) × (Nat → Nat → Int32)) := (fX6_isIndex N (I 0) 5).bind fun z1 => if z1 = 0 then fX5_addRumour_71 N I A else (wr 5 (A 0) (I 0) x1).bind fun g3 => (wrZ 5 (A 1) (I 0) x2).bind fun g4 => (wr 5 (A 2) (I 0) x3).bind fun g5 => (wr 5 (A 3) (I 0) 0).bind fun g6 => (wr 5 (A 4) (I 0) 0).bind fun g7 => fX5_addRumour_71 N (upd I 0 ((I 0) + 1)) (va_up (va_up (va_up (va_up (va_up A 0 g3) 1 g4) 2 g5) 3 g6) 4 g7)
def rmX5_addRumour : Room := { frames := 1, cells := 0, slots := 0, locals := 21 }
theorem mb_X5_addRumour : Cond.instanceMethod yX5_addRumour ∈ wsL_law ∧ Cond.selects RX5 yX5_addRumour yX5_addRumour ∈ wsL_law ∧ Cond.initialized RX5 ∈ wsL_law ∧ Cond.code yX5_addRumour cX5_addRumour 4 none ∈ wsL_law := ⟨(bg 8 6 rfl), (bg 8 7 rfl), (bg 0 19 rfl), (bg 8 8 rfl)⟩
theorem hd_X5_addRumour : yX5_addRumour.cls = RX5 ∧ yX5_addRumour.cls ≠ "java/lang/invoke/MethodHandle" ∧ yX5_addRumour.cls ≠ "java/lang/invoke/VarHandle" ∧ (parseMethodDescriptor yX5_addRumour.desc).map (fun d => d.parameters.length) = some 3 := by decide +kernel
set_option maxRecDepth 100000 in
set_option maxHeartbeats 4000000 in
theorem ct_X5_addRumour (N : Nat) (l : Launch) (G : va_G) (cI cZ cO : ClassId) (q : Nat → Nat) (I : Nat → Int32) (A : Nat → Nat → Int32) (x1 : Int32) (x2 : Int32) (x3 : Int32) (Iz : Nat → Int32) (Az : Nat → Nat → Int32) (hf : fX5_addRumour N I A x1 x2 x3 = some (Iz, Az)) : CtV l yX5_addRumour cX5_addRumour 4 rmX5_addRumour G cI cZ cO [.ref (q 0), .int x1, .int x2, .int x3] (wX5 q cI cZ cO I A) (wX5 q cI cZ cO Iz Az) := by
  refine mkCV (by decide) (Nat.le_of_ble_eq_true rfl) ?_
  intro p e s m below meth cd Q Z hC hP hE hD hA fin ls hl
  obtain ⟨hx, hb, hml, hown, hts⟩ := hC
  have hown : s.vm.findClass RX5 = some m.cls := hown
  have hl : lv_has ls 4 [(0, .ref (q 0)), (1, .int x1), (2, .int x2), (3, .int x3)] := hl
  have b_71 : ∀ (I : Nat → Int32) (A : Nat → Nat → Int32), ∀ (H : Heap) (locs : List Loc), va_P G vwCl (wX5 q cI cZ cO I A) H → va_D Z (wX5 q cI cZ cO I A) → va_S Z s.heap H locs → ∀ ls : Array Slot, lv_has ls 4 [] → fX5_addRumour_71 N I A = some (Iz, Az) → W p l e rmX5_addRumour s m [.ref (q 0), .int x1, .int x2, .int x3].toArray below meth cd H locs 0 0 Q (F0 m 71 ls []) := by
    intro I A H locs hP hD hS ls hl hf
    unfold fX5_addRumour_71 at hf
    have e9 := Option.some.inj hf
    exact fin H locs 71 ls (by rw [← (Prod.mk.inj e9).1, ← (Prod.mk.inj e9).2]; exact hP) hS dX5_addRumour_71
  unfold fX5_addRumour at hf
  have hS : va_S Z s.heap s.heap [] := va_S.rf
  obtain ⟨H, hH⟩ : ∃ H, H = s.heap := ⟨_, rfl⟩
  obtain ⟨locs, hlocs⟩ : ∃ locs : List Loc, locs = [] := ⟨_, rfl⟩
  rw [← hlocs]
  rw [← hlocs] at hS
  suffices hW : ∀ H : Heap, va_P G vwCl (wX5 q cI cZ cO I A) H → va_S Z s.heap H locs → W p l e rmX5_addRumour s m [.ref (q 0), .int x1, .int x2, .int x3].toArray below meth cd H locs 0 0 Q (F0 m 0 ls []) from hW s.heap hP hS
  clear hP hS hH H
  intro H hP hS
  refine lv_aload_n hx hb dX5_addRumour_0 rfl (lv_at hl 0 rfl) ?_
  refine va_get (D := G) (ci := 5) (v := .int ((I 0))) (C := RX5) (T := TX5) (N := 8) hx hb hts inlX5 hown hE.1 hP 0 rfl rfl 6 (by decide) (hts _ (bg 6 10 rfl)) (fun _ h9 => h9) rfl dX5_addRumour_1 ?_
  refine lv_iconst (v := 5) hx hb dX5_addRumour_4 (by decide) ?_
  obtain ⟨z1, hz1, hf⟩ := bnd hf
  refine x_rdN (n := 2) hx hb hml hown hts hE (ct_X6_isIndex N l G cI cZ cO (I 0) 5 z1 hz1) (List.mem_of_getElem? (i := 8) rfl) mb_X6_isIndex.1 mb_X6_isIndex.2.1 mb_X6_isIndex.2.2 hd_X6_isIndex rfl (by decide) va_P_nil rfl hl.1 (Nat.le_of_ble_eq_true rfl) ⟨Nat.zero_le _, Nat.zero_le _⟩ dX5_addRumour_5 ?_
  refine lv_if_eq (tgt := 71) hx hb dX5_addRumour_8 (by decide) (fun c2 => ?_) (fun c2 => ?_)
  · rw [if_pos c2] at hf
    exact b_71 I A H locs hP hD hS ls (lv_sub hl [] rfl) hf
  · rw [if_neg c2] at hf
    refine lv_aload_n hx hb dX5_addRumour_11 rfl (lv_at hl 0 rfl) ?_
    refine va_get (D := G) (ci := 5) (v := .ref (q 1)) (C := RX5) (T := TX5) (N := 8) hx hb hts inlX5 hown hE.1 hP 0 rfl rfl 0 (by decide) (hts _ (bg 2 6 rfl)) (fun _ h9 => h9) rfl dX5_addRumour_12 ?_
    refine lv_aload_n hx hb dX5_addRumour_15 rfl (lv_at hl 0 rfl) ?_
    refine va_get (D := G) (ci := 5) (v := .int ((I 0))) (C := RX5) (T := TX5) (N := 8) hx hb hts inlX5 hown hE.1 hP 0 rfl rfl 6 (by decide) (hts _ (bg 6 10 rfl)) (fun _ h9 => h9) rfl dX5_addRumour_16 ?_
    refine lv_iload_n hx hb dX5_addRumour_19 rfl (lv_at hl 1 rfl) ?_
    obtain ⟨g3, hg3, hf⟩ := bnd hf
    refine x_iast hx hb hE.1 hP hD hS 1 0 rfl rfl hg3 dX5_addRumour_20 (fun H locs hP hD hS => ?_)
    have hP : va_P G vwCl (wX5 q cI cZ cO I (va_up A 0 g3)) H := hP
    have hD : va_D Z (wX5 q cI cZ cO I (va_up A 0 g3)) := hD
    refine lv_aload_n hx hb dX5_addRumour_21 rfl (lv_at hl 0 rfl) ?_
    refine va_get (D := G) (ci := 5) (v := .ref (q 2)) (C := RX5) (T := TX5) (N := 8) hx hb hts inlX5 hown hE.1 hP 0 rfl rfl 1 (by decide) (hts _ (bg 2 7 rfl)) (fun _ h9 => h9) rfl dX5_addRumour_22 ?_
    refine lv_aload_n hx hb dX5_addRumour_25 rfl (lv_at hl 0 rfl) ?_
    refine va_get (D := G) (ci := 5) (v := .int ((I 0))) (C := RX5) (T := TX5) (N := 8) hx hb hts inlX5 hown hE.1 hP 0 rfl rfl 6 (by decide) (hts _ (bg 6 10 rfl)) (fun _ h9 => h9) rfl dX5_addRumour_26 ?_
    refine lv_iload_n hx hb dX5_addRumour_29 rfl (lv_at hl 2 rfl) ?_
    obtain ⟨g4, hg4, hf⟩ := bnd hf
    refine x_zast hx hb hE.1 hP hD hS 2 1 rfl rfl hg4 dX5_addRumour_30 (fun H locs hP hD hS => ?_)
    have hP : va_P G vwCl (wX5 q cI cZ cO I (va_up (va_up A 0 g3) 1 g4)) H := hP
    have hD : va_D Z (wX5 q cI cZ cO I (va_up (va_up A 0 g3) 1 g4)) := hD
    refine lv_aload_n hx hb dX5_addRumour_31 rfl (lv_at hl 0 rfl) ?_
    refine va_get (D := G) (ci := 5) (v := .ref (q 3)) (C := RX5) (T := TX5) (N := 8) hx hb hts inlX5 hown hE.1 hP 0 rfl rfl 2 (by decide) (hts _ (bg 2 8 rfl)) (fun _ h9 => h9) rfl dX5_addRumour_32 ?_
    refine lv_aload_n hx hb dX5_addRumour_35 rfl (lv_at hl 0 rfl) ?_
    refine va_get (D := G) (ci := 5) (v := .int ((I 0))) (C := RX5) (T := TX5) (N := 8) hx hb hts inlX5 hown hE.1 hP 0 rfl rfl 6 (by decide) (hts _ (bg 6 10 rfl)) (fun _ h9 => h9) rfl dX5_addRumour_36 ?_
    refine lv_iload_n hx hb dX5_addRumour_39 rfl (lv_at hl 3 rfl) ?_
    obtain ⟨g5, hg5, hf⟩ := bnd hf
    refine x_iast hx hb hE.1 hP hD hS 3 0 rfl rfl hg5 dX5_addRumour_40 (fun H locs hP hD hS => ?_)
    have hP : va_P G vwCl (wX5 q cI cZ cO I (va_up (va_up (va_up A 0 g3) 1 g4) 2 g5)) H := hP
    have hD : va_D Z (wX5 q cI cZ cO I (va_up (va_up (va_up A 0 g3) 1 g4) 2 g5)) := hD
    refine lv_aload_n hx hb dX5_addRumour_41 rfl (lv_at hl 0 rfl) ?_
    refine va_get (D := G) (ci := 5) (v := .ref (q 4)) (C := RX5) (T := TX5) (N := 8) hx hb hts inlX5 hown hE.1 hP 0 rfl rfl 3 (by decide) (hts _ (bg 2 9 rfl)) (fun _ h9 => h9) rfl dX5_addRumour_42 ?_
    refine lv_aload_n hx hb dX5_addRumour_45 rfl (lv_at hl 0 rfl) ?_
    refine va_get (D := G) (ci := 5) (v := .int ((I 0))) (C := RX5) (T := TX5) (N := 8) hx hb hts inlX5 hown hE.1 hP 0 rfl rfl 6 (by decide) (hts _ (bg 6 10 rfl)) (fun _ h9 => h9) rfl dX5_addRumour_46 ?_
    refine lv_iconst (v := 0) hx hb dX5_addRumour_49 (by decide) ?_
    obtain ⟨g6, hg6, hf⟩ := bnd hf
    refine x_iast hx hb hE.1 hP hD hS 4 0 rfl rfl hg6 dX5_addRumour_50 (fun H locs hP hD hS => ?_)
    have hP : va_P G vwCl (wX5 q cI cZ cO I (va_up (va_up (va_up (va_up A 0 g3) 1 g4) 2 g5) 3 g6)) H := hP
    have hD : va_D Z (wX5 q cI cZ cO I (va_up (va_up (va_up (va_up A 0 g3) 1 g4) 2 g5) 3 g6)) := hD
    refine lv_aload_n hx hb dX5_addRumour_51 rfl (lv_at hl 0 rfl) ?_
    refine va_get (D := G) (ci := 5) (v := .ref (q 5)) (C := RX5) (T := TX5) (N := 8) hx hb hts inlX5 hown hE.1 hP 0 rfl rfl 4 (by decide) (hts _ (bg 2 10 rfl)) (fun _ h9 => h9) rfl dX5_addRumour_52 ?_
    refine lv_aload_n hx hb dX5_addRumour_55 rfl (lv_at hl 0 rfl) ?_
    refine va_get (D := G) (ci := 5) (v := .int ((I 0))) (C := RX5) (T := TX5) (N := 8) hx hb hts inlX5 hown hE.1 hP 0 rfl rfl 6 (by decide) (hts _ (bg 6 10 rfl)) (fun _ h9 => h9) rfl dX5_addRumour_56 ?_
    refine lv_iconst (v := 0) hx hb dX5_addRumour_59 (by decide) ?_
    obtain ⟨g7, hg7, hf⟩ := bnd hf
    refine x_iast hx hb hE.1 hP hD hS 5 0 rfl rfl hg7 dX5_addRumour_60 (fun H locs hP hD hS => ?_)
    have hP : va_P G vwCl (wX5 q cI cZ cO I (va_up (va_up (va_up (va_up (va_up A 0 g3) 1 g4) 2 g5) 3 g6) 4 g7)) H := hP
    have hD : va_D Z (wX5 q cI cZ cO I (va_up (va_up (va_up (va_up (va_up A 0 g3) 1 g4) 2 g5) 3 g6) 4 g7)) := hD
    refine lv_aload_n hx hb dX5_addRumour_61 rfl (lv_at hl 0 rfl) ?_
    refine lv_dup hx hb dX5_addRumour_62 rfl ?_
    refine va_get (D := G) (ci := 5) (v := .int ((I 0))) (C := RX5) (T := TX5) (N := 8) hx hb hts inlX5 hown hE.1 hP 0 rfl rfl 6 (by decide) (hts _ (bg 6 10 rfl)) (fun _ h9 => h9) rfl dX5_addRumour_63 ?_
    refine lv_iconst (v := 1) hx hb dX5_addRumour_66 (by decide) ?_
    refine lv_iadd hx hb dX5_addRumour_67 ?_
    refine va_put (D := G) (ci := 5) (v := .int ((I 0) + 1)) (ty := .int) (C := RX5) (T := TX5) (N := 8) hx hb hts inlX5 tyX5 tyX5_ok nmX5 hown hE.1 hP hD hS 0 rfl rfl 6 (by decide) (hts _ (bg 6 10 rfl)) (fun _ h9 => h9) rfl (by decide +kernel) rfl rfl (Nat.le_of_ble_eq_true rfl) dX5_addRumour_68 (fun H locs hP hD hS => ?_)
    have hP : va_P G vwCl (wX5 q cI cZ cO (upd I 0 ((I 0) + 1)) (va_up (va_up (va_up (va_up (va_up A 0 g3) 1 g4) 2 g5) 3 g6) 4 g7)) H := hP
    have hD : va_D Z (wX5 q cI cZ cO (upd I 0 ((I 0) + 1)) (va_up (va_up (va_up (va_up (va_up A 0 g3) 1 g4) 2 g5) 3 g6) 4 g7)) := hD
    exact b_71 (upd I 0 ((I 0) + 1)) (va_up (va_up (va_up (va_up (va_up A 0 g3) 1 g4) 2 g5) 3 g6) 4 g7) H locs hP hD hS ls (lv_sub hl [] rfl) hf
