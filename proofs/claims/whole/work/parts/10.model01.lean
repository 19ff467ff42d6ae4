def fX7_fault (N : Nat) (I : Nat → Int32) (A : Nat → Nat → Int32) : Option (Int32 × (Nat → Int32) × (Nat → Nat → Int32)) := (fX7_readText N I A).bind fun z1 => some (z1.1, z1.2.1, z1.2.2)
def rmX7_fault : Room := { frames := 5, cells := 0, slots := 0, locals := 110 }
theorem mb_X7_fault : Cond.instanceMethod yX7_fault ∈ wsL_law ∧ Cond.selects RX7 yX7_fault yX7_fault ∈ wsL_law ∧ Cond.initialized RX7 ∈ wsL_law ∧ Cond.code yX7_fault cX7_fault 1 (some .int) ∈ wsL_law := ⟨(bg 9 16 rfl), (bg 9 17 rfl), (bg 0 5 rfl), (bg 9 18 rfl)⟩
theorem hd_X7_fault : yX7_fault.cls = RX7 ∧ yX7_fault.cls ≠ "java/lang/invoke/MethodHandle" ∧ yX7_fault.cls ≠ "java/lang/invoke/VarHandle" ∧ (parseMethodDescriptor yX7_fault.desc).map (fun d => d.parameters.length) = some 0 := by decide +kernel
set_option maxRecDepth 100000 in
set_option maxHeartbeats 4000000 in
theorem ct_X7_fault (N : Nat) (l : Launch) (G : va_G) (cI cZ cO : ClassId) (q : Nat → Nat) (I : Nat → Int32) (A : Nat → Nat → Int32) (L : Int64) (r : Int32) (Iz : Nat → Int32) (Az : Nat → Nat → Int32) (hf : fX7_fault N I A = some (r, Iz, Az)) : CtI l yX7_fault cX7_fault 1 .int rmX7_fault G cI cZ cO [.ref (q 0)] (wX7 q cI cZ cO I A L) (wX7 q cI cZ cO Iz Az L) r := by
  refine mkCI (by decide) (Nat.le_of_ble_eq_true rfl) ?_
  intro p e s m below meth cd Q Z hC hP hE hD hA fin ls hl
  obtain ⟨hx, hb, hml, hown, hts⟩ := hC
  have hown : s.vm.findClass RX7 = some m.cls := hown
  have hl : lv_has ls 1 [(0, .ref (q 0))] := hl
  unfold fX7_fault at hf
  have hS : va_S Z s.heap s.heap [] := va_S.rf
  obtain ⟨H, hH⟩ : ∃ H, H = s.heap := ⟨_, rfl⟩
  obtain ⟨locs, hlocs⟩ : ∃ locs : List Loc, locs = [] := ⟨_, rfl⟩
  rw [← hlocs]
  rw [← hlocs] at hS
  suffices hW : ∀ H : Heap, va_P G vwCl (wX7 q cI cZ cO I A L) H → va_S Z s.heap H locs → W p l e rmX7_fault s m [.ref (q 0)].toArray below meth cd H locs 0 0 Q (F0 m 0 ls []) from hW s.heap hP hS
  clear hP hS hH H
  intro H hP hS
  refine lv_aload_n hx hb dX7_fault_0 rfl (lv_at hl 0 rfl) ?_
  obtain ⟨z1, hz1, hf⟩ := bnd hf
  refine x_wwV (C := RX7) (n := 0) (ci := 7) hx hb hml hown hts hE (ct_X7_readText N l G cI cZ cO q I A L z1.1 z1.2.1 z1.2.2 hz1) (bg 9 19 rfl) mb_X7_readText.1 mb_X7_readText.2.1 mb_X7_readText.2.2.1 mb_X7_readText.2.2.2 hd_X7_readText rfl (by decide) hP hD hS hA rfl rfl rfl rfl rfl hl.1 (Nat.le_of_ble_eq_true rfl) ⟨Nat.zero_le _, Nat.zero_le _⟩ dX7_fault_1 (fun H locs hP hD hS => ?_)
  have hP : va_P G vwCl (wX7 q cI cZ cO z1.2.1 z1.2.2 L) H := hP
  have hD : va_D Z (wX7 q cI cZ cO z1.2.1 z1.2.2 L) := hD
  have e9 := Option.some.inj hf
  exact fin H locs 4 ls _ (Prod.mk.inj e9).1 (nar_i _) (by rw [← (Prod.mk.inj (Prod.mk.inj e9).2).1, ← (Prod.mk.inj (Prod.mk.inj e9).2).2]; exact hP) hS dX7_fault_4
def fX7_town_136s (N : Nat) (k_136 : (Nat → Int32) → (Nat → Nat → Int32) → Int32 → Option (Int32 × (Nat → Int32) × (Nat → Nat → Int32))) (I : Nat → Int32) (A : Nat → Nat → Int32) (u1 : Int32) : Option (Int32 × (Nat → Int32) × (Nat → Nat → Int32)) := if 4 ≤ u1 then (wrZ 2 (A 20) 0 0).bind fun g2 => (wrZ 2 g2 1 0).bind fun g3 => some ((10 * (I 0)) + (I 1), upd I 7 0, va_up (va_up A 20 g2) 20 g3) else (rd 4 (A 11) u1).bind fun v4 => (wr 4 (A 4) u1 v4).bind fun g5 => k_136 I (va_up A 4 g5) (u1 + 1)
def fX7_town_136 (N : Nat) : Nat → (Nat → Int32) → (Nat → Nat → Int32) → Int32 → Option (Int32 × (Nat → Int32) × (Nat → Nat → Int32))
  | 0 => fun _ _ _ => none
  | n + 1 => fX7_town_136s N (fX7_town_136 N n)
def fX7_town_127 (N : Nat) (k_51 : (Nat → Int32) → (Nat → Nat → Int32) → Int32 → Option (Int32 × (Nat → Int32) × (Nat → Nat → Int32))) (I : Nat → Int32) (A : Nat → Nat → Int32) (u1 : Int32) (y1 : Int32) (y2 : Int32) : Option (Int32 × (Nat → Int32) × (Nat → Nat → Int32)) := (wr 62 (A 5) y1 y2).bind fun g1 => k_51 I (va_up A 5 g1) (u1 + 1)
def fX7_town_51s (N : Nat) (k_51 : (Nat → Int32) → (Nat → Nat → Int32) → Int32 → Option (Int32 × (Nat → Int32) × (Nat → Nat → Int32))) (I : Nat → Int32) (A : Nat → Nat → Int32) (u1 : Int32) : Option (Int32 × (Nat → Int32) × (Nat → Nat → Int32)) := if 5 ≤ u1 then fX7_town_136 N N I A 0 else (rd 5 (A 6) u1).bind fun v2 => (wr 5 (A 0) u1 v2).bind fun g3 => (rd 5 (A 7) u1).bind fun v4 => (wr 5 (A 1) u1 v4).bind fun g5 => (rd 5 (A 8) u1).bind fun v6 => (wr 5 (A 2) u1 v6).bind fun g7 => (rd 5 (A 9) u1).bind fun v8 => (wr 5 (A 3) u1 v8).bind fun g9 => if (I 0) ≤ u1 then fX7_town_127 N k_51 I (va_up (va_up (va_up (va_up A 0 g3) 1 g5) 2 g7) 3 g9) u1 u1 0 else (rd 5 (A 10) u1).bind fun v11 => fX7_town_127 N k_51 I (va_up (va_up (va_up (va_up A 0 g3) 1 g5) 2 g7) 3 g9) u1 u1 v11
def fX7_town_51 (N : Nat) : Nat → (Nat → Int32) → (Nat → Nat → Int32) → Int32 → Option (Int32 × (Nat → Int32) × (Nat → Nat → Int32))
  | 0 => fun _ _ _ => none
  | n + 1 => fX7_town_51s N (fX7_town_51 N n)
def fX7_town_30s (N : Nat) (k_30 : (Nat → Int32) → (Nat → Nat → Int32) → Int32 → Option (Int32 × (Nat → Int32) × (Nat → Nat → Int32))) (I : Nat → Int32) (A : Nat → Nat → Int32) (u1 : Int32) : Option (Int32 × (Nat → Int32) × (Nat → Nat → Int32)) := if 31 ≤ u1 then fX7_town_51 N N I A 0 else (wr 62 (A 5) u1 0).bind fun g2 => k_30 I (va_up A 5 g2) (u1 + 1)
def fX7_town_30 (N : Nat) : Nat → (Nat → Int32) → (Nat → Nat → Int32) → Int32 → Option (Int32 × (Nat → Int32) × (Nat → Nat → Int32))
  | 0 => fun _ _ _ => none
  | n + 1 => fX7_town_30s N (fX7_town_30 N n)
def fX7_town (N : Nat) (I : Nat → Int32) (A : Nat → Nat → Int32) : Option (Int32 × (Nat → Int32) × (Nat → Nat → Int32)) := (fX7_readText N I A).bind fun z1 => if z1.1 = (-9) then fX7_town_30 N N (upd (upd z1.2.1 0 (z1.2.1 2)) 1 (z1.2.1 3)) z1.2.2 0 else some ((-3), z1.2.1, z1.2.2)
def rmX7_town : Room := { frames := 5, cells := 0, slots := 0, locals := 110 }
theorem mb_X7_town : Cond.instanceMethod yX7_town ∈ wsL_law ∧ Cond.selects RX7 yX7_town yX7_town ∈ wsL_law ∧ Cond.initialized RX7 ∈ wsL_law ∧ Cond.code yX7_town cX7_town 2 (some .int) ∈ wsL_law := ⟨(bg 11 18 rfl), (bg 11 19 rfl), (bg 0 5 rfl), (bg 11 20 rfl)⟩
theorem hd_X7_town : yX7_town.cls = RX7 ∧ yX7_town.cls ≠ "java/lang/invoke/MethodHandle" ∧ yX7_town.cls ≠ "java/lang/invoke/VarHandle" ∧ (parseMethodDescriptor yX7_town.desc).map (fun d => d.parameters.length) = some 0 := by decide +kernel
set_option maxRecDepth 100000 in
set_option maxHeartbeats 4000000 in
theorem ct_X7_town (N : Nat) (l : Launch) (G : va_G) (cI cZ cO : ClassId) (q : Nat → Nat) (I : Nat → Int32) (A : Nat → Nat → Int32) (L : Int64) (r : Int32) (Iz : Nat → Int32) (Az : Nat → Nat → Int32) (hf : fX7_town N I A = some (r, Iz, Az)) : CtI l yX7_town cX7_town 2 .int rmX7_town G cI cZ cO [.ref (q 0)] (wX7 q cI cZ cO I A L) (wX7 q cI cZ cO Iz Az L) r := by
  refine mkCI (by decide) (Nat.le_of_ble_eq_true rfl) ?_
  intro p e s m below meth cd Q Z hC hP hE hD hA fin ls hl
  obtain ⟨hx, hb, hml, hown, hts⟩ := hC
  have hown : s.vm.findClass RX7 = some m.cls := hown
  have hl : lv_has ls 2 [(0, .ref (q 0))] := hl
  have b_136 : ∀ n : Nat, ∀ (I : Nat → Int32) (A : Nat → Nat → Int32) (u1 : Int32), ∀ (H : Heap) (locs : List Loc), va_P G vwCl (wX7 q cI cZ cO I A L) H → va_D Z (wX7 q cI cZ cO I A L) → va_S Z s.heap H locs → ∀ ls : Array Slot, lv_has ls 2 [(0, .ref (q 0)), (1, .int u1)] → fX7_town_136 N n I A u1 = some (r, Iz, Az) → W p l e rmX7_town s m [.ref (q 0)].toArray below meth cd H locs 0 0 Q (F0 m 136 ls []) := by
    intro n
    induction n with
    | zero =>
      intro I A u1 H locs hP hD hS ls hl hf
      cases hf
    | succ n hk_136 =>
      intro I A u1 H locs hP hD hS ls hl hf
      replace hf : fX7_town_136s N (fX7_town_136 N n) I A u1 = some (r, Iz, Az) := hf
      generalize fX7_town_136 N n = k_136 at hf hk_136
      unfold fX7_town_136s at hf
      refine lv_iload_n hx hb dX7_town_136 rfl (lv_at hl 1 rfl) ?_
      refine lv_iconst (v := 4) hx hb dX7_town_137 (by decide) ?_
      refine lv_icmp_ge (tgt := 159) hx hb dX7_town_138 (by decide) (fun c1 => ?_) (fun c1 => ?_)
      · rw [if_pos c1] at hf
        refine lv_aload_n hx hb dX7_town_159 rfl (lv_at hl 0 rfl) ?_
        refine lv_iconst (v := 0) hx hb dX7_town_160 (by decide) ?_
        refine va_put (D := G) (ci := 7) (v := .int 0) (ty := .int) (C := RX7) (T := TX7) (N := 33) hx hb hts inlX7 tyX7 tyX7_ok nmX7 hown hE.1 hP hD hS 0 rfl rfl 20 (by decide) (hts _ (bg 11 22 rfl)) (fun _ h9 => h9) rfl (by decide +kernel) rfl rfl (Nat.le_of_ble_eq_true rfl) dX7_town_161 (fun H locs hP hD hS => ?_)
        have hP : va_P G vwCl (wX7 q cI cZ cO (upd I 7 0) A L) H := hP
        have hD : va_D Z (wX7 q cI cZ cO (upd I 7 0) A L) := hD
        refine lv_aload_n hx hb dX7_town_164 rfl (lv_at hl 0 rfl) ?_
        refine va_get (D := G) (ci := 7) (v := .ref (q 21)) (C := RX7) (T := TX7) (N := 33) hx hb hts inlX7 hown hE.1 hP 0 rfl rfl 31 (by decide) (hts _ (bg 4 10 rfl)) (fun _ h9 => h9) rfl dX7_town_165 ?_
        refine lv_iconst (v := 0) hx hb dX7_town_168 (by decide) ?_
        refine lv_iconst (v := 0) hx hb dX7_town_169 (by decide) ?_
        obtain ⟨g2, hg2, hf⟩ := bnd hf
        refine x_zast hx hb hE.1 hP hD hS 21 1 rfl rfl hg2 dX7_town_170 (fun H locs hP hD hS => ?_)
        have hP : va_P G vwCl (wX7 q cI cZ cO (upd I 7 0) (va_up A 20 g2) L) H := hP
        have hD : va_D Z (wX7 q cI cZ cO (upd I 7 0) (va_up A 20 g2) L) := hD
        refine lv_aload_n hx hb dX7_town_171 rfl (lv_at hl 0 rfl) ?_
        refine va_get (D := G) (ci := 7) (v := .ref (q 21)) (C := RX7) (T := TX7) (N := 33) hx hb hts inlX7 hown hE.1 hP 0 rfl rfl 31 (by decide) (hts _ (bg 4 10 rfl)) (fun _ h9 => h9) rfl dX7_town_172 ?_
        refine lv_iconst (v := 1) hx hb dX7_town_175 (by decide) ?_
        refine lv_iconst (v := 0) hx hb dX7_town_176 (by decide) ?_
        obtain ⟨g3, hg3, hf⟩ := bnd hf
        refine x_zast hx hb hE.1 hP hD hS 21 1 rfl rfl hg3 dX7_town_177 (fun H locs hP hD hS => ?_)
        have hP : va_P G vwCl (wX7 q cI cZ cO (upd I 7 0) (va_up (va_up A 20 g2) 20 g3) L) H := hP
        have hD : va_D Z (wX7 q cI cZ cO (upd I 7 0) (va_up (va_up A 20 g2) 20 g3) L) := hD
        refine lv_bipush (v := 10) hx hb dX7_town_178 (by decide) ?_
        refine lv_aload_n hx hb dX7_town_180 rfl (lv_at hl 0 rfl) ?_
        refine va_get (D := G) (ci := 7) (v := .int ((I 0))) (C := RX7) (T := TX7) (N := 33) hx hb hts inlX7 hown hE.1 hP 0 rfl rfl 0 (by decide) (hts _ (bg 4 12 rfl)) (fun _ h9 => h9) rfl dX7_town_181 ?_
        refine lv_imul hx hb dX7_town_184 ?_
        refine lv_aload_n hx hb dX7_town_185 rfl (lv_at hl 0 rfl) ?_
        refine va_get (D := G) (ci := 7) (v := .int ((I 1))) (C := RX7) (T := TX7) (N := 33) hx hb hts inlX7 hown hE.1 hP 0 rfl rfl 1 (by decide) (hts _ (bg 11 21 rfl)) (fun _ h9 => h9) rfl dX7_town_186 ?_
        refine lv_iadd hx hb dX7_town_189 ?_
        have e9 := Option.some.inj hf
        exact fin H locs 190 ls _ (Prod.mk.inj e9).1 (nar_i _) (by rw [← (Prod.mk.inj (Prod.mk.inj e9).2).1, ← (Prod.mk.inj (Prod.mk.inj e9).2).2]; exact hP) hS dX7_town_190
      · rw [if_neg c1] at hf
        refine lv_aload_n hx hb dX7_town_141 rfl (lv_at hl 0 rfl) ?_
        refine va_get (D := G) (ci := 7) (v := .ref (q 5)) (C := RX7) (T := TX7) (N := 33) hx hb hts inlX7 hown hE.1 hP 0 rfl rfl 6 (by decide) (hts _ (bg 3 18 rfl)) (fun _ h9 => h9) rfl dX7_town_142 ?_
        refine lv_iload_n hx hb dX7_town_145 rfl (lv_at hl 1 rfl) ?_
        refine lv_aload_n hx hb dX7_town_146 rfl (lv_at hl 0 rfl) ?_
        refine va_get (D := G) (ci := 7) (v := .ref (q 12)) (C := RX7) (T := TX7) (N := 33) hx hb hts inlX7 hown hE.1 hP 0 rfl rfl 13 (by decide) (hts _ (bg 4 1 rfl)) (fun _ h9 => h9) rfl dX7_town_147 ?_
        refine lv_iload_n hx hb dX7_town_150 rfl (lv_at hl 1 rfl) ?_
        obtain ⟨v4, hv4, hf⟩ := bnd hf
        refine x_iald hx hb hE.1 hP 12 0 rfl rfl hv4 dX7_town_151 ?_
        obtain ⟨g5, hg5, hf⟩ := bnd hf
        refine x_iast hx hb hE.1 hP hD hS 5 0 rfl rfl hg5 dX7_town_152 (fun H locs hP hD hS => ?_)
        have hP : va_P G vwCl (wX7 q cI cZ cO I (va_up A 4 g5) L) H := hP
        have hD : va_D Z (wX7 q cI cZ cO I (va_up A 4 g5) L) := hD
        refine lv_iinc (v := u1 + 1) (lv' := [(1, .int (u1 + 1)), (0, .ref (q 0))]) hx hb dX7_town_153 hl (k := 1) rfl rfl (by decide) rfl (fun ls hl => ?_)
        refine lv_goto (tgt := 136) hx hb dX7_town_156 (by decide) ?_
        exact hk_136 I (va_up A 4 g5) (u1 + 1) H locs hP hD hS ls (lv_sub hl [1, 0] rfl) hf
  have b_127 : ∀ (k_51 : (Nat → Int32) → (Nat → Nat → Int32) → Int32 → Option (Int32 × (Nat → Int32) × (Nat → Nat → Int32))) (hk_51 : ∀ (I : Nat → Int32) (A : Nat → Nat → Int32) (u1 : Int32), ∀ (H : Heap) (locs : List Loc), va_P G vwCl (wX7 q cI cZ cO I A L) H → va_D Z (wX7 q cI cZ cO I A L) → va_S Z s.heap H locs → ∀ ls : Array Slot, lv_has ls 2 [(0, .ref (q 0)), (1, .int u1)] → k_51 I A u1 = some (r, Iz, Az) → W p l e rmX7_town s m [.ref (q 0)].toArray below meth cd H locs 0 0 Q (F0 m 51 ls [])), ∀ (I : Nat → Int32) (A : Nat → Nat → Int32) (u1 : Int32) (y1 : Int32) (y2 : Int32), ∀ (H : Heap) (locs : List Loc), va_P G vwCl (wX7 q cI cZ cO I A L) H → va_D Z (wX7 q cI cZ cO I A L) → va_S Z s.heap H locs → ∀ ls : Array Slot, lv_has ls 2 [(0, .ref (q 0)), (1, .int u1)] → fX7_town_127 N k_51 I A u1 y1 y2 = some (r, Iz, Az) → W p l e rmX7_town s m [.ref (q 0)].toArray below meth cd H locs 0 0 Q (F0 m 127 ls [.int y2, .int y1, .ref (q 6)]) := by
    intro k_51 hk_51 I A u1 y1 y2 H locs hP hD hS ls hl hf
    unfold fX7_town_127 at hf
    obtain ⟨g1, hg1, hf⟩ := bnd hf
    refine x_iast hx hb hE.1 hP hD hS 6 0 rfl rfl hg1 dX7_town_127 (fun H locs hP hD hS => ?_)
    have hP : va_P G vwCl (wX7 q cI cZ cO I (va_up A 5 g1) L) H := hP
    have hD : va_D Z (wX7 q cI cZ cO I (va_up A 5 g1) L) := hD
    refine lv_iinc (v := u1 + 1) (lv' := [(1, .int (u1 + 1)), (0, .ref (q 0))]) hx hb dX7_town_128 hl (k := 1) rfl rfl (by decide) rfl (fun ls hl => ?_)
    refine lv_goto (tgt := 51) hx hb dX7_town_131 (by decide) ?_
    exact hk_51 I (va_up A 5 g1) (u1 + 1) H locs hP hD hS ls (lv_sub hl [1, 0] rfl) hf
  have b_51 : ∀ n : Nat, ∀ (I : Nat → Int32) (A : Nat → Nat → Int32) (u1 : Int32), ∀ (H : Heap) (locs : List Loc), va_P G vwCl (wX7 q cI cZ cO I A L) H → va_D Z (wX7 q cI cZ cO I A L) → va_S Z s.heap H locs → ∀ ls : Array Slot, lv_has ls 2 [(0, .ref (q 0)), (1, .int u1)] → fX7_town_51 N n I A u1 = some (r, Iz, Az) → W p l e rmX7_town s m [.ref (q 0)].toArray below meth cd H locs 0 0 Q (F0 m 51 ls []) := by
    intro n
    induction n with
    | zero =>
      intro I A u1 H locs hP hD hS ls hl hf
      cases hf
    | succ n hk_51 =>
      intro I A u1 H locs hP hD hS ls hl hf
      replace hf : fX7_town_51s N (fX7_town_51 N n) I A u1 = some (r, Iz, Az) := hf
      generalize fX7_town_51 N n = k_51 at hf hk_51
      unfold fX7_town_51s at hf
      refine lv_iload_n hx hb dX7_town_51 rfl (lv_at hl 1 rfl) ?_
      refine lv_iconst (v := 5) hx hb dX7_town_52 (by decide) ?_
      refine lv_icmp_ge (tgt := 134) hx hb dX7_town_53 (by decide) (fun c1 => ?_) (fun c1 => ?_)
      · rw [if_pos c1] at hf
        refine lv_iconst (v := 0) hx hb dX7_town_134 (by decide) ?_
        refine lv_istore_n (lv' := [(1, .int 0), (0, .ref (q 0))]) hx hb dX7_town_135 rfl hl (by decide) rfl (fun ls hl => ?_)
        exact b_136 N I A 0 H locs hP hD hS ls (lv_sub hl [1, 0] rfl) hf
      · rw [if_neg c1] at hf
        refine lv_aload_n hx hb dX7_town_56 rfl (lv_at hl 0 rfl) ?_
        refine va_get (D := G) (ci := 7) (v := .ref (q 1)) (C := RX7) (T := TX7) (N := 33) hx hb hts inlX7 hown hE.1 hP 0 rfl rfl 2 (by decide) (hts _ (bg 3 14 rfl)) (fun _ h9 => h9) rfl dX7_town_57 ?_
        refine lv_iload_n hx hb dX7_town_60 rfl (lv_at hl 1 rfl) ?_
        refine lv_aload_n hx hb dX7_town_61 rfl (lv_at hl 0 rfl) ?_
        refine va_get (D := G) (ci := 7) (v := .ref (q 7)) (C := RX7) (T := TX7) (N := 33) hx hb hts inlX7 hown hE.1 hP 0 rfl rfl 8 (by decide) (hts _ (bg 3 20 rfl)) (fun _ h9 => h9) rfl dX7_town_62 ?_
        refine lv_iload_n hx hb dX7_town_65 rfl (lv_at hl 1 rfl) ?_
        obtain ⟨v2, hv2, hf⟩ := bnd hf
        refine x_iald hx hb hE.1 hP 7 0 rfl rfl hv2 dX7_town_66 ?_
        obtain ⟨g3, hg3, hf⟩ := bnd hf
        refine x_iast hx hb hE.1 hP hD hS 1 0 rfl rfl hg3 dX7_town_67 (fun H locs hP hD hS => ?_)
        have hP : va_P G vwCl (wX7 q cI cZ cO I (va_up A 0 g3) L) H := hP
        have hD : va_D Z (wX7 q cI cZ cO I (va_up A 0 g3) L) := hD
        refine lv_aload_n hx hb dX7_town_68 rfl (lv_at hl 0 rfl) ?_
        refine va_get (D := G) (ci := 7) (v := .ref (q 2)) (C := RX7) (T := TX7) (N := 33) hx hb hts inlX7 hown hE.1 hP 0 rfl rfl 3 (by decide) (hts _ (bg 3 15 rfl)) (fun _ h9 => h9) rfl dX7_town_69 ?_
        refine lv_iload_n hx hb dX7_town_72 rfl (lv_at hl 1 rfl) ?_
        refine lv_aload_n hx hb dX7_town_73 rfl (lv_at hl 0 rfl) ?_
        refine va_get (D := G) (ci := 7) (v := .ref (q 8)) (C := RX7) (T := TX7) (N := 33) hx hb hts inlX7 hown hE.1 hP 0 rfl rfl 9 (by decide) (hts _ (bg 3 21 rfl)) (fun _ h9 => h9) rfl dX7_town_74 ?_
        refine lv_iload_n hx hb dX7_town_77 rfl (lv_at hl 1 rfl) ?_
        obtain ⟨v4, hv4, hf⟩ := bnd hf
        refine x_iald hx hb hE.1 hP 8 0 rfl rfl hv4 dX7_town_78 ?_
        obtain ⟨g5, hg5, hf⟩ := bnd hf
        refine x_iast hx hb hE.1 hP hD hS 2 0 rfl rfl hg5 dX7_town_79 (fun H locs hP hD hS => ?_)
        have hP : va_P G vwCl (wX7 q cI cZ cO I (va_up (va_up A 0 g3) 1 g5) L) H := hP
        have hD : va_D Z (wX7 q cI cZ cO I (va_up (va_up A 0 g3) 1 g5) L) := hD
        refine lv_aload_n hx hb dX7_town_80 rfl (lv_at hl 0 rfl) ?_
        refine va_get (D := G) (ci := 7) (v := .ref (q 3)) (C := RX7) (T := TX7) (N := 33) hx hb hts inlX7 hown hE.1 hP 0 rfl rfl 4 (by decide) (hts _ (bg 3 16 rfl)) (fun _ h9 => h9) rfl dX7_town_81 ?_
        refine lv_iload_n hx hb dX7_town_84 rfl (lv_at hl 1 rfl) ?_
        refine lv_aload_n hx hb dX7_town_85 rfl (lv_at hl 0 rfl) ?_
        refine va_get (D := G) (ci := 7) (v := .ref (q 9)) (C := RX7) (T := TX7) (N := 33) hx hb hts inlX7 hown hE.1 hP 0 rfl rfl 10 (by decide) (hts _ (bg 3 22 rfl)) (fun _ h9 => h9) rfl dX7_town_86 ?_
        refine lv_iload_n hx hb dX7_town_89 rfl (lv_at hl 1 rfl) ?_
        obtain ⟨v6, hv6, hf⟩ := bnd hf
        refine x_iald hx hb hE.1 hP 9 0 rfl rfl hv6 dX7_town_90 ?_
        obtain ⟨g7, hg7, hf⟩ := bnd hf
        refine x_iast hx hb hE.1 hP hD hS 3 0 rfl rfl hg7 dX7_town_91 (fun H locs hP hD hS => ?_)
        have hP : va_P G vwCl (wX7 q cI cZ cO I (va_up (va_up (va_up A 0 g3) 1 g5) 2 g7) L) H := hP
        have hD : va_D Z (wX7 q cI cZ cO I (va_up (va_up (va_up A 0 g3) 1 g5) 2 g7) L) := hD
        refine lv_aload_n hx hb dX7_town_92 rfl (lv_at hl 0 rfl) ?_
        refine va_get (D := G) (ci := 7) (v := .ref (q 4)) (C := RX7) (T := TX7) (N := 33) hx hb hts inlX7 hown hE.1 hP 0 rfl rfl 5 (by decide) (hts _ (bg 3 17 rfl)) (fun _ h9 => h9) rfl dX7_town_93 ?_
        refine lv_iload_n hx hb dX7_town_96 rfl (lv_at hl 1 rfl) ?_
        refine lv_aload_n hx hb dX7_town_97 rfl (lv_at hl 0 rfl) ?_
        refine va_get (D := G) (ci := 7) (v := .ref (q 10)) (C := RX7) (T := TX7) (N := 33) hx hb hts inlX7 hown hE.1 hP 0 rfl rfl 11 (by decide) (hts _ (bg 3 23 rfl)) (fun _ h9 => h9) rfl dX7_town_98 ?_
        refine lv_iload_n hx hb dX7_town_101 rfl (lv_at hl 1 rfl) ?_
        obtain ⟨v8, hv8, hf⟩ := bnd hf
        refine x_iald hx hb hE.1 hP 10 0 rfl rfl hv8 dX7_town_102 ?_
        obtain ⟨g9, hg9, hf⟩ := bnd hf
        refine x_iast hx hb hE.1 hP hD hS 4 0 rfl rfl hg9 dX7_town_103 (fun H locs hP hD hS => ?_)
        have hP : va_P G vwCl (wX7 q cI cZ cO I (va_up (va_up (va_up (va_up A 0 g3) 1 g5) 2 g7) 3 g9) L) H := hP
        have hD : va_D Z (wX7 q cI cZ cO I (va_up (va_up (va_up (va_up A 0 g3) 1 g5) 2 g7) 3 g9) L) := hD
        refine lv_aload_n hx hb dX7_town_104 rfl (lv_at hl 0 rfl) ?_
        refine va_get (D := G) (ci := 7) (v := .ref (q 6)) (C := RX7) (T := TX7) (N := 33) hx hb hts inlX7 hown hE.1 hP 0 rfl rfl 7 (by decide) (hts _ (bg 3 19 rfl)) (fun _ h9 => h9) rfl dX7_town_105 ?_
        refine lv_iload_n hx hb dX7_town_108 rfl (lv_at hl 1 rfl) ?_
        refine lv_iload_n hx hb dX7_town_109 rfl (lv_at hl 1 rfl) ?_
        refine lv_aload_n hx hb dX7_town_110 rfl (lv_at hl 0 rfl) ?_
        refine va_get (D := G) (ci := 7) (v := .int ((I 0))) (C := RX7) (T := TX7) (N := 33) hx hb hts inlX7 hown hE.1 hP 0 rfl rfl 0 (by decide) (hts _ (bg 4 12 rfl)) (fun _ h9 => h9) rfl dX7_town_111 ?_
        refine lv_icmp_ge (tgt := 126) hx hb dX7_town_114 (by decide) (fun c10 => ?_) (fun c10 => ?_)
        · rw [if_pos c10] at hf
          refine lv_iconst (v := 0) hx hb dX7_town_126 (by decide) ?_
          exact b_127 k_51 hk_51 I (va_up (va_up (va_up (va_up A 0 g3) 1 g5) 2 g7) 3 g9) u1 u1 0 H locs hP hD hS ls (lv_sub hl [0, 1] rfl) hf
        · rw [if_neg c10] at hf
          refine lv_aload_n hx hb dX7_town_117 rfl (lv_at hl 0 rfl) ?_
          refine va_get (D := G) (ci := 7) (v := .ref (q 11)) (C := RX7) (T := TX7) (N := 33) hx hb hts inlX7 hown hE.1 hP 0 rfl rfl 12 (by decide) (hts _ (bg 4 0 rfl)) (fun _ h9 => h9) rfl dX7_town_118 ?_
          refine lv_iload_n hx hb dX7_town_121 rfl (lv_at hl 1 rfl) ?_
          obtain ⟨v11, hv11, hf⟩ := bnd hf
          refine x_iald hx hb hE.1 hP 11 0 rfl rfl hv11 dX7_town_122 ?_
          refine lv_goto (tgt := 127) hx hb dX7_town_123 (by decide) ?_
          exact b_127 k_51 hk_51 I (va_up (va_up (va_up (va_up A 0 g3) 1 g5) 2 g7) 3 g9) u1 u1 v11 H locs hP hD hS ls (lv_sub hl [0, 1] rfl) hf
  have b_30 : ∀ n : Nat, ∀ (I : Nat → Int32) (A : Nat → Nat → Int32) (u1 : Int32), ∀ (H : Heap) (locs : List Loc), va_P G vwCl (wX7 q cI cZ cO I A L) H → va_D Z (wX7 q cI cZ cO I A L) → va_S Z s.heap H locs → ∀ ls : Array Slot, lv_has ls 2 [(0, .ref (q 0)), (1, .int u1)] → fX7_town_30 N n I A u1 = some (r, Iz, Az) → W p l e rmX7_town s m [.ref (q 0)].toArray below meth cd H locs 0 0 Q (F0 m 30 ls []) := by
    intro n
    induction n with
    | zero =>
      intro I A u1 H locs hP hD hS ls hl hf
      cases hf
    | succ n hk_30 =>
      intro I A u1 H locs hP hD hS ls hl hf
      replace hf : fX7_town_30s N (fX7_town_30 N n) I A u1 = some (r, Iz, Az) := hf
      generalize fX7_town_30 N n = k_30 at hf hk_30
      unfold fX7_town_30s at hf
      refine lv_iload_n hx hb dX7_town_30 rfl (lv_at hl 1 rfl) ?_
      refine lv_bipush (v := 31) hx hb dX7_town_31 (by decide) ?_
      refine lv_icmp_ge (tgt := 49) hx hb dX7_town_33 (by decide) (fun c1 => ?_) (fun c1 => ?_)
      · rw [if_pos c1] at hf
        refine lv_iconst (v := 0) hx hb dX7_town_49 (by decide) ?_
        refine lv_istore_n (lv' := [(1, .int 0), (0, .ref (q 0))]) hx hb dX7_town_50 rfl hl (by decide) rfl (fun ls hl => ?_)
        exact b_51 N I A 0 H locs hP hD hS ls (lv_sub hl [1, 0] rfl) hf
      · rw [if_neg c1] at hf
        refine lv_aload_n hx hb dX7_town_36 rfl (lv_at hl 0 rfl) ?_
        refine va_get (D := G) (ci := 7) (v := .ref (q 6)) (C := RX7) (T := TX7) (N := 33) hx hb hts inlX7 hown hE.1 hP 0 rfl rfl 7 (by decide) (hts _ (bg 3 19 rfl)) (fun _ h9 => h9) rfl dX7_town_37 ?_
        refine lv_iload_n hx hb dX7_town_40 rfl (lv_at hl 1 rfl) ?_
        refine lv_iconst (v := 0) hx hb dX7_town_41 (by decide) ?_
        obtain ⟨g2, hg2, hf⟩ := bnd hf
        refine x_iast hx hb hE.1 hP hD hS 6 0 rfl rfl hg2 dX7_town_42 (fun H locs hP hD hS => ?_)
        have hP : va_P G vwCl (wX7 q cI cZ cO I (va_up A 5 g2) L) H := hP
        have hD : va_D Z (wX7 q cI cZ cO I (va_up A 5 g2) L) := hD
        refine lv_iinc (v := u1 + 1) (lv' := [(1, .int (u1 + 1)), (0, .ref (q 0))]) hx hb dX7_town_43 hl (k := 1) rfl rfl (by decide) rfl (fun ls hl => ?_)
        refine lv_goto (tgt := 30) hx hb dX7_town_46 (by decide) ?_
        exact hk_30 I (va_up A 5 g2) (u1 + 1) H locs hP hD hS ls (lv_sub hl [1, 0] rfl) hf
  unfold fX7_town at hf
  have hS : va_S Z s.heap s.heap [] := va_S.rf
  obtain ⟨H, hH⟩ : ∃ H, H = s.heap := ⟨_, rfl⟩
  obtain ⟨locs, hlocs⟩ : ∃ locs : List Loc, locs = [] := ⟨_, rfl⟩
  rw [← hlocs]
  rw [← hlocs] at hS
  suffices hW : ∀ H : Heap, va_P G vwCl (wX7 q cI cZ cO I A L) H → va_S Z s.heap H locs → W p l e rmX7_town s m [.ref (q 0)].toArray below meth cd H locs 0 0 Q (F0 m 0 ls []) from hW s.heap hP hS
  clear hP hS hH H
  intro H hP hS
  refine lv_aload_n hx hb dX7_town_0 rfl (lv_at hl 0 rfl) ?_
  obtain ⟨z1, hz1, hf⟩ := bnd hf
  refine x_wwV (C := RX7) (n := 0) (ci := 7) hx hb hml hown hts hE (ct_X7_readText N l G cI cZ cO q I A L z1.1 z1.2.1 z1.2.2 hz1) (bg 9 19 rfl) mb_X7_readText.1 mb_X7_readText.2.1 mb_X7_readText.2.2.1 mb_X7_readText.2.2.2 hd_X7_readText rfl (by decide) hP hD hS hA rfl rfl rfl rfl rfl hl.1 (Nat.le_of_ble_eq_true rfl) ⟨Nat.zero_le _, Nat.zero_le _⟩ dX7_town_1 (fun H locs hP hD hS => ?_)
  have hP : va_P G vwCl (wX7 q cI cZ cO z1.2.1 z1.2.2 L) H := hP
  have hD : va_D Z (wX7 q cI cZ cO z1.2.1 z1.2.2 L) := hD
  refine lv_bipush (v := (-9)) hx hb dX7_town_4 (by decide) ?_
  refine lv_icmp_eq (tgt := 12) hx hb dX7_town_6 (by decide) (fun c2 => ?_) (fun c2 => ?_)
  · rw [if_pos c2] at hf
    refine lv_aload_n hx hb dX7_town_12 rfl (lv_at hl 0 rfl) ?_
    refine lv_aload_n hx hb dX7_town_13 rfl (lv_at hl 0 rfl) ?_
    refine va_get (D := G) (ci := 7) (v := .int ((z1.2.1 2))) (C := RX7) (T := TX7) (N := 33) hx hb hts inlX7 hown hE.1 hP 0 rfl rfl 14 (by decide) (hts _ (bg 10 1 rfl)) (fun _ h9 => h9) rfl dX7_town_14 ?_
    refine va_put (D := G) (ci := 7) (v := .int ((z1.2.1 2))) (ty := .int) (C := RX7) (T := TX7) (N := 33) hx hb hts inlX7 tyX7 tyX7_ok nmX7 hown hE.1 hP hD hS 0 rfl rfl 0 (by decide) (hts _ (bg 4 12 rfl)) (fun _ h9 => h9) rfl (by decide +kernel) rfl rfl (Nat.le_of_ble_eq_true rfl) dX7_town_17 (fun H locs hP hD hS => ?_)
    have hP : va_P G vwCl (wX7 q cI cZ cO (upd z1.2.1 0 (z1.2.1 2)) z1.2.2 L) H := hP
    have hD : va_D Z (wX7 q cI cZ cO (upd z1.2.1 0 (z1.2.1 2)) z1.2.2 L) := hD
    refine lv_aload_n hx hb dX7_town_20 rfl (lv_at hl 0 rfl) ?_
    refine lv_aload_n hx hb dX7_town_21 rfl (lv_at hl 0 rfl) ?_
    refine va_get (D := G) (ci := 7) (v := .int ((z1.2.1 3))) (C := RX7) (T := TX7) (N := 33) hx hb hts inlX7 hown hE.1 hP 0 rfl rfl 15 (by decide) (hts _ (bg 10 2 rfl)) (fun _ h9 => h9) rfl dX7_town_22 ?_
    refine va_put (D := G) (ci := 7) (v := .int ((z1.2.1 3))) (ty := .int) (C := RX7) (T := TX7) (N := 33) hx hb hts inlX7 tyX7 tyX7_ok nmX7 hown hE.1 hP hD hS 0 rfl rfl 1 (by decide) (hts _ (bg 11 21 rfl)) (fun _ h9 => h9) rfl (by decide +kernel) rfl rfl (Nat.le_of_ble_eq_true rfl) dX7_town_25 (fun H locs hP hD hS => ?_)
    have hP : va_P G vwCl (wX7 q cI cZ cO (upd (upd z1.2.1 0 (z1.2.1 2)) 1 (z1.2.1 3)) z1.2.2 L) H := hP
    have hD : va_D Z (wX7 q cI cZ cO (upd (upd z1.2.1 0 (z1.2.1 2)) 1 (z1.2.1 3)) z1.2.2 L) := hD
    refine lv_iconst (v := 0) hx hb dX7_town_28 (by decide) ?_
    refine lv_istore_n (lv' := [(1, .int 0), (0, .ref (q 0))]) hx hb dX7_town_29 rfl hl (by decide) rfl (fun ls hl => ?_)
    exact b_30 N (upd (upd z1.2.1 0 (z1.2.1 2)) 1 (z1.2.1 3)) z1.2.2 0 H locs hP hD hS ls (lv_sub hl [1, 0] rfl) hf
  · rw [if_neg c2] at hf
    refine lv_bipush (v := (-3)) hx hb dX7_town_9 (by decide) ?_
    have e9 := Option.some.inj hf
    exact fin H locs 11 ls _ (Prod.mk.inj e9).1 (nar_i _) (by rw [← (Prod.mk.inj (Prod.mk.inj e9).2).1, ← (Prod.mk.inj (Prod.mk.inj e9).2).2]; exact hP) hS dX7_town_11
def fX7_isRumour (N : Nat) (I : Nat → Int32) (x1 : Int32) : Option (Int32) := (fX7_in N (Int32.toInt64 x1) 0 (Int32.toInt64 ((I 0) - 1))).bind fun z1 => (bz z1).bind fun v2 => some v2
def rmX7_isRumour : Room := { frames := 1, cells := 0, slots := 0, locals := 25 }
theorem mb_X7_isRumour : Cond.instanceMethod yX7_isRumour ∈ wsL_law ∧ Cond.selects RX7 yX7_isRumour yX7_isRumour ∈ wsL_law ∧ Cond.initialized RX7 ∈ wsL_law ∧ Cond.code yX7_isRumour cX7_isRumour 2 (some .boolean) ∈ wsL_law := ⟨(bg 13 7 rfl), (bg 13 8 rfl), (bg 0 5 rfl), (bg 13 9 rfl)⟩
theorem hd_X7_isRumour : yX7_isRumour.cls = RX7 ∧ yX7_isRumour.cls ≠ "java/lang/invoke/MethodHandle" ∧ yX7_isRumour.cls ≠ "java/lang/invoke/VarHandle" ∧ (parseMethodDescriptor yX7_isRumour.desc).map (fun d => d.parameters.length) = some 1 := by decide +kernel
set_option maxRecDepth 100000 in
set_option maxHeartbeats 4000000 in
theorem ct_X7_isRumour (N : Nat) (l : Launch) (G : va_G) (cI cZ cO : ClassId) (q : Nat → Nat) (I : Nat → Int32) (A : Nat → Nat → Int32) (L : Int64) (x1 : Int32) (r : Int32) (hf : fX7_isRumour N I x1 = some r) : RtI l yX7_isRumour cX7_isRumour 2 .boolean rmX7_isRumour G cI cZ cO [.ref (q 0), .int x1] (wX7 q cI cZ cO I A L) r := by
  refine mkRI (by decide) (Nat.le_of_ble_eq_true rfl) ?_
  intro p e s m below meth cd Q hC hP hE fin ls hl
  obtain ⟨hx, hb, hml, hown, hts⟩ := hC
  have hown : s.vm.findClass RX7 = some m.cls := hown
  have hl : lv_has ls 2 [(0, .ref (q 0)), (1, .int x1)] := hl
  unfold fX7_isRumour at hf
  refine lv_iload_n hx hb dX7_isRumour_0 rfl (lv_at hl 1 rfl) ?_
  refine lv_i2l (v := Int32.toInt64 x1) hx hb dX7_isRumour_1 rfl ?_
  refine lv_lconst (v := 0) hx hb dX7_isRumour_2 (by decide) ?_
  refine lv_aload_n hx hb dX7_isRumour_3 rfl (lv_at hl 0 rfl) ?_
  refine va_get (D := G) (ci := 7) (v := .int ((I 0))) (C := RX7) (T := TX7) (N := 33) hx hb hts inlX7 hown hE.1 hP 0 rfl rfl 0 (by decide) (hts _ (bg 4 12 rfl)) (fun _ h9 => h9) rfl dX7_isRumour_4 ?_
  refine lv_iconst (v := 1) hx hb dX7_isRumour_7 (by decide) ?_
  refine lv_isub hx hb dX7_isRumour_8 ?_
  refine lv_i2l (v := Int32.toInt64 ((I 0) - 1)) hx hb dX7_isRumour_9 rfl ?_
  obtain ⟨z1, hz1, hf⟩ := bnd hf
  refine x_rdS (n := 3) hx hb hml hown hts hE (ct_X7_in N l G cI cZ cO (Int32.toInt64 x1) 0 (Int32.toInt64 ((I 0) - 1)) z1 hz1) (bg 5 9 rfl) mb_X7_in.1 mb_X7_in.2.1 mb_X7_in.2.2 hd_X7_in rfl (by decide) va_P_nil rfl hl.1 (Nat.le_of_ble_eq_true rfl) ⟨Nat.zero_le _, Nat.zero_le _⟩ dX7_isRumour_10 ?_
  obtain ⟨v2, hv2, hf⟩ := bnd hf
  obtain ⟨ev2, hv2⟩ := bz_in hv2
  rw [ev2]
  have e9 := Option.some.inj hf
  exact fin 13 ls _ e9 (nar_z (by rw [← e9]; exact hv2)) dX7_isRumour_13
def fX7_isProved_35 (N : Nat) (A : Nat → Nat → Int32) (y0 : Int32) : Option (Int32) := (bz y0).bind fun v1 => some v1
def fX7_isProved_34 (N : Nat) (A : Nat → Nat → Int32) : Option (Int32) := fX7_isProved_35 N A 0
def fX7_isProved (N : Nat) (A : Nat → Nat → Int32) (x1 : Int32) (x2 : Int32) : Option (Int32) := (rd 5 (A 2) x2).bind fun v1 => if v1 ≤ 0 then fX7_isProved_34 N A else (rd 62 (A 5) ((31 * x1) + 30)).bind fun v3 => (rd 5 (A 2) x2).bind fun v4 => if v3 < v4 then fX7_isProved_34 N A else fX7_isProved_35 N A 1
def rmX7_isProved : Room := { frames := 0, cells := 0, slots := 0, locals := 0 }
theorem mb_X7_isProved : Cond.instanceMethod yX7_isProved ∈ wsL_law ∧ Cond.selects RX7 yX7_isProved yX7_isProved ∈ wsL_law ∧ Cond.initialized RX7 ∈ wsL_law ∧ Cond.code yX7_isProved cX7_isProved 3 (some .boolean) ∈ wsL_law := ⟨(bg 13 11 rfl), (bg 13 12 rfl), (bg 0 5 rfl), (bg 13 13 rfl)⟩
theorem hd_X7_isProved : yX7_isProved.cls = RX7 ∧ yX7_isProved.cls ≠ "java/lang/invoke/MethodHandle" ∧ yX7_isProved.cls ≠ "java/lang/invoke/VarHandle" ∧ (parseMethodDescriptor yX7_isProved.desc).map (fun d => d.parameters.length) = some 2 := by decide +kernel
set_option maxRecDepth 100000 in
set_option maxHeartbeats 4000000 in
theorem ct_X7_isProved (N : Nat) (l : Launch) (G : va_G) (cI cZ cO : ClassId) (q : Nat → Nat) (I : Nat → Int32) (A : Nat → Nat → Int32) (L : Int64) (x1 : Int32) (x2 : Int32) (r : Int32) (hf : fX7_isProved N A x1 x2 = some r) : RtI l yX7_isProved cX7_isProved 3 .boolean rmX7_isProved G cI cZ cO [.ref (q 0), .int x1, .int x2] (wX7 q cI cZ cO I A L) r := by
  refine mkRI (by decide) (Nat.le_of_ble_eq_true rfl) ?_
  intro p e s m below meth cd Q hC hP hE fin ls hl
  obtain ⟨hx, hb, hml, hown, hts⟩ := hC
  have hown : s.vm.findClass RX7 = some m.cls := hown
  have hl : lv_has ls 3 [(0, .ref (q 0)), (1, .int x1), (2, .int x2)] := hl
  have b_35 : ∀ (y0 : Int32), ∀ ls : Array Slot, lv_has ls 3 [] → fX7_isProved_35 N A y0 = some r → W p l e rmX7_isProved s m [.ref (q 0), .int x1, .int x2].toArray below meth cd s.heap [] 0 0 Q (F0 m 35 ls [.int y0]) := by
    intro y0 ls hl hf
    unfold fX7_isProved_35 at hf
    obtain ⟨v1, hv1, hf⟩ := bnd hf
    obtain ⟨ev1, hv1⟩ := bz_in hv1
    rw [ev1]
    have e9 := Option.some.inj hf
    exact fin 35 ls _ e9 (nar_z (by rw [← e9]; exact hv1)) dX7_isProved_35
  have b_34 : ∀ ls : Array Slot, lv_has ls 3 [] → fX7_isProved_34 N A = some r → W p l e rmX7_isProved s m [.ref (q 0), .int x1, .int x2].toArray below meth cd s.heap [] 0 0 Q (F0 m 34 ls []) := by
    intro ls hl hf
    unfold fX7_isProved_34 at hf
    refine lv_iconst (v := 0) hx hb dX7_isProved_34 (by decide) ?_
    exact b_35 0 ls (lv_sub hl [] rfl) hf
  unfold fX7_isProved at hf
  refine lv_aload_n hx hb dX7_isProved_0 rfl (lv_at hl 0 rfl) ?_
  refine va_get (D := G) (ci := 7) (v := .ref (q 3)) (C := RX7) (T := TX7) (N := 33) hx hb hts inlX7 hown hE.1 hP 0 rfl rfl 4 (by decide) (hts _ (bg 3 16 rfl)) (fun _ h9 => h9) rfl dX7_isProved_1 ?_
  refine lv_iload_n hx hb dX7_isProved_4 rfl (lv_at hl 2 rfl) ?_
  obtain ⟨v1, hv1, hf⟩ := bnd hf
  refine x_iald hx hb hE.1 hP 3 0 rfl rfl hv1 dX7_isProved_5 ?_
  refine lv_if_le (tgt := 34) hx hb dX7_isProved_6 (by decide) (fun c2 => ?_) (fun c2 => ?_)
  · rw [if_pos c2] at hf
    exact b_34 ls (lv_sub hl [] rfl) hf
  · rw [if_neg c2] at hf
    refine lv_aload_n hx hb dX7_isProved_9 rfl (lv_at hl 0 rfl) ?_
    refine va_get (D := G) (ci := 7) (v := .ref (q 6)) (C := RX7) (T := TX7) (N := 33) hx hb hts inlX7 hown hE.1 hP 0 rfl rfl 7 (by decide) (hts _ (bg 3 19 rfl)) (fun _ h9 => h9) rfl dX7_isProved_10 ?_
    refine lv_bipush (v := 31) hx hb dX7_isProved_13 (by decide) ?_
    refine lv_iload_n hx hb dX7_isProved_15 rfl (lv_at hl 1 rfl) ?_
    refine lv_imul hx hb dX7_isProved_16 ?_
    refine lv_bipush (v := 30) hx hb dX7_isProved_17 (by decide) ?_
    refine lv_iadd hx hb dX7_isProved_19 ?_
    obtain ⟨v3, hv3, hf⟩ := bnd hf
    refine x_iald hx hb hE.1 hP 6 0 rfl rfl hv3 dX7_isProved_20 ?_
    refine lv_aload_n hx hb dX7_isProved_21 rfl (lv_at hl 0 rfl) ?_
    refine va_get (D := G) (ci := 7) (v := .ref (q 3)) (C := RX7) (T := TX7) (N := 33) hx hb hts inlX7 hown hE.1 hP 0 rfl rfl 4 (by decide) (hts _ (bg 3 16 rfl)) (fun _ h9 => h9) rfl dX7_isProved_22 ?_
    refine lv_iload_n hx hb dX7_isProved_25 rfl (lv_at hl 2 rfl) ?_
    obtain ⟨v4, hv4, hf⟩ := bnd hf
    refine x_iald hx hb hE.1 hP 3 0 rfl rfl hv4 dX7_isProved_26 ?_
    refine lv_icmp_lt (tgt := 34) hx hb dX7_isProved_27 (by decide) (fun c5 => ?_) (fun c5 => ?_)
    · rw [if_pos c5] at hf
      exact b_34 ls (lv_sub hl [] rfl) hf
    · rw [if_neg c5] at hf
      refine lv_iconst (v := 1) hx hb dX7_isProved_30 (by decide) ?_
      refine lv_goto (tgt := 35) hx hb dX7_isProved_31 (by decide) ?_
      exact b_35 1 ls (lv_sub hl [] rfl) hf
def fX7_rumour_110 (N : Nat) (I : Nat → Int32) (A : Nat → Nat → Int32) (y0 : Int32) : Option (Int32) := some y0
def fX7_rumour (N : Nat) (I : Nat → Int32) (A : Nat → Nat → Int32) (x1 : Int32) (x2 : Int32) : Option (Int32) := (fX7_isRumour N I x1).bind fun z1 => if z1 = 0 then some (-1) else if x2 = 0 then (rd 5 (A 0) x1).bind fun v4 => some v4 else if x2 = 1 then (rd 5 (A 1) x1).bind fun v6 => some v6 else if x2 = 2 then (rd 5 (A 2) x1).bind fun v8 => some v8 else if x2 = 3 then (rd 62 (A 5) x1).bind fun v10 => some v10 else if x2 = 4 then (rd 62 (A 5) (5 + x1)).bind fun v12 => some v12 else if x2 = 5 then (rd 5 (A 3) x1).bind fun v14 => some v14 else if x2 = 6 then (fX7_isProved N A 0 x1).bind fun z16 => if z16 = 0 then fX7_rumour_110 N I A 0 else fX7_rumour_110 N I A 1 else some (-2)
def rmX7_rumour : Room := { frames := 2, cells := 0, slots := 0, locals := 46 }
theorem mb_X7_rumour : Cond.instanceMethod yX7_rumour ∈ wsL_law ∧ Cond.selects RX7 yX7_rumour yX7_rumour ∈ wsL_law ∧ Cond.initialized RX7 ∈ wsL_law ∧ Cond.code yX7_rumour cX7_rumour 3 (some .int) ∈ wsL_law := ⟨(bg 13 3 rfl), (bg 13 4 rfl), (bg 0 5 rfl), (bg 13 5 rfl)⟩
theorem hd_X7_rumour : yX7_rumour.cls = RX7 ∧ yX7_rumour.cls ≠ "java/lang/invoke/MethodHandle" ∧ yX7_rumour.cls ≠ "java/lang/invoke/VarHandle" ∧ (parseMethodDescriptor yX7_rumour.desc).map (fun d => d.parameters.length) = some 2 := by decide +kernel
set_option maxRecDepth 100000 in
set_option maxHeartbeats 4000000 in
theorem ct_X7_rumour (N : Nat) (l : Launch) (G : va_G) (cI cZ cO : ClassId) (q : Nat → Nat) (I : Nat → Int32) (A : Nat → Nat → Int32) (L : Int64) (x1 : Int32) (x2 : Int32) (r : Int32) (hf : fX7_rumour N I A x1 x2 = some r) : RtI l yX7_rumour cX7_rumour 3 .int rmX7_rumour G cI cZ cO [.ref (q 0), .int x1, .int x2] (wX7 q cI cZ cO I A L) r := by
  refine mkRI (by decide) (Nat.le_of_ble_eq_true rfl) ?_
  intro p e s m below meth cd Q hC hP hE fin ls hl
  obtain ⟨hx, hb, hml, hown, hts⟩ := hC
  have hown : s.vm.findClass RX7 = some m.cls := hown
  have hl : lv_has ls 3 [(0, .ref (q 0)), (1, .int x1), (2, .int x2)] := hl
  have b_110 : ∀ (y0 : Int32), ∀ ls : Array Slot, lv_has ls 3 [] → fX7_rumour_110 N I A y0 = some r → W p l e rmX7_rumour s m [.ref (q 0), .int x1, .int x2].toArray below meth cd s.heap [] 0 0 Q (F0 m 110 ls [.int y0]) := by
    intro y0 ls hl hf
    unfold fX7_rumour_110 at hf
    have e9 := Option.some.inj hf
    exact fin 110 ls _ e9 (nar_i _) dX7_rumour_110
  unfold fX7_rumour at hf
  refine lv_aload_n hx hb dX7_rumour_0 rfl (lv_at hl 0 rfl) ?_
  refine lv_iload_n hx hb dX7_rumour_1 rfl (lv_at hl 1 rfl) ?_
  obtain ⟨z1, hz1, hf⟩ := bnd hf
  refine x_rdV (C := RX7) (n := 1) (ci := 7) hx hb hml hown hts hE (ct_X7_isRumour N l G cI cZ cO q I A L x1 z1 hz1) (bg 13 6 rfl) mb_X7_isRumour.1 mb_X7_isRumour.2.1 mb_X7_isRumour.2.2.1 mb_X7_isRumour.2.2.2 hd_X7_isRumour rfl (by decide) hP rfl rfl rfl rfl hl.1 (Nat.le_of_ble_eq_true rfl) ⟨Nat.zero_le _, Nat.zero_le _⟩ dX7_rumour_2 ?_
  refine lv_if_ne (tgt := 10) hx hb dX7_rumour_5 (by decide) (fun c2 => ?_) (fun c2 => ?_)
  · rw [if_neg c2] at hf
    refine lv_iload_n hx hb dX7_rumour_10 rfl (lv_at hl 2 rfl) ?_
    by_cases c3 : x2 = 0
    · rw [if_pos c3] at hf
      refine x_tsw (tgt := 52) hx hb c3 dX7_rumour_11 (by decide) (by decide) rfl (by decide) ?_
      refine lv_aload_n hx hb dX7_rumour_52 rfl (lv_at hl 0 rfl) ?_
      refine va_get (D := G) (ci := 7) (v := .ref (q 1)) (C := RX7) (T := TX7) (N := 33) hx hb hts inlX7 hown hE.1 hP 0 rfl rfl 2 (by decide) (hts _ (bg 3 14 rfl)) (fun _ h9 => h9) rfl dX7_rumour_53 ?_
      refine lv_iload_n hx hb dX7_rumour_56 rfl (lv_at hl 1 rfl) ?_
      obtain ⟨v4, hv4, hf⟩ := bnd hf
      refine x_iald hx hb hE.1 hP 1 0 rfl rfl hv4 dX7_rumour_57 ?_
      have e9 := Option.some.inj hf
      exact fin 58 ls _ e9 (nar_i _) dX7_rumour_58
    · rw [if_neg c3] at hf
      by_cases c5 : x2 = 1
      · rw [if_pos c5] at hf
        refine x_tsw (tgt := 59) hx hb c5 dX7_rumour_11 (by decide) (by decide) rfl (by decide) ?_
        refine lv_aload_n hx hb dX7_rumour_59 rfl (lv_at hl 0 rfl) ?_
        refine va_get (D := G) (ci := 7) (v := .ref (q 2)) (C := RX7) (T := TX7) (N := 33) hx hb hts inlX7 hown hE.1 hP 0 rfl rfl 3 (by decide) (hts _ (bg 3 15 rfl)) (fun _ h9 => h9) rfl dX7_rumour_60 ?_
        refine lv_iload_n hx hb dX7_rumour_63 rfl (lv_at hl 1 rfl) ?_
        obtain ⟨v6, hv6, hf⟩ := bnd hf
        refine x_iald hx hb hE.1 hP 2 0 rfl rfl hv6 dX7_rumour_64 ?_
        have e9 := Option.some.inj hf
        exact fin 65 ls _ e9 (nar_i _) dX7_rumour_65
      · rw [if_neg c5] at hf
        by_cases c7 : x2 = 2
        · rw [if_pos c7] at hf
          refine x_tsw (tgt := 66) hx hb c7 dX7_rumour_11 (by decide) (by decide) rfl (by decide) ?_
          refine lv_aload_n hx hb dX7_rumour_66 rfl (lv_at hl 0 rfl) ?_
          refine va_get (D := G) (ci := 7) (v := .ref (q 3)) (C := RX7) (T := TX7) (N := 33) hx hb hts inlX7 hown hE.1 hP 0 rfl rfl 4 (by decide) (hts _ (bg 3 16 rfl)) (fun _ h9 => h9) rfl dX7_rumour_67 ?_
          refine lv_iload_n hx hb dX7_rumour_70 rfl (lv_at hl 1 rfl) ?_
          obtain ⟨v8, hv8, hf⟩ := bnd hf
          refine x_iald hx hb hE.1 hP 3 0 rfl rfl hv8 dX7_rumour_71 ?_
          have e9 := Option.some.inj hf
          exact fin 72 ls _ e9 (nar_i _) dX7_rumour_72
        · rw [if_neg c7] at hf
          by_cases c9 : x2 = 3
          · rw [if_pos c9] at hf
            refine x_tsw (tgt := 73) hx hb c9 dX7_rumour_11 (by decide) (by decide) rfl (by decide) ?_
            refine lv_aload_n hx hb dX7_rumour_73 rfl (lv_at hl 0 rfl) ?_
            refine va_get (D := G) (ci := 7) (v := .ref (q 6)) (C := RX7) (T := TX7) (N := 33) hx hb hts inlX7 hown hE.1 hP 0 rfl rfl 7 (by decide) (hts _ (bg 3 19 rfl)) (fun _ h9 => h9) rfl dX7_rumour_74 ?_
            refine lv_iload_n hx hb dX7_rumour_77 rfl (lv_at hl 1 rfl) ?_
            obtain ⟨v10, hv10, hf⟩ := bnd hf
            refine x_iald hx hb hE.1 hP 6 0 rfl rfl hv10 dX7_rumour_78 ?_
            have e9 := Option.some.inj hf
            exact fin 79 ls _ e9 (nar_i _) dX7_rumour_79
          · rw [if_neg c9] at hf
            by_cases c11 : x2 = 4
            · rw [if_pos c11] at hf
              refine x_tsw (tgt := 80) hx hb c11 dX7_rumour_11 (by decide) (by decide) rfl (by decide) ?_
              refine lv_aload_n hx hb dX7_rumour_80 rfl (lv_at hl 0 rfl) ?_
              refine va_get (D := G) (ci := 7) (v := .ref (q 6)) (C := RX7) (T := TX7) (N := 33) hx hb hts inlX7 hown hE.1 hP 0 rfl rfl 7 (by decide) (hts _ (bg 3 19 rfl)) (fun _ h9 => h9) rfl dX7_rumour_81 ?_
              refine lv_iconst (v := 5) hx hb dX7_rumour_84 (by decide) ?_
              refine lv_iload_n hx hb dX7_rumour_85 rfl (lv_at hl 1 rfl) ?_
              refine lv_iadd hx hb dX7_rumour_86 ?_
              obtain ⟨v12, hv12, hf⟩ := bnd hf
              refine x_iald hx hb hE.1 hP 6 0 rfl rfl hv12 dX7_rumour_87 ?_
              have e9 := Option.some.inj hf
              exact fin 88 ls _ e9 (nar_i _) dX7_rumour_88
            · rw [if_neg c11] at hf
              by_cases c13 : x2 = 5
              · rw [if_pos c13] at hf
                refine x_tsw (tgt := 89) hx hb c13 dX7_rumour_11 (by decide) (by decide) rfl (by decide) ?_
                refine lv_aload_n hx hb dX7_rumour_89 rfl (lv_at hl 0 rfl) ?_
                refine va_get (D := G) (ci := 7) (v := .ref (q 4)) (C := RX7) (T := TX7) (N := 33) hx hb hts inlX7 hown hE.1 hP 0 rfl rfl 5 (by decide) (hts _ (bg 3 17 rfl)) (fun _ h9 => h9) rfl dX7_rumour_90 ?_
                refine lv_iload_n hx hb dX7_rumour_93 rfl (lv_at hl 1 rfl) ?_
                obtain ⟨v14, hv14, hf⟩ := bnd hf
                refine x_iald hx hb hE.1 hP 4 0 rfl rfl hv14 dX7_rumour_94 ?_
                have e9 := Option.some.inj hf
                exact fin 95 ls _ e9 (nar_i _) dX7_rumour_95
              · rw [if_neg c13] at hf
                by_cases c15 : x2 = 6
                · rw [if_pos c15] at hf
                  refine x_tsw (tgt := 96) hx hb c15 dX7_rumour_11 (by decide) (by decide) rfl (by decide) ?_
                  refine lv_aload_n hx hb dX7_rumour_96 rfl (lv_at hl 0 rfl) ?_
                  refine lv_iconst (v := 0) hx hb dX7_rumour_97 (by decide) ?_
                  refine lv_iload_n hx hb dX7_rumour_98 rfl (lv_at hl 1 rfl) ?_
                  obtain ⟨z16, hz16, hf⟩ := bnd hf
                  refine x_rdV (C := RX7) (n := 2) (ci := 7) hx hb hml hown hts hE (ct_X7_isProved N l G cI cZ cO q I A L 0 x1 z16 hz16) (bg 13 10 rfl) mb_X7_isProved.1 mb_X7_isProved.2.1 mb_X7_isProved.2.2.1 mb_X7_isProved.2.2.2 hd_X7_isProved rfl (by decide) hP rfl rfl rfl rfl hl.1 (Nat.le_of_ble_eq_true rfl) ⟨Nat.zero_le _, Nat.zero_le _⟩ dX7_rumour_99 ?_
                  refine lv_if_eq (tgt := 109) hx hb dX7_rumour_102 (by decide) (fun c17 => ?_) (fun c17 => ?_)
                  · rw [if_pos c17] at hf
                    refine lv_iconst (v := 0) hx hb dX7_rumour_109 (by decide) ?_
                    exact b_110 0 ls (lv_sub hl [] rfl) hf
                  · rw [if_neg c17] at hf
                    refine lv_iconst (v := 1) hx hb dX7_rumour_105 (by decide) ?_
                    refine lv_goto (tgt := 110) hx hb dX7_rumour_106 (by decide) ?_
                    exact b_110 1 ls (lv_sub hl [] rfl) hf
                · rw [if_neg c15] at hf
                  refine lv_tableOut (tgt := 111) hx hb dX7_rumour_11 (by have tc3 := lv_neT (a := 0) c3 (by decide); have tc5 := lv_neT (a := 1) c5 (by decide); have tc7 := lv_neT (a := 2) c7 (by decide); have tc9 := lv_neT (a := 3) c9 (by decide); have tc11 := lv_neT (a := 4) c11 (by decide); have tc13 := lv_neT (a := 5) c13 (by decide); have tc15 := lv_neT (a := 6) c15 (by decide); omega) (by decide) ?_
                  refine lv_bipush (v := (-2)) hx hb dX7_rumour_111 (by decide) ?_
                  have e9 := Option.some.inj hf
                  exact fin 113 ls _ e9 (nar_i _) dX7_rumour_113
  · rw [if_pos c2] at hf
    refine lv_iconst (v := (-1)) hx hb dX7_rumour_8 (by decide) ?_
    have e9 := Option.some.inj hf
    exact fin 9 ls _ e9 (nar_i _) dX7_rumour_9
def fX7_isPerson (N : Nat) (I : Nat → Int32) (x1 : Int32) : Option (Int32) := (fX7_in N (Int32.toInt64 x1) 0 (Int32.toInt64 ((I 1) - 1))).bind fun z1 => (bz z1).bind fun v2 => some v2
def rmX7_isPerson : Room := { frames := 1, cells := 0, slots := 0, locals := 25 }
theorem mb_X7_isPerson : Cond.instanceMethod yX7_isPerson ∈ wsL_law ∧ Cond.selects RX7 yX7_isPerson yX7_isPerson ∈ wsL_law ∧ Cond.initialized RX7 ∈ wsL_law ∧ Cond.code yX7_isPerson cX7_isPerson 2 (some .boolean) ∈ wsL_law := ⟨(bg 14 4 rfl), (bg 14 5 rfl), (bg 0 5 rfl), (bg 14 6 rfl)⟩
theorem hd_X7_isPerson : yX7_isPerson.cls = RX7 ∧ yX7_isPerson.cls ≠ "java/lang/invoke/MethodHandle" ∧ yX7_isPerson.cls ≠ "java/lang/invoke/VarHandle" ∧ (parseMethodDescriptor yX7_isPerson.desc).map (fun d => d.parameters.length) = some 1 := by decide +kernel
set_option maxRecDepth 100000 in
set_option maxHeartbeats 4000000 in
theorem ct_X7_isPerson (N : Nat) (l : Launch) (G : va_G) (cI cZ cO : ClassId) (q : Nat → Nat) (I : Nat → Int32) (A : Nat → Nat → Int32) (L : Int64) (x1 : Int32) (r : Int32) (hf : fX7_isPerson N I x1 = some r) : RtI l yX7_isPerson cX7_isPerson 2 .boolean rmX7_isPerson G cI cZ cO [.ref (q 0), .int x1] (wX7 q cI cZ cO I A L) r := by
  refine mkRI (by decide) (Nat.le_of_ble_eq_true rfl) ?_
  intro p e s m below meth cd Q hC hP hE fin ls hl
  obtain ⟨hx, hb, hml, hown, hts⟩ := hC
  have hown : s.vm.findClass RX7 = some m.cls := hown
  have hl : lv_has ls 2 [(0, .ref (q 0)), (1, .int x1)] := hl
  unfold fX7_isPerson at hf
  refine lv_iload_n hx hb dX7_isPerson_0 rfl (lv_at hl 1 rfl) ?_
  refine lv_i2l (v := Int32.toInt64 x1) hx hb dX7_isPerson_1 rfl ?_
  refine lv_lconst (v := 0) hx hb dX7_isPerson_2 (by decide) ?_
  refine lv_aload_n hx hb dX7_isPerson_3 rfl (lv_at hl 0 rfl) ?_
  refine va_get (D := G) (ci := 7) (v := .int ((I 1))) (C := RX7) (T := TX7) (N := 33) hx hb hts inlX7 hown hE.1 hP 0 rfl rfl 1 (by decide) (hts _ (bg 11 21 rfl)) (fun _ h9 => h9) rfl dX7_isPerson_4 ?_
  refine lv_iconst (v := 1) hx hb dX7_isPerson_7 (by decide) ?_
  refine lv_isub hx hb dX7_isPerson_8 ?_
  refine lv_i2l (v := Int32.toInt64 ((I 1) - 1)) hx hb dX7_isPerson_9 rfl ?_
  obtain ⟨z1, hz1, hf⟩ := bnd hf
  refine x_rdS (n := 3) hx hb hml hown hts hE (ct_X7_in N l G cI cZ cO (Int32.toInt64 x1) 0 (Int32.toInt64 ((I 1) - 1)) z1 hz1) (bg 5 9 rfl) mb_X7_in.1 mb_X7_in.2.1 mb_X7_in.2.2 hd_X7_in rfl (by decide) va_P_nil rfl hl.1 (Nat.le_of_ble_eq_true rfl) ⟨Nat.zero_le _, Nat.zero_le _⟩ dX7_isPerson_10 ?_
  obtain ⟨v2, hv2, hf⟩ := bnd hf
  obtain ⟨ev2, hv2⟩ := bz_in hv2
  rw [ev2]
  have e9 := Option.some.inj hf
  exact fin 13 ls _ e9 (nar_z (by rw [← e9]; exact hv2)) dX7_isPerson_13
def fX7_table_18 (N : Nat) (I : Nat → Int32) (A : Nat → Nat → Int32) (y0 : Int32) : Option (Int32) := some y0
def fX7_table (N : Nat) (I : Nat → Int32) (A : Nat → Nat → Int32) (x1 : Int32) : Option (Int32) := (fX7_isPerson N I x1).bind fun z1 => if z1 = 0 then fX7_table_18 N I A (-1) else (rd 4 (A 4) x1).bind fun v3 => fX7_table_18 N I A v3
def rmX7_table : Room := { frames := 2, cells := 0, slots := 0, locals := 46 }
theorem mb_X7_table : Cond.instanceMethod yX7_table ∈ wsL_law ∧ Cond.selects RX7 yX7_table yX7_table ∈ wsL_law ∧ Cond.initialized RX7 ∈ wsL_law ∧ Cond.code yX7_table cX7_table 2 (some .int) ∈ wsL_law := ⟨(bg 14 0 rfl), (bg 14 1 rfl), (bg 0 5 rfl), (bg 14 2 rfl)⟩
theorem hd_X7_table : yX7_table.cls = RX7 ∧ yX7_table.cls ≠ "java/lang/invoke/MethodHandle" ∧ yX7_table.cls ≠ "java/lang/invoke/VarHandle" ∧ (parseMethodDescriptor yX7_table.desc).map (fun d => d.parameters.length) = some 1 := by decide +kernel
set_option maxRecDepth 100000 in
set_option maxHeartbeats 4000000 in
theorem ct_X7_table (N : Nat) (l : Launch) (G : va_G) (cI cZ cO : ClassId) (q : Nat → Nat) (I : Nat → Int32) (A : Nat → Nat → Int32) (L : Int64) (x1 : Int32) (r : Int32) (hf : fX7_table N I A x1 = some r) : RtI l yX7_table cX7_table 2 .int rmX7_table G cI cZ cO [.ref (q 0), .int x1] (wX7 q cI cZ cO I A L) r := by
  refine mkRI (by decide) (Nat.le_of_ble_eq_true rfl) ?_
  intro p e s m below meth cd Q hC hP hE fin ls hl
  obtain ⟨hx, hb, hml, hown, hts⟩ := hC
  have hown : s.vm.findClass RX7 = some m.cls := hown
  have hl : lv_has ls 2 [(0, .ref (q 0)), (1, .int x1)] := hl
  have b_18 : ∀ (y0 : Int32), ∀ ls : Array Slot, lv_has ls 2 [] → fX7_table_18 N I A y0 = some r → W p l e rmX7_table s m [.ref (q 0), .int x1].toArray below meth cd s.heap [] 0 0 Q (F0 m 18 ls [.int y0]) := by
    intro y0 ls hl hf
    unfold fX7_table_18 at hf
    have e9 := Option.some.inj hf
    exact fin 18 ls _ e9 (nar_i _) dX7_table_18
  unfold fX7_table at hf
  refine lv_aload_n hx hb dX7_table_0 rfl (lv_at hl 0 rfl) ?_
  refine lv_iload_n hx hb dX7_table_1 rfl (lv_at hl 1 rfl) ?_
  obtain ⟨z1, hz1, hf⟩ := bnd hf
  refine x_rdV (C := RX7) (n := 1) (ci := 7) hx hb hml hown hts hE (ct_X7_isPerson N l G cI cZ cO q I A L x1 z1 hz1) (bg 14 3 rfl) mb_X7_isPerson.1 mb_X7_isPerson.2.1 mb_X7_isPerson.2.2.1 mb_X7_isPerson.2.2.2 hd_X7_isPerson rfl (by decide) hP rfl rfl rfl rfl hl.1 (Nat.le_of_ble_eq_true rfl) ⟨Nat.zero_le _, Nat.zero_le _⟩ dX7_table_2 ?_
  refine lv_if_eq (tgt := 17) hx hb dX7_table_5 (by decide) (fun c2 => ?_) (fun c2 => ?_)
  · rw [if_pos c2] at hf
    refine lv_iconst (v := (-1)) hx hb dX7_table_17 (by decide) ?_
    exact b_18 (-1) ls (lv_sub hl [] rfl) hf
  · rw [if_neg c2] at hf
    refine lv_aload_n hx hb dX7_table_8 rfl (lv_at hl 0 rfl) ?_
    refine va_get (D := G) (ci := 7) (v := .ref (q 5)) (C := RX7) (T := TX7) (N := 33) hx hb hts inlX7 hown hE.1 hP 0 rfl rfl 6 (by decide) (hts _ (bg 3 18 rfl)) (fun _ h9 => h9) rfl dX7_table_9 ?_
    refine lv_iload_n hx hb dX7_table_12 rfl (lv_at hl 1 rfl) ?_
    obtain ⟨v3, hv3, hf⟩ := bnd hf
    refine x_iald hx hb hE.1 hP 5 0 rfl rfl hv3 dX7_table_13 ?_
    refine lv_goto (tgt := 18) hx hb dX7_table_14 (by decide) ?_
    exact b_18 v3 ls (lv_sub hl [] rfl) hf
def fX7_coinAt (N : Nat) (x1 : Int32) (x2 : Int32) (x3 : Int32) : Option (Int32) := some ((((31 * x1) + 10) + (5 * x2)) + x3)
def rmX7_coinAt : Room := { frames := 0, cells := 0, slots := 0, locals := 0 }
theorem mb_X7_coinAt : Cond.instanceMethod yX7_coinAt ∈ wsL_law ∧ Cond.selects RX7 yX7_coinAt yX7_coinAt ∈ wsL_law ∧ Cond.initialized RX7 ∈ wsL_law ∧ Cond.code yX7_coinAt cX7_coinAt 4 (some .int) ∈ wsL_law := ⟨(bg 14 20 rfl), (bg 14 21 rfl), (bg 0 5 rfl), (bg 14 22 rfl)⟩
theorem hd_X7_coinAt : yX7_coinAt.cls = RX7 ∧ yX7_coinAt.cls ≠ "java/lang/invoke/MethodHandle" ∧ yX7_coinAt.cls ≠ "java/lang/invoke/VarHandle" ∧ (parseMethodDescriptor yX7_coinAt.desc).map (fun d => d.parameters.length) = some 3 := by decide +kernel
set_option maxRecDepth 100000 in
set_option maxHeartbeats 4000000 in
theorem ct_X7_coinAt (N : Nat) (l : Launch) (G : va_G) (cI cZ cO : ClassId) (q : Nat → Nat) (I : Nat → Int32) (A : Nat → Nat → Int32) (L : Int64) (x1 : Int32) (x2 : Int32) (x3 : Int32) (r : Int32) (hf : fX7_coinAt N x1 x2 x3 = some r) : RtI l yX7_coinAt cX7_coinAt 4 .int rmX7_coinAt G cI cZ cO [.ref (q 0), .int x1, .int x2, .int x3] (wX7 q cI cZ cO I A L) r := by
  refine mkRI (by decide) (Nat.le_of_ble_eq_true rfl) ?_
  intro p e s m below meth cd Q hC hP hE fin ls hl
  obtain ⟨hx, hb, hml, hown, hts⟩ := hC
  have hown : s.vm.findClass RX7 = some m.cls := hown
  have hl : lv_has ls 4 [(0, .ref (q 0)), (1, .int x1), (2, .int x2), (3, .int x3)] := hl
  unfold fX7_coinAt at hf
  refine lv_bipush (v := 31) hx hb dX7_coinAt_0 (by decide) ?_
  refine lv_iload_n hx hb dX7_coinAt_2 rfl (lv_at hl 1 rfl) ?_
  refine lv_imul hx hb dX7_coinAt_3 ?_
  refine lv_bipush (v := 10) hx hb dX7_coinAt_4 (by decide) ?_
  refine lv_iadd hx hb dX7_coinAt_6 ?_
  refine lv_iconst (v := 5) hx hb dX7_coinAt_7 (by decide) ?_
  refine lv_iload_n hx hb dX7_coinAt_8 rfl (lv_at hl 2 rfl) ?_
  refine lv_imul hx hb dX7_coinAt_9 ?_
  refine lv_iadd hx hb dX7_coinAt_10 ?_
  refine lv_iload_n hx hb dX7_coinAt_11 rfl (lv_at hl 3 rfl) ?_
  refine lv_iadd hx hb dX7_coinAt_12 ?_
  have e9 := Option.some.inj hf
  exact fin 13 ls _ e9 (nar_i _) dX7_coinAt_13
def fX7_coins_32 (N : Nat) (I : Nat → Int32) (A : Nat → Nat → Int32) (y0 : Int32) : Option (Int32) := some y0
def fX7_coins_31 (N : Nat) (I : Nat → Int32) (A : Nat → Nat → Int32) : Option (Int32) := fX7_coins_32 N I A (-1)
def fX7_coins (N : Nat) (I : Nat → Int32) (A : Nat → Nat → Int32) (x1 : Int32) (x2 : Int32) : Option (Int32) := (fX7_isPerson N I x1).bind fun z1 => if z1 = 0 then fX7_coins_31 N I A else (fX7_isRumour N I x2).bind fun z3 => if z3 = 0 then fX7_coins_31 N I A else (fX7_coinAt N 0 x1 x2).bind fun z5 => (rd 62 (A 5) z5).bind fun v6 => fX7_coins_32 N I A v6
def rmX7_coins : Room := { frames := 2, cells := 0, slots := 0, locals := 46 }
theorem mb_X7_coins : Cond.instanceMethod yX7_coins ∈ wsL_law ∧ Cond.selects RX7 yX7_coins yX7_coins ∈ wsL_law ∧ Cond.initialized RX7 ∈ wsL_law ∧ Cond.code yX7_coins cX7_coins 3 (some .int) ∈ wsL_law := ⟨(bg 14 16 rfl), (bg 14 17 rfl), (bg 0 5 rfl), (bg 14 18 rfl)⟩
theorem hd_X7_coins : yX7_coins.cls = RX7 ∧ yX7_coins.cls ≠ "java/lang/invoke/MethodHandle" ∧ yX7_coins.cls ≠ "java/lang/invoke/VarHandle" ∧ (parseMethodDescriptor yX7_coins.desc).map (fun d => d.parameters.length) = some 2 := by decide +kernel
set_option maxRecDepth 100000 in
set_option maxHeartbeats 4000000 in
theorem ct_X7_coins (N : Nat) (l : Launch) (G : va_G) (cI cZ cO : ClassId) (q : Nat → Nat) (I : Nat → Int32) (A : Nat → Nat → Int32) (L : Int64) (x1 : Int32) (x2 : Int32) (r : Int32) (hf : fX7_coins N I A x1 x2 = some r) : RtI l yX7_coins cX7_coins 3 .int rmX7_coins G cI cZ cO [.ref (q 0), .int x1, .int x2] (wX7 q cI cZ cO I A L) r := by
  refine mkRI (by decide) (Nat.le_of_ble_eq_true rfl) ?_
  intro p e s m below meth cd Q hC hP hE fin ls hl
  obtain ⟨hx, hb, hml, hown, hts⟩ := hC
  have hown : s.vm.findClass RX7 = some m.cls := hown
  have hl : lv_has ls 3 [(0, .ref (q 0)), (1, .int x1), (2, .int x2)] := hl
  have b_32 : ∀ (y0 : Int32), ∀ ls : Array Slot, lv_has ls 3 [] → fX7_coins_32 N I A y0 = some r → W p l e rmX7_coins s m [.ref (q 0), .int x1, .int x2].toArray below meth cd s.heap [] 0 0 Q (F0 m 32 ls [.int y0]) := by
    intro y0 ls hl hf
    unfold fX7_coins_32 at hf
    have e9 := Option.some.inj hf
    exact fin 32 ls _ e9 (nar_i _) dX7_coins_32
  have b_31 : ∀ ls : Array Slot, lv_has ls 3 [] → fX7_coins_31 N I A = some r → W p l e rmX7_coins s m [.ref (q 0), .int x1, .int x2].toArray below meth cd s.heap [] 0 0 Q (F0 m 31 ls []) := by
    intro ls hl hf
    unfold fX7_coins_31 at hf
    refine lv_iconst (v := (-1)) hx hb dX7_coins_31 (by decide) ?_
    exact b_32 (-1) ls (lv_sub hl [] rfl) hf
  unfold fX7_coins at hf
  refine lv_aload_n hx hb dX7_coins_0 rfl (lv_at hl 0 rfl) ?_
  refine lv_iload_n hx hb dX7_coins_1 rfl (lv_at hl 1 rfl) ?_
  obtain ⟨z1, hz1, hf⟩ := bnd hf
  refine x_rdV (C := RX7) (n := 1) (ci := 7) hx hb hml hown hts hE (ct_X7_isPerson N l G cI cZ cO q I A L x1 z1 hz1) (bg 14 3 rfl) mb_X7_isPerson.1 mb_X7_isPerson.2.1 mb_X7_isPerson.2.2.1 mb_X7_isPerson.2.2.2 hd_X7_isPerson rfl (by decide) hP rfl rfl rfl rfl hl.1 (Nat.le_of_ble_eq_true rfl) ⟨Nat.zero_le _, Nat.zero_le _⟩ dX7_coins_2 ?_
  refine lv_if_eq (tgt := 31) hx hb dX7_coins_5 (by decide) (fun c2 => ?_) (fun c2 => ?_)
  · rw [if_pos c2] at hf
    exact b_31 ls (lv_sub hl [] rfl) hf
  · rw [if_neg c2] at hf
    refine lv_aload_n hx hb dX7_coins_8 rfl (lv_at hl 0 rfl) ?_
    refine lv_iload_n hx hb dX7_coins_9 rfl (lv_at hl 2 rfl) ?_
    obtain ⟨z3, hz3, hf⟩ := bnd hf
    refine x_rdV (C := RX7) (n := 1) (ci := 7) hx hb hml hown hts hE (ct_X7_isRumour N l G cI cZ cO q I A L x2 z3 hz3) (bg 13 6 rfl) mb_X7_isRumour.1 mb_X7_isRumour.2.1 mb_X7_isRumour.2.2.1 mb_X7_isRumour.2.2.2 hd_X7_isRumour rfl (by decide) hP rfl rfl rfl rfl hl.1 (Nat.le_of_ble_eq_true rfl) ⟨Nat.zero_le _, Nat.zero_le _⟩ dX7_coins_10 ?_
    refine lv_if_eq (tgt := 31) hx hb dX7_coins_13 (by decide) (fun c4 => ?_) (fun c4 => ?_)
    · rw [if_pos c4] at hf
      exact b_31 ls (lv_sub hl [] rfl) hf
    · rw [if_neg c4] at hf
      refine lv_aload_n hx hb dX7_coins_16 rfl (lv_at hl 0 rfl) ?_
      refine va_get (D := G) (ci := 7) (v := .ref (q 6)) (C := RX7) (T := TX7) (N := 33) hx hb hts inlX7 hown hE.1 hP 0 rfl rfl 7 (by decide) (hts _ (bg 3 19 rfl)) (fun _ h9 => h9) rfl dX7_coins_17 ?_
      refine lv_aload_n hx hb dX7_coins_20 rfl (lv_at hl 0 rfl) ?_
      refine lv_iconst (v := 0) hx hb dX7_coins_21 (by decide) ?_
      refine lv_iload_n hx hb dX7_coins_22 rfl (lv_at hl 1 rfl) ?_
      refine lv_iload_n hx hb dX7_coins_23 rfl (lv_at hl 2 rfl) ?_
      obtain ⟨z5, hz5, hf⟩ := bnd hf
      refine x_rdV (C := RX7) (n := 3) (ci := 7) hx hb hml hown hts hE (ct_X7_coinAt N l G cI cZ cO q I A L 0 x1 x2 z5 hz5) (bg 14 19 rfl) mb_X7_coinAt.1 mb_X7_coinAt.2.1 mb_X7_coinAt.2.2.1 mb_X7_coinAt.2.2.2 hd_X7_coinAt rfl (by decide) hP rfl rfl rfl rfl hl.1 (Nat.le_of_ble_eq_true rfl) ⟨Nat.zero_le _, Nat.zero_le _⟩ dX7_coins_24 ?_
      obtain ⟨v6, hv6, hf⟩ := bnd hf
      refine x_iald hx hb hE.1 hP 6 0 rfl rfl hv6 dX7_coins_27 ?_
      refine lv_goto (tgt := 32) hx hb dX7_coins_28 (by decide) ?_
      exact b_32 v6 ls (lv_sub hl [] rfl) hf
def fX7_keepAct_68 (N : Nat) (I : Nat → Int32) (A : Nat → Nat → Int32) (y1 : Int32) : Option ((Nat → Int32) × (Nat → Nat → Int32)) := some (upd I 7 y1, A)
def fX7_keepAct_2s (N : Nat) (k_2 : (Nat → Int32) → (Nat → Nat → Int32) → Int32 → Option ((Nat → Int32) × (Nat → Nat → Int32))) (I : Nat → Int32) (A : Nat → Nat → Int32) (u1 : Int32) : Option ((Nat → Int32) × (Nat → Nat → Int32)) := if 31 ≤ u1 then if 14 ≤ (I 7) then fX7_keepAct_68 N (upd I 8 (rem ((I 8) + 1) 14)) A 14 else fX7_keepAct_68 N (upd I 8 (rem ((I 8) + 1) 14)) A ((I 7) + 1) else (rd 62 (A 5) u1).bind fun v3 => (wr 434 (A 13) ((31 * (I 8)) + u1) v3).bind fun g4 => k_2 I (va_up A 13 g4) (u1 + 1)
def fX7_keepAct_2 (N : Nat) : Nat → (Nat → Int32) → (Nat → Nat → Int32) → Int32 → Option ((Nat → Int32) × (Nat → Nat → Int32))
  | 0 => fun _ _ _ => none
  | n + 1 => fX7_keepAct_2s N (fX7_keepAct_2 N n)
def fX7_keepAct (N : Nat) (I : Nat → Int32) (A : Nat → Nat → Int32) : Option ((Nat → Int32) × (Nat → Nat → Int32)) := fX7_keepAct_2 N N I A 0
def rmX7_keepAct : Room := { frames := 0, cells := 0, slots := 0, locals := 0 }
theorem mb_X7_keepAct : Cond.instanceMethod yX7_keepAct ∈ wsL_law ∧ Cond.selects RX7 yX7_keepAct yX7_keepAct ∈ wsL_law ∧ Cond.initialized RX7 ∈ wsL_law ∧ Cond.code yX7_keepAct cX7_keepAct 2 none ∈ wsL_law := ⟨(bg 17 3 rfl), (bg 17 4 rfl), (bg 0 5 rfl), (bg 17 5 rfl)⟩
theorem hd_X7_keepAct : yX7_keepAct.cls = RX7 ∧ yX7_keepAct.cls ≠ "java/lang/invoke/MethodHandle" ∧ yX7_keepAct.cls ≠ "java/lang/invoke/VarHandle" ∧ (parseMethodDescriptor yX7_keepAct.desc).map (fun d => d.parameters.length) = some 0 := by decide +kernel
set_option maxRecDepth 100000 in
set_option maxHeartbeats 4000000 in
theorem ct_X7_keepAct (N : Nat) (l : Launch) (G : va_G) (cI cZ cO : ClassId) (q : Nat → Nat) (I : Nat → Int32) (A : Nat → Nat → Int32) (L : Int64) (Iz : Nat → Int32) (Az : Nat → Nat → Int32) (hf : fX7_keepAct N I A = some (Iz, Az)) : CtV l yX7_keepAct cX7_keepAct 2 rmX7_keepAct G cI cZ cO [.ref (q 0)] (wX7 q cI cZ cO I A L) (wX7 q cI cZ cO Iz Az L) := by
  refine mkCV (by decide) (Nat.le_of_ble_eq_true rfl) ?_
  intro p e s m below meth cd Q Z hC hP hE hD hA fin ls hl
  obtain ⟨hx, hb, hml, hown, hts⟩ := hC
  have hown : s.vm.findClass RX7 = some m.cls := hown
  have hl : lv_has ls 2 [(0, .ref (q 0))] := hl
  have b_68 : ∀ (I : Nat → Int32) (A : Nat → Nat → Int32) (y1 : Int32), ∀ (H : Heap) (locs : List Loc), va_P G vwCl (wX7 q cI cZ cO I A L) H → va_D Z (wX7 q cI cZ cO I A L) → va_S Z s.heap H locs → ∀ ls : Array Slot, lv_has ls 2 [] → fX7_keepAct_68 N I A y1 = some (Iz, Az) → W p l e rmX7_keepAct s m [.ref (q 0)].toArray below meth cd H locs 0 0 Q (F0 m 68 ls [.int y1, .ref (q 0)]) := by
    intro I A y1 H locs hP hD hS ls hl hf
    unfold fX7_keepAct_68 at hf
    refine va_put (D := G) (ci := 7) (v := .int y1) (ty := .int) (C := RX7) (T := TX7) (N := 33) hx hb hts inlX7 tyX7 tyX7_ok nmX7 hown hE.1 hP hD hS 0 rfl rfl 20 (by decide) (hts _ (bg 11 22 rfl)) (fun _ h9 => h9) rfl (by decide +kernel) rfl rfl (Nat.le_of_ble_eq_true rfl) dX7_keepAct_68 (fun H locs hP hD hS => ?_)
    have hP : va_P G vwCl (wX7 q cI cZ cO (upd I 7 y1) A L) H := hP
    have hD : va_D Z (wX7 q cI cZ cO (upd I 7 y1) A L) := hD
    have e9 := Option.some.inj hf
    exact fin H locs 71 ls (by rw [← (Prod.mk.inj e9).1, ← (Prod.mk.inj e9).2]; exact hP) hS dX7_keepAct_71
  have b_2 : ∀ n : Nat, ∀ (I : Nat → Int32) (A : Nat → Nat → Int32) (u1 : Int32), ∀ (H : Heap) (locs : List Loc), va_P G vwCl (wX7 q cI cZ cO I A L) H → va_D Z (wX7 q cI cZ cO I A L) → va_S Z s.heap H locs → ∀ ls : Array Slot, lv_has ls 2 [(0, .ref (q 0)), (1, .int u1)] → fX7_keepAct_2 N n I A u1 = some (Iz, Az) → W p l e rmX7_keepAct s m [.ref (q 0)].toArray below meth cd H locs 0 0 Q (F0 m 2 ls []) := by
    intro n
    induction n with
    | zero =>
      intro I A u1 H locs hP hD hS ls hl hf
      cases hf
    | succ n hk_2 =>
      intro I A u1 H locs hP hD hS ls hl hf
      replace hf : fX7_keepAct_2s N (fX7_keepAct_2 N n) I A u1 = some (Iz, Az) := hf
      generalize fX7_keepAct_2 N n = k_2 at hf hk_2
      unfold fX7_keepAct_2s at hf
      refine lv_iload_n hx hb dX7_keepAct_2 rfl (lv_at hl 1 rfl) ?_
      refine lv_bipush (v := 31) hx hb dX7_keepAct_3 (by decide) ?_
      refine lv_icmp_ge (tgt := 34) hx hb dX7_keepAct_5 (by decide) (fun c1 => ?_) (fun c1 => ?_)
      · rw [if_pos c1] at hf
        refine lv_aload_n hx hb dX7_keepAct_34 rfl (lv_at hl 0 rfl) ?_
        refine lv_aload_n hx hb dX7_keepAct_35 rfl (lv_at hl 0 rfl) ?_
        refine va_get (D := G) (ci := 7) (v := .int ((I 8))) (C := RX7) (T := TX7) (N := 33) hx hb hts inlX7 hown hE.1 hP 0 rfl rfl 21 (by decide) (hts _ (bg 17 6 rfl)) (fun _ h9 => h9) rfl dX7_keepAct_36 ?_
        refine lv_iconst (v := 1) hx hb dX7_keepAct_39 (by decide) ?_
        refine lv_iadd hx hb dX7_keepAct_40 ?_
        refine lv_bipush (v := 14) hx hb dX7_keepAct_41 (by decide) ?_
        refine x_irem hx hb dX7_keepAct_43 (by decide) ?_
        refine va_put (D := G) (ci := 7) (v := .int (rem ((I 8) + 1) 14)) (ty := .int) (C := RX7) (T := TX7) (N := 33) hx hb hts inlX7 tyX7 tyX7_ok nmX7 hown hE.1 hP hD hS 0 rfl rfl 21 (by decide) (hts _ (bg 17 6 rfl)) (fun _ h9 => h9) rfl (by decide +kernel) rfl rfl (Nat.le_of_ble_eq_true rfl) dX7_keepAct_44 (fun H locs hP hD hS => ?_)
        have hP : va_P G vwCl (wX7 q cI cZ cO (upd I 8 (rem ((I 8) + 1) 14)) A L) H := hP
        have hD : va_D Z (wX7 q cI cZ cO (upd I 8 (rem ((I 8) + 1) 14)) A L) := hD
        refine lv_aload_n hx hb dX7_keepAct_47 rfl (lv_at hl 0 rfl) ?_
        refine lv_aload_n hx hb dX7_keepAct_48 rfl (lv_at hl 0 rfl) ?_
        refine va_get (D := G) (ci := 7) (v := .int ((I 7))) (C := RX7) (T := TX7) (N := 33) hx hb hts inlX7 hown hE.1 hP 0 rfl rfl 20 (by decide) (hts _ (bg 11 22 rfl)) (fun _ h9 => h9) rfl dX7_keepAct_49 ?_
        refine lv_bipush (v := 14) hx hb dX7_keepAct_52 (by decide) ?_
        refine lv_icmp_ge (tgt := 66) hx hb dX7_keepAct_54 (by decide) (fun c2 => ?_) (fun c2 => ?_)
        · rw [if_pos c2] at hf
          refine lv_bipush (v := 14) hx hb dX7_keepAct_66 (by decide) ?_
          exact b_68 (upd I 8 (rem ((I 8) + 1) 14)) A 14 H locs hP hD hS ls (lv_sub hl [] rfl) hf
        · rw [if_neg c2] at hf
          refine lv_aload_n hx hb dX7_keepAct_57 rfl (lv_at hl 0 rfl) ?_
          refine va_get (D := G) (ci := 7) (v := .int ((I 7))) (C := RX7) (T := TX7) (N := 33) hx hb hts inlX7 hown hE.1 hP 0 rfl rfl 20 (by decide) (hts _ (bg 11 22 rfl)) (fun _ h9 => h9) rfl dX7_keepAct_58 ?_
          refine lv_iconst (v := 1) hx hb dX7_keepAct_61 (by decide) ?_
          refine lv_iadd hx hb dX7_keepAct_62 ?_
          refine lv_goto (tgt := 68) hx hb dX7_keepAct_63 (by decide) ?_
          exact b_68 (upd I 8 (rem ((I 8) + 1) 14)) A ((I 7) + 1) H locs hP hD hS ls (lv_sub hl [] rfl) hf
      · rw [if_neg c1] at hf
        refine lv_aload_n hx hb dX7_keepAct_8 rfl (lv_at hl 0 rfl) ?_
        refine va_get (D := G) (ci := 7) (v := .ref (q 14)) (C := RX7) (T := TX7) (N := 33) hx hb hts inlX7 hown hE.1 hP 0 rfl rfl 22 (by decide) (hts _ (bg 4 3 rfl)) (fun _ h9 => h9) rfl dX7_keepAct_9 ?_
        refine lv_bipush (v := 31) hx hb dX7_keepAct_12 (by decide) ?_
        refine lv_aload_n hx hb dX7_keepAct_14 rfl (lv_at hl 0 rfl) ?_
        refine va_get (D := G) (ci := 7) (v := .int ((I 8))) (C := RX7) (T := TX7) (N := 33) hx hb hts inlX7 hown hE.1 hP 0 rfl rfl 21 (by decide) (hts _ (bg 17 6 rfl)) (fun _ h9 => h9) rfl dX7_keepAct_15 ?_
        refine lv_imul hx hb dX7_keepAct_18 ?_
        refine lv_iload_n hx hb dX7_keepAct_19 rfl (lv_at hl 1 rfl) ?_
        refine lv_iadd hx hb dX7_keepAct_20 ?_
        refine lv_aload_n hx hb dX7_keepAct_21 rfl (lv_at hl 0 rfl) ?_
        refine va_get (D := G) (ci := 7) (v := .ref (q 6)) (C := RX7) (T := TX7) (N := 33) hx hb hts inlX7 hown hE.1 hP 0 rfl rfl 7 (by decide) (hts _ (bg 3 19 rfl)) (fun _ h9 => h9) rfl dX7_keepAct_22 ?_
        refine lv_iload_n hx hb dX7_keepAct_25 rfl (lv_at hl 1 rfl) ?_
        obtain ⟨v3, hv3, hf⟩ := bnd hf
        refine x_iald hx hb hE.1 hP 6 0 rfl rfl hv3 dX7_keepAct_26 ?_
        obtain ⟨g4, hg4, hf⟩ := bnd hf
        refine x_iast hx hb hE.1 hP hD hS 14 0 rfl rfl hg4 dX7_keepAct_27 (fun H locs hP hD hS => ?_)
        have hP : va_P G vwCl (wX7 q cI cZ cO I (va_up A 13 g4) L) H := hP
        have hD : va_D Z (wX7 q cI cZ cO I (va_up A 13 g4) L) := hD
        refine lv_iinc (v := u1 + 1) (lv' := [(1, .int (u1 + 1)), (0, .ref (q 0))]) hx hb dX7_keepAct_28 hl (k := 1) rfl rfl (by decide) rfl (fun ls hl => ?_)
        refine lv_goto (tgt := 2) hx hb dX7_keepAct_31 (by decide) ?_
        exact hk_2 I (va_up A 13 g4) (u1 + 1) H locs hP hD hS ls (lv_sub hl [1, 0] rfl) hf
  unfold fX7_keepAct at hf
  have hS : va_S Z s.heap s.heap [] := va_S.rf
  obtain ⟨H, hH⟩ : ∃ H, H = s.heap := ⟨_, rfl⟩
  obtain ⟨locs, hlocs⟩ : ∃ locs : List Loc, locs = [] := ⟨_, rfl⟩
  rw [← hlocs]
  rw [← hlocs] at hS
  suffices hW : ∀ H : Heap, va_P G vwCl (wX7 q cI cZ cO I A L) H → va_S Z s.heap H locs → W p l e rmX7_keepAct s m [.ref (q 0)].toArray below meth cd H locs 0 0 Q (F0 m 0 ls []) from hW s.heap hP hS
  clear hP hS hH H
  intro H hP hS
  refine lv_iconst (v := 0) hx hb dX7_keepAct_0 (by decide) ?_
  refine lv_istore_n (lv' := [(1, .int 0), (0, .ref (q 0))]) hx hb dX7_keepAct_1 rfl hl (by decide) rfl (fun ls hl => ?_)
  exact b_2 N I A 0 H locs hP hD hS ls (lv_sub hl [1, 0] rfl) hf
def fX7_dawnOn_233 (N : Nat) (k_147 : (Nat → Int32) → (Nat → Nat → Int32) → Int32 → Int32 → Int32 → Int32 → Option (Int32 × (Nat → Nat → Int32))) (I : Nat → Int32) (A : Nat → Nat → Int32) (u1 : Int32) (u2 : Int32) (u3 : Int32) (u4 : Int32) (y1 : Int32) (y2 : Int32) : Option (Int32 × (Nat → Nat → Int32)) := (wr 62 (A 5) y1 y2).bind fun g1 => k_147 I (va_up A 5 g1) u1 u2 u3 (u4 + 1)
def fX7_dawnOn_231 (N : Nat) (k_147 : (Nat → Int32) → (Nat → Nat → Int32) → Int32 → Int32 → Int32 → Int32 → Option (Int32 × (Nat → Nat → Int32))) (I : Nat → Int32) (A : Nat → Nat → Int32) (u1 : Int32) (u2 : Int32) (u3 : Int32) (u4 : Int32) (u6 : Int32) (y1 : Int32) : Option (Int32 × (Nat → Nat → Int32)) := fX7_dawnOn_233 N k_147 I A u1 u2 u3 u4 y1 u6
def fX7_dawnOn_147s (N : Nat) (k_147 : (Nat → Int32) → (Nat → Nat → Int32) → Int32 → Int32 → Int32 → Int32 → Option (Int32 × (Nat → Nat → Int32))) (I : Nat → Int32) (A : Nat → Nat → Int32) (u1 : Int32) (u2 : Int32) (u3 : Int32) (u4 : Int32) : Option (Int32 × (Nat → Nat → Int32)) := if (I 0) ≤ u4 then some (u3, A) else (rd 62 (A 5) (u2 + u4)).bind fun v2 => (rd 62 (A 5) ((u2 + 5) + u4)).bind fun v3 => (rd 5 (A 1) u4).bind fun v4 => if v4 = 1 then (fX7_isProved N A u1 u4).bind fun z6 => if z6 = 0 then fX7_dawnOn_231 N k_147 I A u1 u2 u3 u4 ((((v2 ||| (shl v2 1)) ||| (shr v2 1)) &&& 63) &&& (v3 ^^^ (-1))) (u2 + u4) else fX7_dawnOn_233 N k_147 I A u1 u2 u3 u4 (u2 + u4) 0 else fX7_dawnOn_231 N k_147 I A u1 u2 u3 u4 ((((v2 ||| (shl v2 1)) ||| (shr v2 1)) &&& 63) &&& (v3 ^^^ (-1))) (u2 + u4)
def fX7_dawnOn_147 (N : Nat) : Nat → (Nat → Int32) → (Nat → Nat → Int32) → Int32 → Int32 → Int32 → Int32 → Option (Int32 × (Nat → Nat → Int32))
  | 0 => fun _ _ _ _ _ _ => none
  | n + 1 => fX7_dawnOn_147s N (fX7_dawnOn_147 N n)
def fX7_dawnOn_117 (N : Nat) (k_10 : (Nat → Int32) → (Nat → Nat → Int32) → Int32 → Int32 → Int32 → Int32 → Option (Int32 × (Nat → Nat → Int32))) (k_22 : (Nat → Int32) → (Nat → Nat → Int32) → Int32 → Int32 → Int32 → Int32 → Int32 → Option (Int32 × (Nat → Nat → Int32))) (I : Nat → Int32) (A : Nat → Nat → Int32) (u1 : Int32) (u2 : Int32) (u4 : Int32) (u5 : Int32) (y0 : Int32) (y1 : Int32) : Option (Int32 × (Nat → Nat → Int32)) := k_22 I A u1 u2 (y0 + y1) u4 (u5 + 1)
def fX7_dawnOn_104 (N : Nat) (k_10 : (Nat → Int32) → (Nat → Nat → Int32) → Int32 → Int32 → Int32 → Int32 → Option (Int32 × (Nat → Nat → Int32))) (k_22 : (Nat → Int32) → (Nat → Nat → Int32) → Int32 → Int32 → Int32 → Int32 → Int32 → Option (Int32 × (Nat → Nat → Int32))) (I : Nat → Int32) (A : Nat → Nat → Int32) (u1 : Int32) (u2 : Int32) (u3 : Int32) (u4 : Int32) (u5 : Int32) (u6 : Int32) (y1 : Int32) (y2 : Int32) (y3 : Int32) : Option (Int32 × (Nat → Nat → Int32)) := (wr 62 (A 5) y1 (y2 + y3)).bind fun g1 => if u6 = 0 then fX7_dawnOn_117 N k_10 k_22 I (va_up A 5 g1) u1 u2 u4 u5 u3 0 else fX7_dawnOn_117 N k_10 k_22 I (va_up A 5 g1) u1 u2 u4 u5 u3 1
def fX7_dawnOn_77 (N : Nat) (k_10 : (Nat → Int32) → (Nat → Nat → Int32) → Int32 → Int32 → Int32 → Int32 → Option (Int32 × (Nat → Nat → Int32))) (k_22 : (Nat → Int32) → (Nat → Nat → Int32) → Int32 → Int32 → Int32 → Int32 → Int32 → Option (Int32 × (Nat → Nat → Int32))) (I : Nat → Int32) (A : Nat → Nat → Int32) (u1 : Int32) (u2 : Int32) (u3 : Int32) (u4 : Int32) (u5 : Int32) (y0 : Int32) : Option (Int32 × (Nat → Nat → Int32)) := (fX7_coinAt N u1 u4 u5).bind fun z1 => (rd 62 (A 5) z1).bind fun v2 => if y0 = 0 then fX7_dawnOn_104 N k_10 k_22 I A u1 u2 u3 u4 u5 y0 z1 v2 0 else fX7_dawnOn_104 N k_10 k_22 I A u1 u2 u3 u4 u5 y0 z1 v2 1
def fX7_dawnOn_76 (N : Nat) (k_10 : (Nat → Int32) → (Nat → Nat → Int32) → Int32 → Int32 → Int32 → Int32 → Option (Int32 × (Nat → Nat → Int32))) (k_22 : (Nat → Int32) → (Nat → Nat → Int32) → Int32 → Int32 → Int32 → Int32 → Int32 → Option (Int32 × (Nat → Nat → Int32))) (I : Nat → Int32) (A : Nat → Nat → Int32) (u1 : Int32) (u2 : Int32) (u3 : Int32) (u4 : Int32) (u5 : Int32) : Option (Int32 × (Nat → Nat → Int32)) := fX7_dawnOn_77 N k_10 k_22 I A u1 u2 u3 u4 u5 0
def fX7_dawnOn_22s (N : Nat) (k_10 : (Nat → Int32) → (Nat → Nat → Int32) → Int32 → Int32 → Int32 → Int32 → Option (Int32 × (Nat → Nat → Int32))) (k_22 : (Nat → Int32) → (Nat → Nat → Int32) → Int32 → Int32 → Int32 → Int32 → Int32 → Option (Int32 × (Nat → Nat → Int32))) (I : Nat → Int32) (A : Nat → Nat → Int32) (u1 : Int32) (u2 : Int32) (u3 : Int32) (u4 : Int32) (u5 : Int32) : Option (Int32 × (Nat → Nat → Int32)) := if (I 0) ≤ u5 then k_10 I A u1 u2 u3 (u4 + 1) else (rd 62 (A 5) (u2 + u5)).bind fun v2 => (rd 4 (A 4) u4).bind fun v3 => (fX7_has N v2 v3).bind fun z4 => if z4 = 0 then fX7_dawnOn_76 N k_10 k_22 I A u1 u2 u3 u4 u5 else (fX7_coinAt N u1 u4 u5).bind fun z6 => (rd 62 (A 5) z6).bind fun v7 => if 99 ≤ v7 then fX7_dawnOn_76 N k_10 k_22 I A u1 u2 u3 u4 u5 else fX7_dawnOn_77 N k_10 k_22 I A u1 u2 u3 u4 u5 1
def fX7_dawnOn_22 (N : Nat) (k_10 : (Nat → Int32) → (Nat → Nat → Int32) → Int32 → Int32 → Int32 → Int32 → Option (Int32 × (Nat → Nat → Int32))) : Nat → (Nat → Int32) → (Nat → Nat → Int32) → Int32 → Int32 → Int32 → Int32 → Int32 → Option (Int32 × (Nat → Nat → Int32))
  | 0 => fun _ _ _ _ _ _ _ => none
  | n + 1 => fX7_dawnOn_22s N k_10 (fX7_dawnOn_22 N k_10 n)
def fX7_dawnOn_10s (N : Nat) (k_10 : (Nat → Int32) → (Nat → Nat → Int32) → Int32 → Int32 → Int32 → Int32 → Option (Int32 × (Nat → Nat → Int32))) (I : Nat → Int32) (A : Nat → Nat → Int32) (u1 : Int32) (u2 : Int32) (u3 : Int32) (u4 : Int32) : Option (Int32 × (Nat → Nat → Int32)) := if (I 1) ≤ u4 then (rd 62 (A 5) (u2 + 30)).bind fun v2 => (wr 62 (A 5) (u2 + 30) (v2 + 1)).bind fun g3 => fX7_dawnOn_147 N N I (va_up A 5 g3) u1 u2 u3 0 else fX7_dawnOn_22 N k_10 N I A u1 u2 u3 u4 0
def fX7_dawnOn_10 (N : Nat) : Nat → (Nat → Int32) → (Nat → Nat → Int32) → Int32 → Int32 → Int32 → Int32 → Option (Int32 × (Nat → Nat → Int32))
  | 0 => fun _ _ _ _ _ _ => none
  | n + 1 => fX7_dawnOn_10s N (fX7_dawnOn_10 N n)
def fX7_dawnOn (N : Nat) (I : Nat → Int32) (A : Nat → Nat → Int32) (x1 : Int32) : Option (Int32 × (Nat → Nat → Int32)) := fX7_dawnOn_10 N N I A x1 (31 * x1) 0 0
def rmX7_dawnOn : Room := { frames := 1, cells := 0, slots := 0, locals := 23 }
theorem mb_X7_dawnOn : Cond.instanceMethod yX7_dawnOn ∈ wsL_law ∧ Cond.selects RX7 yX7_dawnOn yX7_dawnOn ∈ wsL_law ∧ Cond.initialized RX7 ∈ wsL_law ∧ Cond.code yX7_dawnOn cX7_dawnOn 7 (some .int) ∈ wsL_law := ⟨(bg 17 8 rfl), (bg 17 9 rfl), (bg 0 5 rfl), (bg 17 10 rfl)⟩
theorem hd_X7_dawnOn : yX7_dawnOn.cls = RX7 ∧ yX7_dawnOn.cls ≠ "java/lang/invoke/MethodHandle" ∧ yX7_dawnOn.cls ≠ "java/lang/invoke/VarHandle" ∧ (parseMethodDescriptor yX7_dawnOn.desc).map (fun d => d.parameters.length) = some 1 := by decide +kernel
set_option maxRecDepth 100000 in
set_option maxHeartbeats 4000000 in
theorem ct_X7_dawnOn (N : Nat) (l : Launch) (G : va_G) (cI cZ cO : ClassId) (q : Nat → Nat) (I : Nat → Int32) (A : Nat → Nat → Int32) (L : Int64) (x1 : Int32) (r : Int32) (Az : Nat → Nat → Int32) (hf : fX7_dawnOn N I A x1 = some (r, Az)) : CtI l yX7_dawnOn cX7_dawnOn 7 .int rmX7_dawnOn G cI cZ cO [.ref (q 0), .int x1] (wX7 q cI cZ cO I A L) (wX7 q cI cZ cO I Az L) r := by
  refine mkCI (by decide) (Nat.le_of_ble_eq_true rfl) ?_
  intro p e s m below meth cd Q Z hC hP hE hD hA fin ls hl
  obtain ⟨hx, hb, hml, hown, hts⟩ := hC
  have hown : s.vm.findClass RX7 = some m.cls := hown
  have hl : lv_has ls 7 [(0, .ref (q 0)), (1, .int x1)] := hl
  have b_233 : ∀ (k_147 : (Nat → Int32) → (Nat → Nat → Int32) → Int32 → Int32 → Int32 → Int32 → Option (Int32 × (Nat → Nat → Int32))) (hk_147 : ∀ (A : Nat → Nat → Int32) (u1 : Int32) (u2 : Int32) (u3 : Int32) (u4 : Int32), ∀ (H : Heap) (locs : List Loc), va_P G vwCl (wX7 q cI cZ cO I A L) H → va_D Z (wX7 q cI cZ cO I A L) → va_S Z s.heap H locs → ∀ ls : Array Slot, lv_has ls 7 [(0, .ref (q 0)), (1, .int u1), (2, .int u2), (3, .int u3), (4, .int u4)] → k_147 I A u1 u2 u3 u4 = some (r, Az) → W p l e rmX7_dawnOn s m [.ref (q 0), .int x1].toArray below meth cd H locs 0 0 Q (F0 m 147 ls [])), ∀ (A : Nat → Nat → Int32) (u1 : Int32) (u2 : Int32) (u3 : Int32) (u4 : Int32) (y1 : Int32) (y2 : Int32), ∀ (H : Heap) (locs : List Loc), va_P G vwCl (wX7 q cI cZ cO I A L) H → va_D Z (wX7 q cI cZ cO I A L) → va_S Z s.heap H locs → ∀ ls : Array Slot, lv_has ls 7 [(0, .ref (q 0)), (1, .int u1), (2, .int u2), (3, .int u3), (4, .int u4)] → fX7_dawnOn_233 N k_147 I A u1 u2 u3 u4 y1 y2 = some (r, Az) → W p l e rmX7_dawnOn s m [.ref (q 0), .int x1].toArray below meth cd H locs 0 0 Q (F0 m 233 ls [.int y2, .int y1, .ref (q 6)]) := by
    intro k_147 hk_147 A u1 u2 u3 u4 y1 y2 H locs hP hD hS ls hl hf
    unfold fX7_dawnOn_233 at hf
    obtain ⟨g1, hg1, hf⟩ := bnd hf
    refine x_iast hx hb hE.1 hP hD hS 6 0 rfl rfl hg1 dX7_dawnOn_233 (fun H locs hP hD hS => ?_)
    have hP : va_P G vwCl (wX7 q cI cZ cO I (va_up A 5 g1) L) H := hP
    have hD : va_D Z (wX7 q cI cZ cO I (va_up A 5 g1) L) := hD
    refine lv_iinc (v := u4 + 1) (lv' := [(4, .int (u4 + 1)), (0, .ref (q 0)), (1, .int u1), (2, .int u2), (3, .int u3)]) hx hb dX7_dawnOn_234 hl (k := 4) rfl rfl (by decide) rfl (fun ls hl => ?_)
    refine lv_goto (tgt := 147) hx hb dX7_dawnOn_237 (by decide) ?_
    exact hk_147 (va_up A 5 g1) u1 u2 u3 (u4 + 1) H locs hP hD hS ls (lv_sub hl [1, 2, 3, 4, 0] rfl) hf
  have b_231 : ∀ (k_147 : (Nat → Int32) → (Nat → Nat → Int32) → Int32 → Int32 → Int32 → Int32 → Option (Int32 × (Nat → Nat → Int32))) (hk_147 : ∀ (A : Nat → Nat → Int32) (u1 : Int32) (u2 : Int32) (u3 : Int32) (u4 : Int32), ∀ (H : Heap) (locs : List Loc), va_P G vwCl (wX7 q cI cZ cO I A L) H → va_D Z (wX7 q cI cZ cO I A L) → va_S Z s.heap H locs → ∀ ls : Array Slot, lv_has ls 7 [(0, .ref (q 0)), (1, .int u1), (2, .int u2), (3, .int u3), (4, .int u4)] → k_147 I A u1 u2 u3 u4 = some (r, Az) → W p l e rmX7_dawnOn s m [.ref (q 0), .int x1].toArray below meth cd H locs 0 0 Q (F0 m 147 ls [])), ∀ (A : Nat → Nat → Int32) (u1 : Int32) (u2 : Int32) (u3 : Int32) (u4 : Int32) (u6 : Int32) (y1 : Int32), ∀ (H : Heap) (locs : List Loc), va_P G vwCl (wX7 q cI cZ cO I A L) H → va_D Z (wX7 q cI cZ cO I A L) → va_S Z s.heap H locs → ∀ ls : Array Slot, lv_has ls 7 [(0, .ref (q 0)), (1, .int u1), (2, .int u2), (3, .int u3), (4, .int u4), (6, .int u6)] → fX7_dawnOn_231 N k_147 I A u1 u2 u3 u4 u6 y1 = some (r, Az) → W p l e rmX7_dawnOn s m [.ref (q 0), .int x1].toArray below meth cd H locs 0 0 Q (F0 m 231 ls [.int y1, .ref (q 6)]) := by
    intro k_147 hk_147 A u1 u2 u3 u4 u6 y1 H locs hP hD hS ls hl hf
    unfold fX7_dawnOn_231 at hf
    refine lv_iload hx hb dX7_dawnOn_231 (lv_at hl 5 rfl) ?_
    exact b_233 k_147 hk_147 A u1 u2 u3 u4 y1 u6 H locs hP hD hS ls (lv_sub hl [0, 1, 2, 3, 4] rfl) hf
  have b_147 : ∀ n : Nat, ∀ (A : Nat → Nat → Int32) (u1 : Int32) (u2 : Int32) (u3 : Int32) (u4 : Int32), ∀ (H : Heap) (locs : List Loc), va_P G vwCl (wX7 q cI cZ cO I A L) H → va_D Z (wX7 q cI cZ cO I A L) → va_S Z s.heap H locs → ∀ ls : Array Slot, lv_has ls 7 [(0, .ref (q 0)), (1, .int u1), (2, .int u2), (3, .int u3), (4, .int u4)] → fX7_dawnOn_147 N n I A u1 u2 u3 u4 = some (r, Az) → W p l e rmX7_dawnOn s m [.ref (q 0), .int x1].toArray below meth cd H locs 0 0 Q (F0 m 147 ls []) := by
    intro n
    induction n with
    | zero =>
      intro A u1 u2 u3 u4 H locs hP hD hS ls hl hf
      cases hf
    | succ n hk_147 =>
      intro A u1 u2 u3 u4 H locs hP hD hS ls hl hf
      replace hf : fX7_dawnOn_147s N (fX7_dawnOn_147 N n) I A u1 u2 u3 u4 = some (r, Az) := hf
      generalize fX7_dawnOn_147 N n = k_147 at hf hk_147
      unfold fX7_dawnOn_147s at hf
      refine lv_iload hx hb dX7_dawnOn_147 (lv_at hl 4 rfl) ?_
      refine lv_aload_n hx hb dX7_dawnOn_149 rfl (lv_at hl 0 rfl) ?_
      refine va_get (D := G) (ci := 7) (v := .int ((I 0))) (C := RX7) (T := TX7) (N := 33) hx hb hts inlX7 hown hE.1 hP 0 rfl rfl 0 (by decide) (hts _ (bg 4 12 rfl)) (fun _ h9 => h9) rfl dX7_dawnOn_150 ?_
      refine lv_icmp_ge (tgt := 240) hx hb dX7_dawnOn_153 (by decide) (fun c1 => ?_) (fun c1 => ?_)
      · rw [if_pos c1] at hf
        refine lv_iload_n hx hb dX7_dawnOn_240 rfl (lv_at hl 3 rfl) ?_
        have e9 := Option.some.inj hf
        exact fin H locs 241 ls _ (Prod.mk.inj e9).1 (nar_i _) (by rw [← (Prod.mk.inj e9).2]; exact hP) hS dX7_dawnOn_241
      · rw [if_neg c1] at hf
        refine lv_aload_n hx hb dX7_dawnOn_156 rfl (lv_at hl 0 rfl) ?_
        refine va_get (D := G) (ci := 7) (v := .ref (q 6)) (C := RX7) (T := TX7) (N := 33) hx hb hts inlX7 hown hE.1 hP 0 rfl rfl 7 (by decide) (hts _ (bg 3 19 rfl)) (fun _ h9 => h9) rfl dX7_dawnOn_157 ?_
        refine lv_iload_n hx hb dX7_dawnOn_160 rfl (lv_at hl 2 rfl) ?_
        refine lv_iload hx hb dX7_dawnOn_161 (lv_at hl 4 rfl) ?_
        refine lv_iadd hx hb dX7_dawnOn_163 ?_
        obtain ⟨v2, hv2, hf⟩ := bnd hf
        refine x_iald hx hb hE.1 hP 6 0 rfl rfl hv2 dX7_dawnOn_164 ?_
        refine lv_istore (lv' := [(5, .int v2), (0, .ref (q 0)), (1, .int u1), (2, .int u2), (3, .int u3), (4, .int u4)]) hx hb dX7_dawnOn_165 hl (by decide) rfl (fun ls hl => ?_)
        refine lv_iload hx hb dX7_dawnOn_167 (lv_at hl 0 rfl) ?_
        refine lv_iload hx hb dX7_dawnOn_169 (lv_at hl 0 rfl) ?_
        refine lv_iconst (v := 1) hx hb dX7_dawnOn_171 (by decide) ?_
        refine x_ishl hx hb dX7_dawnOn_172 ?_
        refine lv_ior hx hb dX7_dawnOn_173 ?_
        refine lv_iload hx hb dX7_dawnOn_174 (lv_at hl 0 rfl) ?_
        refine lv_iconst (v := 1) hx hb dX7_dawnOn_176 (by decide) ?_
        refine x_ishr hx hb dX7_dawnOn_177 ?_
        refine lv_ior hx hb dX7_dawnOn_178 ?_
        refine lv_bipush (v := 63) hx hb dX7_dawnOn_179 (by decide) ?_
        refine lv_iand hx hb dX7_dawnOn_181 ?_
        refine lv_aload_n hx hb dX7_dawnOn_182 rfl (lv_at hl 1 rfl) ?_
        refine va_get (D := G) (ci := 7) (v := .ref (q 6)) (C := RX7) (T := TX7) (N := 33) hx hb hts inlX7 hown hE.1 hP 0 rfl rfl 7 (by decide) (hts _ (bg 3 19 rfl)) (fun _ h9 => h9) rfl dX7_dawnOn_183 ?_
        refine lv_iload_n hx hb dX7_dawnOn_186 rfl (lv_at hl 3 rfl) ?_
        refine lv_iconst (v := 5) hx hb dX7_dawnOn_187 (by decide) ?_
        refine lv_iadd hx hb dX7_dawnOn_188 ?_
        refine lv_iload hx hb dX7_dawnOn_189 (lv_at hl 5 rfl) ?_
        refine lv_iadd hx hb dX7_dawnOn_191 ?_
        obtain ⟨v3, hv3, hf⟩ := bnd hf
        refine x_iald hx hb hE.1 hP 6 0 rfl rfl hv3 dX7_dawnOn_192 ?_
        refine lv_iconst (v := (-1)) hx hb dX7_dawnOn_193 (by decide) ?_
        refine lv_ixor hx hb dX7_dawnOn_194 ?_
        refine lv_iand hx hb dX7_dawnOn_195 ?_
        refine lv_istore (lv' := [(6, .int ((((v2 ||| (shl v2 1)) ||| (shr v2 1)) &&& 63) &&& (v3 ^^^ (-1)))), (5, .int v2), (0, .ref (q 0)), (1, .int u1), (2, .int u2), (3, .int u3), (4, .int u4)]) hx hb dX7_dawnOn_196 hl (by decide) rfl (fun ls hl => ?_)
        refine lv_aload_n hx hb dX7_dawnOn_198 rfl (lv_at hl 2 rfl) ?_
        refine va_get (D := G) (ci := 7) (v := .ref (q 6)) (C := RX7) (T := TX7) (N := 33) hx hb hts inlX7 hown hE.1 hP 0 rfl rfl 7 (by decide) (hts _ (bg 3 19 rfl)) (fun _ h9 => h9) rfl dX7_dawnOn_199 ?_
        refine lv_iload_n hx hb dX7_dawnOn_202 rfl (lv_at hl 4 rfl) ?_
        refine lv_iload hx hb dX7_dawnOn_203 (lv_at hl 6 rfl) ?_
        refine lv_iadd hx hb dX7_dawnOn_205 ?_
        refine lv_aload_n hx hb dX7_dawnOn_206 rfl (lv_at hl 2 rfl) ?_
        refine va_get (D := G) (ci := 7) (v := .ref (q 2)) (C := RX7) (T := TX7) (N := 33) hx hb hts inlX7 hown hE.1 hP 0 rfl rfl 3 (by decide) (hts _ (bg 3 15 rfl)) (fun _ h9 => h9) rfl dX7_dawnOn_207 ?_
        refine lv_iload hx hb dX7_dawnOn_210 (lv_at hl 6 rfl) ?_
        obtain ⟨v4, hv4, hf⟩ := bnd hf
        refine x_iald hx hb hE.1 hP 2 0 rfl rfl hv4 dX7_dawnOn_212 ?_
        refine lv_iconst (v := 1) hx hb dX7_dawnOn_213 (by decide) ?_
        refine lv_icmp_ne (tgt := 231) hx hb dX7_dawnOn_214 (by decide) (fun c5 => ?_) (fun c5 => ?_)
        · rw [if_neg c5] at hf
          exact b_231 k_147 hk_147 A u1 u2 u3 u4 ((((v2 ||| (shl v2 1)) ||| (shr v2 1)) &&& 63) &&& (v3 ^^^ (-1))) (u2 + u4) H locs hP hD hS ls (lv_sub hl [2, 3, 4, 5, 6, 0] rfl) hf
        · rw [if_pos c5] at hf
          refine lv_aload_n hx hb dX7_dawnOn_217 rfl (lv_at hl 2 rfl) ?_
          refine lv_iload_n hx hb dX7_dawnOn_218 rfl (lv_at hl 3 rfl) ?_
          refine lv_iload hx hb dX7_dawnOn_219 (lv_at hl 6 rfl) ?_
          obtain ⟨z6, hz6, hf⟩ := bnd hf
          refine x_rdV (C := RX7) (n := 2) (ci := 7) hx hb hml hown hts hE (ct_X7_isProved N l G cI cZ cO q I A L u1 u4 z6 hz6) (bg 13 10 rfl) mb_X7_isProved.1 mb_X7_isProved.2.1 mb_X7_isProved.2.2.1 mb_X7_isProved.2.2.2 hd_X7_isProved rfl (by decide) hP rfl rfl rfl rfl hl.1 (Nat.le_of_ble_eq_true rfl) ⟨Nat.zero_le _, Nat.zero_le _⟩ dX7_dawnOn_221 ?_
          refine lv_if_eq (tgt := 231) hx hb dX7_dawnOn_224 (by decide) (fun c7 => ?_) (fun c7 => ?_)
          · rw [if_pos c7] at hf
            exact b_231 k_147 hk_147 A u1 u2 u3 u4 ((((v2 ||| (shl v2 1)) ||| (shr v2 1)) &&& 63) &&& (v3 ^^^ (-1))) (u2 + u4) H locs hP hD hS ls (lv_sub hl [2, 3, 4, 5, 6, 0] rfl) hf
          · rw [if_neg c7] at hf
            refine lv_iconst (v := 0) hx hb dX7_dawnOn_227 (by decide) ?_
            refine lv_goto (tgt := 233) hx hb dX7_dawnOn_228 (by decide) ?_
            exact b_233 k_147 hk_147 A u1 u2 u3 u4 (u2 + u4) 0 H locs hP hD hS ls (lv_sub hl [2, 3, 4, 5, 6] rfl) hf
  have b_117 : ∀ (k_10 : (Nat → Int32) → (Nat → Nat → Int32) → Int32 → Int32 → Int32 → Int32 → Option (Int32 × (Nat → Nat → Int32))) (hk_10 : ∀ (A : Nat → Nat → Int32) (u1 : Int32) (u2 : Int32) (u3 : Int32) (u4 : Int32), ∀ (H : Heap) (locs : List Loc), va_P G vwCl (wX7 q cI cZ cO I A L) H → va_D Z (wX7 q cI cZ cO I A L) → va_S Z s.heap H locs → ∀ ls : Array Slot, lv_has ls 7 [(0, .ref (q 0)), (1, .int u1), (2, .int u2), (3, .int u3), (4, .int u4)] → k_10 I A u1 u2 u3 u4 = some (r, Az) → W p l e rmX7_dawnOn s m [.ref (q 0), .int x1].toArray below meth cd H locs 0 0 Q (F0 m 10 ls [])), ∀ (k_22 : (Nat → Int32) → (Nat → Nat → Int32) → Int32 → Int32 → Int32 → Int32 → Int32 → Option (Int32 × (Nat → Nat → Int32))) (hk_22 : ∀ (A : Nat → Nat → Int32) (u1 : Int32) (u2 : Int32) (u3 : Int32) (u4 : Int32) (u5 : Int32), ∀ (H : Heap) (locs : List Loc), va_P G vwCl (wX7 q cI cZ cO I A L) H → va_D Z (wX7 q cI cZ cO I A L) → va_S Z s.heap H locs → ∀ ls : Array Slot, lv_has ls 7 [(0, .ref (q 0)), (1, .int u1), (2, .int u2), (3, .int u3), (4, .int u4), (5, .int u5)] → k_22 I A u1 u2 u3 u4 u5 = some (r, Az) → W p l e rmX7_dawnOn s m [.ref (q 0), .int x1].toArray below meth cd H locs 0 0 Q (F0 m 22 ls [])), ∀ (A : Nat → Nat → Int32) (u1 : Int32) (u2 : Int32) (u4 : Int32) (u5 : Int32) (y0 : Int32) (y1 : Int32), ∀ (H : Heap) (locs : List Loc), va_P G vwCl (wX7 q cI cZ cO I A L) H → va_D Z (wX7 q cI cZ cO I A L) → va_S Z s.heap H locs → ∀ ls : Array Slot, lv_has ls 7 [(0, .ref (q 0)), (1, .int u1), (2, .int u2), (4, .int u4), (5, .int u5)] → fX7_dawnOn_117 N k_10 k_22 I A u1 u2 u4 u5 y0 y1 = some (r, Az) → W p l e rmX7_dawnOn s m [.ref (q 0), .int x1].toArray below meth cd H locs 0 0 Q (F0 m 117 ls [.int y1, .int y0]) := by
    intro k_10 hk_10 k_22 hk_22 A u1 u2 u4 u5 y0 y1 H locs hP hD hS ls hl hf
    unfold fX7_dawnOn_117 at hf
    refine lv_iadd hx hb dX7_dawnOn_117 ?_
    refine lv_istore_n (lv' := [(3, .int (y0 + y1)), (0, .ref (q 0)), (1, .int u1), (2, .int u2), (4, .int u4), (5, .int u5)]) hx hb dX7_dawnOn_118 rfl hl (by decide) rfl (fun ls hl => ?_)
    refine lv_iinc (v := u5 + 1) (lv' := [(5, .int (u5 + 1)), (3, .int (y0 + y1)), (0, .ref (q 0)), (1, .int u1), (2, .int u2), (4, .int u4)]) hx hb dX7_dawnOn_119 hl (k := 5) rfl rfl (by decide) rfl (fun ls hl => ?_)
    refine lv_goto (tgt := 22) hx hb dX7_dawnOn_122 (by decide) ?_
    exact hk_22 A u1 u2 (y0 + y1) u4 (u5 + 1) H locs hP hD hS ls (lv_sub hl [2, 3, 4, 1, 5, 0] rfl) hf
  have b_104 : ∀ (k_10 : (Nat → Int32) → (Nat → Nat → Int32) → Int32 → Int32 → Int32 → Int32 → Option (Int32 × (Nat → Nat → Int32))) (hk_10 : ∀ (A : Nat → Nat → Int32) (u1 : Int32) (u2 : Int32) (u3 : Int32) (u4 : Int32), ∀ (H : Heap) (locs : List Loc), va_P G vwCl (wX7 q cI cZ cO I A L) H → va_D Z (wX7 q cI cZ cO I A L) → va_S Z s.heap H locs → ∀ ls : Array Slot, lv_has ls 7 [(0, .ref (q 0)), (1, .int u1), (2, .int u2), (3, .int u3), (4, .int u4)] → k_10 I A u1 u2 u3 u4 = some (r, Az) → W p l e rmX7_dawnOn s m [.ref (q 0), .int x1].toArray below meth cd H locs 0 0 Q (F0 m 10 ls [])), ∀ (k_22 : (Nat → Int32) → (Nat → Nat → Int32) → Int32 → Int32 → Int32 → Int32 → Int32 → Option (Int32 × (Nat → Nat → Int32))) (hk_22 : ∀ (A : Nat → Nat → Int32) (u1 : Int32) (u2 : Int32) (u3 : Int32) (u4 : Int32) (u5 : Int32), ∀ (H : Heap) (locs : List Loc), va_P G vwCl (wX7 q cI cZ cO I A L) H → va_D Z (wX7 q cI cZ cO I A L) → va_S Z s.heap H locs → ∀ ls : Array Slot, lv_has ls 7 [(0, .ref (q 0)), (1, .int u1), (2, .int u2), (3, .int u3), (4, .int u4), (5, .int u5)] → k_22 I A u1 u2 u3 u4 u5 = some (r, Az) → W p l e rmX7_dawnOn s m [.ref (q 0), .int x1].toArray below meth cd H locs 0 0 Q (F0 m 22 ls [])), ∀ (A : Nat → Nat → Int32) (u1 : Int32) (u2 : Int32) (u3 : Int32) (u4 : Int32) (u5 : Int32) (u6 : Int32) (y1 : Int32) (y2 : Int32) (y3 : Int32), ∀ (H : Heap) (locs : List Loc), va_P G vwCl (wX7 q cI cZ cO I A L) H → va_D Z (wX7 q cI cZ cO I A L) → va_S Z s.heap H locs → ∀ ls : Array Slot, lv_has ls 7 [(0, .ref (q 0)), (1, .int u1), (2, .int u2), (3, .int u3), (4, .int u4), (5, .int u5), (6, .int u6)] → fX7_dawnOn_104 N k_10 k_22 I A u1 u2 u3 u4 u5 u6 y1 y2 y3 = some (r, Az) → W p l e rmX7_dawnOn s m [.ref (q 0), .int x1].toArray below meth cd H locs 0 0 Q (F0 m 104 ls [.int y3, .int y2, .int y1, .ref (q 6)]) := by
    intro k_10 hk_10 k_22 hk_22 A u1 u2 u3 u4 u5 u6 y1 y2 y3 H locs hP hD hS ls hl hf
    unfold fX7_dawnOn_104 at hf
    refine lv_iadd hx hb dX7_dawnOn_104 ?_
    obtain ⟨g1, hg1, hf⟩ := bnd hf
    refine x_iast hx hb hE.1 hP hD hS 6 0 rfl rfl hg1 dX7_dawnOn_105 (fun H locs hP hD hS => ?_)
    have hP : va_P G vwCl (wX7 q cI cZ cO I (va_up A 5 g1) L) H := hP
    have hD : va_D Z (wX7 q cI cZ cO I (va_up A 5 g1) L) := hD
    refine lv_iload_n hx hb dX7_dawnOn_106 rfl (lv_at hl 3 rfl) ?_
    refine lv_iload hx hb dX7_dawnOn_107 (lv_at hl 6 rfl) ?_
    refine lv_if_eq (tgt := 116) hx hb dX7_dawnOn_109 (by decide) (fun c2 => ?_) (fun c2 => ?_)
    · rw [if_pos c2] at hf
      refine lv_iconst (v := 0) hx hb dX7_dawnOn_116 (by decide) ?_
      exact b_117 k_10 hk_10 k_22 hk_22 (va_up A 5 g1) u1 u2 u4 u5 u3 0 H locs hP hD hS ls (lv_sub hl [0, 1, 2, 4, 5] rfl) hf
    · rw [if_neg c2] at hf
      refine lv_iconst (v := 1) hx hb dX7_dawnOn_112 (by decide) ?_
      refine lv_goto (tgt := 117) hx hb dX7_dawnOn_113 (by decide) ?_
      exact b_117 k_10 hk_10 k_22 hk_22 (va_up A 5 g1) u1 u2 u4 u5 u3 1 H locs hP hD hS ls (lv_sub hl [0, 1, 2, 4, 5] rfl) hf
  have b_77 : ∀ (k_10 : (Nat → Int32) → (Nat → Nat → Int32) → Int32 → Int32 → Int32 → Int32 → Option (Int32 × (Nat → Nat → Int32))) (hk_10 : ∀ (A : Nat → Nat → Int32) (u1 : Int32) (u2 : Int32) (u3 : Int32) (u4 : Int32), ∀ (H : Heap) (locs : List Loc), va_P G vwCl (wX7 q cI cZ cO I A L) H → va_D Z (wX7 q cI cZ cO I A L) → va_S Z s.heap H locs → ∀ ls : Array Slot, lv_has ls 7 [(0, .ref (q 0)), (1, .int u1), (2, .int u2), (3, .int u3), (4, .int u4)] → k_10 I A u1 u2 u3 u4 = some (r, Az) → W p l e rmX7_dawnOn s m [.ref (q 0), .int x1].toArray below meth cd H locs 0 0 Q (F0 m 10 ls [])), ∀ (k_22 : (Nat → Int32) → (Nat → Nat → Int32) → Int32 → Int32 → Int32 → Int32 → Int32 → Option (Int32 × (Nat → Nat → Int32))) (hk_22 : ∀ (A : Nat → Nat → Int32) (u1 : Int32) (u2 : Int32) (u3 : Int32) (u4 : Int32) (u5 : Int32), ∀ (H : Heap) (locs : List Loc), va_P G vwCl (wX7 q cI cZ cO I A L) H → va_D Z (wX7 q cI cZ cO I A L) → va_S Z s.heap H locs → ∀ ls : Array Slot, lv_has ls 7 [(0, .ref (q 0)), (1, .int u1), (2, .int u2), (3, .int u3), (4, .int u4), (5, .int u5)] → k_22 I A u1 u2 u3 u4 u5 = some (r, Az) → W p l e rmX7_dawnOn s m [.ref (q 0), .int x1].toArray below meth cd H locs 0 0 Q (F0 m 22 ls [])), ∀ (A : Nat → Nat → Int32) (u1 : Int32) (u2 : Int32) (u3 : Int32) (u4 : Int32) (u5 : Int32) (y0 : Int32), ∀ (H : Heap) (locs : List Loc), va_P G vwCl (wX7 q cI cZ cO I A L) H → va_D Z (wX7 q cI cZ cO I A L) → va_S Z s.heap H locs → ∀ ls : Array Slot, lv_has ls 7 [(0, .ref (q 0)), (1, .int u1), (2, .int u2), (3, .int u3), (4, .int u4), (5, .int u5)] → fX7_dawnOn_77 N k_10 k_22 I A u1 u2 u3 u4 u5 y0 = some (r, Az) → W p l e rmX7_dawnOn s m [.ref (q 0), .int x1].toArray below meth cd H locs 0 0 Q (F0 m 77 ls [.int y0]) := by
    intro k_10 hk_10 k_22 hk_22 A u1 u2 u3 u4 u5 y0 H locs hP hD hS ls hl hf
    unfold fX7_dawnOn_77 at hf
    refine lv_istore (lv' := [(6, .int y0), (0, .ref (q 0)), (1, .int u1), (2, .int u2), (3, .int u3), (4, .int u4), (5, .int u5)]) hx hb dX7_dawnOn_77 hl (by decide) rfl (fun ls hl => ?_)
    refine lv_aload_n hx hb dX7_dawnOn_79 rfl (lv_at hl 1 rfl) ?_
    refine va_get (D := G) (ci := 7) (v := .ref (q 6)) (C := RX7) (T := TX7) (N := 33) hx hb hts inlX7 hown hE.1 hP 0 rfl rfl 7 (by decide) (hts _ (bg 3 19 rfl)) (fun _ h9 => h9) rfl dX7_dawnOn_80 ?_
    refine lv_aload_n hx hb dX7_dawnOn_83 rfl (lv_at hl 1 rfl) ?_
    refine lv_iload_n hx hb dX7_dawnOn_84 rfl (lv_at hl 2 rfl) ?_
    refine lv_iload hx hb dX7_dawnOn_85 (lv_at hl 5 rfl) ?_
    refine lv_iload hx hb dX7_dawnOn_87 (lv_at hl 6 rfl) ?_
    obtain ⟨z1, hz1, hf⟩ := bnd hf
    refine x_rdV (C := RX7) (n := 3) (ci := 7) hx hb hml hown hts hE (ct_X7_coinAt N l G cI cZ cO q I A L u1 u4 u5 z1 hz1) (bg 14 19 rfl) mb_X7_coinAt.1 mb_X7_coinAt.2.1 mb_X7_coinAt.2.2.1 mb_X7_coinAt.2.2.2 hd_X7_coinAt rfl (by decide) hP rfl rfl rfl rfl hl.1 (Nat.le_of_ble_eq_true rfl) ⟨Nat.zero_le _, Nat.zero_le _⟩ dX7_dawnOn_89 ?_
    refine lv_dup2_11 hx hb dX7_dawnOn_92 rfl rfl ?_
    obtain ⟨v2, hv2, hf⟩ := bnd hf
    refine x_iald hx hb hE.1 hP 6 0 rfl rfl hv2 dX7_dawnOn_93 ?_
    refine lv_iload hx hb dX7_dawnOn_94 (lv_at hl 0 rfl) ?_
    refine lv_if_eq (tgt := 103) hx hb dX7_dawnOn_96 (by decide) (fun c3 => ?_) (fun c3 => ?_)
    · rw [if_pos c3] at hf
      refine lv_iconst (v := 0) hx hb dX7_dawnOn_103 (by decide) ?_
      exact b_104 k_10 hk_10 k_22 hk_22 A u1 u2 u3 u4 u5 y0 z1 v2 0 H locs hP hD hS ls (lv_sub hl [1, 2, 3, 4, 5, 6, 0] rfl) hf
    · rw [if_neg c3] at hf
      refine lv_iconst (v := 1) hx hb dX7_dawnOn_99 (by decide) ?_
      refine lv_goto (tgt := 104) hx hb dX7_dawnOn_100 (by decide) ?_
      exact b_104 k_10 hk_10 k_22 hk_22 A u1 u2 u3 u4 u5 y0 z1 v2 1 H locs hP hD hS ls (lv_sub hl [1, 2, 3, 4, 5, 6, 0] rfl) hf
  have b_76 : ∀ (k_10 : (Nat → Int32) → (Nat → Nat → Int32) → Int32 → Int32 → Int32 → Int32 → Option (Int32 × (Nat → Nat → Int32))) (hk_10 : ∀ (A : Nat → Nat → Int32) (u1 : Int32) (u2 : Int32) (u3 : Int32) (u4 : Int32), ∀ (H : Heap) (locs : List Loc), va_P G vwCl (wX7 q cI cZ cO I A L) H → va_D Z (wX7 q cI cZ cO I A L) → va_S Z s.heap H locs → ∀ ls : Array Slot, lv_has ls 7 [(0, .ref (q 0)), (1, .int u1), (2, .int u2), (3, .int u3), (4, .int u4)] → k_10 I A u1 u2 u3 u4 = some (r, Az) → W p l e rmX7_dawnOn s m [.ref (q 0), .int x1].toArray below meth cd H locs 0 0 Q (F0 m 10 ls [])), ∀ (k_22 : (Nat → Int32) → (Nat → Nat → Int32) → Int32 → Int32 → Int32 → Int32 → Int32 → Option (Int32 × (Nat → Nat → Int32))) (hk_22 : ∀ (A : Nat → Nat → Int32) (u1 : Int32) (u2 : Int32) (u3 : Int32) (u4 : Int32) (u5 : Int32), ∀ (H : Heap) (locs : List Loc), va_P G vwCl (wX7 q cI cZ cO I A L) H → va_D Z (wX7 q cI cZ cO I A L) → va_S Z s.heap H locs → ∀ ls : Array Slot, lv_has ls 7 [(0, .ref (q 0)), (1, .int u1), (2, .int u2), (3, .int u3), (4, .int u4), (5, .int u5)] → k_22 I A u1 u2 u3 u4 u5 = some (r, Az) → W p l e rmX7_dawnOn s m [.ref (q 0), .int x1].toArray below meth cd H locs 0 0 Q (F0 m 22 ls [])), ∀ (A : Nat → Nat → Int32) (u1 : Int32) (u2 : Int32) (u3 : Int32) (u4 : Int32) (u5 : Int32), ∀ (H : Heap) (locs : List Loc), va_P G vwCl (wX7 q cI cZ cO I A L) H → va_D Z (wX7 q cI cZ cO I A L) → va_S Z s.heap H locs → ∀ ls : Array Slot, lv_has ls 7 [(0, .ref (q 0)), (1, .int u1), (2, .int u2), (3, .int u3), (4, .int u4), (5, .int u5)] → fX7_dawnOn_76 N k_10 k_22 I A u1 u2 u3 u4 u5 = some (r, Az) → W p l e rmX7_dawnOn s m [.ref (q 0), .int x1].toArray below meth cd H locs 0 0 Q (F0 m 76 ls []) := by
    intro k_10 hk_10 k_22 hk_22 A u1 u2 u3 u4 u5 H locs hP hD hS ls hl hf
    unfold fX7_dawnOn_76 at hf
    refine lv_iconst (v := 0) hx hb dX7_dawnOn_76 (by decide) ?_
    exact b_77 k_10 hk_10 k_22 hk_22 A u1 u2 u3 u4 u5 0 H locs hP hD hS ls (lv_sub hl [0, 1, 2, 3, 4, 5] rfl) hf
  have b_22 : ∀ (k_10 : (Nat → Int32) → (Nat → Nat → Int32) → Int32 → Int32 → Int32 → Int32 → Option (Int32 × (Nat → Nat → Int32))) (hk_10 : ∀ (A : Nat → Nat → Int32) (u1 : Int32) (u2 : Int32) (u3 : Int32) (u4 : Int32), ∀ (H : Heap) (locs : List Loc), va_P G vwCl (wX7 q cI cZ cO I A L) H → va_D Z (wX7 q cI cZ cO I A L) → va_S Z s.heap H locs → ∀ ls : Array Slot, lv_has ls 7 [(0, .ref (q 0)), (1, .int u1), (2, .int u2), (3, .int u3), (4, .int u4)] → k_10 I A u1 u2 u3 u4 = some (r, Az) → W p l e rmX7_dawnOn s m [.ref (q 0), .int x1].toArray below meth cd H locs 0 0 Q (F0 m 10 ls [])), ∀ n : Nat, ∀ (A : Nat → Nat → Int32) (u1 : Int32) (u2 : Int32) (u3 : Int32) (u4 : Int32) (u5 : Int32), ∀ (H : Heap) (locs : List Loc), va_P G vwCl (wX7 q cI cZ cO I A L) H → va_D Z (wX7 q cI cZ cO I A L) → va_S Z s.heap H locs → ∀ ls : Array Slot, lv_has ls 7 [(0, .ref (q 0)), (1, .int u1), (2, .int u2), (3, .int u3), (4, .int u4), (5, .int u5)] → fX7_dawnOn_22 N k_10 n I A u1 u2 u3 u4 u5 = some (r, Az) → W p l e rmX7_dawnOn s m [.ref (q 0), .int x1].toArray below meth cd H locs 0 0 Q (F0 m 22 ls []) := by
    intro k_10 hk_10
    intro n
    induction n with
    | zero =>
      intro A u1 u2 u3 u4 u5 H locs hP hD hS ls hl hf
      cases hf
    | succ n hk_22 =>
      intro A u1 u2 u3 u4 u5 H locs hP hD hS ls hl hf
      replace hf : fX7_dawnOn_22s N k_10 (fX7_dawnOn_22 N k_10 n) I A u1 u2 u3 u4 u5 = some (r, Az) := hf
      generalize fX7_dawnOn_22 N k_10 n = k_22 at hf hk_22
      unfold fX7_dawnOn_22s at hf
      refine lv_iload hx hb dX7_dawnOn_22 (lv_at hl 5 rfl) ?_
      refine lv_aload_n hx hb dX7_dawnOn_24 rfl (lv_at hl 0 rfl) ?_
      refine va_get (D := G) (ci := 7) (v := .int ((I 0))) (C := RX7) (T := TX7) (N := 33) hx hb hts inlX7 hown hE.1 hP 0 rfl rfl 0 (by decide) (hts _ (bg 4 12 rfl)) (fun _ h9 => h9) rfl dX7_dawnOn_25 ?_
      refine lv_icmp_ge (tgt := 125) hx hb dX7_dawnOn_28 (by decide) (fun c1 => ?_) (fun c1 => ?_)
      · rw [if_pos c1] at hf
        refine lv_iinc (v := u4 + 1) (lv' := [(4, .int (u4 + 1)), (0, .ref (q 0)), (1, .int u1), (2, .int u2), (3, .int u3), (5, .int u5)]) hx hb dX7_dawnOn_125 hl (k := 4) rfl rfl (by decide) rfl (fun ls hl => ?_)
        refine lv_goto (tgt := 10) hx hb dX7_dawnOn_128 (by decide) ?_
        exact hk_10 A u1 u2 u3 (u4 + 1) H locs hP hD hS ls (lv_sub hl [1, 2, 3, 4, 0] rfl) hf
      · rw [if_neg c1] at hf
        refine lv_aload_n hx hb dX7_dawnOn_31 rfl (lv_at hl 0 rfl) ?_
        refine va_get (D := G) (ci := 7) (v := .ref (q 6)) (C := RX7) (T := TX7) (N := 33) hx hb hts inlX7 hown hE.1 hP 0 rfl rfl 7 (by decide) (hts _ (bg 3 19 rfl)) (fun _ h9 => h9) rfl dX7_dawnOn_32 ?_
        refine lv_iload_n hx hb dX7_dawnOn_35 rfl (lv_at hl 2 rfl) ?_
        refine lv_iload hx hb dX7_dawnOn_36 (lv_at hl 5 rfl) ?_
        refine lv_iadd hx hb dX7_dawnOn_38 ?_
        obtain ⟨v2, hv2, hf⟩ := bnd hf
        refine x_iald hx hb hE.1 hP 6 0 rfl rfl hv2 dX7_dawnOn_39 ?_
        refine lv_aload_n hx hb dX7_dawnOn_40 rfl (lv_at hl 0 rfl) ?_
        refine va_get (D := G) (ci := 7) (v := .ref (q 5)) (C := RX7) (T := TX7) (N := 33) hx hb hts inlX7 hown hE.1 hP 0 rfl rfl 6 (by decide) (hts _ (bg 3 18 rfl)) (fun _ h9 => h9) rfl dX7_dawnOn_41 ?_
        refine lv_iload hx hb dX7_dawnOn_44 (lv_at hl 4 rfl) ?_
        obtain ⟨v3, hv3, hf⟩ := bnd hf
        refine x_iald hx hb hE.1 hP 5 0 rfl rfl hv3 dX7_dawnOn_46 ?_
        obtain ⟨z4, hz4, hf⟩ := bnd hf
        refine x_rdS (n := 2) hx hb hml hown hts hE (ct_X7_has N l G cI cZ cO v2 v3 z4 hz4) (bg 10 12 rfl) mb_X7_has.1 mb_X7_has.2.1 mb_X7_has.2.2 hd_X7_has rfl (by decide) va_P_nil rfl hl.1 (Nat.le_of_ble_eq_true rfl) ⟨Nat.zero_le _, Nat.zero_le _⟩ dX7_dawnOn_47 ?_
        refine lv_if_eq (tgt := 76) hx hb dX7_dawnOn_50 (by decide) (fun c5 => ?_) (fun c5 => ?_)
        · rw [if_pos c5] at hf
          exact b_76 k_10 hk_10 k_22 hk_22 A u1 u2 u3 u4 u5 H locs hP hD hS ls (lv_sub hl [0, 1, 2, 3, 4, 5] rfl) hf
        · rw [if_neg c5] at hf
          refine lv_aload_n hx hb dX7_dawnOn_53 rfl (lv_at hl 0 rfl) ?_
          refine va_get (D := G) (ci := 7) (v := .ref (q 6)) (C := RX7) (T := TX7) (N := 33) hx hb hts inlX7 hown hE.1 hP 0 rfl rfl 7 (by decide) (hts _ (bg 3 19 rfl)) (fun _ h9 => h9) rfl dX7_dawnOn_54 ?_
          refine lv_aload_n hx hb dX7_dawnOn_57 rfl (lv_at hl 0 rfl) ?_
          refine lv_iload_n hx hb dX7_dawnOn_58 rfl (lv_at hl 1 rfl) ?_
          refine lv_iload hx hb dX7_dawnOn_59 (lv_at hl 4 rfl) ?_
          refine lv_iload hx hb dX7_dawnOn_61 (lv_at hl 5 rfl) ?_
          obtain ⟨z6, hz6, hf⟩ := bnd hf
          refine x_rdV (C := RX7) (n := 3) (ci := 7) hx hb hml hown hts hE (ct_X7_coinAt N l G cI cZ cO q I A L u1 u4 u5 z6 hz6) (bg 14 19 rfl) mb_X7_coinAt.1 mb_X7_coinAt.2.1 mb_X7_coinAt.2.2.1 mb_X7_coinAt.2.2.2 hd_X7_coinAt rfl (by decide) hP rfl rfl rfl rfl hl.1 (Nat.le_of_ble_eq_true rfl) ⟨Nat.zero_le _, Nat.zero_le _⟩ dX7_dawnOn_63 ?_
          obtain ⟨v7, hv7, hf⟩ := bnd hf
          refine x_iald hx hb hE.1 hP 6 0 rfl rfl hv7 dX7_dawnOn_66 ?_
          refine lv_bipush (v := 99) hx hb dX7_dawnOn_67 (by decide) ?_
          refine lv_icmp_ge (tgt := 76) hx hb dX7_dawnOn_69 (by decide) (fun c8 => ?_) (fun c8 => ?_)
          · rw [if_pos c8] at hf
            exact b_76 k_10 hk_10 k_22 hk_22 A u1 u2 u3 u4 u5 H locs hP hD hS ls (lv_sub hl [0, 1, 2, 3, 4, 5] rfl) hf
          · rw [if_neg c8] at hf
            refine lv_iconst (v := 1) hx hb dX7_dawnOn_72 (by decide) ?_
            refine lv_goto (tgt := 77) hx hb dX7_dawnOn_73 (by decide) ?_
            exact b_77 k_10 hk_10 k_22 hk_22 A u1 u2 u3 u4 u5 1 H locs hP hD hS ls (lv_sub hl [0, 1, 2, 3, 4, 5] rfl) hf
  have b_10 : ∀ n : Nat, ∀ (A : Nat → Nat → Int32) (u1 : Int32) (u2 : Int32) (u3 : Int32) (u4 : Int32), ∀ (H : Heap) (locs : List Loc), va_P G vwCl (wX7 q cI cZ cO I A L) H → va_D Z (wX7 q cI cZ cO I A L) → va_S Z s.heap H locs → ∀ ls : Array Slot, lv_has ls 7 [(0, .ref (q 0)), (1, .int u1), (2, .int u2), (3, .int u3), (4, .int u4)] → fX7_dawnOn_10 N n I A u1 u2 u3 u4 = some (r, Az) → W p l e rmX7_dawnOn s m [.ref (q 0), .int x1].toArray below meth cd H locs 0 0 Q (F0 m 10 ls []) := by
    intro n
    induction n with
    | zero =>
      intro A u1 u2 u3 u4 H locs hP hD hS ls hl hf
      cases hf
    | succ n hk_10 =>
      intro A u1 u2 u3 u4 H locs hP hD hS ls hl hf
      replace hf : fX7_dawnOn_10s N (fX7_dawnOn_10 N n) I A u1 u2 u3 u4 = some (r, Az) := hf
      generalize fX7_dawnOn_10 N n = k_10 at hf hk_10
      unfold fX7_dawnOn_10s at hf
      refine lv_iload hx hb dX7_dawnOn_10 (lv_at hl 4 rfl) ?_
      refine lv_aload_n hx hb dX7_dawnOn_12 rfl (lv_at hl 0 rfl) ?_
      refine va_get (D := G) (ci := 7) (v := .int ((I 1))) (C := RX7) (T := TX7) (N := 33) hx hb hts inlX7 hown hE.1 hP 0 rfl rfl 1 (by decide) (hts _ (bg 11 21 rfl)) (fun _ h9 => h9) rfl dX7_dawnOn_13 ?_
      refine lv_icmp_ge (tgt := 131) hx hb dX7_dawnOn_16 (by decide) (fun c1 => ?_) (fun c1 => ?_)
      · rw [if_pos c1] at hf
        refine lv_aload_n hx hb dX7_dawnOn_131 rfl (lv_at hl 0 rfl) ?_
        refine va_get (D := G) (ci := 7) (v := .ref (q 6)) (C := RX7) (T := TX7) (N := 33) hx hb hts inlX7 hown hE.1 hP 0 rfl rfl 7 (by decide) (hts _ (bg 3 19 rfl)) (fun _ h9 => h9) rfl dX7_dawnOn_132 ?_
        refine lv_iload_n hx hb dX7_dawnOn_135 rfl (lv_at hl 2 rfl) ?_
        refine lv_bipush (v := 30) hx hb dX7_dawnOn_136 (by decide) ?_
        refine lv_iadd hx hb dX7_dawnOn_138 ?_
        refine lv_dup2_11 hx hb dX7_dawnOn_139 rfl rfl ?_
        obtain ⟨v2, hv2, hf⟩ := bnd hf
        refine x_iald hx hb hE.1 hP 6 0 rfl rfl hv2 dX7_dawnOn_140 ?_
        refine lv_iconst (v := 1) hx hb dX7_dawnOn_141 (by decide) ?_
        refine lv_iadd hx hb dX7_dawnOn_142 ?_
        obtain ⟨g3, hg3, hf⟩ := bnd hf
        refine x_iast hx hb hE.1 hP hD hS 6 0 rfl rfl hg3 dX7_dawnOn_143 (fun H locs hP hD hS => ?_)
        have hP : va_P G vwCl (wX7 q cI cZ cO I (va_up A 5 g3) L) H := hP
        have hD : va_D Z (wX7 q cI cZ cO I (va_up A 5 g3) L) := hD
        refine lv_iconst (v := 0) hx hb dX7_dawnOn_144 (by decide) ?_
        refine lv_istore (lv' := [(4, .int 0), (0, .ref (q 0)), (1, .int u1), (2, .int u2), (3, .int u3)]) hx hb dX7_dawnOn_145 hl (by decide) rfl (fun ls hl => ?_)
        exact b_147 N (va_up A 5 g3) u1 u2 u3 0 H locs hP hD hS ls (lv_sub hl [1, 2, 3, 4, 0] rfl) hf
      · rw [if_neg c1] at hf
        refine lv_iconst (v := 0) hx hb dX7_dawnOn_19 (by decide) ?_
        refine lv_istore (lv' := [(5, .int 0), (0, .ref (q 0)), (1, .int u1), (2, .int u2), (3, .int u3), (4, .int u4)]) hx hb dX7_dawnOn_20 hl (by decide) rfl (fun ls hl => ?_)
        exact b_22 k_10 hk_10 N A u1 u2 u3 u4 0 H locs hP hD hS ls (lv_sub hl [1, 2, 3, 4, 5, 0] rfl) hf
  unfold fX7_dawnOn at hf
  have hS : va_S Z s.heap s.heap [] := va_S.rf
  obtain ⟨H, hH⟩ : ∃ H, H = s.heap := ⟨_, rfl⟩
  obtain ⟨locs, hlocs⟩ : ∃ locs : List Loc, locs = [] := ⟨_, rfl⟩
  rw [← hlocs]
  rw [← hlocs] at hS
  suffices hW : ∀ H : Heap, va_P G vwCl (wX7 q cI cZ cO I A L) H → va_S Z s.heap H locs → W p l e rmX7_dawnOn s m [.ref (q 0), .int x1].toArray below meth cd H locs 0 0 Q (F0 m 0 ls []) from hW s.heap hP hS
  clear hP hS hH H
  intro H hP hS
  refine lv_bipush (v := 31) hx hb dX7_dawnOn_0 (by decide) ?_
  refine lv_iload_n hx hb dX7_dawnOn_2 rfl (lv_at hl 1 rfl) ?_
  refine lv_imul hx hb dX7_dawnOn_3 ?_
  refine lv_istore_n (lv' := [(2, .int (31 * x1)), (0, .ref (q 0)), (1, .int x1)]) hx hb dX7_dawnOn_4 rfl hl (by decide) rfl (fun ls hl => ?_)
  refine lv_iconst (v := 0) hx hb dX7_dawnOn_5 (by decide) ?_
  refine lv_istore_n (lv' := [(3, .int 0), (2, .int (31 * x1)), (0, .ref (q 0)), (1, .int x1)]) hx hb dX7_dawnOn_6 rfl hl (by decide) rfl (fun ls hl => ?_)
  refine lv_iconst (v := 0) hx hb dX7_dawnOn_7 (by decide) ?_
  refine lv_istore (lv' := [(4, .int 0), (3, .int 0), (2, .int (31 * x1)), (0, .ref (q 0)), (1, .int x1)]) hx hb dX7_dawnOn_8 hl (by decide) rfl (fun ls hl => ?_)
  exact b_10 N A x1 (31 * x1) 0 0 H locs hP hD hS ls (lv_sub hl [3, 4, 2, 1, 0] rfl) hf
