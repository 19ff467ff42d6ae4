def fX0_takeBack_48 (N : Nat) (I : Nat → Int32) (S : Nat → Nat → Int32) (T : Nat → Nat → Nat → Int32) (I1 : Nat → Int32) (A1 : Nat → Nat → Int32) : Option (Int32 × (Nat → Int32) × (Nat → Int32) × (Nat → Nat → Int32)) := some (0, I, I1, A1)
def fX0_takeBack_35 (N : Nat) (I : Nat → Int32) (S : Nat → Nat → Int32) (T : Nat → Nat → Nat → Int32) (I1 : Nat → Int32) (A1 : Nat → Nat → Int32) (u2 : Int32) : Option (Int32 × (Nat → Int32) × (Nat → Int32) × (Nat → Nat → Int32)) := if (I 1) < 1 then fX0_takeBack_48 N I S T I1 A1 else fX0_takeBack_48 N I S T I1 A1
def fX0_takeBack_35r1 (N : Nat) (I : Nat → Int32) (S : Nat → Nat → Int32) (T : Nat → Nat → Nat → Int32) (I1 : Nat → Int32) (A1 : Nat → Nat → Int32) (u2 : Int32) : Option (Int32 × (Nat → Int32) × (Nat → Int32) × (Nat → Nat → Int32)) := if (I 1) < 1 then fX0_takeBack_48 N I S T I1 A1 else (fX4_copyFrom N I1 A1 (S 0) (T 0)).bind fun z2 => some (1, upd (upd I 0 u2) 1 ((I 1) - 1), z2.1, z2.2)
def fX0_takeBack_35r2 (N : Nat) (I : Nat → Int32) (S : Nat → Nat → Int32) (T : Nat → Nat → Nat → Int32) (I1 : Nat → Int32) (A1 : Nat → Nat → Int32) (u2 : Int32) : Option (Int32 × (Nat → Int32) × (Nat → Int32) × (Nat → Nat → Int32)) := if (I 1) < 1 then fX0_takeBack_48 N I S T I1 A1 else (fX4_copyFrom N I1 A1 (S 1) (T 1)).bind fun z2 => some (1, upd (upd I 0 u2) 1 ((I 1) - 1), z2.1, z2.2)
def fX0_takeBack_35r3 (N : Nat) (I : Nat → Int32) (S : Nat → Nat → Int32) (T : Nat → Nat → Nat → Int32) (I1 : Nat → Int32) (A1 : Nat → Nat → Int32) (u2 : Int32) : Option (Int32 × (Nat → Int32) × (Nat → Int32) × (Nat → Nat → Int32)) := if (I 1) < 1 then fX0_takeBack_48 N I S T I1 A1 else (fX4_copyFrom N I1 A1 (S 2) (T 2)).bind fun z2 => some (1, upd (upd I 0 u2) 1 ((I 1) - 1), z2.1, z2.2)
def fX0_takeBack_35r4 (N : Nat) (I : Nat → Int32) (S : Nat → Nat → Int32) (T : Nat → Nat → Nat → Int32) (I1 : Nat → Int32) (A1 : Nat → Nat → Int32) (u2 : Int32) : Option (Int32 × (Nat → Int32) × (Nat → Int32) × (Nat → Nat → Int32)) := if (I 1) < 1 then fX0_takeBack_48 N I S T I1 A1 else (fX4_copyFrom N I1 A1 (S 3) (T 3)).bind fun z2 => some (1, upd (upd I 0 u2) 1 ((I 1) - 1), z2.1, z2.2)
def fX0_takeBack_35r5 (N : Nat) (I : Nat → Int32) (S : Nat → Nat → Int32) (T : Nat → Nat → Nat → Int32) (I1 : Nat → Int32) (A1 : Nat → Nat → Int32) (u2 : Int32) : Option (Int32 × (Nat → Int32) × (Nat → Int32) × (Nat → Nat → Int32)) := if (I 1) < 1 then fX0_takeBack_48 N I S T I1 A1 else (fX4_copyFrom N I1 A1 (S 4) (T 4)).bind fun z2 => some (1, upd (upd I 0 u2) 1 ((I 1) - 1), z2.1, z2.2)
def fX0_takeBack_35r6 (N : Nat) (I : Nat → Int32) (S : Nat → Nat → Int32) (T : Nat → Nat → Nat → Int32) (I1 : Nat → Int32) (A1 : Nat → Nat → Int32) (u2 : Int32) : Option (Int32 × (Nat → Int32) × (Nat → Int32) × (Nat → Nat → Int32)) := if (I 1) < 1 then fX0_takeBack_48 N I S T I1 A1 else (fX4_copyFrom N I1 A1 (S 5) (T 5)).bind fun z2 => some (1, upd (upd I 0 u2) 1 ((I 1) - 1), z2.1, z2.2)
def fX0_takeBack_35r7 (N : Nat) (I : Nat → Int32) (S : Nat → Nat → Int32) (T : Nat → Nat → Nat → Int32) (I1 : Nat → Int32) (A1 : Nat → Nat → Int32) (u2 : Int32) : Option (Int32 × (Nat → Int32) × (Nat → Int32) × (Nat → Nat → Int32)) := if (I 1) < 1 then fX0_takeBack_48 N I S T I1 A1 else (fX4_copyFrom N I1 A1 (S 6) (T 6)).bind fun z2 => some (1, upd (upd I 0 u2) 1 ((I 1) - 1), z2.1, z2.2)
def fX0_takeBack_35r8 (N : Nat) (I : Nat → Int32) (S : Nat → Nat → Int32) (T : Nat → Nat → Nat → Int32) (I1 : Nat → Int32) (A1 : Nat → Nat → Int32) (u2 : Int32) : Option (Int32 × (Nat → Int32) × (Nat → Int32) × (Nat → Nat → Int32)) := if (I 1) < 1 then fX0_takeBack_48 N I S T I1 A1 else (fX4_copyFrom N I1 A1 (S 7) (T 7)).bind fun z2 => some (1, upd (upd I 0 u2) 1 ((I 1) - 1), z2.1, z2.2)
def fX0_takeBack_35r9 (N : Nat) (I : Nat → Int32) (S : Nat → Nat → Int32) (T : Nat → Nat → Nat → Int32) (I1 : Nat → Int32) (A1 : Nat → Nat → Int32) (u2 : Int32) : Option (Int32 × (Nat → Int32) × (Nat → Int32) × (Nat → Nat → Int32)) := if (I 1) < 1 then fX0_takeBack_48 N I S T I1 A1 else (fX4_copyFrom N I1 A1 (S 8) (T 8)).bind fun z2 => some (1, upd (upd I 0 u2) 1 ((I 1) - 1), z2.1, z2.2)
def fX0_takeBack_35r10 (N : Nat) (I : Nat → Int32) (S : Nat → Nat → Int32) (T : Nat → Nat → Nat → Int32) (I1 : Nat → Int32) (A1 : Nat → Nat → Int32) (u2 : Int32) : Option (Int32 × (Nat → Int32) × (Nat → Int32) × (Nat → Nat → Int32)) := if (I 1) < 1 then fX0_takeBack_48 N I S T I1 A1 else (fX4_copyFrom N I1 A1 (S 9) (T 9)).bind fun z2 => some (1, upd (upd I 0 u2) 1 ((I 1) - 1), z2.1, z2.2)
def fX0_takeBack_35r11 (N : Nat) (I : Nat → Int32) (S : Nat → Nat → Int32) (T : Nat → Nat → Nat → Int32) (I1 : Nat → Int32) (A1 : Nat → Nat → Int32) (u2 : Int32) : Option (Int32 × (Nat → Int32) × (Nat → Int32) × (Nat → Nat → Int32)) := if (I 1) < 1 then fX0_takeBack_48 N I S T I1 A1 else (fX4_copyFrom N I1 A1 (S 10) (T 10)).bind fun z2 => some (1, upd (upd I 0 u2) 1 ((I 1) - 1), z2.1, z2.2)
def fX0_takeBack_35r12 (N : Nat) (I : Nat → Int32) (S : Nat → Nat → Int32) (T : Nat → Nat → Nat → Int32) (I1 : Nat → Int32) (A1 : Nat → Nat → Int32) (u2 : Int32) : Option (Int32 × (Nat → Int32) × (Nat → Int32) × (Nat → Nat → Int32)) := if (I 1) < 1 then fX0_takeBack_48 N I S T I1 A1 else (fX4_copyFrom N I1 A1 (S 11) (T 11)).bind fun z2 => some (1, upd (upd I 0 u2) 1 ((I 1) - 1), z2.1, z2.2)
def fX0_takeBack_35r13 (N : Nat) (I : Nat → Int32) (S : Nat → Nat → Int32) (T : Nat → Nat → Nat → Int32) (I1 : Nat → Int32) (A1 : Nat → Nat → Int32) (u2 : Int32) : Option (Int32 × (Nat → Int32) × (Nat → Int32) × (Nat → Nat → Int32)) := if (I 1) < 1 then fX0_takeBack_48 N I S T I1 A1 else (fX4_copyFrom N I1 A1 (S 12) (T 12)).bind fun z2 => some (1, upd (upd I 0 u2) 1 ((I 1) - 1), z2.1, z2.2)
def fX0_takeBack_35r14 (N : Nat) (I : Nat → Int32) (S : Nat → Nat → Int32) (T : Nat → Nat → Nat → Int32) (I1 : Nat → Int32) (A1 : Nat → Nat → Int32) (u2 : Int32) : Option (Int32 × (Nat → Int32) × (Nat → Int32) × (Nat → Nat → Int32)) := if (I 1) < 1 then fX0_takeBack_48 N I S T I1 A1 else (fX4_copyFrom N I1 A1 (S 13) (T 13)).bind fun z2 => some (1, upd (upd I 0 u2) 1 ((I 1) - 1), z2.1, z2.2)
def fX0_takeBack (N : Nat) (I : Nat → Int32) (S : Nat → Nat → Int32) (T : Nat → Nat → Nat → Int32) (I1 : Nat → Int32) (A1 : Nat → Nat → Int32) : Option (Int32 × (Nat → Int32) × (Nat → Int32) × (Nat → Nat → Int32)) := (fX6_isIndex N (rem (((I 0) + 14) - 1) 14) 14).bind fun z1 => if z1 = 0 then fX0_takeBack_35 N I S T I1 A1 (rem (((I 0) + 14) - 1) 14) else if (rem (((I 0) + 14) - 1) 14) = 0 then fX0_takeBack_35r1 N I S T I1 A1 (rem (((I 0) + 14) - 1) 14) else if (rem (((I 0) + 14) - 1) 14) = 1 then fX0_takeBack_35r2 N I S T I1 A1 (rem (((I 0) + 14) - 1) 14) else if (rem (((I 0) + 14) - 1) 14) = 2 then fX0_takeBack_35r3 N I S T I1 A1 (rem (((I 0) + 14) - 1) 14) else if (rem (((I 0) + 14) - 1) 14) = 3 then fX0_takeBack_35r4 N I S T I1 A1 (rem (((I 0) + 14) - 1) 14) else if (rem (((I 0) + 14) - 1) 14) = 4 then fX0_takeBack_35r5 N I S T I1 A1 (rem (((I 0) + 14) - 1) 14) else if (rem (((I 0) + 14) - 1) 14) = 5 then fX0_takeBack_35r6 N I S T I1 A1 (rem (((I 0) + 14) - 1) 14) else if (rem (((I 0) + 14) - 1) 14) = 6 then fX0_takeBack_35r7 N I S T I1 A1 (rem (((I 0) + 14) - 1) 14) else if (rem (((I 0) + 14) - 1) 14) = 7 then fX0_takeBack_35r8 N I S T I1 A1 (rem (((I 0) + 14) - 1) 14) else if (rem (((I 0) + 14) - 1) 14) = 8 then fX0_takeBack_35r9 N I S T I1 A1 (rem (((I 0) + 14) - 1) 14) else if (rem (((I 0) + 14) - 1) 14) = 9 then fX0_takeBack_35r10 N I S T I1 A1 (rem (((I 0) + 14) - 1) 14) else if (rem (((I 0) + 14) - 1) 14) = 10 then fX0_takeBack_35r11 N I S T I1 A1 (rem (((I 0) + 14) - 1) 14) else if (rem (((I 0) + 14) - 1) 14) = 11 then fX0_takeBack_35r12 N I S T I1 A1 (rem (((I 0) + 14) - 1) 14) else if (rem (((I 0) + 14) - 1) 14) = 12 then fX0_takeBack_35r13 N I S T I1 A1 (rem (((I 0) + 14) - 1) 14) else if (rem (((I 0) + 14) - 1) 14) = 13 then fX0_takeBack_35r14 N I S T I1 A1 (rem (((I 0) + 14) - 1) 14) else none
def rmX0_takeBack : Room := { frames := 2, cells := 0, slots := 0, locals := 81 }
theorem mb_X0_takeBack : Cond.instanceMethod yX0_takeBack ∈ wsL_law ∧ Cond.selects RX0 yX0_takeBack yX0_takeBack ∈ wsL_law ∧ Cond.initialized RX0 ∈ wsL_law ∧ Cond.code yX0_takeBack cX0_takeBack 4 (some .boolean) ∈ wsL_law := ⟨(bg 22 0 rfl), (bg 22 1 rfl), (bg 1 5 rfl), (bg 22 2 rfl)⟩
theorem hd_X0_takeBack : yX0_takeBack.cls = RX0 ∧ yX0_takeBack.cls ≠ "java/lang/invoke/MethodHandle" ∧ yX0_takeBack.cls ≠ "java/lang/invoke/VarHandle" ∧ (parseMethodDescriptor yX0_takeBack.desc).map (fun d => d.parameters.length) = some 1 := by decide +kernel
set_option maxRecDepth 100000 in
set_option maxHeartbeats 4000000 in
theorem ct_X0_takeBack (N : Nat) (l : Launch) (G : va_G) (cI cZ cO : ClassId) (q : Nat → Nat) (I : Nat → Int32) (S : Nat → Nat → Int32) (T : Nat → Nat → Nat → Int32) (q1 : Nat → Nat) (I1 : Nat → Int32) (A1 : Nat → Nat → Int32) (r : Int32) (Iz : Nat → Int32) (I1z : Nat → Int32) (A1z : Nat → Nat → Int32) (hf : fX0_takeBack N I S T I1 A1 = some (r, Iz, I1z, A1z)) : CtI l yX0_takeBack cX0_takeBack 4 .boolean rmX0_takeBack G cI cZ cO [.ref (q 0), .ref (q1 0)] (wX0 q cI cZ cO I S T ++ wX4 q1 cI cZ cO I1 A1) (wX0 q cI cZ cO Iz S T ++ wX4 q1 cI cZ cO I1z A1z) r := by
  refine mkCI (by decide) (Nat.le_of_ble_eq_true rfl) ?_
  intro p e s m below meth cd Q Z hC hP hE hD hA fin ls hl
  obtain ⟨hx, hb, hml, hown, hts⟩ := hC
  have hown : s.vm.findClass RX0 = some m.cls := hown
  have hl : lv_has ls 4 [(0, .ref (q 0)), (1, .ref (q1 0))] := hl
  have b_48 : ∀ (I : Nat → Int32) (I1 : Nat → Int32) (A1 : Nat → Nat → Int32), ∀ (H : Heap) (locs : List Loc), va_P G vwCl (wX0 q cI cZ cO I S T ++ wX4 q1 cI cZ cO I1 A1) H → va_D Z (wX0 q cI cZ cO I S T ++ wX4 q1 cI cZ cO I1 A1) → va_S Z s.heap H locs → ∀ ls : Array Slot, lv_has ls 4 [] → fX0_takeBack_48 N I S T I1 A1 = some (r, Iz, I1z, A1z) → W p l e rmX0_takeBack s m [.ref (q 0), .ref (q1 0)].toArray below meth cd H locs 0 0 Q (F0 m 48 ls []) := by
    intro I I1 A1 H locs hP hD hS ls hl hf
    unfold fX0_takeBack_48 at hf
    refine lv_iconst (v := 0) hx hb dX0_takeBack_48 (by decide) ?_
    have e9 := Option.some.inj hf
    exact fin H locs 49 ls _ (Prod.mk.inj e9).1 (nar_z (Or.inl (Prod.mk.inj e9).1.symm)) (by rw [← (Prod.mk.inj (Prod.mk.inj e9).2).1, ← (Prod.mk.inj (Prod.mk.inj (Prod.mk.inj e9).2).2).1, ← (Prod.mk.inj (Prod.mk.inj (Prod.mk.inj e9).2).2).2]; exact hP) hS dX0_takeBack_49
  have b_35 : ∀ (I : Nat → Int32) (I1 : Nat → Int32) (A1 : Nat → Nat → Int32) (u2 : Int32), ∀ (H : Heap) (locs : List Loc), va_P G vwCl (wX0 q cI cZ cO I S T ++ wX4 q1 cI cZ cO I1 A1) H → va_D Z (wX0 q cI cZ cO I S T ++ wX4 q1 cI cZ cO I1 A1) → va_S Z s.heap H locs → ∀ ls : Array Slot, lv_has ls 4 [(0, .ref (q 0)), (1, .ref (q1 0)), (2, .int u2)] → fX0_takeBack_35 N I S T I1 A1 u2 = some (r, Iz, I1z, A1z) → W p l e rmX0_takeBack s m [.ref (q 0), .ref (q1 0)].toArray below meth cd H locs 0 0 Q (F0 m 35 ls [.null]) := by
    intro I I1 A1 u2 H locs hP hD hS ls hl hf
    unfold fX0_takeBack_35 at hf
    refine lv_astore_nN (lv' := [(3, .null), (0, .ref (q 0)), (1, .ref (q1 0)), (2, .int u2)]) hx hb dX0_takeBack_35 rfl hl (by decide) rfl (fun ls hl => ?_)
    refine lv_aload_n hx hb dX0_takeBack_36 rfl (lv_at hl 1 rfl) ?_
    refine va_get (D := G) (ci := 0) (v := .int ((I 1))) (C := RX0) (T := TX0) (N := 3) hx hb hts inlX0 hown hE.1 hP 0 rfl rfl 2 (by decide) (hts _ (bg 15 8 rfl)) (fun _ h9 => h9) rfl dX0_takeBack_37 ?_
    refine lv_iconst (v := 1) hx hb dX0_takeBack_40 (by decide) ?_
    refine lv_icmp_lt (tgt := 48) hx hb dX0_takeBack_41 (by decide) (fun c1 => ?_) (fun c1 => ?_)
    · rw [if_pos c1] at hf
      exact b_48 I I1 A1 H locs hP hD hS ls (lv_sub hl [] rfl) hf
    · rw [if_neg c1] at hf
      refine lv_aload_nN hx hb dX0_takeBack_44 rfl (lv_at hl 0 rfl) ?_
      refine lv_ifnonnullN hx hb dX0_takeBack_45 ?_
      exact b_48 I I1 A1 H locs hP hD hS ls (lv_sub hl [] rfl) hf
  have b_35r1 : ∀ (I : Nat → Int32) (I1 : Nat → Int32) (A1 : Nat → Nat → Int32) (u2 : Int32), ∀ (H : Heap) (locs : List Loc), va_P G vwCl (wX0 q cI cZ cO I S T ++ wX4 q1 cI cZ cO I1 A1) H → va_D Z (wX0 q cI cZ cO I S T ++ wX4 q1 cI cZ cO I1 A1) → va_S Z s.heap H locs → ∀ ls : Array Slot, lv_has ls 4 [(0, .ref (q 0)), (1, .ref (q1 0)), (2, .int u2)] → fX0_takeBack_35r1 N I S T I1 A1 u2 = some (r, Iz, I1z, A1z) → W p l e rmX0_takeBack s m [.ref (q 0), .ref (q1 0)].toArray below meth cd H locs 0 0 Q (F0 m 35 ls [.ref (q 2)]) := by
    intro I I1 A1 u2 H locs hP hD hS ls hl hf
    unfold fX0_takeBack_35r1 at hf
    refine lv_astore_n (lv' := [(3, .ref (q 2)), (0, .ref (q 0)), (1, .ref (q1 0)), (2, .int u2)]) hx hb dX0_takeBack_35 rfl hl (by decide) rfl (fun ls hl => ?_)
    refine lv_aload_n hx hb dX0_takeBack_36 rfl (lv_at hl 1 rfl) ?_
    refine va_get (D := G) (ci := 0) (v := .int ((I 1))) (C := RX0) (T := TX0) (N := 3) hx hb hts inlX0 hown hE.1 hP 0 rfl rfl 2 (by decide) (hts _ (bg 15 8 rfl)) (fun _ h9 => h9) rfl dX0_takeBack_37 ?_
    refine lv_iconst (v := 1) hx hb dX0_takeBack_40 (by decide) ?_
    refine lv_icmp_lt (tgt := 48) hx hb dX0_takeBack_41 (by decide) (fun c1 => ?_) (fun c1 => ?_)
    · rw [if_pos c1] at hf
      exact b_48 I I1 A1 H locs hP hD hS ls (lv_sub hl [] rfl) hf
    · rw [if_neg c1] at hf
      refine lv_aload_n hx hb dX0_takeBack_44 rfl (lv_at hl 0 rfl) ?_
      refine lv_ifnonnull (tgt := 50) hx hb dX0_takeBack_45 (by decide) ?_
      refine lv_aload_n hx hb dX0_takeBack_50 rfl (lv_at hl 2 rfl) ?_
      refine lv_aload_n hx hb dX0_takeBack_51 rfl (lv_at hl 0 rfl) ?_
      obtain ⟨z2, hz2, hf⟩ := bnd hf
      refine x_wrVv (C := RX4) (n := 1) (ci := 4) (ws1 := (wX0 q cI cZ cO I S T ++ wX4 q1 cI cZ cO z2.1 z2.2)) hx hb hml hown hts hE (ct_X4_copyFrom N l G cI cZ cO q1 I1 A1 (sh q 2) (S 0) (T 0) z2.1 z2.2 hz2) (bg 15 13 rfl) mb_X4_copyFrom.1 mb_X4_copyFrom.2.1 mb_X4_copyFrom.2.2.1 mb_X4_copyFrom.2.2.2 hd_X4_copyFrom rfl (by decide) hP hD hS hA [58, 59, 60, 61, 2, 3, 4, 5] [false, false, true, true, true, true, false, false, false, false, false, false, false, false, false, false, false, false, false, false, false, false, false, false, false, false, false, false, false, false, false, false, false, false, false, false, false, false, false, false, false, false, false, false, false, false, false, false, false, false, false, false, false, false, false, false, false, false, true, true, true, true] (by decide) (by decide +kernel) rfl rfl ⟨rfl, rfl, rfl, rfl, rfl, rfl, rfl, rfl, rfl, rfl, rfl, rfl, rfl, rfl, rfl, rfl, rfl, rfl, rfl, rfl, rfl, rfl, rfl, rfl, rfl, rfl, rfl, rfl, rfl, rfl, rfl, rfl, rfl, rfl, rfl, rfl, rfl, rfl, rfl, rfl, rfl, rfl, rfl, rfl, rfl, rfl, rfl, rfl, rfl, rfl, rfl, rfl, rfl, rfl, rfl, rfl, rfl, rfl, rfl, rfl, rfl, rfl, trivial⟩ rfl rfl rfl rfl hl.1 (Nat.le_of_ble_eq_true rfl) ⟨Nat.zero_le _, Nat.zero_le _⟩ dX0_takeBack_52 (fun H locs hP hD hS => ?_)
      refine lv_aload_n hx hb dX0_takeBack_55 rfl (lv_at hl 1 rfl) ?_
      refine lv_iload_n hx hb dX0_takeBack_56 rfl (lv_at hl 3 rfl) ?_
      refine va_put (D := G) (ci := 0) (v := .int u2) (ty := .int) (C := RX0) (T := TX0) (N := 3) hx hb hts inlX0 tyX0 tyX0_ok nmX0 hown hE.1 hP hD hS 0 rfl rfl 1 (by decide) (hts _ (bg 15 7 rfl)) (fun _ h9 => h9) rfl (by decide +kernel) rfl rfl (Nat.le_of_ble_eq_true rfl) dX0_takeBack_57 (fun H locs hP hD hS => ?_)
      have hP : va_P G vwCl (wX0 q cI cZ cO (upd I 0 u2) S T ++ wX4 q1 cI cZ cO z2.1 z2.2) H := hP
      have hD : va_D Z (wX0 q cI cZ cO (upd I 0 u2) S T ++ wX4 q1 cI cZ cO z2.1 z2.2) := hD
      refine lv_aload_n hx hb dX0_takeBack_60 rfl (lv_at hl 1 rfl) ?_
      refine lv_dup hx hb dX0_takeBack_61 rfl ?_
      refine va_get (D := G) (ci := 0) (v := .int ((I 1))) (C := RX0) (T := TX0) (N := 3) hx hb hts inlX0 hown hE.1 hP 0 rfl rfl 2 (by decide) (hts _ (bg 15 8 rfl)) (fun _ h9 => h9) rfl dX0_takeBack_62 ?_
      refine lv_iconst (v := 1) hx hb dX0_takeBack_65 (by decide) ?_
      refine lv_isub hx hb dX0_takeBack_66 ?_
      refine va_put (D := G) (ci := 0) (v := .int ((I 1) - 1)) (ty := .int) (C := RX0) (T := TX0) (N := 3) hx hb hts inlX0 tyX0 tyX0_ok nmX0 hown hE.1 hP hD hS 0 rfl rfl 2 (by decide) (hts _ (bg 15 8 rfl)) (fun _ h9 => h9) rfl (by decide +kernel) rfl rfl (Nat.le_of_ble_eq_true rfl) dX0_takeBack_67 (fun H locs hP hD hS => ?_)
      have hP : va_P G vwCl (wX0 q cI cZ cO (upd (upd I 0 u2) 1 ((I 1) - 1)) S T ++ wX4 q1 cI cZ cO z2.1 z2.2) H := hP
      have hD : va_D Z (wX0 q cI cZ cO (upd (upd I 0 u2) 1 ((I 1) - 1)) S T ++ wX4 q1 cI cZ cO z2.1 z2.2) := hD
      refine lv_iconst (v := 1) hx hb dX0_takeBack_70 (by decide) ?_
      have e9 := Option.some.inj hf
      exact fin H locs 71 ls _ (Prod.mk.inj e9).1 (nar_z (Or.inr (Prod.mk.inj e9).1.symm)) (by rw [← (Prod.mk.inj (Prod.mk.inj e9).2).1, ← (Prod.mk.inj (Prod.mk.inj (Prod.mk.inj e9).2).2).1, ← (Prod.mk.inj (Prod.mk.inj (Prod.mk.inj e9).2).2).2]; exact hP) hS dX0_takeBack_71
  have b_35r2 : ∀ (I : Nat → Int32) (I1 : Nat → Int32) (A1 : Nat → Nat → Int32) (u2 : Int32), ∀ (H : Heap) (locs : List Loc), va_P G vwCl (wX0 q cI cZ cO I S T ++ wX4 q1 cI cZ cO I1 A1) H → va_D Z (wX0 q cI cZ cO I S T ++ wX4 q1 cI cZ cO I1 A1) → va_S Z s.heap H locs → ∀ ls : Array Slot, lv_has ls 4 [(0, .ref (q 0)), (1, .ref (q1 0)), (2, .int u2)] → fX0_takeBack_35r2 N I S T I1 A1 u2 = some (r, Iz, I1z, A1z) → W p l e rmX0_takeBack s m [.ref (q 0), .ref (q1 0)].toArray below meth cd H locs 0 0 Q (F0 m 35 ls [.ref (q 6)]) := by
    intro I I1 A1 u2 H locs hP hD hS ls hl hf
    unfold fX0_takeBack_35r2 at hf
    refine lv_astore_n (lv' := [(3, .ref (q 6)), (0, .ref (q 0)), (1, .ref (q1 0)), (2, .int u2)]) hx hb dX0_takeBack_35 rfl hl (by decide) rfl (fun ls hl => ?_)
    refine lv_aload_n hx hb dX0_takeBack_36 rfl (lv_at hl 1 rfl) ?_
    refine va_get (D := G) (ci := 0) (v := .int ((I 1))) (C := RX0) (T := TX0) (N := 3) hx hb hts inlX0 hown hE.1 hP 0 rfl rfl 2 (by decide) (hts _ (bg 15 8 rfl)) (fun _ h9 => h9) rfl dX0_takeBack_37 ?_
    refine lv_iconst (v := 1) hx hb dX0_takeBack_40 (by decide) ?_
    refine lv_icmp_lt (tgt := 48) hx hb dX0_takeBack_41 (by decide) (fun c1 => ?_) (fun c1 => ?_)
    · rw [if_pos c1] at hf
      exact b_48 I I1 A1 H locs hP hD hS ls (lv_sub hl [] rfl) hf
    · rw [if_neg c1] at hf
      refine lv_aload_n hx hb dX0_takeBack_44 rfl (lv_at hl 0 rfl) ?_
      refine lv_ifnonnull (tgt := 50) hx hb dX0_takeBack_45 (by decide) ?_
      refine lv_aload_n hx hb dX0_takeBack_50 rfl (lv_at hl 2 rfl) ?_
      refine lv_aload_n hx hb dX0_takeBack_51 rfl (lv_at hl 0 rfl) ?_
      obtain ⟨z2, hz2, hf⟩ := bnd hf
      refine x_wrVv (C := RX4) (n := 1) (ci := 4) (ws1 := (wX0 q cI cZ cO I S T ++ wX4 q1 cI cZ cO z2.1 z2.2)) hx hb hml hown hts hE (ct_X4_copyFrom N l G cI cZ cO q1 I1 A1 (sh q 6) (S 1) (T 1) z2.1 z2.2 hz2) (bg 15 13 rfl) mb_X4_copyFrom.1 mb_X4_copyFrom.2.1 mb_X4_copyFrom.2.2.1 mb_X4_copyFrom.2.2.2 hd_X4_copyFrom rfl (by decide) hP hD hS hA [58, 59, 60, 61, 6, 7, 8, 9] [false, false, false, false, false, false, true, true, true, true, false, false, false, false, false, false, false, false, false, false, false, false, false, false, false, false, false, false, false, false, false, false, false, false, false, false, false, false, false, false, false, false, false, false, false, false, false, false, false, false, false, false, false, false, false, false, false, false, true, true, true, true] (by decide) (by decide +kernel) rfl rfl ⟨rfl, rfl, rfl, rfl, rfl, rfl, rfl, rfl, rfl, rfl, rfl, rfl, rfl, rfl, rfl, rfl, rfl, rfl, rfl, rfl, rfl, rfl, rfl, rfl, rfl, rfl, rfl, rfl, rfl, rfl, rfl, rfl, rfl, rfl, rfl, rfl, rfl, rfl, rfl, rfl, rfl, rfl, rfl, rfl, rfl, rfl, rfl, rfl, rfl, rfl, rfl, rfl, rfl, rfl, rfl, rfl, rfl, rfl, rfl, rfl, rfl, rfl, trivial⟩ rfl rfl rfl rfl hl.1 (Nat.le_of_ble_eq_true rfl) ⟨Nat.zero_le _, Nat.zero_le _⟩ dX0_takeBack_52 (fun H locs hP hD hS => ?_)
      refine lv_aload_n hx hb dX0_takeBack_55 rfl (lv_at hl 1 rfl) ?_
      refine lv_iload_n hx hb dX0_takeBack_56 rfl (lv_at hl 3 rfl) ?_
      refine va_put (D := G) (ci := 0) (v := .int u2) (ty := .int) (C := RX0) (T := TX0) (N := 3) hx hb hts inlX0 tyX0 tyX0_ok nmX0 hown hE.1 hP hD hS 0 rfl rfl 1 (by decide) (hts _ (bg 15 7 rfl)) (fun _ h9 => h9) rfl (by decide +kernel) rfl rfl (Nat.le_of_ble_eq_true rfl) dX0_takeBack_57 (fun H locs hP hD hS => ?_)
      have hP : va_P G vwCl (wX0 q cI cZ cO (upd I 0 u2) S T ++ wX4 q1 cI cZ cO z2.1 z2.2) H := hP
      have hD : va_D Z (wX0 q cI cZ cO (upd I 0 u2) S T ++ wX4 q1 cI cZ cO z2.1 z2.2) := hD
      refine lv_aload_n hx hb dX0_takeBack_60 rfl (lv_at hl 1 rfl) ?_
      refine lv_dup hx hb dX0_takeBack_61 rfl ?_
      refine va_get (D := G) (ci := 0) (v := .int ((I 1))) (C := RX0) (T := TX0) (N := 3) hx hb hts inlX0 hown hE.1 hP 0 rfl rfl 2 (by decide) (hts _ (bg 15 8 rfl)) (fun _ h9 => h9) rfl dX0_takeBack_62 ?_
      refine lv_iconst (v := 1) hx hb dX0_takeBack_65 (by decide) ?_
      refine lv_isub hx hb dX0_takeBack_66 ?_
      refine va_put (D := G) (ci := 0) (v := .int ((I 1) - 1)) (ty := .int) (C := RX0) (T := TX0) (N := 3) hx hb hts inlX0 tyX0 tyX0_ok nmX0 hown hE.1 hP hD hS 0 rfl rfl 2 (by decide) (hts _ (bg 15 8 rfl)) (fun _ h9 => h9) rfl (by decide +kernel) rfl rfl (Nat.le_of_ble_eq_true rfl) dX0_takeBack_67 (fun H locs hP hD hS => ?_)
      have hP : va_P G vwCl (wX0 q cI cZ cO (upd (upd I 0 u2) 1 ((I 1) - 1)) S T ++ wX4 q1 cI cZ cO z2.1 z2.2) H := hP
      have hD : va_D Z (wX0 q cI cZ cO (upd (upd I 0 u2) 1 ((I 1) - 1)) S T ++ wX4 q1 cI cZ cO z2.1 z2.2) := hD
      refine lv_iconst (v := 1) hx hb dX0_takeBack_70 (by decide) ?_
      have e9 := Option.some.inj hf
      exact fin H locs 71 ls _ (Prod.mk.inj e9).1 (nar_z (Or.inr (Prod.mk.inj e9).1.symm)) (by rw [← (Prod.mk.inj (Prod.mk.inj e9).2).1, ← (Prod.mk.inj (Prod.mk.inj (Prod.mk.inj e9).2).2).1, ← (Prod.mk.inj (Prod.mk.inj (Prod.mk.inj e9).2).2).2]; exact hP) hS dX0_takeBack_71
  have b_35r3 : ∀ (I : Nat → Int32) (I1 : Nat → Int32) (A1 : Nat → Nat → Int32) (u2 : Int32), ∀ (H : Heap) (locs : List Loc), va_P G vwCl (wX0 q cI cZ cO I S T ++ wX4 q1 cI cZ cO I1 A1) H → va_D Z (wX0 q cI cZ cO I S T ++ wX4 q1 cI cZ cO I1 A1) → va_S Z s.heap H locs → ∀ ls : Array Slot, lv_has ls 4 [(0, .ref (q 0)), (1, .ref (q1 0)), (2, .int u2)] → fX0_takeBack_35r3 N I S T I1 A1 u2 = some (r, Iz, I1z, A1z) → W p l e rmX0_takeBack s m [.ref (q 0), .ref (q1 0)].toArray below meth cd H locs 0 0 Q (F0 m 35 ls [.ref (q 10)]) := by
    intro I I1 A1 u2 H locs hP hD hS ls hl hf
    unfold fX0_takeBack_35r3 at hf
    refine lv_astore_n (lv' := [(3, .ref (q 10)), (0, .ref (q 0)), (1, .ref (q1 0)), (2, .int u2)]) hx hb dX0_takeBack_35 rfl hl (by decide) rfl (fun ls hl => ?_)
    refine lv_aload_n hx hb dX0_takeBack_36 rfl (lv_at hl 1 rfl) ?_
    refine va_get (D := G) (ci := 0) (v := .int ((I 1))) (C := RX0) (T := TX0) (N := 3) hx hb hts inlX0 hown hE.1 hP 0 rfl rfl 2 (by decide) (hts _ (bg 15 8 rfl)) (fun _ h9 => h9) rfl dX0_takeBack_37 ?_
    refine lv_iconst (v := 1) hx hb dX0_takeBack_40 (by decide) ?_
    refine lv_icmp_lt (tgt := 48) hx hb dX0_takeBack_41 (by decide) (fun c1 => ?_) (fun c1 => ?_)
    · rw [if_pos c1] at hf
      exact b_48 I I1 A1 H locs hP hD hS ls (lv_sub hl [] rfl) hf
    · rw [if_neg c1] at hf
      refine lv_aload_n hx hb dX0_takeBack_44 rfl (lv_at hl 0 rfl) ?_
      refine lv_ifnonnull (tgt := 50) hx hb dX0_takeBack_45 (by decide) ?_
      refine lv_aload_n hx hb dX0_takeBack_50 rfl (lv_at hl 2 rfl) ?_
      refine lv_aload_n hx hb dX0_takeBack_51 rfl (lv_at hl 0 rfl) ?_
      obtain ⟨z2, hz2, hf⟩ := bnd hf
      refine x_wrVv (C := RX4) (n := 1) (ci := 4) (ws1 := (wX0 q cI cZ cO I S T ++ wX4 q1 cI cZ cO z2.1 z2.2)) hx hb hml hown hts hE (ct_X4_copyFrom N l G cI cZ cO q1 I1 A1 (sh q 10) (S 2) (T 2) z2.1 z2.2 hz2) (bg 15 13 rfl) mb_X4_copyFrom.1 mb_X4_copyFrom.2.1 mb_X4_copyFrom.2.2.1 mb_X4_copyFrom.2.2.2 hd_X4_copyFrom rfl (by decide) hP hD hS hA [58, 59, 60, 61, 10, 11, 12, 13] [false, false, false, false, false, false, false, false, false, false, true, true, true, true, false, false, false, false, false, false, false, false, false, false, false, false, false, false, false, false, false, false, false, false, false, false, false, false, false, false, false, false, false, false, false, false, false, false, false, false, false, false, false, false, false, false, false, false, true, true, true, true] (by decide) (by decide +kernel) rfl rfl ⟨rfl, rfl, rfl, rfl, rfl, rfl, rfl, rfl, rfl, rfl, rfl, rfl, rfl, rfl, rfl, rfl, rfl, rfl, rfl, rfl, rfl, rfl, rfl, rfl, rfl, rfl, rfl, rfl, rfl, rfl, rfl, rfl, rfl, rfl, rfl, rfl, rfl, rfl, rfl, rfl, rfl, rfl, rfl, rfl, rfl, rfl, rfl, rfl, rfl, rfl, rfl, rfl, rfl, rfl, rfl, rfl, rfl, rfl, rfl, rfl, rfl, rfl, trivial⟩ rfl rfl rfl rfl hl.1 (Nat.le_of_ble_eq_true rfl) ⟨Nat.zero_le _, Nat.zero_le _⟩ dX0_takeBack_52 (fun H locs hP hD hS => ?_)
      refine lv_aload_n hx hb dX0_takeBack_55 rfl (lv_at hl 1 rfl) ?_
      refine lv_iload_n hx hb dX0_takeBack_56 rfl (lv_at hl 3 rfl) ?_
      refine va_put (D := G) (ci := 0) (v := .int u2) (ty := .int) (C := RX0) (T := TX0) (N := 3) hx hb hts inlX0 tyX0 tyX0_ok nmX0 hown hE.1 hP hD hS 0 rfl rfl 1 (by decide) (hts _ (bg 15 7 rfl)) (fun _ h9 => h9) rfl (by decide +kernel) rfl rfl (Nat.le_of_ble_eq_true rfl) dX0_takeBack_57 (fun H locs hP hD hS => ?_)
      have hP : va_P G vwCl (wX0 q cI cZ cO (upd I 0 u2) S T ++ wX4 q1 cI cZ cO z2.1 z2.2) H := hP
      have hD : va_D Z (wX0 q cI cZ cO (upd I 0 u2) S T ++ wX4 q1 cI cZ cO z2.1 z2.2) := hD
      refine lv_aload_n hx hb dX0_takeBack_60 rfl (lv_at hl 1 rfl) ?_
      refine lv_dup hx hb dX0_takeBack_61 rfl ?_
      refine va_get (D := G) (ci := 0) (v := .int ((I 1))) (C := RX0) (T := TX0) (N := 3) hx hb hts inlX0 hown hE.1 hP 0 rfl rfl 2 (by decide) (hts _ (bg 15 8 rfl)) (fun _ h9 => h9) rfl dX0_takeBack_62 ?_
      refine lv_iconst (v := 1) hx hb dX0_takeBack_65 (by decide) ?_
      refine lv_isub hx hb dX0_takeBack_66 ?_
      refine va_put (D := G) (ci := 0) (v := .int ((I 1) - 1)) (ty := .int) (C := RX0) (T := TX0) (N := 3) hx hb hts inlX0 tyX0 tyX0_ok nmX0 hown hE.1 hP hD hS 0 rfl rfl 2 (by decide) (hts _ (bg 15 8 rfl)) (fun _ h9 => h9) rfl (by decide +kernel) rfl rfl (Nat.le_of_ble_eq_true rfl) dX0_takeBack_67 (fun H locs hP hD hS => ?_)
      have hP : va_P G vwCl (wX0 q cI cZ cO (upd (upd I 0 u2) 1 ((I 1) - 1)) S T ++ wX4 q1 cI cZ cO z2.1 z2.2) H := hP
      have hD : va_D Z (wX0 q cI cZ cO (upd (upd I 0 u2) 1 ((I 1) - 1)) S T ++ wX4 q1 cI cZ cO z2.1 z2.2) := hD
      refine lv_iconst (v := 1) hx hb dX0_takeBack_70 (by decide) ?_
      have e9 := Option.some.inj hf
      exact fin H locs 71 ls _ (Prod.mk.inj e9).1 (nar_z (Or.inr (Prod.mk.inj e9).1.symm)) (by rw [← (Prod.mk.inj (Prod.mk.inj e9).2).1, ← (Prod.mk.inj (Prod.mk.inj (Prod.mk.inj e9).2).2).1, ← (Prod.mk.inj (Prod.mk.inj (Prod.mk.inj e9).2).2).2]; exact hP) hS dX0_takeBack_71
  have b_35r4 : ∀ (I : Nat → Int32) (I1 : Nat → Int32) (A1 : Nat → Nat → Int32) (u2 : Int32), ∀ (H : Heap) (locs : List Loc), va_P G vwCl (wX0 q cI cZ cO I S T ++ wX4 q1 cI cZ cO I1 A1) H → va_D Z (wX0 q cI cZ cO I S T ++ wX4 q1 cI cZ cO I1 A1) → va_S Z s.heap H locs → ∀ ls : Array Slot, lv_has ls 4 [(0, .ref (q 0)), (1, .ref (q1 0)), (2, .int u2)] → fX0_takeBack_35r4 N I S T I1 A1 u2 = some (r, Iz, I1z, A1z) → W p l e rmX0_takeBack s m [.ref (q 0), .ref (q1 0)].toArray below meth cd H locs 0 0 Q (F0 m 35 ls [.ref (q 14)]) := by
    intro I I1 A1 u2 H locs hP hD hS ls hl hf
    unfold fX0_takeBack_35r4 at hf
    refine lv_astore_n (lv' := [(3, .ref (q 14)), (0, .ref (q 0)), (1, .ref (q1 0)), (2, .int u2)]) hx hb dX0_takeBack_35 rfl hl (by decide) rfl (fun ls hl => ?_)
    refine lv_aload_n hx hb dX0_takeBack_36 rfl (lv_at hl 1 rfl) ?_
    refine va_get (D := G) (ci := 0) (v := .int ((I 1))) (C := RX0) (T := TX0) (N := 3) hx hb hts inlX0 hown hE.1 hP 0 rfl rfl 2 (by decide) (hts _ (bg 15 8 rfl)) (fun _ h9 => h9) rfl dX0_takeBack_37 ?_
    refine lv_iconst (v := 1) hx hb dX0_takeBack_40 (by decide) ?_
    refine lv_icmp_lt (tgt := 48) hx hb dX0_takeBack_41 (by decide) (fun c1 => ?_) (fun c1 => ?_)
    · rw [if_pos c1] at hf
      exact b_48 I I1 A1 H locs hP hD hS ls (lv_sub hl [] rfl) hf
    · rw [if_neg c1] at hf
      refine lv_aload_n hx hb dX0_takeBack_44 rfl (lv_at hl 0 rfl) ?_
      refine lv_ifnonnull (tgt := 50) hx hb dX0_takeBack_45 (by decide) ?_
      refine lv_aload_n hx hb dX0_takeBack_50 rfl (lv_at hl 2 rfl) ?_
      refine lv_aload_n hx hb dX0_takeBack_51 rfl (lv_at hl 0 rfl) ?_
      obtain ⟨z2, hz2, hf⟩ := bnd hf
      refine x_wrVv (C := RX4) (n := 1) (ci := 4) (ws1 := (wX0 q cI cZ cO I S T ++ wX4 q1 cI cZ cO z2.1 z2.2)) hx hb hml hown hts hE (ct_X4_copyFrom N l G cI cZ cO q1 I1 A1 (sh q 14) (S 3) (T 3) z2.1 z2.2 hz2) (bg 15 13 rfl) mb_X4_copyFrom.1 mb_X4_copyFrom.2.1 mb_X4_copyFrom.2.2.1 mb_X4_copyFrom.2.2.2 hd_X4_copyFrom rfl (by decide) hP hD hS hA [58, 59, 60, 61, 14, 15, 16, 17] [false, false, false, false, false, false, false, false, false, false, false, false, false, false, true, true, true, true, false, false, false, false, false, false, false, false, false, false, false, false, false, false, false, false, false, false, false, false, false, false, false, false, false, false, false, false, false, false, false, false, false, false, false, false, false, false, false, false, true, true, true, true] (by decide) (by decide +kernel) rfl rfl ⟨rfl, rfl, rfl, rfl, rfl, rfl, rfl, rfl, rfl, rfl, rfl, rfl, rfl, rfl, rfl, rfl, rfl, rfl, rfl, rfl, rfl, rfl, rfl, rfl, rfl, rfl, rfl, rfl, rfl, rfl, rfl, rfl, rfl, rfl, rfl, rfl, rfl, rfl, rfl, rfl, rfl, rfl, rfl, rfl, rfl, rfl, rfl, rfl, rfl, rfl, rfl, rfl, rfl, rfl, rfl, rfl, rfl, rfl, rfl, rfl, rfl, rfl, trivial⟩ rfl rfl rfl rfl hl.1 (Nat.le_of_ble_eq_true rfl) ⟨Nat.zero_le _, Nat.zero_le _⟩ dX0_takeBack_52 (fun H locs hP hD hS => ?_)
      refine lv_aload_n hx hb dX0_takeBack_55 rfl (lv_at hl 1 rfl) ?_
      refine lv_iload_n hx hb dX0_takeBack_56 rfl (lv_at hl 3 rfl) ?_
      refine va_put (D := G) (ci := 0) (v := .int u2) (ty := .int) (C := RX0) (T := TX0) (N := 3) hx hb hts inlX0 tyX0 tyX0_ok nmX0 hown hE.1 hP hD hS 0 rfl rfl 1 (by decide) (hts _ (bg 15 7 rfl)) (fun _ h9 => h9) rfl (by decide +kernel) rfl rfl (Nat.le_of_ble_eq_true rfl) dX0_takeBack_57 (fun H locs hP hD hS => ?_)
      have hP : va_P G vwCl (wX0 q cI cZ cO (upd I 0 u2) S T ++ wX4 q1 cI cZ cO z2.1 z2.2) H := hP
      have hD : va_D Z (wX0 q cI cZ cO (upd I 0 u2) S T ++ wX4 q1 cI cZ cO z2.1 z2.2) := hD
      refine lv_aload_n hx hb dX0_takeBack_60 rfl (lv_at hl 1 rfl) ?_
      refine lv_dup hx hb dX0_takeBack_61 rfl ?_
      refine va_get (D := G) (ci := 0) (v := .int ((I 1))) (C := RX0) (T := TX0) (N := 3) hx hb hts inlX0 hown hE.1 hP 0 rfl rfl 2 (by decide) (hts _ (bg 15 8 rfl)) (fun _ h9 => h9) rfl dX0_takeBack_62 ?_
      refine lv_iconst (v := 1) hx hb dX0_takeBack_65 (by decide) ?_
      refine lv_isub hx hb dX0_takeBack_66 ?_
      refine va_put (D := G) (ci := 0) (v := .int ((I 1) - 1)) (ty := .int) (C := RX0) (T := TX0) (N := 3) hx hb hts inlX0 tyX0 tyX0_ok nmX0 hown hE.1 hP hD hS 0 rfl rfl 2 (by decide) (hts _ (bg 15 8 rfl)) (fun _ h9 => h9) rfl (by decide +kernel) rfl rfl (Nat.le_of_ble_eq_true rfl) dX0_takeBack_67 (fun H locs hP hD hS => ?_)
      have hP : va_P G vwCl (wX0 q cI cZ cO (upd (upd I 0 u2) 1 ((I 1) - 1)) S T ++ wX4 q1 cI cZ cO z2.1 z2.2) H := hP
      have hD : va_D Z (wX0 q cI cZ cO (upd (upd I 0 u2) 1 ((I 1) - 1)) S T ++ wX4 q1 cI cZ cO z2.1 z2.2) := hD
      refine lv_iconst (v := 1) hx hb dX0_takeBack_70 (by decide) ?_
      have e9 := Option.some.inj hf
      exact fin H locs 71 ls _ (Prod.mk.inj e9).1 (nar_z (Or.inr (Prod.mk.inj e9).1.symm)) (by rw [← (Prod.mk.inj (Prod.mk.inj e9).2).1, ← (Prod.mk.inj (Prod.mk.inj (Prod.mk.inj e9).2).2).1, ← (Prod.mk.inj (Prod.mk.inj (Prod.mk.inj e9).2).2).2]; exact hP) hS dX0_takeBack_71
  have b_35r5 : ∀ (I : Nat → Int32) (I1 : Nat → Int32) (A1 : Nat → Nat → Int32) (u2 : Int32), ∀ (H : Heap) (locs : List Loc), va_P G vwCl (wX0 q cI cZ cO I S T ++ wX4 q1 cI cZ cO I1 A1) H → va_D Z (wX0 q cI cZ cO I S T ++ wX4 q1 cI cZ cO I1 A1) → va_S Z s.heap H locs → ∀ ls : Array Slot, lv_has ls 4 [(0, .ref (q 0)), (1, .ref (q1 0)), (2, .int u2)] → fX0_takeBack_35r5 N I S T I1 A1 u2 = some (r, Iz, I1z, A1z) → W p l e rmX0_takeBack s m [.ref (q 0), .ref (q1 0)].toArray below meth cd H locs 0 0 Q (F0 m 35 ls [.ref (q 18)]) := by
    intro I I1 A1 u2 H locs hP hD hS ls hl hf
    unfold fX0_takeBack_35r5 at hf
    refine lv_astore_n (lv' := [(3, .ref (q 18)), (0, .ref (q 0)), (1, .ref (q1 0)), (2, .int u2)]) hx hb dX0_takeBack_35 rfl hl (by decide) rfl (fun ls hl => ?_)
    refine lv_aload_n hx hb dX0_takeBack_36 rfl (lv_at hl 1 rfl) ?_
    refine va_get (D := G) (ci := 0) (v := .int ((I 1))) (C := RX0) (T := TX0) (N := 3) hx hb hts inlX0 hown hE.1 hP 0 rfl rfl 2 (by decide) (hts _ (bg 15 8 rfl)) (fun _ h9 => h9) rfl dX0_takeBack_37 ?_
    refine lv_iconst (v := 1) hx hb dX0_takeBack_40 (by decide) ?_
    refine lv_icmp_lt (tgt := 48) hx hb dX0_takeBack_41 (by decide) (fun c1 => ?_) (fun c1 => ?_)
    · rw [if_pos c1] at hf
      exact b_48 I I1 A1 H locs hP hD hS ls (lv_sub hl [] rfl) hf
    · rw [if_neg c1] at hf
      refine lv_aload_n hx hb dX0_takeBack_44 rfl (lv_at hl 0 rfl) ?_
      refine lv_ifnonnull (tgt := 50) hx hb dX0_takeBack_45 (by decide) ?_
      refine lv_aload_n hx hb dX0_takeBack_50 rfl (lv_at hl 2 rfl) ?_
      refine lv_aload_n hx hb dX0_takeBack_51 rfl (lv_at hl 0 rfl) ?_
      obtain ⟨z2, hz2, hf⟩ := bnd hf
      refine x_wrVv (C := RX4) (n := 1) (ci := 4) (ws1 := (wX0 q cI cZ cO I S T ++ wX4 q1 cI cZ cO z2.1 z2.2)) hx hb hml hown hts hE (ct_X4_copyFrom N l G cI cZ cO q1 I1 A1 (sh q 18) (S 4) (T 4) z2.1 z2.2 hz2) (bg 15 13 rfl) mb_X4_copyFrom.1 mb_X4_copyFrom.2.1 mb_X4_copyFrom.2.2.1 mb_X4_copyFrom.2.2.2 hd_X4_copyFrom rfl (by decide) hP hD hS hA [58, 59, 60, 61, 18, 19, 20, 21] [false, false, false, false, false, false, false, false, false, false, false, false, false, false, false, false, false, false, true, true, true, true, false, false, false, false, false, false, false, false, false, false, false, false, false, false, false, false, false, false, false, false, false, false, false, false, false, false, false, false, false, false, false, false, false, false, false, false, true, true, true, true] (by decide) (by decide +kernel) rfl rfl ⟨rfl, rfl, rfl, rfl, rfl, rfl, rfl, rfl, rfl, rfl, rfl, rfl, rfl, rfl, rfl, rfl, rfl, rfl, rfl, rfl, rfl, rfl, rfl, rfl, rfl, rfl, rfl, rfl, rfl, rfl, rfl, rfl, rfl, rfl, rfl, rfl, rfl, rfl, rfl, rfl, rfl, rfl, rfl, rfl, rfl, rfl, rfl, rfl, rfl, rfl, rfl, rfl, rfl, rfl, rfl, rfl, rfl, rfl, rfl, rfl, rfl, rfl, trivial⟩ rfl rfl rfl rfl hl.1 (Nat.le_of_ble_eq_true rfl) ⟨Nat.zero_le _, Nat.zero_le _⟩ dX0_takeBack_52 (fun H locs hP hD hS => ?_)
      refine lv_aload_n hx hb dX0_takeBack_55 rfl (lv_at hl 1 rfl) ?_
      refine lv_iload_n hx hb dX0_takeBack_56 rfl (lv_at hl 3 rfl) ?_
      refine va_put (D := G) (ci := 0) (v := .int u2) (ty := .int) (C := RX0) (T := TX0) (N := 3) hx hb hts inlX0 tyX0 tyX0_ok nmX0 hown hE.1 hP hD hS 0 rfl rfl 1 (by decide) (hts _ (bg 15 7 rfl)) (fun _ h9 => h9) rfl (by decide +kernel) rfl rfl (Nat.le_of_ble_eq_true rfl) dX0_takeBack_57 (fun H locs hP hD hS => ?_)
      have hP : va_P G vwCl (wX0 q cI cZ cO (upd I 0 u2) S T ++ wX4 q1 cI cZ cO z2.1 z2.2) H := hP
      have hD : va_D Z (wX0 q cI cZ cO (upd I 0 u2) S T ++ wX4 q1 cI cZ cO z2.1 z2.2) := hD
      refine lv_aload_n hx hb dX0_takeBack_60 rfl (lv_at hl 1 rfl) ?_
      refine lv_dup hx hb dX0_takeBack_61 rfl ?_
      refine va_get (D := G) (ci := 0) (v := .int ((I 1))) (C := RX0) (T := TX0) (N := 3) hx hb hts inlX0 hown hE.1 hP 0 rfl rfl 2 (by decide) (hts _ (bg 15 8 rfl)) (fun _ h9 => h9) rfl dX0_takeBack_62 ?_
      refine lv_iconst (v := 1) hx hb dX0_takeBack_65 (by decide) ?_
      refine lv_isub hx hb dX0_takeBack_66 ?_
      refine va_put (D := G) (ci := 0) (v := .int ((I 1) - 1)) (ty := .int) (C := RX0) (T := TX0) (N := 3) hx hb hts inlX0 tyX0 tyX0_ok nmX0 hown hE.1 hP hD hS 0 rfl rfl 2 (by decide) (hts _ (bg 15 8 rfl)) (fun _ h9 => h9) rfl (by decide +kernel) rfl rfl (Nat.le_of_ble_eq_true rfl) dX0_takeBack_67 (fun H locs hP hD hS => ?_)
      have hP : va_P G vwCl (wX0 q cI cZ cO (upd (upd I 0 u2) 1 ((I 1) - 1)) S T ++ wX4 q1 cI cZ cO z2.1 z2.2) H := hP
      have hD : va_D Z (wX0 q cI cZ cO (upd (upd I 0 u2) 1 ((I 1) - 1)) S T ++ wX4 q1 cI cZ cO z2.1 z2.2) := hD
      refine lv_iconst (v := 1) hx hb dX0_takeBack_70 (by decide) ?_
      have e9 := Option.some.inj hf
      exact fin H locs 71 ls _ (Prod.mk.inj e9).1 (nar_z (Or.inr (Prod.mk.inj e9).1.symm)) (by rw [← (Prod.mk.inj (Prod.mk.inj e9).2).1, ← (Prod.mk.inj (Prod.mk.inj (Prod.mk.inj e9).2).2).1, ← (Prod.mk.inj (Prod.mk.inj (Prod.mk.inj e9).2).2).2]; exact hP) hS dX0_takeBack_71
  have b_35r6 : ∀ (I : Nat → Int32) (I1 : Nat → Int32) (A1 : Nat → Nat → Int32) (u2 : Int32), ∀ (H : Heap) (locs : List Loc), va_P G vwCl (wX0 q cI cZ cO I S T ++ wX4 q1 cI cZ cO I1 A1) H → va_D Z (wX0 q cI cZ cO I S T ++ wX4 q1 cI cZ cO I1 A1) → va_S Z s.heap H locs → ∀ ls : Array Slot, lv_has ls 4 [(0, .ref (q 0)), (1, .ref (q1 0)), (2, .int u2)] → fX0_takeBack_35r6 N I S T I1 A1 u2 = some (r, Iz, I1z, A1z) → W p l e rmX0_takeBack s m [.ref (q 0), .ref (q1 0)].toArray below meth cd H locs 0 0 Q (F0 m 35 ls [.ref (q 22)]) := by
    intro I I1 A1 u2 H locs hP hD hS ls hl hf
    unfold fX0_takeBack_35r6 at hf
    refine lv_astore_n (lv' := [(3, .ref (q 22)), (0, .ref (q 0)), (1, .ref (q1 0)), (2, .int u2)]) hx hb dX0_takeBack_35 rfl hl (by decide) rfl (fun ls hl => ?_)
    refine lv_aload_n hx hb dX0_takeBack_36 rfl (lv_at hl 1 rfl) ?_
    refine va_get (D := G) (ci := 0) (v := .int ((I 1))) (C := RX0) (T := TX0) (N := 3) hx hb hts inlX0 hown hE.1 hP 0 rfl rfl 2 (by decide) (hts _ (bg 15 8 rfl)) (fun _ h9 => h9) rfl dX0_takeBack_37 ?_
    refine lv_iconst (v := 1) hx hb dX0_takeBack_40 (by decide) ?_
    refine lv_icmp_lt (tgt := 48) hx hb dX0_takeBack_41 (by decide) (fun c1 => ?_) (fun c1 => ?_)
    · rw [if_pos c1] at hf
      exact b_48 I I1 A1 H locs hP hD hS ls (lv_sub hl [] rfl) hf
    · rw [if_neg c1] at hf
      refine lv_aload_n hx hb dX0_takeBack_44 rfl (lv_at hl 0 rfl) ?_
      refine lv_ifnonnull (tgt := 50) hx hb dX0_takeBack_45 (by decide) ?_
      refine lv_aload_n hx hb dX0_takeBack_50 rfl (lv_at hl 2 rfl) ?_
      refine lv_aload_n hx hb dX0_takeBack_51 rfl (lv_at hl 0 rfl) ?_
      obtain ⟨z2, hz2, hf⟩ := bnd hf
      refine x_wrVv (C := RX4) (n := 1) (ci := 4) (ws1 := (wX0 q cI cZ cO I S T ++ wX4 q1 cI cZ cO z2.1 z2.2)) hx hb hml hown hts hE (ct_X4_copyFrom N l G cI cZ cO q1 I1 A1 (sh q 22) (S 5) (T 5) z2.1 z2.2 hz2) (bg 15 13 rfl) mb_X4_copyFrom.1 mb_X4_copyFrom.2.1 mb_X4_copyFrom.2.2.1 mb_X4_copyFrom.2.2.2 hd_X4_copyFrom rfl (by decide) hP hD hS hA [58, 59, 60, 61, 22, 23, 24, 25] [false, false, false, false, false, false, false, false, false, false, false, false, false, false, false, false, false, false, false, false, false, false, true, true, true, true, false, false, false, false, false, false, false, false, false, false, false, false, false, false, false, false, false, false, false, false, false, false, false, false, false, false, false, false, false, false, false, false, true, true, true, true] (by decide) (by decide +kernel) rfl rfl ⟨rfl, rfl, rfl, rfl, rfl, rfl, rfl, rfl, rfl, rfl, rfl, rfl, rfl, rfl, rfl, rfl, rfl, rfl, rfl, rfl, rfl, rfl, rfl, rfl, rfl, rfl, rfl, rfl, rfl, rfl, rfl, rfl, rfl, rfl, rfl, rfl, rfl, rfl, rfl, rfl, rfl, rfl, rfl, rfl, rfl, rfl, rfl, rfl, rfl, rfl, rfl, rfl, rfl, rfl, rfl, rfl, rfl, rfl, rfl, rfl, rfl, rfl, trivial⟩ rfl rfl rfl rfl hl.1 (Nat.le_of_ble_eq_true rfl) ⟨Nat.zero_le _, Nat.zero_le _⟩ dX0_takeBack_52 (fun H locs hP hD hS => ?_)
      refine lv_aload_n hx hb dX0_takeBack_55 rfl (lv_at hl 1 rfl) ?_
      refine lv_iload_n hx hb dX0_takeBack_56 rfl (lv_at hl 3 rfl) ?_
      refine va_put (D := G) (ci := 0) (v := .int u2) (ty := .int) (C := RX0) (T := TX0) (N := 3) hx hb hts inlX0 tyX0 tyX0_ok nmX0 hown hE.1 hP hD hS 0 rfl rfl 1 (by decide) (hts _ (bg 15 7 rfl)) (fun _ h9 => h9) rfl (by decide +kernel) rfl rfl (Nat.le_of_ble_eq_true rfl) dX0_takeBack_57 (fun H locs hP hD hS => ?_)
      have hP : va_P G vwCl (wX0 q cI cZ cO (upd I 0 u2) S T ++ wX4 q1 cI cZ cO z2.1 z2.2) H := hP
      have hD : va_D Z (wX0 q cI cZ cO (upd I 0 u2) S T ++ wX4 q1 cI cZ cO z2.1 z2.2) := hD
      refine lv_aload_n hx hb dX0_takeBack_60 rfl (lv_at hl 1 rfl) ?_
      refine lv_dup hx hb dX0_takeBack_61 rfl ?_
      refine va_get (D := G) (ci := 0) (v := .int ((I 1))) (C := RX0) (T := TX0) (N := 3) hx hb hts inlX0 hown hE.1 hP 0 rfl rfl 2 (by decide) (hts _ (bg 15 8 rfl)) (fun _ h9 => h9) rfl dX0_takeBack_62 ?_
      refine lv_iconst (v := 1) hx hb dX0_takeBack_65 (by decide) ?_
      refine lv_isub hx hb dX0_takeBack_66 ?_
      refine va_put (D := G) (ci := 0) (v := .int ((I 1) - 1)) (ty := .int) (C := RX0) (T := TX0) (N := 3) hx hb hts inlX0 tyX0 tyX0_ok nmX0 hown hE.1 hP hD hS 0 rfl rfl 2 (by decide) (hts _ (bg 15 8 rfl)) (fun _ h9 => h9) rfl (by decide +kernel) rfl rfl (Nat.le_of_ble_eq_true rfl) dX0_takeBack_67 (fun H locs hP hD hS => ?_)
      have hP : va_P G vwCl (wX0 q cI cZ cO (upd (upd I 0 u2) 1 ((I 1) - 1)) S T ++ wX4 q1 cI cZ cO z2.1 z2.2) H := hP
      have hD : va_D Z (wX0 q cI cZ cO (upd (upd I 0 u2) 1 ((I 1) - 1)) S T ++ wX4 q1 cI cZ cO z2.1 z2.2) := hD
      refine lv_iconst (v := 1) hx hb dX0_takeBack_70 (by decide) ?_
      have e9 := Option.some.inj hf
      exact fin H locs 71 ls _ (Prod.mk.inj e9).1 (nar_z (Or.inr (Prod.mk.inj e9).1.symm)) (by rw [← (Prod.mk.inj (Prod.mk.inj e9).2).1, ← (Prod.mk.inj (Prod.mk.inj (Prod.mk.inj e9).2).2).1, ← (Prod.mk.inj (Prod.mk.inj (Prod.mk.inj e9).2).2).2]; exact hP) hS dX0_takeBack_71
  have b_35r7 : ∀ (I : Nat → Int32) (I1 : Nat → Int32) (A1 : Nat → Nat → Int32) (u2 : Int32), ∀ (H : Heap) (locs : List Loc), va_P G vwCl (wX0 q cI cZ cO I S T ++ wX4 q1 cI cZ cO I1 A1) H → va_D Z (wX0 q cI cZ cO I S T ++ wX4 q1 cI cZ cO I1 A1) → va_S Z s.heap H locs → ∀ ls : Array Slot, lv_has ls 4 [(0, .ref (q 0)), (1, .ref (q1 0)), (2, .int u2)] → fX0_takeBack_35r7 N I S T I1 A1 u2 = some (r, Iz, I1z, A1z) → W p l e rmX0_takeBack s m [.ref (q 0), .ref (q1 0)].toArray below meth cd H locs 0 0 Q (F0 m 35 ls [.ref (q 26)]) := by
    intro I I1 A1 u2 H locs hP hD hS ls hl hf
    unfold fX0_takeBack_35r7 at hf
    refine lv_astore_n (lv' := [(3, .ref (q 26)), (0, .ref (q 0)), (1, .ref (q1 0)), (2, .int u2)]) hx hb dX0_takeBack_35 rfl hl (by decide) rfl (fun ls hl => ?_)
    refine lv_aload_n hx hb dX0_takeBack_36 rfl (lv_at hl 1 rfl) ?_
    refine va_get (D := G) (ci := 0) (v := .int ((I 1))) (C := RX0) (T := TX0) (N := 3) hx hb hts inlX0 hown hE.1 hP 0 rfl rfl 2 (by decide) (hts _ (bg 15 8 rfl)) (fun _ h9 => h9) rfl dX0_takeBack_37 ?_
    refine lv_iconst (v := 1) hx hb dX0_takeBack_40 (by decide) ?_
    refine lv_icmp_lt (tgt := 48) hx hb dX0_takeBack_41 (by decide) (fun c1 => ?_) (fun c1 => ?_)
    · rw [if_pos c1] at hf
      exact b_48 I I1 A1 H locs hP hD hS ls (lv_sub hl [] rfl) hf
    · rw [if_neg c1] at hf
      refine lv_aload_n hx hb dX0_takeBack_44 rfl (lv_at hl 0 rfl) ?_
      refine lv_ifnonnull (tgt := 50) hx hb dX0_takeBack_45 (by decide) ?_
      refine lv_aload_n hx hb dX0_takeBack_50 rfl (lv_at hl 2 rfl) ?_
      refine lv_aload_n hx hb dX0_takeBack_51 rfl (lv_at hl 0 rfl) ?_
      obtain ⟨z2, hz2, hf⟩ := bnd hf
      refine x_wrVv (C := RX4) (n := 1) (ci := 4) (ws1 := (wX0 q cI cZ cO I S T ++ wX4 q1 cI cZ cO z2.1 z2.2)) hx hb hml hown hts hE (ct_X4_copyFrom N l G cI cZ cO q1 I1 A1 (sh q 26) (S 6) (T 6) z2.1 z2.2 hz2) (bg 15 13 rfl) mb_X4_copyFrom.1 mb_X4_copyFrom.2.1 mb_X4_copyFrom.2.2.1 mb_X4_copyFrom.2.2.2 hd_X4_copyFrom rfl (by decide) hP hD hS hA [58, 59, 60, 61, 26, 27, 28, 29] [false, false, false, false, false, false, false, false, false, false, false, false, false, false, false, false, false, false, false, false, false, false, false, false, false, false, true, true, true, true, false, false, false, false, false, false, false, false, false, false, false, false, false, false, false, false, false, false, false, false, false, false, false, false, false, false, false, false, true, true, true, true] (by decide) (by decide +kernel) rfl rfl ⟨rfl, rfl, rfl, rfl, rfl, rfl, rfl, rfl, rfl, rfl, rfl, rfl, rfl, rfl, rfl, rfl, rfl, rfl, rfl, rfl, rfl, rfl, rfl, rfl, rfl, rfl, rfl, rfl, rfl, rfl, rfl, rfl, rfl, rfl, rfl, rfl, rfl, rfl, rfl, rfl, rfl, rfl, rfl, rfl, rfl, rfl, rfl, rfl, rfl, rfl, rfl, rfl, rfl, rfl, rfl, rfl, rfl, rfl, rfl, rfl, rfl, rfl, trivial⟩ rfl rfl rfl rfl hl.1 (Nat.le_of_ble_eq_true rfl) ⟨Nat.zero_le _, Nat.zero_le _⟩ dX0_takeBack_52 (fun H locs hP hD hS => ?_)
      refine lv_aload_n hx hb dX0_takeBack_55 rfl (lv_at hl 1 rfl) ?_
      refine lv_iload_n hx hb dX0_takeBack_56 rfl (lv_at hl 3 rfl) ?_
      refine va_put (D := G) (ci := 0) (v := .int u2) (ty := .int) (C := RX0) (T := TX0) (N := 3) hx hb hts inlX0 tyX0 tyX0_ok nmX0 hown hE.1 hP hD hS 0 rfl rfl 1 (by decide) (hts _ (bg 15 7 rfl)) (fun _ h9 => h9) rfl (by decide +kernel) rfl rfl (Nat.le_of_ble_eq_true rfl) dX0_takeBack_57 (fun H locs hP hD hS => ?_)
      have hP : va_P G vwCl (wX0 q cI cZ cO (upd I 0 u2) S T ++ wX4 q1 cI cZ cO z2.1 z2.2) H := hP
      have hD : va_D Z (wX0 q cI cZ cO (upd I 0 u2) S T ++ wX4 q1 cI cZ cO z2.1 z2.2) := hD
      refine lv_aload_n hx hb dX0_takeBack_60 rfl (lv_at hl 1 rfl) ?_
      refine lv_dup hx hb dX0_takeBack_61 rfl ?_
      refine va_get (D := G) (ci := 0) (v := .int ((I 1))) (C := RX0) (T := TX0) (N := 3) hx hb hts inlX0 hown hE.1 hP 0 rfl rfl 2 (by decide) (hts _ (bg 15 8 rfl)) (fun _ h9 => h9) rfl dX0_takeBack_62 ?_
      refine lv_iconst (v := 1) hx hb dX0_takeBack_65 (by decide) ?_
      refine lv_isub hx hb dX0_takeBack_66 ?_
      refine va_put (D := G) (ci := 0) (v := .int ((I 1) - 1)) (ty := .int) (C := RX0) (T := TX0) (N := 3) hx hb hts inlX0 tyX0 tyX0_ok nmX0 hown hE.1 hP hD hS 0 rfl rfl 2 (by decide) (hts _ (bg 15 8 rfl)) (fun _ h9 => h9) rfl (by decide +kernel) rfl rfl (Nat.le_of_ble_eq_true rfl) dX0_takeBack_67 (fun H locs hP hD hS => ?_)
      have hP : va_P G vwCl (wX0 q cI cZ cO (upd (upd I 0 u2) 1 ((I 1) - 1)) S T ++ wX4 q1 cI cZ cO z2.1 z2.2) H := hP
      have hD : va_D Z (wX0 q cI cZ cO (upd (upd I 0 u2) 1 ((I 1) - 1)) S T ++ wX4 q1 cI cZ cO z2.1 z2.2) := hD
      refine lv_iconst (v := 1) hx hb dX0_takeBack_70 (by decide) ?_
      have e9 := Option.some.inj hf
      exact fin H locs 71 ls _ (Prod.mk.inj e9).1 (nar_z (Or.inr (Prod.mk.inj e9).1.symm)) (by rw [← (Prod.mk.inj (Prod.mk.inj e9).2).1, ← (Prod.mk.inj (Prod.mk.inj (Prod.mk.inj e9).2).2).1, ← (Prod.mk.inj (Prod.mk.inj (Prod.mk.inj e9).2).2).2]; exact hP) hS dX0_takeBack_71
  have b_35r8 : ∀ (I : Nat → Int32) (I1 : Nat → Int32) (A1 : Nat → Nat → Int32) (u2 : Int32), ∀ (H : Heap) (locs : List Loc), va_P G vwCl (wX0 q cI cZ cO I S T ++ wX4 q1 cI cZ cO I1 A1) H → va_D Z (wX0 q cI cZ cO I S T ++ wX4 q1 cI cZ cO I1 A1) → va_S Z s.heap H locs → ∀ ls : Array Slot, lv_has ls 4 [(0, .ref (q 0)), (1, .ref (q1 0)), (2, .int u2)] → fX0_takeBack_35r8 N I S T I1 A1 u2 = some (r, Iz, I1z, A1z) → W p l e rmX0_takeBack s m [.ref (q 0), .ref (q1 0)].toArray below meth cd H locs 0 0 Q (F0 m 35 ls [.ref (q 30)]) := by
    intro I I1 A1 u2 H locs hP hD hS ls hl hf
    unfold fX0_takeBack_35r8 at hf
    refine lv_astore_n (lv' := [(3, .ref (q 30)), (0, .ref (q 0)), (1, .ref (q1 0)), (2, .int u2)]) hx hb dX0_takeBack_35 rfl hl (by decide) rfl (fun ls hl => ?_)
    refine lv_aload_n hx hb dX0_takeBack_36 rfl (lv_at hl 1 rfl) ?_
    refine va_get (D := G) (ci := 0) (v := .int ((I 1))) (C := RX0) (T := TX0) (N := 3) hx hb hts inlX0 hown hE.1 hP 0 rfl rfl 2 (by decide) (hts _ (bg 15 8 rfl)) (fun _ h9 => h9) rfl dX0_takeBack_37 ?_
    refine lv_iconst (v := 1) hx hb dX0_takeBack_40 (by decide) ?_
    refine lv_icmp_lt (tgt := 48) hx hb dX0_takeBack_41 (by decide) (fun c1 => ?_) (fun c1 => ?_)
    · rw [if_pos c1] at hf
      exact b_48 I I1 A1 H locs hP hD hS ls (lv_sub hl [] rfl) hf
    · rw [if_neg c1] at hf
      refine lv_aload_n hx hb dX0_takeBack_44 rfl (lv_at hl 0 rfl) ?_
      refine lv_ifnonnull (tgt := 50) hx hb dX0_takeBack_45 (by decide) ?_
      refine lv_aload_n hx hb dX0_takeBack_50 rfl (lv_at hl 2 rfl) ?_
      refine lv_aload_n hx hb dX0_takeBack_51 rfl (lv_at hl 0 rfl) ?_
      obtain ⟨z2, hz2, hf⟩ := bnd hf
      refine x_wrVv (C := RX4) (n := 1) (ci := 4) (ws1 := (wX0 q cI cZ cO I S T ++ wX4 q1 cI cZ cO z2.1 z2.2)) hx hb hml hown hts hE (ct_X4_copyFrom N l G cI cZ cO q1 I1 A1 (sh q 30) (S 7) (T 7) z2.1 z2.2 hz2) (bg 15 13 rfl) mb_X4_copyFrom.1 mb_X4_copyFrom.2.1 mb_X4_copyFrom.2.2.1 mb_X4_copyFrom.2.2.2 hd_X4_copyFrom rfl (by decide) hP hD hS hA [58, 59, 60, 61, 30, 31, 32, 33] [false, false, false, false, false, false, false, false, false, false, false, false, false, false, false, false, false, false, false, false, false, false, false, false, false, false, false, false, false, false, true, true, true, true, false, false, false, false, false, false, false, false, false, false, false, false, false, false, false, false, false, false, false, false, false, false, false, false, true, true, true, true] (by decide) (by decide +kernel) rfl rfl ⟨rfl, rfl, rfl, rfl, rfl, rfl, rfl, rfl, rfl, rfl, rfl, rfl, rfl, rfl, rfl, rfl, rfl, rfl, rfl, rfl, rfl, rfl, rfl, rfl, rfl, rfl, rfl, rfl, rfl, rfl, rfl, rfl, rfl, rfl, rfl, rfl, rfl, rfl, rfl, rfl, rfl, rfl, rfl, rfl, rfl, rfl, rfl, rfl, rfl, rfl, rfl, rfl, rfl, rfl, rfl, rfl, rfl, rfl, rfl, rfl, rfl, rfl, trivial⟩ rfl rfl rfl rfl hl.1 (Nat.le_of_ble_eq_true rfl) ⟨Nat.zero_le _, Nat.zero_le _⟩ dX0_takeBack_52 (fun H locs hP hD hS => ?_)
      refine lv_aload_n hx hb dX0_takeBack_55 rfl (lv_at hl 1 rfl) ?_
      refine lv_iload_n hx hb dX0_takeBack_56 rfl (lv_at hl 3 rfl) ?_
      refine va_put (D := G) (ci := 0) (v := .int u2) (ty := .int) (C := RX0) (T := TX0) (N := 3) hx hb hts inlX0 tyX0 tyX0_ok nmX0 hown hE.1 hP hD hS 0 rfl rfl 1 (by decide) (hts _ (bg 15 7 rfl)) (fun _ h9 => h9) rfl (by decide +kernel) rfl rfl (Nat.le_of_ble_eq_true rfl) dX0_takeBack_57 (fun H locs hP hD hS => ?_)
      have hP : va_P G vwCl (wX0 q cI cZ cO (upd I 0 u2) S T ++ wX4 q1 cI cZ cO z2.1 z2.2) H := hP
      have hD : va_D Z (wX0 q cI cZ cO (upd I 0 u2) S T ++ wX4 q1 cI cZ cO z2.1 z2.2) := hD
      refine lv_aload_n hx hb dX0_takeBack_60 rfl (lv_at hl 1 rfl) ?_
      refine lv_dup hx hb dX0_takeBack_61 rfl ?_
      refine va_get (D := G) (ci := 0) (v := .int ((I 1))) (C := RX0) (T := TX0) (N := 3) hx hb hts inlX0 hown hE.1 hP 0 rfl rfl 2 (by decide) (hts _ (bg 15 8 rfl)) (fun _ h9 => h9) rfl dX0_takeBack_62 ?_
      refine lv_iconst (v := 1) hx hb dX0_takeBack_65 (by decide) ?_
      refine lv_isub hx hb dX0_takeBack_66 ?_
      refine va_put (D := G) (ci := 0) (v := .int ((I 1) - 1)) (ty := .int) (C := RX0) (T := TX0) (N := 3) hx hb hts inlX0 tyX0 tyX0_ok nmX0 hown hE.1 hP hD hS 0 rfl rfl 2 (by decide) (hts _ (bg 15 8 rfl)) (fun _ h9 => h9) rfl (by decide +kernel) rfl rfl (Nat.le_of_ble_eq_true rfl) dX0_takeBack_67 (fun H locs hP hD hS => ?_)
      have hP : va_P G vwCl (wX0 q cI cZ cO (upd (upd I 0 u2) 1 ((I 1) - 1)) S T ++ wX4 q1 cI cZ cO z2.1 z2.2) H := hP
      have hD : va_D Z (wX0 q cI cZ cO (upd (upd I 0 u2) 1 ((I 1) - 1)) S T ++ wX4 q1 cI cZ cO z2.1 z2.2) := hD
      refine lv_iconst (v := 1) hx hb dX0_takeBack_70 (by decide) ?_
      have e9 := Option.some.inj hf
      exact fin H locs 71 ls _ (Prod.mk.inj e9).1 (nar_z (Or.inr (Prod.mk.inj e9).1.symm)) (by rw [← (Prod.mk.inj (Prod.mk.inj e9).2).1, ← (Prod.mk.inj (Prod.mk.inj (Prod.mk.inj e9).2).2).1, ← (Prod.mk.inj (Prod.mk.inj (Prod.mk.inj e9).2).2).2]; exact hP) hS dX0_takeBack_71
  have b_35r9 : ∀ (I : Nat → Int32) (I1 : Nat → Int32) (A1 : Nat → Nat → Int32) (u2 : Int32), ∀ (H : Heap) (locs : List Loc), va_P G vwCl (wX0 q cI cZ cO I S T ++ wX4 q1 cI cZ cO I1 A1) H → va_D Z (wX0 q cI cZ cO I S T ++ wX4 q1 cI cZ cO I1 A1) → va_S Z s.heap H locs → ∀ ls : Array Slot, lv_has ls 4 [(0, .ref (q 0)), (1, .ref (q1 0)), (2, .int u2)] → fX0_takeBack_35r9 N I S T I1 A1 u2 = some (r, Iz, I1z, A1z) → W p l e rmX0_takeBack s m [.ref (q 0), .ref (q1 0)].toArray below meth cd H locs 0 0 Q (F0 m 35 ls [.ref (q 34)]) := by
    intro I I1 A1 u2 H locs hP hD hS ls hl hf
    unfold fX0_takeBack_35r9 at hf
    refine lv_astore_n (lv' := [(3, .ref (q 34)), (0, .ref (q 0)), (1, .ref (q1 0)), (2, .int u2)]) hx hb dX0_takeBack_35 rfl hl (by decide) rfl (fun ls hl => ?_)
    refine lv_aload_n hx hb dX0_takeBack_36 rfl (lv_at hl 1 rfl) ?_
    refine va_get (D := G) (ci := 0) (v := .int ((I 1))) (C := RX0) (T := TX0) (N := 3) hx hb hts inlX0 hown hE.1 hP 0 rfl rfl 2 (by decide) (hts _ (bg 15 8 rfl)) (fun _ h9 => h9) rfl dX0_takeBack_37 ?_
    refine lv_iconst (v := 1) hx hb dX0_takeBack_40 (by decide) ?_
    refine lv_icmp_lt (tgt := 48) hx hb dX0_takeBack_41 (by decide) (fun c1 => ?_) (fun c1 => ?_)
    · rw [if_pos c1] at hf
      exact b_48 I I1 A1 H locs hP hD hS ls (lv_sub hl [] rfl) hf
    · rw [if_neg c1] at hf
      refine lv_aload_n hx hb dX0_takeBack_44 rfl (lv_at hl 0 rfl) ?_
      refine lv_ifnonnull (tgt := 50) hx hb dX0_takeBack_45 (by decide) ?_
      refine lv_aload_n hx hb dX0_takeBack_50 rfl (lv_at hl 2 rfl) ?_
      refine lv_aload_n hx hb dX0_takeBack_51 rfl (lv_at hl 0 rfl) ?_
      obtain ⟨z2, hz2, hf⟩ := bnd hf
      refine x_wrVv (C := RX4) (n := 1) (ci := 4) (ws1 := (wX0 q cI cZ cO I S T ++ wX4 q1 cI cZ cO z2.1 z2.2)) hx hb hml hown hts hE (ct_X4_copyFrom N l G cI cZ cO q1 I1 A1 (sh q 34) (S 8) (T 8) z2.1 z2.2 hz2) (bg 15 13 rfl) mb_X4_copyFrom.1 mb_X4_copyFrom.2.1 mb_X4_copyFrom.2.2.1 mb_X4_copyFrom.2.2.2 hd_X4_copyFrom rfl (by decide) hP hD hS hA [58, 59, 60, 61, 34, 35, 36, 37] [false, false, false, false, false, false, false, false, false, false, false, false, false, false, false, false, false, false, false, false, false, false, false, false, false, false, false, false, false, false, false, false, false, false, true, true, true, true, false, false, false, false, false, false, false, false, false, false, false, false, false, false, false, false, false, false, false, false, true, true, true, true] (by decide) (by decide +kernel) rfl rfl ⟨rfl, rfl, rfl, rfl, rfl, rfl, rfl, rfl, rfl, rfl, rfl, rfl, rfl, rfl, rfl, rfl, rfl, rfl, rfl, rfl, rfl, rfl, rfl, rfl, rfl, rfl, rfl, rfl, rfl, rfl, rfl, rfl, rfl, rfl, rfl, rfl, rfl, rfl, rfl, rfl, rfl, rfl, rfl, rfl, rfl, rfl, rfl, rfl, rfl, rfl, rfl, rfl, rfl, rfl, rfl, rfl, rfl, rfl, rfl, rfl, rfl, rfl, trivial⟩ rfl rfl rfl rfl hl.1 (Nat.le_of_ble_eq_true rfl) ⟨Nat.zero_le _, Nat.zero_le _⟩ dX0_takeBack_52 (fun H locs hP hD hS => ?_)
      refine lv_aload_n hx hb dX0_takeBack_55 rfl (lv_at hl 1 rfl) ?_
      refine lv_iload_n hx hb dX0_takeBack_56 rfl (lv_at hl 3 rfl) ?_
      refine va_put (D := G) (ci := 0) (v := .int u2) (ty := .int) (C := RX0) (T := TX0) (N := 3) hx hb hts inlX0 tyX0 tyX0_ok nmX0 hown hE.1 hP hD hS 0 rfl rfl 1 (by decide) (hts _ (bg 15 7 rfl)) (fun _ h9 => h9) rfl (by decide +kernel) rfl rfl (Nat.le_of_ble_eq_true rfl) dX0_takeBack_57 (fun H locs hP hD hS => ?_)
      have hP : va_P G vwCl (wX0 q cI cZ cO (upd I 0 u2) S T ++ wX4 q1 cI cZ cO z2.1 z2.2) H := hP
      have hD : va_D Z (wX0 q cI cZ cO (upd I 0 u2) S T ++ wX4 q1 cI cZ cO z2.1 z2.2) := hD
      refine lv_aload_n hx hb dX0_takeBack_60 rfl (lv_at hl 1 rfl) ?_
      refine lv_dup hx hb dX0_takeBack_61 rfl ?_
      refine va_get (D := G) (ci := 0) (v := .int ((I 1))) (C := RX0) (T := TX0) (N := 3) hx hb hts inlX0 hown hE.1 hP 0 rfl rfl 2 (by decide) (hts _ (bg 15 8 rfl)) (fun _ h9 => h9) rfl dX0_takeBack_62 ?_
      refine lv_iconst (v := 1) hx hb dX0_takeBack_65 (by decide) ?_
      refine lv_isub hx hb dX0_takeBack_66 ?_
      refine va_put (D := G) (ci := 0) (v := .int ((I 1) - 1)) (ty := .int) (C := RX0) (T := TX0) (N := 3) hx hb hts inlX0 tyX0 tyX0_ok nmX0 hown hE.1 hP hD hS 0 rfl rfl 2 (by decide) (hts _ (bg 15 8 rfl)) (fun _ h9 => h9) rfl (by decide +kernel) rfl rfl (Nat.le_of_ble_eq_true rfl) dX0_takeBack_67 (fun H locs hP hD hS => ?_)
      have hP : va_P G vwCl (wX0 q cI cZ cO (upd (upd I 0 u2) 1 ((I 1) - 1)) S T ++ wX4 q1 cI cZ cO z2.1 z2.2) H := hP
      have hD : va_D Z (wX0 q cI cZ cO (upd (upd I 0 u2) 1 ((I 1) - 1)) S T ++ wX4 q1 cI cZ cO z2.1 z2.2) := hD
      refine lv_iconst (v := 1) hx hb dX0_takeBack_70 (by decide) ?_
      have e9 := Option.some.inj hf
      exact fin H locs 71 ls _ (Prod.mk.inj e9).1 (nar_z (Or.inr (Prod.mk.inj e9).1.symm)) (by rw [← (Prod.mk.inj (Prod.mk.inj e9).2).1, ← (Prod.mk.inj (Prod.mk.inj (Prod.mk.inj e9).2).2).1, ← (Prod.mk.inj (Prod.mk.inj (Prod.mk.inj e9).2).2).2]; exact hP) hS dX0_takeBack_71
  have b_35r10 : ∀ (I : Nat → Int32) (I1 : Nat → Int32) (A1 : Nat → Nat → Int32) (u2 : Int32), ∀ (H : Heap) (locs : List Loc), va_P G vwCl (wX0 q cI cZ cO I S T ++ wX4 q1 cI cZ cO I1 A1) H → va_D Z (wX0 q cI cZ cO I S T ++ wX4 q1 cI cZ cO I1 A1) → va_S Z s.heap H locs → ∀ ls : Array Slot, lv_has ls 4 [(0, .ref (q 0)), (1, .ref (q1 0)), (2, .int u2)] → fX0_takeBack_35r10 N I S T I1 A1 u2 = some (r, Iz, I1z, A1z) → W p l e rmX0_takeBack s m [.ref (q 0), .ref (q1 0)].toArray below meth cd H locs 0 0 Q (F0 m 35 ls [.ref (q 38)]) := by
    intro I I1 A1 u2 H locs hP hD hS ls hl hf
    unfold fX0_takeBack_35r10 at hf
    refine lv_astore_n (lv' := [(3, .ref (q 38)), (0, .ref (q 0)), (1, .ref (q1 0)), (2, .int u2)]) hx hb dX0_takeBack_35 rfl hl (by decide) rfl (fun ls hl => ?_)
    refine lv_aload_n hx hb dX0_takeBack_36 rfl (lv_at hl 1 rfl) ?_
    refine va_get (D := G) (ci := 0) (v := .int ((I 1))) (C := RX0) (T := TX0) (N := 3) hx hb hts inlX0 hown hE.1 hP 0 rfl rfl 2 (by decide) (hts _ (bg 15 8 rfl)) (fun _ h9 => h9) rfl dX0_takeBack_37 ?_
    refine lv_iconst (v := 1) hx hb dX0_takeBack_40 (by decide) ?_
    refine lv_icmp_lt (tgt := 48) hx hb dX0_takeBack_41 (by decide) (fun c1 => ?_) (fun c1 => ?_)
    · rw [if_pos c1] at hf
      exact b_48 I I1 A1 H locs hP hD hS ls (lv_sub hl [] rfl) hf
    · rw [if_neg c1] at hf
      refine lv_aload_n hx hb dX0_takeBack_44 rfl (lv_at hl 0 rfl) ?_
      refine lv_ifnonnull (tgt := 50) hx hb dX0_takeBack_45 (by decide) ?_
      refine lv_aload_n hx hb dX0_takeBack_50 rfl (lv_at hl 2 rfl) ?_
      refine lv_aload_n hx hb dX0_takeBack_51 rfl (lv_at hl 0 rfl) ?_
      obtain ⟨z2, hz2, hf⟩ := bnd hf
      refine x_wrVv (C := RX4) (n := 1) (ci := 4) (ws1 := (wX0 q cI cZ cO I S T ++ wX4 q1 cI cZ cO z2.1 z2.2)) hx hb hml hown hts hE (ct_X4_copyFrom N l G cI cZ cO q1 I1 A1 (sh q 38) (S 9) (T 9) z2.1 z2.2 hz2) (bg 15 13 rfl) mb_X4_copyFrom.1 mb_X4_copyFrom.2.1 mb_X4_copyFrom.2.2.1 mb_X4_copyFrom.2.2.2 hd_X4_copyFrom rfl (by decide) hP hD hS hA [58, 59, 60, 61, 38, 39, 40, 41] [false, false, false, false, false, false, false, false, false, false, false, false, false, false, false, false, false, false, false, false, false, false, false, false, false, false, false, false, false, false, false, false, false, false, false, false, false, false, true, true, true, true, false, false, false, false, false, false, false, false, false, false, false, false, false, false, false, false, true, true, true, true] (by decide) (by decide +kernel) rfl rfl ⟨rfl, rfl, rfl, rfl, rfl, rfl, rfl, rfl, rfl, rfl, rfl, rfl, rfl, rfl, rfl, rfl, rfl, rfl, rfl, rfl, rfl, rfl, rfl, rfl, rfl, rfl, rfl, rfl, rfl, rfl, rfl, rfl, rfl, rfl, rfl, rfl, rfl, rfl, rfl, rfl, rfl, rfl, rfl, rfl, rfl, rfl, rfl, rfl, rfl, rfl, rfl, rfl, rfl, rfl, rfl, rfl, rfl, rfl, rfl, rfl, rfl, rfl, trivial⟩ rfl rfl rfl rfl hl.1 (Nat.le_of_ble_eq_true rfl) ⟨Nat.zero_le _, Nat.zero_le _⟩ dX0_takeBack_52 (fun H locs hP hD hS => ?_)
      refine lv_aload_n hx hb dX0_takeBack_55 rfl (lv_at hl 1 rfl) ?_
      refine lv_iload_n hx hb dX0_takeBack_56 rfl (lv_at hl 3 rfl) ?_
      refine va_put (D := G) (ci := 0) (v := .int u2) (ty := .int) (C := RX0) (T := TX0) (N := 3) hx hb hts inlX0 tyX0 tyX0_ok nmX0 hown hE.1 hP hD hS 0 rfl rfl 1 (by decide) (hts _ (bg 15 7 rfl)) (fun _ h9 => h9) rfl (by decide +kernel) rfl rfl (Nat.le_of_ble_eq_true rfl) dX0_takeBack_57 (fun H locs hP hD hS => ?_)
      have hP : va_P G vwCl (wX0 q cI cZ cO (upd I 0 u2) S T ++ wX4 q1 cI cZ cO z2.1 z2.2) H := hP
      have hD : va_D Z (wX0 q cI cZ cO (upd I 0 u2) S T ++ wX4 q1 cI cZ cO z2.1 z2.2) := hD
      refine lv_aload_n hx hb dX0_takeBack_60 rfl (lv_at hl 1 rfl) ?_
      refine lv_dup hx hb dX0_takeBack_61 rfl ?_
      refine va_get (D := G) (ci := 0) (v := .int ((I 1))) (C := RX0) (T := TX0) (N := 3) hx hb hts inlX0 hown hE.1 hP 0 rfl rfl 2 (by decide) (hts _ (bg 15 8 rfl)) (fun _ h9 => h9) rfl dX0_takeBack_62 ?_
      refine lv_iconst (v := 1) hx hb dX0_takeBack_65 (by decide) ?_
      refine lv_isub hx hb dX0_takeBack_66 ?_
      refine va_put (D := G) (ci := 0) (v := .int ((I 1) - 1)) (ty := .int) (C := RX0) (T := TX0) (N := 3) hx hb hts inlX0 tyX0 tyX0_ok nmX0 hown hE.1 hP hD hS 0 rfl rfl 2 (by decide) (hts _ (bg 15 8 rfl)) (fun _ h9 => h9) rfl (by decide +kernel) rfl rfl (Nat.le_of_ble_eq_true rfl) dX0_takeBack_67 (fun H locs hP hD hS => ?_)
      have hP : va_P G vwCl (wX0 q cI cZ cO (upd (upd I 0 u2) 1 ((I 1) - 1)) S T ++ wX4 q1 cI cZ cO z2.1 z2.2) H := hP
      have hD : va_D Z (wX0 q cI cZ cO (upd (upd I 0 u2) 1 ((I 1) - 1)) S T ++ wX4 q1 cI cZ cO z2.1 z2.2) := hD
      refine lv_iconst (v := 1) hx hb dX0_takeBack_70 (by decide) ?_
      have e9 := Option.some.inj hf
      exact fin H locs 71 ls _ (Prod.mk.inj e9).1 (nar_z (Or.inr (Prod.mk.inj e9).1.symm)) (by rw [← (Prod.mk.inj (Prod.mk.inj e9).2).1, ← (Prod.mk.inj (Prod.mk.inj (Prod.mk.inj e9).2).2).1, ← (Prod.mk.inj (Prod.mk.inj (Prod.mk.inj e9).2).2).2]; exact hP) hS dX0_takeBack_71
  have b_35r11 : ∀ (I : Nat → Int32) (I1 : Nat → Int32) (A1 : Nat → Nat → Int32) (u2 : Int32), ∀ (H : Heap) (locs : List Loc), va_P G vwCl (wX0 q cI cZ cO I S T ++ wX4 q1 cI cZ cO I1 A1) H → va_D Z (wX0 q cI cZ cO I S T ++ wX4 q1 cI cZ cO I1 A1) → va_S Z s.heap H locs → ∀ ls : Array Slot, lv_has ls 4 [(0, .ref (q 0)), (1, .ref (q1 0)), (2, .int u2)] → fX0_takeBack_35r11 N I S T I1 A1 u2 = some (r, Iz, I1z, A1z) → W p l e rmX0_takeBack s m [.ref (q 0), .ref (q1 0)].toArray below meth cd H locs 0 0 Q (F0 m 35 ls [.ref (q 42)]) := by
    intro I I1 A1 u2 H locs hP hD hS ls hl hf
    unfold fX0_takeBack_35r11 at hf
    refine lv_astore_n (lv' := [(3, .ref (q 42)), (0, .ref (q 0)), (1, .ref (q1 0)), (2, .int u2)]) hx hb dX0_takeBack_35 rfl hl (by decide) rfl (fun ls hl => ?_)
    refine lv_aload_n hx hb dX0_takeBack_36 rfl (lv_at hl 1 rfl) ?_
    refine va_get (D := G) (ci := 0) (v := .int ((I 1))) (C := RX0) (T := TX0) (N := 3) hx hb hts inlX0 hown hE.1 hP 0 rfl rfl 2 (by decide) (hts _ (bg 15 8 rfl)) (fun _ h9 => h9) rfl dX0_takeBack_37 ?_
    refine lv_iconst (v := 1) hx hb dX0_takeBack_40 (by decide) ?_
    refine lv_icmp_lt (tgt := 48) hx hb dX0_takeBack_41 (by decide) (fun c1 => ?_) (fun c1 => ?_)
    · rw [if_pos c1] at hf
      exact b_48 I I1 A1 H locs hP hD hS ls (lv_sub hl [] rfl) hf
    · rw [if_neg c1] at hf
      refine lv_aload_n hx hb dX0_takeBack_44 rfl (lv_at hl 0 rfl) ?_
      refine lv_ifnonnull (tgt := 50) hx hb dX0_takeBack_45 (by decide) ?_
      refine lv_aload_n hx hb dX0_takeBack_50 rfl (lv_at hl 2 rfl) ?_
      refine lv_aload_n hx hb dX0_takeBack_51 rfl (lv_at hl 0 rfl) ?_
      obtain ⟨z2, hz2, hf⟩ := bnd hf
      refine x_wrVv (C := RX4) (n := 1) (ci := 4) (ws1 := (wX0 q cI cZ cO I S T ++ wX4 q1 cI cZ cO z2.1 z2.2)) hx hb hml hown hts hE (ct_X4_copyFrom N l G cI cZ cO q1 I1 A1 (sh q 42) (S 10) (T 10) z2.1 z2.2 hz2) (bg 15 13 rfl) mb_X4_copyFrom.1 mb_X4_copyFrom.2.1 mb_X4_copyFrom.2.2.1 mb_X4_copyFrom.2.2.2 hd_X4_copyFrom rfl (by decide) hP hD hS hA [58, 59, 60, 61, 42, 43, 44, 45] [false, false, false, false, false, false, false, false, false, false, false, false, false, false, false, false, false, false, false, false, false, false, false, false, false, false, false, false, false, false, false, false, false, false, false, false, false, false, false, false, false, false, true, true, true, true, false, false, false, false, false, false, false, false, false, false, false, false, true, true, true, true] (by decide) (by decide +kernel) rfl rfl ⟨rfl, rfl, rfl, rfl, rfl, rfl, rfl, rfl, rfl, rfl, rfl, rfl, rfl, rfl, rfl, rfl, rfl, rfl, rfl, rfl, rfl, rfl, rfl, rfl, rfl, rfl, rfl, rfl, rfl, rfl, rfl, rfl, rfl, rfl, rfl, rfl, rfl, rfl, rfl, rfl, rfl, rfl, rfl, rfl, rfl, rfl, rfl, rfl, rfl, rfl, rfl, rfl, rfl, rfl, rfl, rfl, rfl, rfl, rfl, rfl, rfl, rfl, trivial⟩ rfl rfl rfl rfl hl.1 (Nat.le_of_ble_eq_true rfl) ⟨Nat.zero_le _, Nat.zero_le _⟩ dX0_takeBack_52 (fun H locs hP hD hS => ?_)
      refine lv_aload_n hx hb dX0_takeBack_55 rfl (lv_at hl 1 rfl) ?_
      refine lv_iload_n hx hb dX0_takeBack_56 rfl (lv_at hl 3 rfl) ?_
      refine va_put (D := G) (ci := 0) (v := .int u2) (ty := .int) (C := RX0) (T := TX0) (N := 3) hx hb hts inlX0 tyX0 tyX0_ok nmX0 hown hE.1 hP hD hS 0 rfl rfl 1 (by decide) (hts _ (bg 15 7 rfl)) (fun _ h9 => h9) rfl (by decide +kernel) rfl rfl (Nat.le_of_ble_eq_true rfl) dX0_takeBack_57 (fun H locs hP hD hS => ?_)
      have hP : va_P G vwCl (wX0 q cI cZ cO (upd I 0 u2) S T ++ wX4 q1 cI cZ cO z2.1 z2.2) H := hP
      have hD : va_D Z (wX0 q cI cZ cO (upd I 0 u2) S T ++ wX4 q1 cI cZ cO z2.1 z2.2) := hD
      refine lv_aload_n hx hb dX0_takeBack_60 rfl (lv_at hl 1 rfl) ?_
      refine lv_dup hx hb dX0_takeBack_61 rfl ?_
      refine va_get (D := G) (ci := 0) (v := .int ((I 1))) (C := RX0) (T := TX0) (N := 3) hx hb hts inlX0 hown hE.1 hP 0 rfl rfl 2 (by decide) (hts _ (bg 15 8 rfl)) (fun _ h9 => h9) rfl dX0_takeBack_62 ?_
      refine lv_iconst (v := 1) hx hb dX0_takeBack_65 (by decide) ?_
      refine lv_isub hx hb dX0_takeBack_66 ?_
      refine va_put (D := G) (ci := 0) (v := .int ((I 1) - 1)) (ty := .int) (C := RX0) (T := TX0) (N := 3) hx hb hts inlX0 tyX0 tyX0_ok nmX0 hown hE.1 hP hD hS 0 rfl rfl 2 (by decide) (hts _ (bg 15 8 rfl)) (fun _ h9 => h9) rfl (by decide +kernel) rfl rfl (Nat.le_of_ble_eq_true rfl) dX0_takeBack_67 (fun H locs hP hD hS => ?_)
      have hP : va_P G vwCl (wX0 q cI cZ cO (upd (upd I 0 u2) 1 ((I 1) - 1)) S T ++ wX4 q1 cI cZ cO z2.1 z2.2) H := hP
      have hD : va_D Z (wX0 q cI cZ cO (upd (upd I 0 u2) 1 ((I 1) - 1)) S T ++ wX4 q1 cI cZ cO z2.1 z2.2) := hD
      refine lv_iconst (v := 1) hx hb dX0_takeBack_70 (by decide) ?_
      have e9 := Option.some.inj hf
      exact fin H locs 71 ls _ (Prod.mk.inj e9).1 (nar_z (Or.inr (Prod.mk.inj e9).1.symm)) (by rw [← (Prod.mk.inj (Prod.mk.inj e9).2).1, ← (Prod.mk.inj (Prod.mk.inj (Prod.mk.inj e9).2).2).1, ← (Prod.mk.inj (Prod.mk.inj (Prod.mk.inj e9).2).2).2]; exact hP) hS dX0_takeBack_71
  have b_35r12 : ∀ (I : Nat → Int32) (I1 : Nat → Int32) (A1 : Nat → Nat → Int32) (u2 : Int32), ∀ (H : Heap) (locs : List Loc), va_P G vwCl (wX0 q cI cZ cO I S T ++ wX4 q1 cI cZ cO I1 A1) H → va_D Z (wX0 q cI cZ cO I S T ++ wX4 q1 cI cZ cO I1 A1) → va_S Z s.heap H locs → ∀ ls : Array Slot, lv_has ls 4 [(0, .ref (q 0)), (1, .ref (q1 0)), (2, .int u2)] → fX0_takeBack_35r12 N I S T I1 A1 u2 = some (r, Iz, I1z, A1z) → W p l e rmX0_takeBack s m [.ref (q 0), .ref (q1 0)].toArray below meth cd H locs 0 0 Q (F0 m 35 ls [.ref (q 46)]) := by
    intro I I1 A1 u2 H locs hP hD hS ls hl hf
    unfold fX0_takeBack_35r12 at hf
    refine lv_astore_n (lv' := [(3, .ref (q 46)), (0, .ref (q 0)), (1, .ref (q1 0)), (2, .int u2)]) hx hb dX0_takeBack_35 rfl hl (by decide) rfl (fun ls hl => ?_)
    refine lv_aload_n hx hb dX0_takeBack_36 rfl (lv_at hl 1 rfl) ?_
    refine va_get (D := G) (ci := 0) (v := .int ((I 1))) (C := RX0) (T := TX0) (N := 3) hx hb hts inlX0 hown hE.1 hP 0 rfl rfl 2 (by decide) (hts _ (bg 15 8 rfl)) (fun _ h9 => h9) rfl dX0_takeBack_37 ?_
    refine lv_iconst (v := 1) hx hb dX0_takeBack_40 (by decide) ?_
    refine lv_icmp_lt (tgt := 48) hx hb dX0_takeBack_41 (by decide) (fun c1 => ?_) (fun c1 => ?_)
    · rw [if_pos c1] at hf
      exact b_48 I I1 A1 H locs hP hD hS ls (lv_sub hl [] rfl) hf
    · rw [if_neg c1] at hf
      refine lv_aload_n hx hb dX0_takeBack_44 rfl (lv_at hl 0 rfl) ?_
      refine lv_ifnonnull (tgt := 50) hx hb dX0_takeBack_45 (by decide) ?_
      refine lv_aload_n hx hb dX0_takeBack_50 rfl (lv_at hl 2 rfl) ?_
      refine lv_aload_n hx hb dX0_takeBack_51 rfl (lv_at hl 0 rfl) ?_
      obtain ⟨z2, hz2, hf⟩ := bnd hf
      refine x_wrVv (C := RX4) (n := 1) (ci := 4) (ws1 := (wX0 q cI cZ cO I S T ++ wX4 q1 cI cZ cO z2.1 z2.2)) hx hb hml hown hts hE (ct_X4_copyFrom N l G cI cZ cO q1 I1 A1 (sh q 46) (S 11) (T 11) z2.1 z2.2 hz2) (bg 15 13 rfl) mb_X4_copyFrom.1 mb_X4_copyFrom.2.1 mb_X4_copyFrom.2.2.1 mb_X4_copyFrom.2.2.2 hd_X4_copyFrom rfl (by decide) hP hD hS hA [58, 59, 60, 61, 46, 47, 48, 49] [false, false, false, false, false, false, false, false, false, false, false, false, false, false, false, false, false, false, false, false, false, false, false, false, false, false, false, false, false, false, false, false, false, false, false, false, false, false, false, false, false, false, false, false, false, false, true, true, true, true, false, false, false, false, false, false, false, false, true, true, true, true] (by decide) (by decide +kernel) rfl rfl ⟨rfl, rfl, rfl, rfl, rfl, rfl, rfl, rfl, rfl, rfl, rfl, rfl, rfl, rfl, rfl, rfl, rfl, rfl, rfl, rfl, rfl, rfl, rfl, rfl, rfl, rfl, rfl, rfl, rfl, rfl, rfl, rfl, rfl, rfl, rfl, rfl, rfl, rfl, rfl, rfl, rfl, rfl, rfl, rfl, rfl, rfl, rfl, rfl, rfl, rfl, rfl, rfl, rfl, rfl, rfl, rfl, rfl, rfl, rfl, rfl, rfl, rfl, trivial⟩ rfl rfl rfl rfl hl.1 (Nat.le_of_ble_eq_true rfl) ⟨Nat.zero_le _, Nat.zero_le _⟩ dX0_takeBack_52 (fun H locs hP hD hS => ?_)
      refine lv_aload_n hx hb dX0_takeBack_55 rfl (lv_at hl 1 rfl) ?_
      refine lv_iload_n hx hb dX0_takeBack_56 rfl (lv_at hl 3 rfl) ?_
      refine va_put (D := G) (ci := 0) (v := .int u2) (ty := .int) (C := RX0) (T := TX0) (N := 3) hx hb hts inlX0 tyX0 tyX0_ok nmX0 hown hE.1 hP hD hS 0 rfl rfl 1 (by decide) (hts _ (bg 15 7 rfl)) (fun _ h9 => h9) rfl (by decide +kernel) rfl rfl (Nat.le_of_ble_eq_true rfl) dX0_takeBack_57 (fun H locs hP hD hS => ?_)
      have hP : va_P G vwCl (wX0 q cI cZ cO (upd I 0 u2) S T ++ wX4 q1 cI cZ cO z2.1 z2.2) H := hP
      have hD : va_D Z (wX0 q cI cZ cO (upd I 0 u2) S T ++ wX4 q1 cI cZ cO z2.1 z2.2) := hD
      refine lv_aload_n hx hb dX0_takeBack_60 rfl (lv_at hl 1 rfl) ?_
      refine lv_dup hx hb dX0_takeBack_61 rfl ?_
      refine va_get (D := G) (ci := 0) (v := .int ((I 1))) (C := RX0) (T := TX0) (N := 3) hx hb hts inlX0 hown hE.1 hP 0 rfl rfl 2 (by decide) (hts _ (bg 15 8 rfl)) (fun _ h9 => h9) rfl dX0_takeBack_62 ?_
      refine lv_iconst (v := 1) hx hb dX0_takeBack_65 (by decide) ?_
      refine lv_isub hx hb dX0_takeBack_66 ?_
      refine va_put (D := G) (ci := 0) (v := .int ((I 1) - 1)) (ty := .int) (C := RX0) (T := TX0) (N := 3) hx hb hts inlX0 tyX0 tyX0_ok nmX0 hown hE.1 hP hD hS 0 rfl rfl 2 (by decide) (hts _ (bg 15 8 rfl)) (fun _ h9 => h9) rfl (by decide +kernel) rfl rfl (Nat.le_of_ble_eq_true rfl) dX0_takeBack_67 (fun H locs hP hD hS => ?_)
      have hP : va_P G vwCl (wX0 q cI cZ cO (upd (upd I 0 u2) 1 ((I 1) - 1)) S T ++ wX4 q1 cI cZ cO z2.1 z2.2) H := hP
      have hD : va_D Z (wX0 q cI cZ cO (upd (upd I 0 u2) 1 ((I 1) - 1)) S T ++ wX4 q1 cI cZ cO z2.1 z2.2) := hD
      refine lv_iconst (v := 1) hx hb dX0_takeBack_70 (by decide) ?_
      have e9 := Option.some.inj hf
      exact fin H locs 71 ls _ (Prod.mk.inj e9).1 (nar_z (Or.inr (Prod.mk.inj e9).1.symm)) (by rw [← (Prod.mk.inj (Prod.mk.inj e9).2).1, ← (Prod.mk.inj (Prod.mk.inj (Prod.mk.inj e9).2).2).1, ← (Prod.mk.inj (Prod.mk.inj (Prod.mk.inj e9).2).2).2]; exact hP) hS dX0_takeBack_71
  have b_35r13 : ∀ (I : Nat → Int32) (I1 : Nat → Int32) (A1 : Nat → Nat → Int32) (u2 : Int32), ∀ (H : Heap) (locs : List Loc), va_P G vwCl (wX0 q cI cZ cO I S T ++ wX4 q1 cI cZ cO I1 A1) H → va_D Z (wX0 q cI cZ cO I S T ++ wX4 q1 cI cZ cO I1 A1) → va_S Z s.heap H locs → ∀ ls : Array Slot, lv_has ls 4 [(0, .ref (q 0)), (1, .ref (q1 0)), (2, .int u2)] → fX0_takeBack_35r13 N I S T I1 A1 u2 = some (r, Iz, I1z, A1z) → W p l e rmX0_takeBack s m [.ref (q 0), .ref (q1 0)].toArray below meth cd H locs 0 0 Q (F0 m 35 ls [.ref (q 50)]) := by
    intro I I1 A1 u2 H locs hP hD hS ls hl hf
    unfold fX0_takeBack_35r13 at hf
    refine lv_astore_n (lv' := [(3, .ref (q 50)), (0, .ref (q 0)), (1, .ref (q1 0)), (2, .int u2)]) hx hb dX0_takeBack_35 rfl hl (by decide) rfl (fun ls hl => ?_)
    refine lv_aload_n hx hb dX0_takeBack_36 rfl (lv_at hl 1 rfl) ?_
    refine va_get (D := G) (ci := 0) (v := .int ((I 1))) (C := RX0) (T := TX0) (N := 3) hx hb hts inlX0 hown hE.1 hP 0 rfl rfl 2 (by decide) (hts _ (bg 15 8 rfl)) (fun _ h9 => h9) rfl dX0_takeBack_37 ?_
    refine lv_iconst (v := 1) hx hb dX0_takeBack_40 (by decide) ?_
    refine lv_icmp_lt (tgt := 48) hx hb dX0_takeBack_41 (by decide) (fun c1 => ?_) (fun c1 => ?_)
    · rw [if_pos c1] at hf
      exact b_48 I I1 A1 H locs hP hD hS ls (lv_sub hl [] rfl) hf
    · rw [if_neg c1] at hf
      refine lv_aload_n hx hb dX0_takeBack_44 rfl (lv_at hl 0 rfl) ?_
      refine lv_ifnonnull (tgt := 50) hx hb dX0_takeBack_45 (by decide) ?_
      refine lv_aload_n hx hb dX0_takeBack_50 rfl (lv_at hl 2 rfl) ?_
      refine lv_aload_n hx hb dX0_takeBack_51 rfl (lv_at hl 0 rfl) ?_
      obtain ⟨z2, hz2, hf⟩ := bnd hf
      refine x_wrVv (C := RX4) (n := 1) (ci := 4) (ws1 := (wX0 q cI cZ cO I S T ++ wX4 q1 cI cZ cO z2.1 z2.2)) hx hb hml hown hts hE (ct_X4_copyFrom N l G cI cZ cO q1 I1 A1 (sh q 50) (S 12) (T 12) z2.1 z2.2 hz2) (bg 15 13 rfl) mb_X4_copyFrom.1 mb_X4_copyFrom.2.1 mb_X4_copyFrom.2.2.1 mb_X4_copyFrom.2.2.2 hd_X4_copyFrom rfl (by decide) hP hD hS hA [58, 59, 60, 61, 50, 51, 52, 53] [false, false, false, false, false, false, false, false, false, false, false, false, false, false, false, false, false, false, false, false, false, false, false, false, false, false, false, false, false, false, false, false, false, false, false, false, false, false, false, false, false, false, false, false, false, false, false, false, false, false, true, true, true, true, false, false, false, false, true, true, true, true] (by decide) (by decide +kernel) rfl rfl ⟨rfl, rfl, rfl, rfl, rfl, rfl, rfl, rfl, rfl, rfl, rfl, rfl, rfl, rfl, rfl, rfl, rfl, rfl, rfl, rfl, rfl, rfl, rfl, rfl, rfl, rfl, rfl, rfl, rfl, rfl, rfl, rfl, rfl, rfl, rfl, rfl, rfl, rfl, rfl, rfl, rfl, rfl, rfl, rfl, rfl, rfl, rfl, rfl, rfl, rfl, rfl, rfl, rfl, rfl, rfl, rfl, rfl, rfl, rfl, rfl, rfl, rfl, trivial⟩ rfl rfl rfl rfl hl.1 (Nat.le_of_ble_eq_true rfl) ⟨Nat.zero_le _, Nat.zero_le _⟩ dX0_takeBack_52 (fun H locs hP hD hS => ?_)
      refine lv_aload_n hx hb dX0_takeBack_55 rfl (lv_at hl 1 rfl) ?_
      refine lv_iload_n hx hb dX0_takeBack_56 rfl (lv_at hl 3 rfl) ?_
      refine va_put (D := G) (ci := 0) (v := .int u2) (ty := .int) (C := RX0) (T := TX0) (N := 3) hx hb hts inlX0 tyX0 tyX0_ok nmX0 hown hE.1 hP hD hS 0 rfl rfl 1 (by decide) (hts _ (bg 15 7 rfl)) (fun _ h9 => h9) rfl (by decide +kernel) rfl rfl (Nat.le_of_ble_eq_true rfl) dX0_takeBack_57 (fun H locs hP hD hS => ?_)
      have hP : va_P G vwCl (wX0 q cI cZ cO (upd I 0 u2) S T ++ wX4 q1 cI cZ cO z2.1 z2.2) H := hP
      have hD : va_D Z (wX0 q cI cZ cO (upd I 0 u2) S T ++ wX4 q1 cI cZ cO z2.1 z2.2) := hD
      refine lv_aload_n hx hb dX0_takeBack_60 rfl (lv_at hl 1 rfl) ?_
      refine lv_dup hx hb dX0_takeBack_61 rfl ?_
      refine va_get (D := G) (ci := 0) (v := .int ((I 1))) (C := RX0) (T := TX0) (N := 3) hx hb hts inlX0 hown hE.1 hP 0 rfl rfl 2 (by decide) (hts _ (bg 15 8 rfl)) (fun _ h9 => h9) rfl dX0_takeBack_62 ?_
      refine lv_iconst (v := 1) hx hb dX0_takeBack_65 (by decide) ?_
      refine lv_isub hx hb dX0_takeBack_66 ?_
      refine va_put (D := G) (ci := 0) (v := .int ((I 1) - 1)) (ty := .int) (C := RX0) (T := TX0) (N := 3) hx hb hts inlX0 tyX0 tyX0_ok nmX0 hown hE.1 hP hD hS 0 rfl rfl 2 (by decide) (hts _ (bg 15 8 rfl)) (fun _ h9 => h9) rfl (by decide +kernel) rfl rfl (Nat.le_of_ble_eq_true rfl) dX0_takeBack_67 (fun H locs hP hD hS => ?_)
      have hP : va_P G vwCl (wX0 q cI cZ cO (upd (upd I 0 u2) 1 ((I 1) - 1)) S T ++ wX4 q1 cI cZ cO z2.1 z2.2) H := hP
      have hD : va_D Z (wX0 q cI cZ cO (upd (upd I 0 u2) 1 ((I 1) - 1)) S T ++ wX4 q1 cI cZ cO z2.1 z2.2) := hD
      refine lv_iconst (v := 1) hx hb dX0_takeBack_70 (by decide) ?_
      have e9 := Option.some.inj hf
      exact fin H locs 71 ls _ (Prod.mk.inj e9).1 (nar_z (Or.inr (Prod.mk.inj e9).1.symm)) (by rw [← (Prod.mk.inj (Prod.mk.inj e9).2).1, ← (Prod.mk.inj (Prod.mk.inj (Prod.mk.inj e9).2).2).1, ← (Prod.mk.inj (Prod.mk.inj (Prod.mk.inj e9).2).2).2]; exact hP) hS dX0_takeBack_71
  have b_35r14 : ∀ (I : Nat → Int32) (I1 : Nat → Int32) (A1 : Nat → Nat → Int32) (u2 : Int32), ∀ (H : Heap) (locs : List Loc), va_P G vwCl (wX0 q cI cZ cO I S T ++ wX4 q1 cI cZ cO I1 A1) H → va_D Z (wX0 q cI cZ cO I S T ++ wX4 q1 cI cZ cO I1 A1) → va_S Z s.heap H locs → ∀ ls : Array Slot, lv_has ls 4 [(0, .ref (q 0)), (1, .ref (q1 0)), (2, .int u2)] → fX0_takeBack_35r14 N I S T I1 A1 u2 = some (r, Iz, I1z, A1z) → W p l e rmX0_takeBack s m [.ref (q 0), .ref (q1 0)].toArray below meth cd H locs 0 0 Q (F0 m 35 ls [.ref (q 54)]) := by
    intro I I1 A1 u2 H locs hP hD hS ls hl hf
    unfold fX0_takeBack_35r14 at hf
    refine lv_astore_n (lv' := [(3, .ref (q 54)), (0, .ref (q 0)), (1, .ref (q1 0)), (2, .int u2)]) hx hb dX0_takeBack_35 rfl hl (by decide) rfl (fun ls hl => ?_)
    refine lv_aload_n hx hb dX0_takeBack_36 rfl (lv_at hl 1 rfl) ?_
    refine va_get (D := G) (ci := 0) (v := .int ((I 1))) (C := RX0) (T := TX0) (N := 3) hx hb hts inlX0 hown hE.1 hP 0 rfl rfl 2 (by decide) (hts _ (bg 15 8 rfl)) (fun _ h9 => h9) rfl dX0_takeBack_37 ?_
    refine lv_iconst (v := 1) hx hb dX0_takeBack_40 (by decide) ?_
    refine lv_icmp_lt (tgt := 48) hx hb dX0_takeBack_41 (by decide) (fun c1 => ?_) (fun c1 => ?_)
    · rw [if_pos c1] at hf
      exact b_48 I I1 A1 H locs hP hD hS ls (lv_sub hl [] rfl) hf
    · rw [if_neg c1] at hf
      refine lv_aload_n hx hb dX0_takeBack_44 rfl (lv_at hl 0 rfl) ?_
      refine lv_ifnonnull (tgt := 50) hx hb dX0_takeBack_45 (by decide) ?_
      refine lv_aload_n hx hb dX0_takeBack_50 rfl (lv_at hl 2 rfl) ?_
      refine lv_aload_n hx hb dX0_takeBack_51 rfl (lv_at hl 0 rfl) ?_
      obtain ⟨z2, hz2, hf⟩ := bnd hf
      refine x_wrVv (C := RX4) (n := 1) (ci := 4) (ws1 := (wX0 q cI cZ cO I S T ++ wX4 q1 cI cZ cO z2.1 z2.2)) hx hb hml hown hts hE (ct_X4_copyFrom N l G cI cZ cO q1 I1 A1 (sh q 54) (S 13) (T 13) z2.1 z2.2 hz2) (bg 15 13 rfl) mb_X4_copyFrom.1 mb_X4_copyFrom.2.1 mb_X4_copyFrom.2.2.1 mb_X4_copyFrom.2.2.2 hd_X4_copyFrom rfl (by decide) hP hD hS hA [58, 59, 60, 61, 54, 55, 56, 57] [false, false, false, false, false, false, false, false, false, false, false, false, false, false, false, false, false, false, false, false, false, false, false, false, false, false, false, false, false, false, false, false, false, false, false, false, false, false, false, false, false, false, false, false, false, false, false, false, false, false, false, false, false, false, true, true, true, true, true, true, true, true] (by decide) (by decide +kernel) rfl rfl ⟨rfl, rfl, rfl, rfl, rfl, rfl, rfl, rfl, rfl, rfl, rfl, rfl, rfl, rfl, rfl, rfl, rfl, rfl, rfl, rfl, rfl, rfl, rfl, rfl, rfl, rfl, rfl, rfl, rfl, rfl, rfl, rfl, rfl, rfl, rfl, rfl, rfl, rfl, rfl, rfl, rfl, rfl, rfl, rfl, rfl, rfl, rfl, rfl, rfl, rfl, rfl, rfl, rfl, rfl, rfl, rfl, rfl, rfl, rfl, rfl, rfl, rfl, trivial⟩ rfl rfl rfl rfl hl.1 (Nat.le_of_ble_eq_true rfl) ⟨Nat.zero_le _, Nat.zero_le _⟩ dX0_takeBack_52 (fun H locs hP hD hS => ?_)
      refine lv_aload_n hx hb dX0_takeBack_55 rfl (lv_at hl 1 rfl) ?_
      refine lv_iload_n hx hb dX0_takeBack_56 rfl (lv_at hl 3 rfl) ?_
      refine va_put (D := G) (ci := 0) (v := .int u2) (ty := .int) (C := RX0) (T := TX0) (N := 3) hx hb hts inlX0 tyX0 tyX0_ok nmX0 hown hE.1 hP hD hS 0 rfl rfl 1 (by decide) (hts _ (bg 15 7 rfl)) (fun _ h9 => h9) rfl (by decide +kernel) rfl rfl (Nat.le_of_ble_eq_true rfl) dX0_takeBack_57 (fun H locs hP hD hS => ?_)
      have hP : va_P G vwCl (wX0 q cI cZ cO (upd I 0 u2) S T ++ wX4 q1 cI cZ cO z2.1 z2.2) H := hP
      have hD : va_D Z (wX0 q cI cZ cO (upd I 0 u2) S T ++ wX4 q1 cI cZ cO z2.1 z2.2) := hD
      refine lv_aload_n hx hb dX0_takeBack_60 rfl (lv_at hl 1 rfl) ?_
      refine lv_dup hx hb dX0_takeBack_61 rfl ?_
      refine va_get (D := G) (ci := 0) (v := .int ((I 1))) (C := RX0) (T := TX0) (N := 3) hx hb hts inlX0 hown hE.1 hP 0 rfl rfl 2 (by decide) (hts _ (bg 15 8 rfl)) (fun _ h9 => h9) rfl dX0_takeBack_62 ?_
      refine lv_iconst (v := 1) hx hb dX0_takeBack_65 (by decide) ?_
      refine lv_isub hx hb dX0_takeBack_66 ?_
      refine va_put (D := G) (ci := 0) (v := .int ((I 1) - 1)) (ty := .int) (C := RX0) (T := TX0) (N := 3) hx hb hts inlX0 tyX0 tyX0_ok nmX0 hown hE.1 hP hD hS 0 rfl rfl 2 (by decide) (hts _ (bg 15 8 rfl)) (fun _ h9 => h9) rfl (by decide +kernel) rfl rfl (Nat.le_of_ble_eq_true rfl) dX0_takeBack_67 (fun H locs hP hD hS => ?_)
      have hP : va_P G vwCl (wX0 q cI cZ cO (upd (upd I 0 u2) 1 ((I 1) - 1)) S T ++ wX4 q1 cI cZ cO z2.1 z2.2) H := hP
      have hD : va_D Z (wX0 q cI cZ cO (upd (upd I 0 u2) 1 ((I 1) - 1)) S T ++ wX4 q1 cI cZ cO z2.1 z2.2) := hD
      refine lv_iconst (v := 1) hx hb dX0_takeBack_70 (by decide) ?_
      have e9 := Option.some.inj hf
      exact fin H locs 71 ls _ (Prod.mk.inj e9).1 (nar_z (Or.inr (Prod.mk.inj e9).1.symm)) (by rw [← (Prod.mk.inj (Prod.mk.inj e9).2).1, ← (Prod.mk.inj (Prod.mk.inj (Prod.mk.inj e9).2).2).1, ← (Prod.mk.inj (Prod.mk.inj (Prod.mk.inj e9).2).2).2]; exact hP) hS dX0_takeBack_71
  unfold fX0_takeBack at hf
  have hS : va_S Z s.heap s.heap [] := va_S.rf
  obtain ⟨H, hH⟩ : ∃ H, H = s.heap := ⟨_, rfl⟩
  obtain ⟨locs, hlocs⟩ : ∃ locs : List Loc, locs = [] := ⟨_, rfl⟩
  rw [← hlocs]
  rw [← hlocs] at hS
  suffices hW : ∀ H : Heap, va_P G vwCl (wX0 q cI cZ cO I S T ++ wX4 q1 cI cZ cO I1 A1) H → va_S Z s.heap H locs → W p l e rmX0_takeBack s m [.ref (q 0), .ref (q1 0)].toArray below meth cd H locs 0 0 Q (F0 m 0 ls []) from hW s.heap hP hS
  clear hP hS hH H
  intro H hP hS
  refine lv_aload_n hx hb dX0_takeBack_0 rfl (lv_at hl 0 rfl) ?_
  refine va_get (D := G) (ci := 0) (v := .int ((I 0))) (C := RX0) (T := TX0) (N := 3) hx hb hts inlX0 hown hE.1 hP 0 rfl rfl 1 (by decide) (hts _ (bg 15 7 rfl)) (fun _ h9 => h9) rfl dX0_takeBack_1 ?_
  refine lv_bipush (v := 14) hx hb dX0_takeBack_4 (by decide) ?_
  refine lv_iadd hx hb dX0_takeBack_6 ?_
  refine lv_iconst (v := 1) hx hb dX0_takeBack_7 (by decide) ?_
  refine lv_isub hx hb dX0_takeBack_8 ?_
  refine lv_bipush (v := 14) hx hb dX0_takeBack_9 (by decide) ?_
  refine x_irem hx hb dX0_takeBack_11 (by decide) ?_
  refine lv_istore_n (lv' := [(2, .int (rem (((I 0) + 14) - 1) 14)), (0, .ref (q 0)), (1, .ref (q1 0))]) hx hb dX0_takeBack_12 rfl hl (by decide) rfl (fun ls hl => ?_)
  refine lv_iload_n hx hb dX0_takeBack_13 rfl (lv_at hl 0 rfl) ?_
  refine lv_aload_n hx hb dX0_takeBack_14 rfl (lv_at hl 1 rfl) ?_
  refine va_get (D := G) (ci := 0) (v := .ref (q 1)) (C := RX0) (T := TX0) (N := 3) hx hb hts inlX0 hown hE.1 hP 0 rfl rfl 0 (by decide) (hts _ (bg 2 23 rfl)) (fun _ h9 => h9) rfl dX0_takeBack_15 ?_
  refine va_alen (v := 14) hx hb hE.1 hP 1 2 rfl rfl rfl dX0_takeBack_18 ?_
  obtain ⟨z1, hz1, hf⟩ := bnd hf
  refine x_rdN (n := 2) hx hb hml hown hts hE (ct_X6_isIndex N l G cI cZ cO (rem (((I 0) + 14) - 1) 14) 14 z1 hz1) (List.mem_of_getElem? (i := 13) rfl) mb_X6_isIndex.1 mb_X6_isIndex.2.1 mb_X6_isIndex.2.2 hd_X6_isIndex rfl (by decide) va_P_nil rfl hl.1 (Nat.le_of_ble_eq_true rfl) ⟨Nat.zero_le _, Nat.zero_le _⟩ dX0_takeBack_19 ?_
  refine lv_if_eq (tgt := 34) hx hb dX0_takeBack_22 (by decide) (fun c2 => ?_) (fun c2 => ?_)
  · rw [if_pos c2] at hf
    refine lv_null hx hb dX0_takeBack_34 ?_
    exact b_35 I I1 A1 (rem (((I 0) + 14) - 1) 14) H locs hP hD hS ls (lv_sub hl [1, 2, 0] rfl) hf
  · rw [if_neg c2] at hf
    refine lv_aload_n hx hb dX0_takeBack_25 rfl (lv_at hl 1 rfl) ?_
    refine va_get (D := G) (ci := 0) (v := .ref (q 1)) (C := RX0) (T := TX0) (N := 3) hx hb hts inlX0 hown hE.1 hP 0 rfl rfl 0 (by decide) (hts _ (bg 2 23 rfl)) (fun _ h9 => h9) rfl dX0_takeBack_26 ?_
    refine lv_iload_n hx hb dX0_takeBack_29 rfl (lv_at hl 0 rfl) ?_
    by_cases c3 : (rem (((I 0) + 14) - 1) 14) = 0
    · rw [if_pos c3] at hf
      refine x_aldq hx hb hE.1 hP 1 2 rfl rfl c3 (by decide) rfl dX0_takeBack_30 ?_
      refine lv_goto (tgt := 35) hx hb dX0_takeBack_31 (by decide) ?_
      exact b_35r1 I I1 A1 (rem (((I 0) + 14) - 1) 14) H locs hP hD hS ls (lv_sub hl [1, 2, 0] rfl) hf
    · rw [if_neg c3] at hf
      by_cases c4 : (rem (((I 0) + 14) - 1) 14) = 1
      · rw [if_pos c4] at hf
        refine x_aldq hx hb hE.1 hP 1 2 rfl rfl c4 (by decide) rfl dX0_takeBack_30 ?_
        refine lv_goto (tgt := 35) hx hb dX0_takeBack_31 (by decide) ?_
        exact b_35r2 I I1 A1 (rem (((I 0) + 14) - 1) 14) H locs hP hD hS ls (lv_sub hl [1, 2, 0] rfl) hf
      · rw [if_neg c4] at hf
        by_cases c5 : (rem (((I 0) + 14) - 1) 14) = 2
        · rw [if_pos c5] at hf
          refine x_aldq hx hb hE.1 hP 1 2 rfl rfl c5 (by decide) rfl dX0_takeBack_30 ?_
          refine lv_goto (tgt := 35) hx hb dX0_takeBack_31 (by decide) ?_
          exact b_35r3 I I1 A1 (rem (((I 0) + 14) - 1) 14) H locs hP hD hS ls (lv_sub hl [1, 2, 0] rfl) hf
        · rw [if_neg c5] at hf
          by_cases c6 : (rem (((I 0) + 14) - 1) 14) = 3
          · rw [if_pos c6] at hf
            refine x_aldq hx hb hE.1 hP 1 2 rfl rfl c6 (by decide) rfl dX0_takeBack_30 ?_
            refine lv_goto (tgt := 35) hx hb dX0_takeBack_31 (by decide) ?_
            exact b_35r4 I I1 A1 (rem (((I 0) + 14) - 1) 14) H locs hP hD hS ls (lv_sub hl [1, 2, 0] rfl) hf
          · rw [if_neg c6] at hf
            by_cases c7 : (rem (((I 0) + 14) - 1) 14) = 4
            · rw [if_pos c7] at hf
              refine x_aldq hx hb hE.1 hP 1 2 rfl rfl c7 (by decide) rfl dX0_takeBack_30 ?_
              refine lv_goto (tgt := 35) hx hb dX0_takeBack_31 (by decide) ?_
              exact b_35r5 I I1 A1 (rem (((I 0) + 14) - 1) 14) H locs hP hD hS ls (lv_sub hl [1, 2, 0] rfl) hf
            · rw [if_neg c7] at hf
              by_cases c8 : (rem (((I 0) + 14) - 1) 14) = 5
              · rw [if_pos c8] at hf
                refine x_aldq hx hb hE.1 hP 1 2 rfl rfl c8 (by decide) rfl dX0_takeBack_30 ?_
                refine lv_goto (tgt := 35) hx hb dX0_takeBack_31 (by decide) ?_
                exact b_35r6 I I1 A1 (rem (((I 0) + 14) - 1) 14) H locs hP hD hS ls (lv_sub hl [1, 2, 0] rfl) hf
              · rw [if_neg c8] at hf
                by_cases c9 : (rem (((I 0) + 14) - 1) 14) = 6
                · rw [if_pos c9] at hf
                  refine x_aldq hx hb hE.1 hP 1 2 rfl rfl c9 (by decide) rfl dX0_takeBack_30 ?_
                  refine lv_goto (tgt := 35) hx hb dX0_takeBack_31 (by decide) ?_
                  exact b_35r7 I I1 A1 (rem (((I 0) + 14) - 1) 14) H locs hP hD hS ls (lv_sub hl [1, 2, 0] rfl) hf
                · rw [if_neg c9] at hf
                  by_cases c10 : (rem (((I 0) + 14) - 1) 14) = 7
                  · rw [if_pos c10] at hf
                    refine x_aldq hx hb hE.1 hP 1 2 rfl rfl c10 (by decide) rfl dX0_takeBack_30 ?_
                    refine lv_goto (tgt := 35) hx hb dX0_takeBack_31 (by decide) ?_
                    exact b_35r8 I I1 A1 (rem (((I 0) + 14) - 1) 14) H locs hP hD hS ls (lv_sub hl [1, 2, 0] rfl) hf
                  · rw [if_neg c10] at hf
                    by_cases c11 : (rem (((I 0) + 14) - 1) 14) = 8
                    · rw [if_pos c11] at hf
                      refine x_aldq hx hb hE.1 hP 1 2 rfl rfl c11 (by decide) rfl dX0_takeBack_30 ?_
                      refine lv_goto (tgt := 35) hx hb dX0_takeBack_31 (by decide) ?_
                      exact b_35r9 I I1 A1 (rem (((I 0) + 14) - 1) 14) H locs hP hD hS ls (lv_sub hl [1, 2, 0] rfl) hf
                    · rw [if_neg c11] at hf
                      by_cases c12 : (rem (((I 0) + 14) - 1) 14) = 9
                      · rw [if_pos c12] at hf
                        refine x_aldq hx hb hE.1 hP 1 2 rfl rfl c12 (by decide) rfl dX0_takeBack_30 ?_
                        refine lv_goto (tgt := 35) hx hb dX0_takeBack_31 (by decide) ?_
                        exact b_35r10 I I1 A1 (rem (((I 0) + 14) - 1) 14) H locs hP hD hS ls (lv_sub hl [1, 2, 0] rfl) hf
                      · rw [if_neg c12] at hf
                        by_cases c13 : (rem (((I 0) + 14) - 1) 14) = 10
                        · rw [if_pos c13] at hf
                          refine x_aldq hx hb hE.1 hP 1 2 rfl rfl c13 (by decide) rfl dX0_takeBack_30 ?_
                          refine lv_goto (tgt := 35) hx hb dX0_takeBack_31 (by decide) ?_
                          exact b_35r11 I I1 A1 (rem (((I 0) + 14) - 1) 14) H locs hP hD hS ls (lv_sub hl [1, 2, 0] rfl) hf
                        · rw [if_neg c13] at hf
                          by_cases c14 : (rem (((I 0) + 14) - 1) 14) = 11
                          · rw [if_pos c14] at hf
                            refine x_aldq hx hb hE.1 hP 1 2 rfl rfl c14 (by decide) rfl dX0_takeBack_30 ?_
                            refine lv_goto (tgt := 35) hx hb dX0_takeBack_31 (by decide) ?_
                            exact b_35r12 I I1 A1 (rem (((I 0) + 14) - 1) 14) H locs hP hD hS ls (lv_sub hl [1, 2, 0] rfl) hf
                          · rw [if_neg c14] at hf
                            by_cases c15 : (rem (((I 0) + 14) - 1) 14) = 12
                            · rw [if_pos c15] at hf
                              refine x_aldq hx hb hE.1 hP 1 2 rfl rfl c15 (by decide) rfl dX0_takeBack_30 ?_
                              refine lv_goto (tgt := 35) hx hb dX0_takeBack_31 (by decide) ?_
                              exact b_35r13 I I1 A1 (rem (((I 0) + 14) - 1) 14) H locs hP hD hS ls (lv_sub hl [1, 2, 0] rfl) hf
                            · rw [if_neg c15] at hf
                              by_cases c16 : (rem (((I 0) + 14) - 1) 14) = 13
                              · rw [if_pos c16] at hf
                                refine x_aldq hx hb hE.1 hP 1 2 rfl rfl c16 (by decide) rfl dX0_takeBack_30 ?_
                                refine lv_goto (tgt := 35) hx hb dX0_takeBack_31 (by decide) ?_
                                exact b_35r14 I I1 A1 (rem (((I 0) + 14) - 1) 14) H locs hP hD hS ls (lv_sub hl [1, 2, 0] rfl) hf
                              · rw [if_neg c16] at hf
                                cases hf
def fX6_undo_26 (N : Nat) (wI : Nat → Int32) (wA : Nat → Nat → Int32) (aI : Nat → Int32) (aS : Nat → Nat → Int32) (aT : Nat → Nat → Nat → Int32) (y0 : Int32) : Option (Int32 × (Nat → Int32) × (Nat → Nat → Int32) × (Nat → Int32)) := some (y0, wI, wA, aI)
def fX6_undo (N : Nat) (wI : Nat → Int32) (wA : Nat → Nat → Int32) (aI : Nat → Int32) (aS : Nat → Nat → Int32) (aT : Nat → Nat → Nat → Int32) : Option (Int32 × (Nat → Int32) × (Nat → Nat → Int32) × (Nat → Int32)) := (fX0_takeBack N aI aS aT wI wA).bind fun z1 => if z1.1 = 0 then fX6_undo_26 N z1.2.2.1 z1.2.2.2 z1.2.1 aS aT (-3) else fX6_undo_26 N z1.2.2.1 z1.2.2.2 z1.2.1 aS aT (z1.2.1 1)
def rmX6_undo : Room := { frames := 3, cells := 0, slots := 0, locals := 104 }
theorem mb_X6_undo : Cond.instanceMethod yX6_undo ∈ wsL_law ∧ Cond.selects RX6 yX6_undo yX6_undo ∈ wsL_law ∧ Cond.initialized RX6 ∈ wsL_law ∧ Cond.code yX6_undo cX6_undo 1 (some .int) ∈ wsL_law := ⟨(bg 21 20 rfl), (bg 21 21 rfl), (bg 0 2 rfl), (bg 21 22 rfl)⟩
theorem hd_X6_undo : yX6_undo.cls = RX6 ∧ yX6_undo.cls ≠ "java/lang/invoke/MethodHandle" ∧ yX6_undo.cls ≠ "java/lang/invoke/VarHandle" ∧ (parseMethodDescriptor yX6_undo.desc).map (fun d => d.parameters.length) = some 0 := by decide +kernel
set_option maxRecDepth 100000 in
set_option maxHeartbeats 4000000 in
theorem ct_X6_undo (N : Nat) (l : Launch) (G : va_G) (cI cZ cO : ClassId) (q : Nat → Nat) (A : Nat → Nat → Int32) (L : Int64) (rI : Nat → Int32) (rA : Nat → Nat → Int32) (tI : Nat → Int32) (tA : Nat → Nat → Int32) (dI : Nat → Int32) (dA : Nat → Nat → Int32) (wI : Nat → Int32) (wA : Nat → Nat → Int32) (uI : Nat → Int32) (uA : Nat → Nat → Int32) (aI : Nat → Int32) (aS : Nat → Nat → Int32) (aT : Nat → Nat → Nat → Int32) (eI : Nat → Int32) (eA : Nat → Nat → Int32) (sS : Nat → Nat → Int32) (sT : Nat → Nat → Nat → Int32) (bI : Nat → Int32) (r : Int32) (wIz : Nat → Int32) (wAz : Nat → Nat → Int32) (aIz : Nat → Int32) (hf : fX6_undo N wI wA aI aS aT = some (r, wIz, wAz, aIz)) : CtI l yX6_undo cX6_undo 1 .int rmX6_undo G cI cZ cO [.ref (q 0)] (wX6 q cI cZ cO A L rI rA tI tA dI dA wI wA uI uA aI aS aT eI eA sS sT bI) (wX6 q cI cZ cO A L rI rA tI tA dI dA wIz wAz uI uA aIz aS aT eI eA sS sT bI) r := by
  refine mkCI (by decide) (Nat.le_of_ble_eq_true rfl) ?_
  intro p e s m below meth cd Q Z hC hP hE hD hA fin ls hl
  obtain ⟨hx, hb, hml, hown, hts⟩ := hC
  have hown : s.vm.findClass RX6 = some m.cls := hown
  have hl : lv_has ls 1 [(0, .ref (q 0))] := hl
  have b_26 : ∀ (wI : Nat → Int32) (wA : Nat → Nat → Int32) (aI : Nat → Int32) (y0 : Int32), ∀ (H : Heap) (locs : List Loc), va_P G vwCl (wX6 q cI cZ cO A L rI rA tI tA dI dA wI wA uI uA aI aS aT eI eA sS sT bI) H → va_D Z (wX6 q cI cZ cO A L rI rA tI tA dI dA wI wA uI uA aI aS aT eI eA sS sT bI) → va_S Z s.heap H locs → ∀ ls : Array Slot, lv_has ls 1 [] → fX6_undo_26 N wI wA aI aS aT y0 = some (r, wIz, wAz, aIz) → W p l e rmX6_undo s m [.ref (q 0)].toArray below meth cd H locs 0 0 Q (F0 m 26 ls [.int y0]) := by
    intro wI wA aI y0 H locs hP hD hS ls hl hf
    unfold fX6_undo_26 at hf
    have e9 := Option.some.inj hf
    exact fin H locs 26 ls _ (Prod.mk.inj e9).1 (nar_i _) (by rw [← (Prod.mk.inj (Prod.mk.inj e9).2).1, ← (Prod.mk.inj (Prod.mk.inj (Prod.mk.inj e9).2).2).1, ← (Prod.mk.inj (Prod.mk.inj (Prod.mk.inj e9).2).2).2]; exact hP) hS dX6_undo_26
  unfold fX6_undo at hf
  have hS : va_S Z s.heap s.heap [] := va_S.rf
  obtain ⟨H, hH⟩ : ∃ H, H = s.heap := ⟨_, rfl⟩
  obtain ⟨locs, hlocs⟩ : ∃ locs : List Loc, locs = [] := ⟨_, rfl⟩
  rw [← hlocs]
  rw [← hlocs] at hS
  suffices hW : ∀ H : Heap, va_P G vwCl (wX6 q cI cZ cO A L rI rA tI tA dI dA wI wA uI uA aI aS aT eI eA sS sT bI) H → va_S Z s.heap H locs → W p l e rmX6_undo s m [.ref (q 0)].toArray below meth cd H locs 0 0 Q (F0 m 0 ls []) from hW s.heap hP hS
  clear hP hS hH H
  intro H hP hS
  refine lv_aload_n hx hb dX6_undo_0 rfl (lv_at hl 0 rfl) ?_
  refine va_get (D := G) (ci := 6) (v := .ref (q 25)) (C := RX6) (T := TX6) (N := 15) hx hb hts inlX6 hown hE.1 hP 0 rfl rfl 5 (by decide) (hts _ (bg 1 6 rfl)) (fun _ h9 => h9) rfl dX6_undo_1 ?_
  refine lv_aload_n hx hb dX6_undo_4 rfl (lv_at hl 0 rfl) ?_
  refine va_get (D := G) (ci := 6) (v := .ref (q 17)) (C := RX6) (T := TX6) (N := 15) hx hb hts inlX6 hown hE.1 hP 0 rfl rfl 3 (by decide) (hts _ (bg 1 1 rfl)) (fun _ h9 => h9) rfl dX6_undo_5 ?_
  obtain ⟨z1, hz1, hf⟩ := bnd hf
  refine x_wrV (C := RX0) (n := 1) (ci := 0) (ws1 := (wX6 q cI cZ cO A L rI rA tI tA dI dA z1.2.2.1 z1.2.2.2 uI uA z1.2.1 aS aT eI eA sS sT bI)) hx hb hml hown hts hE (ct_X0_takeBack N l G cI cZ cO (sh q 25) aI aS aT (sh q 17) wI wA z1.1 z1.2.1 z1.2.2.1 z1.2.2.2 hz1) (bg 21 23 rfl) mb_X0_takeBack.1 mb_X0_takeBack.2.1 mb_X0_takeBack.2.2.1 mb_X0_takeBack.2.2.2 hd_X0_takeBack rfl (by decide) hP hD hS hA [25, 26, 27, 28, 29, 30, 31, 32, 33, 34, 35, 36, 37, 38, 39, 40, 41, 42, 43, 44, 45, 46, 47, 48, 49, 50, 51, 52, 53, 54, 55, 56, 57, 58, 59, 60, 61, 62, 63, 64, 65, 66, 67, 68, 69, 70, 71, 72, 73, 74, 75, 76, 77, 78, 79, 80, 81, 82, 17, 18, 19, 20] [false, false, false, false, false, false, false, false, false, false, false, false, false, false, false, false, false, true, true, true, true, false, false, false, false, true, true, true, true, true, true, true, true, true, true, true, true, true, true, true, true, true, true, true, true, true, true, true, true, true, true, true, true, true, true, true, true, true, true, true, true, true, true, true, true, true, true, true, true, true, true, true, true, true, true, true, true, true, true, true, true, true, true, false, false, false, false, false, false, false, false, false, false, false, false, false, false, false, false, false, false, false, false] (by decide) (by decide +kernel) rfl rfl ⟨rfl, rfl, rfl, rfl, rfl, rfl, rfl, rfl, rfl, rfl, rfl, rfl, rfl, rfl, rfl, rfl, rfl, rfl, rfl, rfl, rfl, rfl, rfl, rfl, rfl, rfl, rfl, rfl, rfl, rfl, rfl, rfl, rfl, rfl, rfl, rfl, rfl, rfl, rfl, rfl, rfl, rfl, rfl, rfl, rfl, rfl, rfl, rfl, rfl, rfl, rfl, rfl, rfl, rfl, rfl, rfl, rfl, rfl, rfl, rfl, rfl, rfl, rfl, rfl, rfl, rfl, rfl, rfl, rfl, rfl, rfl, rfl, rfl, rfl, rfl, rfl, rfl, rfl, rfl, rfl, rfl, rfl, rfl, rfl, rfl, rfl, rfl, rfl, rfl, rfl, rfl, rfl, rfl, rfl, rfl, rfl, rfl, rfl, rfl, rfl, rfl, rfl, rfl, trivial⟩ rfl rfl rfl rfl hl.1 (Nat.le_of_ble_eq_true rfl) ⟨Nat.zero_le _, Nat.zero_le _⟩ dX6_undo_8 (fun H locs hP hD hS => ?_)
  refine lv_if_eq (tgt := 24) hx hb dX6_undo_11 (by decide) (fun c2 => ?_) (fun c2 => ?_)
  · rw [if_pos c2] at hf
    refine lv_bipush (v := (-3)) hx hb dX6_undo_24 (by decide) ?_
    exact b_26 z1.2.2.1 z1.2.2.2 z1.2.1 (-3) H locs hP hD hS ls (lv_sub hl [] rfl) hf
  · rw [if_neg c2] at hf
    refine lv_aload_n hx hb dX6_undo_14 rfl (lv_at hl 0 rfl) ?_
    refine va_get (D := G) (ci := 6) (v := .ref (q 25)) (C := RX6) (T := TX6) (N := 15) hx hb hts inlX6 hown hE.1 hP 0 rfl rfl 5 (by decide) (hts _ (bg 1 6 rfl)) (fun _ h9 => h9) rfl dX6_undo_15 ?_
    refine va_get (D := G) (ci := 0) (v := .int ((z1.2.1 1))) (C := RX0) (T := TX0) (N := 3) hx hb hts inlX0 hown hE.1 hP 25 rfl rfl 2 (by decide) (hts _ (bg 11 7 rfl)) (fun _ h9 => h9) rfl dX6_undo_18 ?_
    refine lv_goto (tgt := 26) hx hb dX6_undo_21 (by decide) ?_
    exact b_26 z1.2.2.1 z1.2.2.2 z1.2.1 (z1.2.1 1) H locs hP hD hS ls (lv_sub hl [] rfl) hf
def fX6_saidIn_55 (N : Nat) (tI : Nat → Int32) (tA : Nat → Nat → Int32) (wI : Nat → Int32) (wA : Nat → Nat → Int32) (u4 : Int32) : Option (Int32) := some u4
def fX6_saidIn_6s (N : Nat) (k_6 : (Nat → Int32) → (Nat → Nat → Int32) → (Nat → Int32) → (Nat → Nat → Int32) → Int32 → Int32 → Int32 → Int32 → Option (Int32)) (tI : Nat → Int32) (tA : Nat → Nat → Int32) (wI : Nat → Int32) (wA : Nat → Nat → Int32) (u1 : Int32) (u3 : Int32) (u4 : Int32) (u5 : Int32) : Option (Int32) := if u3 ≤ u5 then fX6_saidIn_55 N tI tA wI wA u4 else if 8 ≤ u5 then fX6_saidIn_55 N tI tA wI wA u4 else (fX4_deniedOf N wA u1).bind fun z3 => (fX5_saidAfterDawn N tI tA u1 u4 z3 ((wI 0) + u5)).bind fun z4 => k_6 tI tA wI wA u1 u3 z4 (u5 + 1)
def fX6_saidIn_6 (N : Nat) : Nat → (Nat → Int32) → (Nat → Nat → Int32) → (Nat → Int32) → (Nat → Nat → Int32) → Int32 → Int32 → Int32 → Int32 → Option (Int32)
  | 0 => fun _ _ _ _ _ _ _ _ => none
  | n + 1 => fX6_saidIn_6s N (fX6_saidIn_6 N n)
def fX6_saidIn (N : Nat) (tI : Nat → Int32) (tA : Nat → Nat → Int32) (wI : Nat → Int32) (wA : Nat → Nat → Int32) (x1 : Int32) (x2 : Int32) (x3 : Int32) : Option (Int32) := fX6_saidIn_6 N N tI tA wI wA x1 x3 x2 0
def rmX6_saidIn : Room := { frames := 3, cells := 0, slots := 0, locals := 68 }
theorem mb_X6_saidIn : Cond.instanceMethod yX6_saidIn ∈ wsL_law ∧ Cond.selects RX6 yX6_saidIn yX6_saidIn ∈ wsL_law ∧ Cond.initialized RX6 ∈ wsL_law ∧ Cond.code yX6_saidIn cX6_saidIn 6 (some .int) ∈ wsL_law := ⟨(bg 22 16 rfl), (bg 22 17 rfl), (bg 0 2 rfl), (bg 22 18 rfl)⟩
theorem hd_X6_saidIn : yX6_saidIn.cls = RX6 ∧ yX6_saidIn.cls ≠ "java/lang/invoke/MethodHandle" ∧ yX6_saidIn.cls ≠ "java/lang/invoke/VarHandle" ∧ (parseMethodDescriptor yX6_saidIn.desc).map (fun d => d.parameters.length) = some 3 := by decide +kernel
set_option maxRecDepth 100000 in
set_option maxHeartbeats 4000000 in
theorem ct_X6_saidIn (N : Nat) (l : Launch) (G : va_G) (cI cZ cO : ClassId) (q : Nat → Nat) (A : Nat → Nat → Int32) (L : Int64) (rI : Nat → Int32) (rA : Nat → Nat → Int32) (tI : Nat → Int32) (tA : Nat → Nat → Int32) (dI : Nat → Int32) (dA : Nat → Nat → Int32) (wI : Nat → Int32) (wA : Nat → Nat → Int32) (uI : Nat → Int32) (uA : Nat → Nat → Int32) (aI : Nat → Int32) (aS : Nat → Nat → Int32) (aT : Nat → Nat → Nat → Int32) (eI : Nat → Int32) (eA : Nat → Nat → Int32) (sS : Nat → Nat → Int32) (sT : Nat → Nat → Nat → Int32) (bI : Nat → Int32) (x1 : Int32) (x2 : Int32) (x3 : Int32) (r : Int32) (hf : fX6_saidIn N tI tA wI wA x1 x2 x3 = some r) : RtI l yX6_saidIn cX6_saidIn 6 .int rmX6_saidIn G cI cZ cO [.ref (q 0), .int x1, .int x2, .int x3] (wX6 q cI cZ cO A L rI rA tI tA dI dA wI wA uI uA aI aS aT eI eA sS sT bI) r := by
  refine mkRI (by decide) (Nat.le_of_ble_eq_true rfl) ?_
  intro p e s m below meth cd Q hC hP hE fin ls hl
  obtain ⟨hx, hb, hml, hown, hts⟩ := hC
  have hown : s.vm.findClass RX6 = some m.cls := hown
  have hl : lv_has ls 6 [(0, .ref (q 0)), (1, .int x1), (2, .int x2), (3, .int x3)] := hl
  have b_55 : ∀ (u4 : Int32), ∀ ls : Array Slot, lv_has ls 6 [(4, .int u4)] → fX6_saidIn_55 N tI tA wI wA u4 = some r → W p l e rmX6_saidIn s m [.ref (q 0), .int x1, .int x2, .int x3].toArray below meth cd s.heap [] 0 0 Q (F0 m 55 ls []) := by
    intro u4 ls hl hf
    unfold fX6_saidIn_55 at hf
    refine lv_iload hx hb dX6_saidIn_55 (lv_at hl 0 rfl) ?_
    have e9 := Option.some.inj hf
    exact fin 57 ls _ e9 (nar_i _) dX6_saidIn_57
  have b_6 : ∀ n : Nat, ∀ (u1 : Int32) (u3 : Int32) (u4 : Int32) (u5 : Int32), ∀ ls : Array Slot, lv_has ls 6 [(0, .ref (q 0)), (1, .int u1), (3, .int u3), (4, .int u4), (5, .int u5)] → fX6_saidIn_6 N n tI tA wI wA u1 u3 u4 u5 = some r → W p l e rmX6_saidIn s m [.ref (q 0), .int x1, .int x2, .int x3].toArray below meth cd s.heap [] 0 0 Q (F0 m 6 ls []) := by
    intro n
    induction n with
    | zero =>
      intro u1 u3 u4 u5 ls hl hf
      cases hf
    | succ n hk_6 =>
      intro u1 u3 u4 u5 ls hl hf
      replace hf : fX6_saidIn_6s N (fX6_saidIn_6 N n) tI tA wI wA u1 u3 u4 u5 = some r := hf
      generalize fX6_saidIn_6 N n = k_6 at hf hk_6
      unfold fX6_saidIn_6s at hf
      refine lv_iload hx hb dX6_saidIn_6 (lv_at hl 4 rfl) ?_
      refine lv_iload_n hx hb dX6_saidIn_8 rfl (lv_at hl 2 rfl) ?_
      refine lv_icmp_ge (tgt := 55) hx hb dX6_saidIn_9 (by decide) (fun c1 => ?_) (fun c1 => ?_)
      · rw [if_pos c1] at hf
        exact b_55 u4 ls (lv_sub hl [3] rfl) hf
      · rw [if_neg c1] at hf
        refine lv_iload hx hb dX6_saidIn_12 (lv_at hl 4 rfl) ?_
        refine lv_bipush (v := 8) hx hb dX6_saidIn_14 (by decide) ?_
        refine lv_icmp_ge (tgt := 55) hx hb dX6_saidIn_16 (by decide) (fun c2 => ?_) (fun c2 => ?_)
        · rw [if_pos c2] at hf
          exact b_55 u4 ls (lv_sub hl [3] rfl) hf
        · rw [if_neg c2] at hf
          refine lv_aload_n hx hb dX6_saidIn_19 rfl (lv_at hl 0 rfl) ?_
          refine va_get (D := G) (ci := 6) (v := .ref (q 3)) (C := RX6) (T := TX6) (N := 15) hx hb hts inlX6 hown hE.1 hP 0 rfl rfl 1 (by decide) (hts _ (bg 0 20 rfl)) (fun _ h9 => h9) rfl dX6_saidIn_20 ?_
          refine lv_iload_n hx hb dX6_saidIn_23 rfl (lv_at hl 1 rfl) ?_
          refine lv_iload hx hb dX6_saidIn_24 (lv_at hl 3 rfl) ?_
          refine lv_aload_n hx hb dX6_saidIn_26 rfl (lv_at hl 0 rfl) ?_
          refine va_get (D := G) (ci := 6) (v := .ref (q 17)) (C := RX6) (T := TX6) (N := 15) hx hb hts inlX6 hown hE.1 hP 0 rfl rfl 3 (by decide) (hts _ (bg 1 1 rfl)) (fun _ h9 => h9) rfl dX6_saidIn_27 ?_
          refine lv_iload_n hx hb dX6_saidIn_30 rfl (lv_at hl 1 rfl) ?_
          obtain ⟨z3, hz3, hf⟩ := bnd hf
          refine x_rdV (C := RX4) (n := 1) (ci := 4) hx hb hml hown hts hE (ct_X4_deniedOf N l G cI cZ cO (sh q 17) wI wA u1 z3 hz3) (bg 12 18 rfl) mb_X4_deniedOf.1 mb_X4_deniedOf.2.1 mb_X4_deniedOf.2.2.1 mb_X4_deniedOf.2.2.2 hd_X4_deniedOf rfl (by decide) (x_cut hP [17, 18, 19, 20] rfl) rfl rfl rfl rfl hl.1 (Nat.le_of_ble_eq_true rfl) ⟨Nat.zero_le _, Nat.zero_le _⟩ dX6_saidIn_31 ?_
          refine lv_aload_n hx hb dX6_saidIn_34 rfl (lv_at hl 0 rfl) ?_
          refine va_get (D := G) (ci := 6) (v := .ref (q 17)) (C := RX6) (T := TX6) (N := 15) hx hb hts inlX6 hown hE.1 hP 0 rfl rfl 3 (by decide) (hts _ (bg 1 1 rfl)) (fun _ h9 => h9) rfl dX6_saidIn_35 ?_
          refine va_get (D := G) (ci := 4) (v := .int ((wI 0))) (C := RX4) (T := TX4) (N := 4) hx hb hts inlX4 hown hE.1 hP 17 rfl rfl 3 (by decide) (hts _ (bg 12 6 rfl)) (fun _ h9 => h9) rfl dX6_saidIn_38 ?_
          refine lv_iload hx hb dX6_saidIn_41 (lv_at hl 4 rfl) ?_
          refine lv_iadd hx hb dX6_saidIn_43 ?_
          obtain ⟨z4, hz4, hf⟩ := bnd hf
          refine x_rdV (C := RX5) (n := 4) (ci := 5) hx hb hml hown hts hE (ct_X5_saidAfterDawn N l G cI cZ cO (sh q 3) tI tA u1 u4 z3 ((wI 0) + u5) z4 hz4) (bg 22 19 rfl) mb_X5_saidAfterDawn.1 mb_X5_saidAfterDawn.2.1 mb_X5_saidAfterDawn.2.2.1 mb_X5_saidAfterDawn.2.2.2 hd_X5_saidAfterDawn rfl (by decide) (x_cut hP [3, 4, 5, 6, 7, 8, 9] rfl) rfl rfl rfl rfl hl.1 (Nat.le_of_ble_eq_true rfl) ⟨Nat.zero_le _, Nat.zero_le _⟩ dX6_saidIn_44 ?_
          refine lv_istore (lv' := [(4, .int z4), (0, .ref (q 0)), (1, .int u1), (3, .int u3), (5, .int u5)]) hx hb dX6_saidIn_47 hl (by decide) rfl (fun ls hl => ?_)
          refine lv_iinc (v := u5 + 1) (lv' := [(5, .int (u5 + 1)), (4, .int z4), (0, .ref (q 0)), (1, .int u1), (3, .int u3)]) hx hb dX6_saidIn_49 hl (k := 4) rfl rfl (by decide) rfl (fun ls hl => ?_)
          refine lv_goto (tgt := 6) hx hb dX6_saidIn_52 (by decide) ?_
          exact hk_6 u1 u3 z4 (u5 + 1) ls (lv_sub hl [2, 3, 4, 1, 0] rfl) hf
  unfold fX6_saidIn at hf
  refine lv_iload_n hx hb dX6_saidIn_0 rfl (lv_at hl 2 rfl) ?_
  refine lv_istore (lv' := [(4, .int x2), (0, .ref (q 0)), (1, .int x1), (2, .int x2), (3, .int x3)]) hx hb dX6_saidIn_1 hl (by decide) rfl (fun ls hl => ?_)
  refine lv_iconst (v := 0) hx hb dX6_saidIn_3 (by decide) ?_
  refine lv_istore (lv' := [(5, .int 0), (4, .int x2), (0, .ref (q 0)), (1, .int x1), (2, .int x2), (3, .int x3)]) hx hb dX6_saidIn_4 hl (by decide) rfl (fun ls hl => ?_)
  exact b_6 N x1 x3 x2 0 ls (lv_sub hl [2, 3, 5, 1, 0] rfl) hf
def fX6_valueIn (N : Nat) (tI : Nat → Int32) (tA : Nat → Nat → Int32) (wI : Nat → Int32) (wA : Nat → Nat → Int32) (x1 : Int32) (x2 : Int32) (x3 : Int32) : Option (Int32) := (fX6_saidIn N tI tA wI wA x1 x2 x3).bind fun z1 => (fX4_deniedOf N wA x1).bind fun z2 => (fX5_valueOn N tI tA ((wI 0) + x3) x1 z1 z2).bind fun z3 => some z3
def rmX6_valueIn : Room := { frames := 4, cells := 0, slots := 0, locals := 93 }
theorem mb_X6_valueIn : Cond.instanceMethod yX6_valueIn ∈ wsL_law ∧ Cond.selects RX6 yX6_valueIn yX6_valueIn ∈ wsL_law ∧ Cond.initialized RX6 ∈ wsL_law ∧ Cond.code yX6_valueIn cX6_valueIn 4 (some .int) ∈ wsL_law := ⟨(bg 22 12 rfl), (bg 22 13 rfl), (bg 0 2 rfl), (bg 22 14 rfl)⟩
theorem hd_X6_valueIn : yX6_valueIn.cls = RX6 ∧ yX6_valueIn.cls ≠ "java/lang/invoke/MethodHandle" ∧ yX6_valueIn.cls ≠ "java/lang/invoke/VarHandle" ∧ (parseMethodDescriptor yX6_valueIn.desc).map (fun d => d.parameters.length) = some 3 := by decide +kernel
set_option maxRecDepth 100000 in
set_option maxHeartbeats 4000000 in
theorem ct_X6_valueIn (N : Nat) (l : Launch) (G : va_G) (cI cZ cO : ClassId) (q : Nat → Nat) (A : Nat → Nat → Int32) (L : Int64) (rI : Nat → Int32) (rA : Nat → Nat → Int32) (tI : Nat → Int32) (tA : Nat → Nat → Int32) (dI : Nat → Int32) (dA : Nat → Nat → Int32) (wI : Nat → Int32) (wA : Nat → Nat → Int32) (uI : Nat → Int32) (uA : Nat → Nat → Int32) (aI : Nat → Int32) (aS : Nat → Nat → Int32) (aT : Nat → Nat → Nat → Int32) (eI : Nat → Int32) (eA : Nat → Nat → Int32) (sS : Nat → Nat → Int32) (sT : Nat → Nat → Nat → Int32) (bI : Nat → Int32) (x1 : Int32) (x2 : Int32) (x3 : Int32) (r : Int32) (hf : fX6_valueIn N tI tA wI wA x1 x2 x3 = some r) : RtI l yX6_valueIn cX6_valueIn 4 .int rmX6_valueIn G cI cZ cO [.ref (q 0), .int x1, .int x2, .int x3] (wX6 q cI cZ cO A L rI rA tI tA dI dA wI wA uI uA aI aS aT eI eA sS sT bI) r := by
  refine mkRI (by decide) (Nat.le_of_ble_eq_true rfl) ?_
  intro p e s m below meth cd Q hC hP hE fin ls hl
  obtain ⟨hx, hb, hml, hown, hts⟩ := hC
  have hown : s.vm.findClass RX6 = some m.cls := hown
  have hl : lv_has ls 4 [(0, .ref (q 0)), (1, .int x1), (2, .int x2), (3, .int x3)] := hl
  unfold fX6_valueIn at hf
  refine lv_aload_n hx hb dX6_valueIn_0 rfl (lv_at hl 0 rfl) ?_
  refine va_get (D := G) (ci := 6) (v := .ref (q 3)) (C := RX6) (T := TX6) (N := 15) hx hb hts inlX6 hown hE.1 hP 0 rfl rfl 1 (by decide) (hts _ (bg 0 20 rfl)) (fun _ h9 => h9) rfl dX6_valueIn_1 ?_
  refine lv_aload_n hx hb dX6_valueIn_4 rfl (lv_at hl 0 rfl) ?_
  refine va_get (D := G) (ci := 6) (v := .ref (q 17)) (C := RX6) (T := TX6) (N := 15) hx hb hts inlX6 hown hE.1 hP 0 rfl rfl 3 (by decide) (hts _ (bg 1 1 rfl)) (fun _ h9 => h9) rfl dX6_valueIn_5 ?_
  refine va_get (D := G) (ci := 4) (v := .int ((wI 0))) (C := RX4) (T := TX4) (N := 4) hx hb hts inlX4 hown hE.1 hP 17 rfl rfl 3 (by decide) (hts _ (bg 12 6 rfl)) (fun _ h9 => h9) rfl dX6_valueIn_8 ?_
  refine lv_iload_n hx hb dX6_valueIn_11 rfl (lv_at hl 3 rfl) ?_
  refine lv_iadd hx hb dX6_valueIn_12 ?_
  refine lv_iload_n hx hb dX6_valueIn_13 rfl (lv_at hl 1 rfl) ?_
  refine lv_aload_n hx hb dX6_valueIn_14 rfl (lv_at hl 0 rfl) ?_
  refine lv_iload_n hx hb dX6_valueIn_15 rfl (lv_at hl 1 rfl) ?_
  refine lv_iload_n hx hb dX6_valueIn_16 rfl (lv_at hl 2 rfl) ?_
  refine lv_iload_n hx hb dX6_valueIn_17 rfl (lv_at hl 3 rfl) ?_
  obtain ⟨z1, hz1, hf⟩ := bnd hf
  refine x_rdV (C := RX6) (n := 3) (ci := 6) hx hb hml hown hts hE (ct_X6_saidIn N l G cI cZ cO q A L rI rA tI tA dI dA wI wA uI uA aI aS aT eI eA sS sT bI x1 x2 x3 z1 hz1) (bg 22 15 rfl) mb_X6_saidIn.1 mb_X6_saidIn.2.1 mb_X6_saidIn.2.2.1 mb_X6_saidIn.2.2.2 hd_X6_saidIn rfl (by decide) hP rfl rfl rfl rfl hl.1 (Nat.le_of_ble_eq_true rfl) ⟨Nat.zero_le _, Nat.zero_le _⟩ dX6_valueIn_18 ?_
  refine lv_aload_n hx hb dX6_valueIn_21 rfl (lv_at hl 0 rfl) ?_
  refine va_get (D := G) (ci := 6) (v := .ref (q 17)) (C := RX6) (T := TX6) (N := 15) hx hb hts inlX6 hown hE.1 hP 0 rfl rfl 3 (by decide) (hts _ (bg 1 1 rfl)) (fun _ h9 => h9) rfl dX6_valueIn_22 ?_
  refine lv_iload_n hx hb dX6_valueIn_25 rfl (lv_at hl 1 rfl) ?_
  obtain ⟨z2, hz2, hf⟩ := bnd hf
  refine x_rdV (C := RX4) (n := 1) (ci := 4) hx hb hml hown hts hE (ct_X4_deniedOf N l G cI cZ cO (sh q 17) wI wA x1 z2 hz2) (bg 12 18 rfl) mb_X4_deniedOf.1 mb_X4_deniedOf.2.1 mb_X4_deniedOf.2.2.1 mb_X4_deniedOf.2.2.2 hd_X4_deniedOf rfl (by decide) (x_cut hP [17, 18, 19, 20] rfl) rfl rfl rfl rfl hl.1 (Nat.le_of_ble_eq_true rfl) ⟨Nat.zero_le _, Nat.zero_le _⟩ dX6_valueIn_26 ?_
  obtain ⟨z3, hz3, hf⟩ := bnd hf
  refine x_rdV (C := RX5) (n := 4) (ci := 5) hx hb hml hown hts hE (ct_X5_valueOn N l G cI cZ cO (sh q 3) tI tA ((wI 0) + x3) x1 z1 z2 z3 hz3) (bg 22 20 rfl) mb_X5_valueOn.1 mb_X5_valueOn.2.1 mb_X5_valueOn.2.2.1 mb_X5_valueOn.2.2.2 hd_X5_valueOn rfl (by decide) (x_cut hP [3, 4, 5, 6, 7, 8, 9] rfl) rfl rfl rfl rfl hl.1 (Nat.le_of_ble_eq_true rfl) ⟨Nat.zero_le _, Nat.zero_le _⟩ dX6_valueIn_29 ?_
  have e9 := Option.some.inj hf
  exact fin 32 ls _ e9 (nar_i _) dX6_valueIn_32
