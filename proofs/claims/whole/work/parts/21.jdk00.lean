def fJ6_bitCount_0f7a4_48 (N : Nat) (u0 : Int32) : Option (Int32) := some (u0 &&& 63)
def fJ6_bitCount_0f7a4_24 (N : Nat) (u0 : Int32) : Option (Int32) := fJ6_bitCount_0f7a4_48 N ((((u0 + (ush u0 4)) &&& 252645135) + (ush ((u0 + (ush u0 4)) &&& 252645135) 8)) + (ush (((u0 + (ush u0 4)) &&& 252645135) + (ush ((u0 + (ush u0 4)) &&& 252645135) 8)) 16))
def fJ6_bitCount_0f7a4 (N : Nat) (x0 : Int32) : Option (Int32) := fJ6_bitCount_0f7a4_24 N (((x0 - ((ush x0 1) &&& 1431655765)) &&& 858993459) + ((ush (x0 - ((ush x0 1) &&& 1431655765)) 2) &&& 858993459))
def rmJ6_bitCount_0f7a4 : Room := { frames := 0, cells := 0, slots := 0, locals := 0 }
theorem mb_J6_bitCount_0f7a4 : Cond.static yJ6_bitCount_0f7a4 ∈ wsL_law ∧ Cond.initialized yJ6_bitCount_0f7a4.cls ∈ wsL_law ∧ Cond.code yJ6_bitCount_0f7a4 cJ6_bitCount_0f7a4 1 (some .int) ∈ wsL_law := ⟨(bg 18 3 rfl), (bg 18 4 rfl), (bg 18 5 rfl)⟩
theorem hd_J6_bitCount_0f7a4 : yJ6_bitCount_0f7a4.cls ≠ "java/lang/invoke/MethodHandle" ∧ yJ6_bitCount_0f7a4.cls ≠ "java/lang/invoke/VarHandle" ∧ (parseMethodDescriptor yJ6_bitCount_0f7a4.desc).map (fun d => d.parameters.length) = some 1 := by decide +kernel
set_option maxRecDepth 100000 in
set_option maxHeartbeats 4000000 in
theorem ct_J6_bitCount_0f7a4 (N : Nat) (l : Launch) (G : va_G) (cI cZ cO : ClassId) (x0 : Int32) (r : Int32) (hf : fJ6_bitCount_0f7a4 N x0 = some r) : RtI l yJ6_bitCount_0f7a4 cJ6_bitCount_0f7a4 1 .int rmJ6_bitCount_0f7a4 G cI cZ cO [.int x0] [] r := by
  refine mkRI (by decide) (Nat.le_of_ble_eq_true rfl) ?_
  intro p e s m below meth cd Q hC hP hE fin ls hl
  obtain ⟨hx, hb, hml, hown, hts⟩ := hC
  have hown : s.vm.findClass RJ6 = some m.cls := hown
  have hl : lv_has ls 1 [(0, .int x0)] := hl
  have b_48 : ∀ (u0 : Int32), ∀ ls : Array Slot, lv_has ls 1 [(0, .int u0)] → fJ6_bitCount_0f7a4_48 N u0 = some r → W p l e rmJ6_bitCount_0f7a4 s m [.int x0].toArray below meth cd s.heap [] 0 0 Q (F0 m 48 ls []) := by
    intro u0 ls hl hf
    unfold fJ6_bitCount_0f7a4_48 at hf
    refine lv_iload_n hx hb dJ6_bitCount_0f7a4_48 rfl (lv_at hl 0 rfl) ?_
    refine lv_bipush (v := 63) hx hb dJ6_bitCount_0f7a4_49 (by decide) ?_
    refine lv_iand hx hb dJ6_bitCount_0f7a4_51 ?_
    have e9 := Option.some.inj hf
    exact fin 52 ls _ e9 (nar_i _) dJ6_bitCount_0f7a4_52
  have b_24 : ∀ (u0 : Int32), ∀ ls : Array Slot, lv_has ls 1 [(0, .int u0)] → fJ6_bitCount_0f7a4_24 N u0 = some r → W p l e rmJ6_bitCount_0f7a4 s m [.int x0].toArray below meth cd s.heap [] 0 0 Q (F0 m 24 ls []) := by
    intro u0 ls hl hf
    unfold fJ6_bitCount_0f7a4_24 at hf
    refine lv_iload_n hx hb dJ6_bitCount_0f7a4_24 rfl (lv_at hl 0 rfl) ?_
    refine lv_iload_n hx hb dJ6_bitCount_0f7a4_25 rfl (lv_at hl 0 rfl) ?_
    refine lv_iconst (v := 4) hx hb dJ6_bitCount_0f7a4_26 (by decide) ?_
    refine lv_iushr (v := ush u0 4) hx hb dJ6_bitCount_0f7a4_27 rfl ?_
    refine lv_iadd hx hb dJ6_bitCount_0f7a4_28 ?_
    refine lv_ldcw hx hb hown (hts _ (bg 18 8 rfl)) dJ6_bitCount_0f7a4_29 ?_
    refine lv_iand hx hb dJ6_bitCount_0f7a4_32 ?_
    refine lv_istore_n (lv' := [(0, .int ((u0 + (ush u0 4)) &&& 252645135))]) hx hb dJ6_bitCount_0f7a4_33 rfl hl (by decide) rfl (fun ls hl => ?_)
    refine lv_iload_n hx hb dJ6_bitCount_0f7a4_34 rfl (lv_at hl 0 rfl) ?_
    refine lv_iload_n hx hb dJ6_bitCount_0f7a4_35 rfl (lv_at hl 0 rfl) ?_
    refine lv_bipush (v := 8) hx hb dJ6_bitCount_0f7a4_36 (by decide) ?_
    refine lv_iushr (v := ush ((u0 + (ush u0 4)) &&& 252645135) 8) hx hb dJ6_bitCount_0f7a4_38 rfl ?_
    refine lv_iadd hx hb dJ6_bitCount_0f7a4_39 ?_
    refine lv_istore_n (lv' := [(0, .int (((u0 + (ush u0 4)) &&& 252645135) + (ush ((u0 + (ush u0 4)) &&& 252645135) 8)))]) hx hb dJ6_bitCount_0f7a4_40 rfl hl (by decide) rfl (fun ls hl => ?_)
    refine lv_iload_n hx hb dJ6_bitCount_0f7a4_41 rfl (lv_at hl 0 rfl) ?_
    refine lv_iload_n hx hb dJ6_bitCount_0f7a4_42 rfl (lv_at hl 0 rfl) ?_
    refine lv_bipush (v := 16) hx hb dJ6_bitCount_0f7a4_43 (by decide) ?_
    refine lv_iushr (v := ush (((u0 + (ush u0 4)) &&& 252645135) + (ush ((u0 + (ush u0 4)) &&& 252645135) 8)) 16) hx hb dJ6_bitCount_0f7a4_45 rfl ?_
    refine lv_iadd hx hb dJ6_bitCount_0f7a4_46 ?_
    refine lv_istore_n (lv' := [(0, .int ((((u0 + (ush u0 4)) &&& 252645135) + (ush ((u0 + (ush u0 4)) &&& 252645135) 8)) + (ush (((u0 + (ush u0 4)) &&& 252645135) + (ush ((u0 + (ush u0 4)) &&& 252645135) 8)) 16)))]) hx hb dJ6_bitCount_0f7a4_47 rfl hl (by decide) rfl (fun ls hl => ?_)
    exact b_48 ((((u0 + (ush u0 4)) &&& 252645135) + (ush ((u0 + (ush u0 4)) &&& 252645135) 8)) + (ush (((u0 + (ush u0 4)) &&& 252645135) + (ush ((u0 + (ush u0 4)) &&& 252645135) 8)) 16)) ls (lv_sub hl [0] rfl) hf
  unfold fJ6_bitCount_0f7a4 at hf
  refine lv_iload_n hx hb dJ6_bitCount_0f7a4_0 rfl (lv_at hl 0 rfl) ?_
  refine lv_iload_n hx hb dJ6_bitCount_0f7a4_1 rfl (lv_at hl 0 rfl) ?_
  refine lv_iconst (v := 1) hx hb dJ6_bitCount_0f7a4_2 (by decide) ?_
  refine lv_iushr (v := ush x0 1) hx hb dJ6_bitCount_0f7a4_3 rfl ?_
  refine lv_ldcw hx hb hown (hts _ (bg 18 6 rfl)) dJ6_bitCount_0f7a4_4 ?_
  refine lv_iand hx hb dJ6_bitCount_0f7a4_7 ?_
  refine lv_isub hx hb dJ6_bitCount_0f7a4_8 ?_
  refine lv_istore_n (lv' := [(0, .int (x0 - ((ush x0 1) &&& 1431655765)))]) hx hb dJ6_bitCount_0f7a4_9 rfl hl (by decide) rfl (fun ls hl => ?_)
  refine lv_iload_n hx hb dJ6_bitCount_0f7a4_10 rfl (lv_at hl 0 rfl) ?_
  refine lv_ldcw hx hb hown (hts _ (bg 18 7 rfl)) dJ6_bitCount_0f7a4_11 ?_
  refine lv_iand hx hb dJ6_bitCount_0f7a4_14 ?_
  refine lv_iload_n hx hb dJ6_bitCount_0f7a4_15 rfl (lv_at hl 0 rfl) ?_
  refine lv_iconst (v := 2) hx hb dJ6_bitCount_0f7a4_16 (by decide) ?_
  refine lv_iushr (v := ush (x0 - ((ush x0 1) &&& 1431655765)) 2) hx hb dJ6_bitCount_0f7a4_17 rfl ?_
  refine lv_ldcw hx hb hown (hts _ (bg 18 7 rfl)) dJ6_bitCount_0f7a4_18 ?_
  refine lv_iand hx hb dJ6_bitCount_0f7a4_21 ?_
  refine lv_iadd hx hb dJ6_bitCount_0f7a4_22 ?_
  refine lv_istore_n (lv' := [(0, .int (((x0 - ((ush x0 1) &&& 1431655765)) &&& 858993459) + ((ush (x0 - ((ush x0 1) &&& 1431655765)) 2) &&& 858993459)))]) hx hb dJ6_bitCount_0f7a4_23 rfl hl (by decide) rfl (fun ls hl => ?_)
  exact b_24 (((x0 - ((ush x0 1) &&& 1431655765)) &&& 858993459) + ((ush (x0 - ((ush x0 1) &&& 1431655765)) 2) &&& 858993459)) ls (lv_sub hl [0] rfl) hf
