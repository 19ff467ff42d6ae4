def fX3_takes_84 (N : Nat) (I : Nat → Int32) (I1 : Nat → Int32) (A1 : Nat → Nat → Int32) (y0 : Int32) : Option (Int32 × (Nat → Int32) × (Nat → Int32) × (Nat → Nat → Int32)) := (bz y0).bind fun v1 => some (v1, I, I1, A1)
def fX3_takes (N : Nat) (I : Nat → Int32) (I1 : Nat → Int32) (A1 : Nat → Nat → Int32) (x2 : Int32) : Option (Int32 × (Nat → Int32) × (Nat → Int32) × (Nat → Nat → Int32)) := if (I 0) = 0 then if x2 = 89 then fX3_takes_84 N (upd I 0 1) I1 A1 1 else fX3_takes_84 N (upd I 0 1) I1 A1 0 else if (I 0) = 1 then (fX3_opensPart N I1 A1 x2).bind fun z4 => (bz z4).bind fun v5 => some (v5, upd (upd I 0 x2) 1 0, I1, A1) else if (I 0) = 80 then (fX3_takesOfPerson N I I1 A1 (x2 - 48)).bind fun z7 => (bz z7.1).bind fun v8 => some (v8, z7.2.1, z7.2.2.1, z7.2.2.2) else if (I 0) = 82 then (fX3_takesOfRumour N I I1 A1 (x2 - 48)).bind fun z10 => (bz z10.1).bind fun v11 => some (v11, z10.2.1, z10.2.2.1, z10.2.2.2) else if (I 0) = 83 then (fX3_takesOfOpening N I I1 A1 (x2 - 48)).bind fun z13 => (bz z13.1).bind fun v14 => some (v14, z13.2.1, I1, z13.2.2) else if (I 0) = 88 then (fX3_takesOfRivals N I I1 A1 (x2 - 48)).bind fun z16 => (bz z16.1).bind fun v17 => some (v17, z16.2.1, I1, z16.2.2) else some (0, I, I1, A1)
def rmX3_takes : Room := { frames := 4, cells := 0, slots := 0, locals := 88 }
theorem mb_X3_takes : Cond.instanceMethod yX3_takes ∈ wsL_law ∧ Cond.selects RX3 yX3_takes yX3_takes ∈ wsL_law ∧ Cond.initialized RX3 ∈ wsL_law ∧ Cond.code yX3_takes cX3_takes 4 (some .boolean) ∈ wsL_law := ⟨(bg 6 13 rfl), (bg 6 14 rfl), (bg 0 15 rfl), (bg 6 15 rfl)⟩
theorem hd_X3_takes : yX3_takes.cls = RX3 ∧ yX3_takes.cls ≠ "java/lang/invoke/MethodHandle" ∧ yX3_takes.cls ≠ "java/lang/invoke/VarHandle" ∧ (parseMethodDescriptor yX3_takes.desc).map (fun d => d.parameters.length) = some 2 := by decide +kernel
set_option maxRecDepth 100000 in
set_option maxHeartbeats 4000000 in
theorem ct_X3_takes (N : Nat) (l : Launch) (G : va_G) (cI cZ cO : ClassId) (q : Nat → Nat) (I : Nat → Int32) (A : Nat → Nat → Int32) (q1 : Nat → Nat) (I1 : Nat → Int32) (A1 : Nat → Nat → Int32) (x2 : Int32) (r : Int32) (Iz : Nat → Int32) (I1z : Nat → Int32) (A1z : Nat → Nat → Int32) (hf : fX3_takes N I I1 A1 x2 = some (r, Iz, I1z, A1z)) : CtI l yX3_takes cX3_takes 4 .boolean rmX3_takes G cI cZ cO [.ref (q 0), .ref (q1 0), .int x2] (wX3 q cI cZ cO I A ++ wX5 q1 cI cZ cO I1 A1) (wX3 q cI cZ cO Iz A ++ wX5 q1 cI cZ cO I1z A1z) r := by
  refine mkCI (by decide) (Nat.le_of_ble_eq_true rfl) ?_
  intro p e s m below meth cd Q Z hC hP hE hD hA fin ls hl
  obtain ⟨hx, hb, hml, hown, hts⟩ := hC
  have hown : s.vm.findClass RX3 = some m.cls := hown
  have hl : lv_has ls 4 [(0, .ref (q 0)), (1, .ref (q1 0)), (2, .int x2)] := hl
  have b_84 : ∀ (I : Nat → Int32) (I1 : Nat → Int32) (A1 : Nat → Nat → Int32) (y0 : Int32), ∀ (H : Heap) (locs : List Loc), va_P G vwCl (wX3 q cI cZ cO I A ++ wX5 q1 cI cZ cO I1 A1) H → va_D Z (wX3 q cI cZ cO I A ++ wX5 q1 cI cZ cO I1 A1) → va_S Z s.heap H locs → ∀ ls : Array Slot, lv_has ls 4 [] → fX3_takes_84 N I I1 A1 y0 = some (r, Iz, I1z, A1z) → W p l e rmX3_takes s m [.ref (q 0), .ref (q1 0), .int x2].toArray below meth cd H locs 0 0 Q (F0 m 84 ls [.int y0]) := by
    intro I I1 A1 y0 H locs hP hD hS ls hl hf
    unfold fX3_takes_84 at hf
    obtain ⟨v1, hv1, hf⟩ := bnd hf
    obtain ⟨ev1, hv1⟩ := bz_in hv1
    rw [ev1]
    have e9 := Option.some.inj hf
    exact fin H locs 84 ls _ (Prod.mk.inj e9).1 (nar_z (by rw [← (Prod.mk.inj e9).1]; exact hv1)) (by rw [← (Prod.mk.inj (Prod.mk.inj e9).2).1, ← (Prod.mk.inj (Prod.mk.inj (Prod.mk.inj e9).2).2).1, ← (Prod.mk.inj (Prod.mk.inj (Prod.mk.inj e9).2).2).2]; exact hP) hS dX3_takes_84
  unfold fX3_takes at hf
  have hS : va_S Z s.heap s.heap [] := va_S.rf
  obtain ⟨H, hH⟩ : ∃ H, H = s.heap := ⟨_, rfl⟩
  obtain ⟨locs, hlocs⟩ : ∃ locs : List Loc, locs = [] := ⟨_, rfl⟩
  rw [← hlocs]
  rw [← hlocs] at hS
  suffices hW : ∀ H : Heap, va_P G vwCl (wX3 q cI cZ cO I A ++ wX5 q1 cI cZ cO I1 A1) H → va_S Z s.heap H locs → W p l e rmX3_takes s m [.ref (q 0), .ref (q1 0), .int x2].toArray below meth cd H locs 0 0 Q (F0 m 0 ls []) from hW s.heap hP hS
  clear hP hS hH H
  intro H hP hS
  refine lv_iload_n hx hb dX3_takes_0 rfl (lv_at hl 2 rfl) ?_
  refine lv_bipush (v := 48) hx hb dX3_takes_1 (by decide) ?_
  refine lv_isub hx hb dX3_takes_3 ?_
  refine lv_istore_n (lv' := [(3, .int (x2 - 48)), (0, .ref (q 0)), (1, .ref (q1 0)), (2, .int x2)]) hx hb dX3_takes_4 rfl hl (by decide) rfl (fun ls hl => ?_)
  refine lv_aload_n hx hb dX3_takes_5 rfl (lv_at hl 1 rfl) ?_
  refine va_get (D := G) (ci := 3) (v := .int ((I 0))) (C := RX3) (T := TX3) (N := 6) hx hb hts inlX3 hown hE.1 hP 0 rfl rfl 1 (by decide) (hts _ (bg 6 5 rfl)) (fun _ h9 => h9) rfl dX3_takes_6 ?_
  by_cases c1 : (I 0) = 0
  · rw [if_pos c1] at hf
    refine x_lsw (tgt := 68) hx hb c1 dX3_takes_9 rfl rfl (by decide) ?_
    refine lv_aload_n hx hb dX3_takes_68 rfl (lv_at hl 1 rfl) ?_
    refine lv_iconst (v := 1) hx hb dX3_takes_69 (by decide) ?_
    refine va_put (D := G) (ci := 3) (v := .int 1) (ty := .int) (C := RX3) (T := TX3) (N := 6) hx hb hts inlX3 tyX3 tyX3_ok nmX3 hown hE.1 hP hD hS 0 rfl rfl 1 (by decide) (hts _ (bg 6 5 rfl)) (fun _ h9 => h9) rfl (by decide +kernel) rfl rfl (Nat.le_of_ble_eq_true rfl) dX3_takes_70 (fun H locs hP hD hS => ?_)
    have hP : va_P G vwCl (wX3 q cI cZ cO (upd I 0 1) A ++ wX5 q1 cI cZ cO I1 A1) H := hP
    have hD : va_D Z (wX3 q cI cZ cO (upd I 0 1) A ++ wX5 q1 cI cZ cO I1 A1) := hD
    refine lv_iload_n hx hb dX3_takes_73 rfl (lv_at hl 3 rfl) ?_
    refine lv_bipush (v := 89) hx hb dX3_takes_74 (by decide) ?_
    refine lv_icmp_ne (tgt := 83) hx hb dX3_takes_76 (by decide) (fun c2 => ?_) (fun c2 => ?_)
    · rw [if_neg c2] at hf
      refine lv_iconst (v := 0) hx hb dX3_takes_83 (by decide) ?_
      exact b_84 (upd I 0 1) I1 A1 0 H locs hP hD hS ls (lv_sub hl [] rfl) hf
    · rw [if_pos c2] at hf
      refine lv_iconst (v := 1) hx hb dX3_takes_79 (by decide) ?_
      refine lv_goto (tgt := 84) hx hb dX3_takes_80 (by decide) ?_
      exact b_84 (upd I 0 1) I1 A1 1 H locs hP hD hS ls (lv_sub hl [] rfl) hf
  · rw [if_neg c1] at hf
    by_cases c3 : (I 0) = 1
    · rw [if_pos c3] at hf
      refine x_lsw (tgt := 85) hx hb c3 dX3_takes_9 rfl rfl (by decide) ?_
      refine lv_aload_n hx hb dX3_takes_85 rfl (lv_at hl 1 rfl) ?_
      refine lv_iload_n hx hb dX3_takes_86 rfl (lv_at hl 3 rfl) ?_
      refine va_put (D := G) (ci := 3) (v := .int x2) (ty := .int) (C := RX3) (T := TX3) (N := 6) hx hb hts inlX3 tyX3 tyX3_ok nmX3 hown hE.1 hP hD hS 0 rfl rfl 1 (by decide) (hts _ (bg 6 5 rfl)) (fun _ h9 => h9) rfl (by decide +kernel) rfl rfl (Nat.le_of_ble_eq_true rfl) dX3_takes_87 (fun H locs hP hD hS => ?_)
      have hP : va_P G vwCl (wX3 q cI cZ cO (upd I 0 x2) A ++ wX5 q1 cI cZ cO I1 A1) H := hP
      have hD : va_D Z (wX3 q cI cZ cO (upd I 0 x2) A ++ wX5 q1 cI cZ cO I1 A1) := hD
      refine lv_aload_n hx hb dX3_takes_90 rfl (lv_at hl 1 rfl) ?_
      refine lv_iconst (v := 0) hx hb dX3_takes_91 (by decide) ?_
      refine va_put (D := G) (ci := 3) (v := .int 0) (ty := .int) (C := RX3) (T := TX3) (N := 6) hx hb hts inlX3 tyX3 tyX3_ok nmX3 hown hE.1 hP hD hS 0 rfl rfl 2 (by decide) (hts _ (bg 6 16 rfl)) (fun _ h9 => h9) rfl (by decide +kernel) rfl rfl (Nat.le_of_ble_eq_true rfl) dX3_takes_92 (fun H locs hP hD hS => ?_)
      have hP : va_P G vwCl (wX3 q cI cZ cO (upd (upd I 0 x2) 1 0) A ++ wX5 q1 cI cZ cO I1 A1) H := hP
      have hD : va_D Z (wX3 q cI cZ cO (upd (upd I 0 x2) 1 0) A ++ wX5 q1 cI cZ cO I1 A1) := hD
      refine lv_aload_n hx hb dX3_takes_95 rfl (lv_at hl 1 rfl) ?_
      refine lv_aload_n hx hb dX3_takes_96 rfl (lv_at hl 2 rfl) ?_
      refine lv_iload_n hx hb dX3_takes_97 rfl (lv_at hl 3 rfl) ?_
      obtain ⟨z4, hz4, hf⟩ := bnd hf
      refine x_rdV (C := RX3) (n := 2) (ci := 3) hx hb hml hown hts hE (ct_X3_opensPart N l G cI cZ cO q (upd (upd I 0 x2) 1 0) A q1 I1 A1 x2 z4 hz4) (bg 6 17 rfl) mb_X3_opensPart.1 mb_X3_opensPart.2.1 mb_X3_opensPart.2.2.1 mb_X3_opensPart.2.2.2 hd_X3_opensPart rfl (by decide) hP rfl rfl rfl rfl hl.1 (Nat.le_of_ble_eq_true rfl) ⟨Nat.zero_le _, Nat.zero_le _⟩ dX3_takes_98 ?_
      obtain ⟨v5, hv5, hf⟩ := bnd hf
      obtain ⟨ev5, hv5⟩ := bz_in hv5
      rw [ev5]
      have e9 := Option.some.inj hf
      exact fin H locs 101 ls _ (Prod.mk.inj e9).1 (nar_z (by rw [← (Prod.mk.inj e9).1]; exact hv5)) (by rw [← (Prod.mk.inj (Prod.mk.inj e9).2).1, ← (Prod.mk.inj (Prod.mk.inj (Prod.mk.inj e9).2).2).1, ← (Prod.mk.inj (Prod.mk.inj (Prod.mk.inj e9).2).2).2]; exact hP) hS dX3_takes_101
    · rw [if_neg c3] at hf
      by_cases c6 : (I 0) = 80
      · rw [if_pos c6] at hf
        refine x_lsw (tgt := 116) hx hb c6 dX3_takes_9 rfl rfl (by decide) ?_
        refine lv_aload_n hx hb dX3_takes_116 rfl (lv_at hl 1 rfl) ?_
        refine lv_aload_n hx hb dX3_takes_117 rfl (lv_at hl 2 rfl) ?_
        refine lv_iload_n hx hb dX3_takes_118 rfl (lv_at hl 0 rfl) ?_
        obtain ⟨z7, hz7, hf⟩ := bnd hf
        refine x_wwV (C := RX3) (n := 2) (ci := 3) hx hb hml hown hts hE (ct_X3_takesOfPerson N l G cI cZ cO q I A q1 I1 A1 (x2 - 48) z7.1 z7.2.1 z7.2.2.1 z7.2.2.2 hz7) (bg 8 20 rfl) mb_X3_takesOfPerson.1 mb_X3_takesOfPerson.2.1 mb_X3_takesOfPerson.2.2.1 mb_X3_takesOfPerson.2.2.2 hd_X3_takesOfPerson rfl (by decide) hP hD hS hA rfl rfl rfl rfl rfl hl.1 (Nat.le_of_ble_eq_true rfl) ⟨Nat.zero_le _, Nat.zero_le _⟩ dX3_takes_119 (fun H locs hP hD hS => ?_)
        have hP : va_P G vwCl (wX3 q cI cZ cO z7.2.1 A ++ wX5 q1 cI cZ cO z7.2.2.1 z7.2.2.2) H := hP
        have hD : va_D Z (wX3 q cI cZ cO z7.2.1 A ++ wX5 q1 cI cZ cO z7.2.2.1 z7.2.2.2) := hD
        obtain ⟨v8, hv8, hf⟩ := bnd hf
        obtain ⟨ev8, hv8⟩ := bz_in hv8
        rw [ev8]
        have e9 := Option.some.inj hf
        exact fin H locs 122 ls _ (Prod.mk.inj e9).1 (nar_z (by rw [← (Prod.mk.inj e9).1]; exact hv8)) (by rw [← (Prod.mk.inj (Prod.mk.inj e9).2).1, ← (Prod.mk.inj (Prod.mk.inj (Prod.mk.inj e9).2).2).1, ← (Prod.mk.inj (Prod.mk.inj (Prod.mk.inj e9).2).2).2]; exact hP) hS dX3_takes_122
      · rw [if_neg c6] at hf
        by_cases c9 : (I 0) = 82
        · rw [if_pos c9] at hf
          refine x_lsw (tgt := 102) hx hb c9 dX3_takes_9 rfl rfl (by decide) ?_
          refine lv_aload_n hx hb dX3_takes_102 rfl (lv_at hl 1 rfl) ?_
          refine lv_aload_n hx hb dX3_takes_103 rfl (lv_at hl 2 rfl) ?_
          refine lv_iload_n hx hb dX3_takes_104 rfl (lv_at hl 0 rfl) ?_
          obtain ⟨z10, hz10, hf⟩ := bnd hf
          refine x_wwV (C := RX3) (n := 2) (ci := 3) hx hb hml hown hts hE (ct_X3_takesOfRumour N l G cI cZ cO q I A q1 I1 A1 (x2 - 48) z10.1 z10.2.1 z10.2.2.1 z10.2.2.2 hz10) (bg 7 19 rfl) mb_X3_takesOfRumour.1 mb_X3_takesOfRumour.2.1 mb_X3_takesOfRumour.2.2.1 mb_X3_takesOfRumour.2.2.2 hd_X3_takesOfRumour rfl (by decide) hP hD hS hA rfl rfl rfl rfl rfl hl.1 (Nat.le_of_ble_eq_true rfl) ⟨Nat.zero_le _, Nat.zero_le _⟩ dX3_takes_105 (fun H locs hP hD hS => ?_)
          have hP : va_P G vwCl (wX3 q cI cZ cO z10.2.1 A ++ wX5 q1 cI cZ cO z10.2.2.1 z10.2.2.2) H := hP
          have hD : va_D Z (wX3 q cI cZ cO z10.2.1 A ++ wX5 q1 cI cZ cO z10.2.2.1 z10.2.2.2) := hD
          obtain ⟨v11, hv11, hf⟩ := bnd hf
          obtain ⟨ev11, hv11⟩ := bz_in hv11
          rw [ev11]
          have e9 := Option.some.inj hf
          exact fin H locs 108 ls _ (Prod.mk.inj e9).1 (nar_z (by rw [← (Prod.mk.inj e9).1]; exact hv11)) (by rw [← (Prod.mk.inj (Prod.mk.inj e9).2).1, ← (Prod.mk.inj (Prod.mk.inj (Prod.mk.inj e9).2).2).1, ← (Prod.mk.inj (Prod.mk.inj (Prod.mk.inj e9).2).2).2]; exact hP) hS dX3_takes_108
        · rw [if_neg c9] at hf
          by_cases c12 : (I 0) = 83
          · rw [if_pos c12] at hf
            refine x_lsw (tgt := 123) hx hb c12 dX3_takes_9 rfl rfl (by decide) ?_
            refine lv_aload_n hx hb dX3_takes_123 rfl (lv_at hl 1 rfl) ?_
            refine lv_aload_n hx hb dX3_takes_124 rfl (lv_at hl 2 rfl) ?_
            refine lv_iload_n hx hb dX3_takes_125 rfl (lv_at hl 0 rfl) ?_
            obtain ⟨z13, hz13, hf⟩ := bnd hf
            refine x_wwV (C := RX3) (n := 2) (ci := 3) hx hb hml hown hts hE (ct_X3_takesOfOpening N l G cI cZ cO q I A q1 I1 A1 (x2 - 48) z13.1 z13.2.1 z13.2.2 hz13) (bg 9 6 rfl) mb_X3_takesOfOpening.1 mb_X3_takesOfOpening.2.1 mb_X3_takesOfOpening.2.2.1 mb_X3_takesOfOpening.2.2.2 hd_X3_takesOfOpening rfl (by decide) hP hD hS hA rfl rfl rfl rfl rfl hl.1 (Nat.le_of_ble_eq_true rfl) ⟨Nat.zero_le _, Nat.zero_le _⟩ dX3_takes_126 (fun H locs hP hD hS => ?_)
            have hP : va_P G vwCl (wX3 q cI cZ cO z13.2.1 A ++ wX5 q1 cI cZ cO I1 z13.2.2) H := hP
            have hD : va_D Z (wX3 q cI cZ cO z13.2.1 A ++ wX5 q1 cI cZ cO I1 z13.2.2) := hD
            obtain ⟨v14, hv14, hf⟩ := bnd hf
            obtain ⟨ev14, hv14⟩ := bz_in hv14
            rw [ev14]
            have e9 := Option.some.inj hf
            exact fin H locs 129 ls _ (Prod.mk.inj e9).1 (nar_z (by rw [← (Prod.mk.inj e9).1]; exact hv14)) (by rw [← (Prod.mk.inj (Prod.mk.inj e9).2).1, ← (Prod.mk.inj (Prod.mk.inj (Prod.mk.inj e9).2).2).1, ← (Prod.mk.inj (Prod.mk.inj (Prod.mk.inj e9).2).2).2]; exact hP) hS dX3_takes_129
          · rw [if_neg c12] at hf
            by_cases c15 : (I 0) = 88
            · rw [if_pos c15] at hf
              refine x_lsw (tgt := 109) hx hb c15 dX3_takes_9 rfl rfl (by decide) ?_
              refine lv_aload_n hx hb dX3_takes_109 rfl (lv_at hl 1 rfl) ?_
              refine lv_aload_n hx hb dX3_takes_110 rfl (lv_at hl 2 rfl) ?_
              refine lv_iload_n hx hb dX3_takes_111 rfl (lv_at hl 0 rfl) ?_
              obtain ⟨z16, hz16, hf⟩ := bnd hf
              refine x_wwV (C := RX3) (n := 2) (ci := 3) hx hb hml hown hts hE (ct_X3_takesOfRivals N l G cI cZ cO q I A q1 I1 A1 (x2 - 48) z16.1 z16.2.1 z16.2.2 hz16) (bg 8 9 rfl) mb_X3_takesOfRivals.1 mb_X3_takesOfRivals.2.1 mb_X3_takesOfRivals.2.2.1 mb_X3_takesOfRivals.2.2.2 hd_X3_takesOfRivals rfl (by decide) hP hD hS hA rfl rfl rfl rfl rfl hl.1 (Nat.le_of_ble_eq_true rfl) ⟨Nat.zero_le _, Nat.zero_le _⟩ dX3_takes_112 (fun H locs hP hD hS => ?_)
              have hP : va_P G vwCl (wX3 q cI cZ cO z16.2.1 A ++ wX5 q1 cI cZ cO I1 z16.2.2) H := hP
              have hD : va_D Z (wX3 q cI cZ cO z16.2.1 A ++ wX5 q1 cI cZ cO I1 z16.2.2) := hD
              obtain ⟨v17, hv17, hf⟩ := bnd hf
              obtain ⟨ev17, hv17⟩ := bz_in hv17
              rw [ev17]
              have e9 := Option.some.inj hf
              exact fin H locs 115 ls _ (Prod.mk.inj e9).1 (nar_z (by rw [← (Prod.mk.inj e9).1]; exact hv17)) (by rw [← (Prod.mk.inj (Prod.mk.inj e9).2).1, ← (Prod.mk.inj (Prod.mk.inj (Prod.mk.inj e9).2).2).1, ← (Prod.mk.inj (Prod.mk.inj (Prod.mk.inj e9).2).2).2]; exact hP) hS dX3_takes_115
            · rw [if_neg c15] at hf
              refine lv_lookup (off := 121) (tgt := 130) hx hb dX3_takes_9 rfl (by show Op.lookupswitch.offset [(0, 59), (1, 76), (80, 107), (82, 93), (83, 114), (88, 100)] 121 _ = 121; rw [lv_osw c1 (by decide), lv_osw c3 (by decide), lv_osw c6 (by decide), lv_osw c9 (by decide), lv_osw c12 (by decide), lv_osw c15 (by decide)]; rfl) (by decide) ?_
              refine lv_iconst (v := 0) hx hb dX3_takes_130 (by decide) ?_
              have e9 := Option.some.inj hf
              exact fin H locs 131 ls _ (Prod.mk.inj e9).1 (nar_z (Or.inl (Prod.mk.inj e9).1.symm)) (by rw [← (Prod.mk.inj (Prod.mk.inj e9).2).1, ← (Prod.mk.inj (Prod.mk.inj (Prod.mk.inj e9).2).2).1, ← (Prod.mk.inj (Prod.mk.inj (Prod.mk.inj e9).2).2).2]; exact hP) hS dX3_takes_131
def fX3_readInto_64 (N : Nat) (I : Nat → Int32) (A : Nat → Nat → Int32) (I1 : Nat → Int32) (A1 : Nat → Nat → Int32) (y0 : Int32) : Option (Int32 × (Nat → Int32) × (Nat → Int32) × (Nat → Nat → Int32)) := some (y0, I, I1, A1)
def fX3_readInto_47 (N : Nat) (I : Nat → Int32) (A : Nat → Nat → Int32) (I1 : Nat → Int32) (A1 : Nat → Nat → Int32) : Option (Int32 × (Nat → Int32) × (Nat → Int32) × (Nat → Nat → Int32)) := if (I 0) = 1 then fX3_readInto_64 N I A I1 A1 (-9) else fX3_readInto_64 N I A I1 A1 (I 4)
def fX3_readInto_11s (N : Nat) (k_11 : (Nat → Int32) → (Nat → Nat → Int32) → (Nat → Int32) → (Nat → Nat → Int32) → Int32 → Option (Int32 × (Nat → Int32) × (Nat → Int32) × (Nat → Nat → Int32))) (I : Nat → Int32) (A : Nat → Nat → Int32) (I1 : Nat → Int32) (A1 : Nat → Nat → Int32) (u2 : Int32) : Option (Int32 × (Nat → Int32) × (Nat → Int32) × (Nat → Nat → Int32)) := if (I 4) ≤ u2 then fX3_readInto_47 N I A I1 A1 else if 48 ≤ u2 then fX3_readInto_47 N I A I1 A1 else (rd 48 (A 0) u2).bind fun v3 => (fX3_takes N I I1 A1 v3).bind fun z4 => if z4.1 = 0 then some (u2, z4.2.1, z4.2.2.1, z4.2.2.2) else k_11 z4.2.1 A z4.2.2.1 z4.2.2.2 (u2 + 1)
def fX3_readInto_11 (N : Nat) : Nat → (Nat → Int32) → (Nat → Nat → Int32) → (Nat → Int32) → (Nat → Nat → Int32) → Int32 → Option (Int32 × (Nat → Int32) × (Nat → Int32) × (Nat → Nat → Int32))
  | 0 => fun _ _ _ _ _ => none
  | n + 1 => fX3_readInto_11s N (fX3_readInto_11 N n)
def fX3_readInto (N : Nat) (I : Nat → Int32) (A : Nat → Nat → Int32) (I1 : Nat → Int32) (A1 : Nat → Nat → Int32) : Option (Int32 × (Nat → Int32) × (Nat → Int32) × (Nat → Nat → Int32)) := (fX5_clear N I1).bind fun z1 => fX3_readInto_11 N N (upd I 0 0) A z1 A1 0
def rmX3_readInto : Room := { frames := 5, cells := 0, slots := 0, locals := 111 }
theorem mb_X3_readInto : Cond.instanceMethod yX3_readInto ∈ wsL_law ∧ Cond.selects RX3 yX3_readInto yX3_readInto ∈ wsL_law ∧ Cond.initialized RX3 ∈ wsL_law ∧ Cond.code yX3_readInto cX3_readInto 3 (some .int) ∈ wsL_law := ⟨(bg 6 2 rfl), (bg 6 3 rfl), (bg 0 15 rfl), (bg 6 4 rfl)⟩
theorem hd_X3_readInto : yX3_readInto.cls = RX3 ∧ yX3_readInto.cls ≠ "java/lang/invoke/MethodHandle" ∧ yX3_readInto.cls ≠ "java/lang/invoke/VarHandle" ∧ (parseMethodDescriptor yX3_readInto.desc).map (fun d => d.parameters.length) = some 1 := by decide +kernel
set_option maxRecDepth 100000 in
set_option maxHeartbeats 4000000 in
theorem ct_X3_readInto (N : Nat) (l : Launch) (G : va_G) (cI cZ cO : ClassId) (q : Nat → Nat) (I : Nat → Int32) (A : Nat → Nat → Int32) (q1 : Nat → Nat) (I1 : Nat → Int32) (A1 : Nat → Nat → Int32) (r : Int32) (Iz : Nat → Int32) (I1z : Nat → Int32) (A1z : Nat → Nat → Int32) (hf : fX3_readInto N I A I1 A1 = some (r, Iz, I1z, A1z)) : CtI l yX3_readInto cX3_readInto 3 .int rmX3_readInto G cI cZ cO [.ref (q 0), .ref (q1 0)] (wX3 q cI cZ cO I A ++ wX5 q1 cI cZ cO I1 A1) (wX3 q cI cZ cO Iz A ++ wX5 q1 cI cZ cO I1z A1z) r := by
  refine mkCI (by decide) (Nat.le_of_ble_eq_true rfl) ?_
  intro p e s m below meth cd Q Z hC hP hE hD hA fin ls hl
  obtain ⟨hx, hb, hml, hown, hts⟩ := hC
  have hown : s.vm.findClass RX3 = some m.cls := hown
  have hl : lv_has ls 3 [(0, .ref (q 0)), (1, .ref (q1 0))] := hl
  have b_64 : ∀ (I : Nat → Int32) (I1 : Nat → Int32) (A1 : Nat → Nat → Int32) (y0 : Int32), ∀ (H : Heap) (locs : List Loc), va_P G vwCl (wX3 q cI cZ cO I A ++ wX5 q1 cI cZ cO I1 A1) H → va_D Z (wX3 q cI cZ cO I A ++ wX5 q1 cI cZ cO I1 A1) → va_S Z s.heap H locs → ∀ ls : Array Slot, lv_has ls 3 [] → fX3_readInto_64 N I A I1 A1 y0 = some (r, Iz, I1z, A1z) → W p l e rmX3_readInto s m [.ref (q 0), .ref (q1 0)].toArray below meth cd H locs 0 0 Q (F0 m 64 ls [.int y0]) := by
    intro I I1 A1 y0 H locs hP hD hS ls hl hf
    unfold fX3_readInto_64 at hf
    have e9 := Option.some.inj hf
    exact fin H locs 64 ls _ (Prod.mk.inj e9).1 (nar_i _) (by rw [← (Prod.mk.inj (Prod.mk.inj e9).2).1, ← (Prod.mk.inj (Prod.mk.inj (Prod.mk.inj e9).2).2).1, ← (Prod.mk.inj (Prod.mk.inj (Prod.mk.inj e9).2).2).2]; exact hP) hS dX3_readInto_64
  have b_47 : ∀ (I : Nat → Int32) (I1 : Nat → Int32) (A1 : Nat → Nat → Int32), ∀ (H : Heap) (locs : List Loc), va_P G vwCl (wX3 q cI cZ cO I A ++ wX5 q1 cI cZ cO I1 A1) H → va_D Z (wX3 q cI cZ cO I A ++ wX5 q1 cI cZ cO I1 A1) → va_S Z s.heap H locs → ∀ ls : Array Slot, lv_has ls 3 [(0, .ref (q 0))] → fX3_readInto_47 N I A I1 A1 = some (r, Iz, I1z, A1z) → W p l e rmX3_readInto s m [.ref (q 0), .ref (q1 0)].toArray below meth cd H locs 0 0 Q (F0 m 47 ls []) := by
    intro I I1 A1 H locs hP hD hS ls hl hf
    unfold fX3_readInto_47 at hf
    refine lv_aload_n hx hb dX3_readInto_47 rfl (lv_at hl 0 rfl) ?_
    refine va_get (D := G) (ci := 3) (v := .int ((I 0))) (C := RX3) (T := TX3) (N := 6) hx hb hts inlX3 hown hE.1 hP 0 rfl rfl 1 (by decide) (hts _ (bg 6 5 rfl)) (fun _ h9 => h9) rfl dX3_readInto_48 ?_
    refine lv_iconst (v := 1) hx hb dX3_readInto_51 (by decide) ?_
    refine lv_icmp_ne (tgt := 60) hx hb dX3_readInto_52 (by decide) (fun c1 => ?_) (fun c1 => ?_)
    · rw [if_neg c1] at hf
      refine lv_aload_n hx hb dX3_readInto_60 rfl (lv_at hl 0 rfl) ?_
      refine va_get (D := G) (ci := 3) (v := .int ((I 4))) (C := RX3) (T := TX3) (N := 6) hx hb hts inlX3 hown hE.1 hP 0 rfl rfl 5 (by decide) (hts _ (bg 5 0 rfl)) (fun _ h9 => h9) rfl dX3_readInto_61 ?_
      exact b_64 I I1 A1 (I 4) H locs hP hD hS ls (lv_sub hl [] rfl) hf
    · rw [if_pos c1] at hf
      refine lv_bipush (v := (-9)) hx hb dX3_readInto_55 (by decide) ?_
      refine lv_goto (tgt := 64) hx hb dX3_readInto_57 (by decide) ?_
      exact b_64 I I1 A1 (-9) H locs hP hD hS ls (lv_sub hl [] rfl) hf
  have b_11 : ∀ n : Nat, ∀ (I : Nat → Int32) (I1 : Nat → Int32) (A1 : Nat → Nat → Int32) (u2 : Int32), ∀ (H : Heap) (locs : List Loc), va_P G vwCl (wX3 q cI cZ cO I A ++ wX5 q1 cI cZ cO I1 A1) H → va_D Z (wX3 q cI cZ cO I A ++ wX5 q1 cI cZ cO I1 A1) → va_S Z s.heap H locs → ∀ ls : Array Slot, lv_has ls 3 [(0, .ref (q 0)), (1, .ref (q1 0)), (2, .int u2)] → fX3_readInto_11 N n I A I1 A1 u2 = some (r, Iz, I1z, A1z) → W p l e rmX3_readInto s m [.ref (q 0), .ref (q1 0)].toArray below meth cd H locs 0 0 Q (F0 m 11 ls []) := by
    intro n
    induction n with
    | zero =>
      intro I I1 A1 u2 H locs hP hD hS ls hl hf
      cases hf
    | succ n hk_11 =>
      intro I I1 A1 u2 H locs hP hD hS ls hl hf
      replace hf : fX3_readInto_11s N (fX3_readInto_11 N n) I A I1 A1 u2 = some (r, Iz, I1z, A1z) := hf
      generalize fX3_readInto_11 N n = k_11 at hf hk_11
      unfold fX3_readInto_11s at hf
      refine lv_iload_n hx hb dX3_readInto_11 rfl (lv_at hl 2 rfl) ?_
      refine lv_aload_n hx hb dX3_readInto_12 rfl (lv_at hl 0 rfl) ?_
      refine va_get (D := G) (ci := 3) (v := .int ((I 4))) (C := RX3) (T := TX3) (N := 6) hx hb hts inlX3 hown hE.1 hP 0 rfl rfl 5 (by decide) (hts _ (bg 5 0 rfl)) (fun _ h9 => h9) rfl dX3_readInto_13 ?_
      refine lv_icmp_ge (tgt := 47) hx hb dX3_readInto_16 (by decide) (fun c1 => ?_) (fun c1 => ?_)
      · rw [if_pos c1] at hf
        exact b_47 I I1 A1 H locs hP hD hS ls (lv_sub hl [0] rfl) hf
      · rw [if_neg c1] at hf
        refine lv_iload_n hx hb dX3_readInto_19 rfl (lv_at hl 2 rfl) ?_
        refine lv_bipush (v := 48) hx hb dX3_readInto_20 (by decide) ?_
        refine lv_icmp_ge (tgt := 47) hx hb dX3_readInto_22 (by decide) (fun c2 => ?_) (fun c2 => ?_)
        · rw [if_pos c2] at hf
          exact b_47 I I1 A1 H locs hP hD hS ls (lv_sub hl [0] rfl) hf
        · rw [if_neg c2] at hf
          refine lv_aload_n hx hb dX3_readInto_25 rfl (lv_at hl 0 rfl) ?_
          refine lv_aload_n hx hb dX3_readInto_26 rfl (lv_at hl 1 rfl) ?_
          refine lv_aload_n hx hb dX3_readInto_27 rfl (lv_at hl 0 rfl) ?_
          refine va_get (D := G) (ci := 3) (v := .ref (q 1)) (C := RX3) (T := TX3) (N := 6) hx hb hts inlX3 hown hE.1 hP 0 rfl rfl 0 (by decide) (hts _ (bg 2 2 rfl)) (fun _ h9 => h9) rfl dX3_readInto_28 ?_
          refine lv_iload_n hx hb dX3_readInto_31 rfl (lv_at hl 2 rfl) ?_
          obtain ⟨v3, hv3, hf⟩ := bnd hf
          refine x_iald hx hb hE.1 hP 1 0 rfl rfl hv3 dX3_readInto_32 ?_
          obtain ⟨z4, hz4, hf⟩ := bnd hf
          refine x_wwV (C := RX3) (n := 2) (ci := 3) hx hb hml hown hts hE (ct_X3_takes N l G cI cZ cO q I A q1 I1 A1 v3 z4.1 z4.2.1 z4.2.2.1 z4.2.2.2 hz4) (bg 6 12 rfl) mb_X3_takes.1 mb_X3_takes.2.1 mb_X3_takes.2.2.1 mb_X3_takes.2.2.2 hd_X3_takes rfl (by decide) hP hD hS hA rfl rfl rfl rfl rfl hl.1 (Nat.le_of_ble_eq_true rfl) ⟨Nat.zero_le _, Nat.zero_le _⟩ dX3_readInto_33 (fun H locs hP hD hS => ?_)
          have hP : va_P G vwCl (wX3 q cI cZ cO z4.2.1 A ++ wX5 q1 cI cZ cO z4.2.2.1 z4.2.2.2) H := hP
          have hD : va_D Z (wX3 q cI cZ cO z4.2.1 A ++ wX5 q1 cI cZ cO z4.2.2.1 z4.2.2.2) := hD
          refine lv_if_ne (tgt := 41) hx hb dX3_readInto_36 (by decide) (fun c5 => ?_) (fun c5 => ?_)
          · rw [if_neg c5] at hf
            refine lv_iinc (v := u2 + 1) (lv' := [(2, .int (u2 + 1)), (0, .ref (q 0)), (1, .ref (q1 0))]) hx hb dX3_readInto_41 hl (k := 2) rfl rfl (by decide) rfl (fun ls hl => ?_)
            refine lv_goto (tgt := 11) hx hb dX3_readInto_44 (by decide) ?_
            exact hk_11 z4.2.1 z4.2.2.1 z4.2.2.2 (u2 + 1) H locs hP hD hS ls (lv_sub hl [1, 2, 0] rfl) hf
          · rw [if_pos c5] at hf
            refine lv_iload_n hx hb dX3_readInto_39 rfl (lv_at hl 2 rfl) ?_
            have e9 := Option.some.inj hf
            exact fin H locs 40 ls _ (Prod.mk.inj e9).1 (nar_i _) (by rw [← (Prod.mk.inj (Prod.mk.inj e9).2).1, ← (Prod.mk.inj (Prod.mk.inj (Prod.mk.inj e9).2).2).1, ← (Prod.mk.inj (Prod.mk.inj (Prod.mk.inj e9).2).2).2]; exact hP) hS dX3_readInto_40
  unfold fX3_readInto at hf
  have hS : va_S Z s.heap s.heap [] := va_S.rf
  obtain ⟨H, hH⟩ : ∃ H, H = s.heap := ⟨_, rfl⟩
  obtain ⟨locs, hlocs⟩ : ∃ locs : List Loc, locs = [] := ⟨_, rfl⟩
  rw [← hlocs]
  rw [← hlocs] at hS
  suffices hW : ∀ H : Heap, va_P G vwCl (wX3 q cI cZ cO I A ++ wX5 q1 cI cZ cO I1 A1) H → va_S Z s.heap H locs → W p l e rmX3_readInto s m [.ref (q 0), .ref (q1 0)].toArray below meth cd H locs 0 0 Q (F0 m 0 ls []) from hW s.heap hP hS
  clear hP hS hH H
  intro H hP hS
  refine lv_aload_n hx hb dX3_readInto_0 rfl (lv_at hl 1 rfl) ?_
  obtain ⟨z1, hz1, hf⟩ := bnd hf
  refine x_wrVv (C := RX5) (n := 0) (ci := 5) (ws1 := (wX3 q cI cZ cO I A ++ wX5 q1 cI cZ cO z1 A1)) hx hb hml hown hts hE (ct_X5_clear N l G cI cZ cO q1 I1 A1 z1 hz1) (bg 6 6 rfl) mb_X5_clear.1 mb_X5_clear.2.1 mb_X5_clear.2.2.1 mb_X5_clear.2.2.2 hd_X5_clear rfl (by decide) hP hD hS hA [2, 3, 4, 5, 6, 7, 8] [false, false, true, true, true, true, true, true, true] (by decide) (by decide +kernel) rfl rfl ⟨rfl, rfl, rfl, rfl, rfl, rfl, rfl, rfl, rfl, trivial⟩ rfl rfl rfl rfl hl.1 (Nat.le_of_ble_eq_true rfl) ⟨Nat.zero_le _, Nat.zero_le _⟩ dX3_readInto_1 (fun H locs hP hD hS => ?_)
  refine lv_aload_n hx hb dX3_readInto_4 rfl (lv_at hl 0 rfl) ?_
  refine lv_iconst (v := 0) hx hb dX3_readInto_5 (by decide) ?_
  refine va_put (D := G) (ci := 3) (v := .int 0) (ty := .int) (C := RX3) (T := TX3) (N := 6) hx hb hts inlX3 tyX3 tyX3_ok nmX3 hown hE.1 hP hD hS 0 rfl rfl 1 (by decide) (hts _ (bg 6 5 rfl)) (fun _ h9 => h9) rfl (by decide +kernel) rfl rfl (Nat.le_of_ble_eq_true rfl) dX3_readInto_6 (fun H locs hP hD hS => ?_)
  have hP : va_P G vwCl (wX3 q cI cZ cO (upd I 0 0) A ++ wX5 q1 cI cZ cO z1 A1) H := hP
  have hD : va_D Z (wX3 q cI cZ cO (upd I 0 0) A ++ wX5 q1 cI cZ cO z1 A1) := hD
  refine lv_iconst (v := 0) hx hb dX3_readInto_9 (by decide) ?_
  refine lv_istore_n (lv' := [(2, .int 0), (0, .ref (q 0)), (1, .ref (q1 0))]) hx hb dX3_readInto_10 rfl hl (by decide) rfl (fun ls hl => ?_)
  exact b_11 N (upd I 0 0) z1 A1 0 H locs hP hD hS ls (lv_sub hl [1, 2, 0] rfl) hf
def fX6_fault (N : Nat) (rI : Nat → Int32) (rA : Nat → Nat → Int32) (dI : Nat → Int32) (dA : Nat → Nat → Int32) : Option (Int32 × (Nat → Int32) × (Nat → Int32) × (Nat → Nat → Int32)) := (fX3_readInto N rI rA dI dA).bind fun z1 => some (z1.1, z1.2.1, z1.2.2.1, z1.2.2.2)
def rmX6_fault : Room := { frames := 6, cells := 0, slots := 0, locals := 133 }
theorem mb_X6_fault : Cond.instanceMethod yX6_fault ∈ wsL_law ∧ Cond.selects RX6 yX6_fault yX6_fault ∈ wsL_law ∧ Cond.initialized RX6 ∈ wsL_law ∧ Cond.code yX6_fault cX6_fault 1 (some .int) ∈ wsL_law := ⟨(bg 5 22 rfl), (bg 5 23 rfl), (bg 0 2 rfl), (bg 6 0 rfl)⟩
theorem hd_X6_fault : yX6_fault.cls = RX6 ∧ yX6_fault.cls ≠ "java/lang/invoke/MethodHandle" ∧ yX6_fault.cls ≠ "java/lang/invoke/VarHandle" ∧ (parseMethodDescriptor yX6_fault.desc).map (fun d => d.parameters.length) = some 0 := by decide +kernel
set_option maxRecDepth 100000 in
set_option maxHeartbeats 4000000 in
theorem ct_X6_fault (N : Nat) (l : Launch) (G : va_G) (cI cZ cO : ClassId) (q : Nat → Nat) (A : Nat → Nat → Int32) (L : Int64) (rI : Nat → Int32) (rA : Nat → Nat → Int32) (tI : Nat → Int32) (tA : Nat → Nat → Int32) (dI : Nat → Int32) (dA : Nat → Nat → Int32) (wI : Nat → Int32) (wA : Nat → Nat → Int32) (uI : Nat → Int32) (uA : Nat → Nat → Int32) (aI : Nat → Int32) (aS : Nat → Nat → Int32) (aT : Nat → Nat → Nat → Int32) (eI : Nat → Int32) (eA : Nat → Nat → Int32) (sS : Nat → Nat → Int32) (sT : Nat → Nat → Nat → Int32) (bI : Nat → Int32) (r : Int32) (rIz : Nat → Int32) (dIz : Nat → Int32) (dAz : Nat → Nat → Int32) (hf : fX6_fault N rI rA dI dA = some (r, rIz, dIz, dAz)) : CtI l yX6_fault cX6_fault 1 .int rmX6_fault G cI cZ cO [.ref (q 0)] (wX6 q cI cZ cO A L rI rA tI tA dI dA wI wA uI uA aI aS aT eI eA sS sT bI) (wX6 q cI cZ cO A L rIz rA tI tA dIz dAz wI wA uI uA aI aS aT eI eA sS sT bI) r := by
  refine mkCI (by decide) (Nat.le_of_ble_eq_true rfl) ?_
  intro p e s m below meth cd Q Z hC hP hE hD hA fin ls hl
  obtain ⟨hx, hb, hml, hown, hts⟩ := hC
  have hown : s.vm.findClass RX6 = some m.cls := hown
  have hl : lv_has ls 1 [(0, .ref (q 0))] := hl
  unfold fX6_fault at hf
  have hS : va_S Z s.heap s.heap [] := va_S.rf
  obtain ⟨H, hH⟩ : ∃ H, H = s.heap := ⟨_, rfl⟩
  obtain ⟨locs, hlocs⟩ : ∃ locs : List Loc, locs = [] := ⟨_, rfl⟩
  rw [← hlocs]
  rw [← hlocs] at hS
  suffices hW : ∀ H : Heap, va_P G vwCl (wX6 q cI cZ cO A L rI rA tI tA dI dA wI wA uI uA aI aS aT eI eA sS sT bI) H → va_S Z s.heap H locs → W p l e rmX6_fault s m [.ref (q 0)].toArray below meth cd H locs 0 0 Q (F0 m 0 ls []) from hW s.heap hP hS
  clear hP hS hH H
  intro H hP hS
  refine lv_aload_n hx hb dX6_fault_0 rfl (lv_at hl 0 rfl) ?_
  refine va_get (D := G) (ci := 6) (v := .ref (q 1)) (C := RX6) (T := TX6) (N := 15) hx hb hts inlX6 hown hE.1 hP 0 rfl rfl 0 (by decide) (hts _ (bg 0 16 rfl)) (fun _ h9 => h9) rfl dX6_fault_1 ?_
  refine lv_aload_n hx hb dX6_fault_4 rfl (lv_at hl 0 rfl) ?_
  refine va_get (D := G) (ci := 6) (v := .ref (q 10)) (C := RX6) (T := TX6) (N := 15) hx hb hts inlX6 hown hE.1 hP 0 rfl rfl 2 (by decide) (hts _ (bg 0 21 rfl)) (fun _ h9 => h9) rfl dX6_fault_5 ?_
  obtain ⟨z1, hz1, hf⟩ := bnd hf
  refine x_wrV (C := RX3) (n := 1) (ci := 3) (ws1 := (wX6 q cI cZ cO A L z1.2.1 rA tI tA z1.2.2.1 z1.2.2.2 wI wA uI uA aI aS aT eI eA sS sT bI)) hx hb hml hown hts hE (ct_X3_readInto N l G cI cZ cO (sh q 1) rI rA (sh q 10) dI dA z1.1 z1.2.1 z1.2.2.1 z1.2.2.2 hz1) (bg 6 1 rfl) mb_X3_readInto.1 mb_X3_readInto.2.1 mb_X3_readInto.2.2.1 mb_X3_readInto.2.2.2 hd_X3_readInto rfl (by decide) hP hD hS hA [1, 2, 10, 11, 12, 13, 14, 15, 16] [false, true, true, false, false, false, false, false, false, false, true, true, true, true, true, true, true, false, false, false, false, false, false, false, false, false, false, false, false, false, false, false, false, false, false, false, false, false, false, false, false, false, false, false, false, false, false, false, false, false, false, false, false, false, false, false, false, false, false, false, false, false, false, false, false, false, false, false, false, false, false, false, false, false, false, false, false, false, false, false, false, false, false, false, false, false, false, false, false, false, false, false, false, false, false, false, false, false, false, false, false, false, false] (by decide) (by decide +kernel) rfl rfl ⟨rfl, rfl, rfl, rfl, rfl, rfl, rfl, rfl, rfl, rfl, rfl, rfl, rfl, rfl, rfl, rfl, rfl, rfl, rfl, rfl, rfl, rfl, rfl, rfl, rfl, rfl, rfl, rfl, rfl, rfl, rfl, rfl, rfl, rfl, rfl, rfl, rfl, rfl, rfl, rfl, rfl, rfl, rfl, rfl, rfl, rfl, rfl, rfl, rfl, rfl, rfl, rfl, rfl, rfl, rfl, rfl, rfl, rfl, rfl, rfl, rfl, rfl, rfl, rfl, rfl, rfl, rfl, rfl, rfl, rfl, rfl, rfl, rfl, rfl, rfl, rfl, rfl, rfl, rfl, rfl, rfl, rfl, rfl, rfl, rfl, rfl, rfl, rfl, rfl, rfl, rfl, rfl, rfl, rfl, rfl, rfl, rfl, rfl, rfl, rfl, rfl, rfl, rfl, trivial⟩ rfl rfl rfl rfl hl.1 (Nat.le_of_ble_eq_true rfl) ⟨Nat.zero_le _, Nat.zero_le _⟩ dX6_fault_8 (fun H locs hP hD hS => ?_)
  have e9 := Option.some.inj hf
  exact fin H locs 11 ls _ (Prod.mk.inj e9).1 (nar_i _) (by rw [← (Prod.mk.inj (Prod.mk.inj e9).2).1, ← (Prod.mk.inj (Prod.mk.inj (Prod.mk.inj e9).2).2).1, ← (Prod.mk.inj (Prod.mk.inj (Prod.mk.inj e9).2).2).2]; exact hP) hS dX6_fault_11
def fX4_open_51s (N : Nat) (k_51 : (Nat → Int32) → (Nat → Nat → Int32) → (Nat → Int32) → (Nat → Nat → Int32) → Int32 → Option ((Nat → Int32) × (Nat → Nat → Int32))) (I : Nat → Int32) (A : Nat → Nat → Int32) (I1 : Nat → Int32) (A1 : Nat → Nat → Int32) (u2 : Int32) : Option ((Nat → Int32) × (Nat → Nat → Int32)) := if 20 ≤ u2 then some (I, A) else (wr 20 (A 2) u2 0).bind fun g2 => k_51 I (va_up A 2 g2) I1 A1 (u2 + 1)
def fX4_open_51 (N : Nat) : Nat → (Nat → Int32) → (Nat → Nat → Int32) → (Nat → Int32) → (Nat → Nat → Int32) → Int32 → Option ((Nat → Int32) × (Nat → Nat → Int32))
  | 0 => fun _ _ _ _ _ => none
  | n + 1 => fX4_open_51s N (fX4_open_51 N n)
def fX4_open_35 (N : Nat) (k_7 : (Nat → Int32) → (Nat → Nat → Int32) → (Nat → Int32) → (Nat → Nat → Int32) → Int32 → Option ((Nat → Int32) × (Nat → Nat → Int32))) (I : Nat → Int32) (A : Nat → Nat → Int32) (I1 : Nat → Int32) (A1 : Nat → Nat → Int32) (u2 : Int32) (y1 : Int32) (y2 : Int32) : Option ((Nat → Int32) × (Nat → Nat → Int32)) := (wr 5 (A 0) y1 y2).bind fun g1 => (wr 5 (A 1) u2 0).bind fun g2 => k_7 I (va_up (va_up A 0 g1) 1 g2) I1 A1 (u2 + 1)
def fX4_open_7s (N : Nat) (k_7 : (Nat → Int32) → (Nat → Nat → Int32) → (Nat → Int32) → (Nat → Nat → Int32) → Int32 → Option ((Nat → Int32) × (Nat → Nat → Int32))) (I : Nat → Int32) (A : Nat → Nat → Int32) (I1 : Nat → Int32) (A1 : Nat → Nat → Int32) (u2 : Int32) : Option ((Nat → Int32) × (Nat → Nat → Int32)) := if 5 ≤ u2 then fX4_open_51 N N I A I1 A1 0 else (fX5_hasRumour N I1 u2).bind fun z2 => if z2 = 0 then fX4_open_35 N k_7 I A I1 A1 u2 u2 0 else (rd 5 (A1 4) u2).bind fun v4 => fX4_open_35 N k_7 I A I1 A1 u2 u2 v4
def fX4_open_7 (N : Nat) : Nat → (Nat → Int32) → (Nat → Nat → Int32) → (Nat → Int32) → (Nat → Nat → Int32) → Int32 → Option ((Nat → Int32) × (Nat → Nat → Int32))
  | 0 => fun _ _ _ _ _ => none
  | n + 1 => fX4_open_7s N (fX4_open_7 N n)
def fX4_open (N : Nat) (I : Nat → Int32) (A : Nat → Nat → Int32) (I1 : Nat → Int32) (A1 : Nat → Nat → Int32) : Option ((Nat → Int32) × (Nat → Nat → Int32)) := fX4_open_7 N N (upd I 0 0) A I1 A1 0
def rmX4_open : Room := { frames := 1, cells := 0, slots := 0, locals := 21 }
theorem mb_X4_open : Cond.instanceMethod yX4_open ∈ wsL_law ∧ Cond.selects RX4 yX4_open yX4_open ∈ wsL_law ∧ Cond.initialized RX4 ∈ wsL_law ∧ Cond.code yX4_open cX4_open 3 none ∈ wsL_law := ⟨(bg 11 11 rfl), (bg 11 12 rfl), (bg 1 0 rfl), (bg 11 13 rfl)⟩
theorem hd_X4_open : yX4_open.cls = RX4 ∧ yX4_open.cls ≠ "java/lang/invoke/MethodHandle" ∧ yX4_open.cls ≠ "java/lang/invoke/VarHandle" ∧ (parseMethodDescriptor yX4_open.desc).map (fun d => d.parameters.length) = some 1 := by decide +kernel
set_option maxRecDepth 100000 in
set_option maxHeartbeats 4000000 in
theorem ct_X4_open (N : Nat) (l : Launch) (G : va_G) (cI cZ cO : ClassId) (q : Nat → Nat) (I : Nat → Int32) (A : Nat → Nat → Int32) (q1 : Nat → Nat) (I1 : Nat → Int32) (A1 : Nat → Nat → Int32) (Iz : Nat → Int32) (Az : Nat → Nat → Int32) (hf : fX4_open N I A I1 A1 = some (Iz, Az)) : CtV l yX4_open cX4_open 3 rmX4_open G cI cZ cO [.ref (q 0), .ref (q1 0)] (wX4 q cI cZ cO I A ++ wX5 q1 cI cZ cO I1 A1) (wX4 q cI cZ cO Iz Az ++ wX5 q1 cI cZ cO I1 A1) := by
  refine mkCV (by decide) (Nat.le_of_ble_eq_true rfl) ?_
  intro p e s m below meth cd Q Z hC hP hE hD hA fin ls hl
  obtain ⟨hx, hb, hml, hown, hts⟩ := hC
  have hown : s.vm.findClass RX4 = some m.cls := hown
  have hl : lv_has ls 3 [(0, .ref (q 0)), (1, .ref (q1 0))] := hl
  have b_51 : ∀ n : Nat, ∀ (I : Nat → Int32) (A : Nat → Nat → Int32) (u2 : Int32), ∀ (H : Heap) (locs : List Loc), va_P G vwCl (wX4 q cI cZ cO I A ++ wX5 q1 cI cZ cO I1 A1) H → va_D Z (wX4 q cI cZ cO I A ++ wX5 q1 cI cZ cO I1 A1) → va_S Z s.heap H locs → ∀ ls : Array Slot, lv_has ls 3 [(0, .ref (q 0)), (2, .int u2)] → fX4_open_51 N n I A I1 A1 u2 = some (Iz, Az) → W p l e rmX4_open s m [.ref (q 0), .ref (q1 0)].toArray below meth cd H locs 0 0 Q (F0 m 51 ls []) := by
    intro n
    induction n with
    | zero =>
      intro I A u2 H locs hP hD hS ls hl hf
      cases hf
    | succ n hk_51 =>
      intro I A u2 H locs hP hD hS ls hl hf
      replace hf : fX4_open_51s N (fX4_open_51 N n) I A I1 A1 u2 = some (Iz, Az) := hf
      generalize fX4_open_51 N n = k_51 at hf hk_51
      unfold fX4_open_51s at hf
      refine lv_iload_n hx hb dX4_open_51 rfl (lv_at hl 1 rfl) ?_
      refine lv_aload_n hx hb dX4_open_52 rfl (lv_at hl 0 rfl) ?_
      refine va_get (D := G) (ci := 4) (v := .ref (q 3)) (C := RX4) (T := TX4) (N := 4) hx hb hts inlX4 hown hE.1 hP 0 rfl rfl 2 (by decide) (hts _ (bg 2 17 rfl)) (fun _ h9 => h9) rfl dX4_open_53 ?_
      refine va_alen (v := 20) hx hb hE.1 hP 3 0 rfl rfl rfl dX4_open_56 ?_
      refine lv_icmp_ge (tgt := 73) hx hb dX4_open_57 (by decide) (fun c1 => ?_) (fun c1 => ?_)
      · rw [if_pos c1] at hf
        have e9 := Option.some.inj hf
        exact fin H locs 73 ls (by rw [← (Prod.mk.inj e9).1, ← (Prod.mk.inj e9).2]; exact hP) hS dX4_open_73
      · rw [if_neg c1] at hf
        refine lv_aload_n hx hb dX4_open_60 rfl (lv_at hl 0 rfl) ?_
        refine va_get (D := G) (ci := 4) (v := .ref (q 3)) (C := RX4) (T := TX4) (N := 4) hx hb hts inlX4 hown hE.1 hP 0 rfl rfl 2 (by decide) (hts _ (bg 2 17 rfl)) (fun _ h9 => h9) rfl dX4_open_61 ?_
        refine lv_iload_n hx hb dX4_open_64 rfl (lv_at hl 1 rfl) ?_
        refine lv_iconst (v := 0) hx hb dX4_open_65 (by decide) ?_
        obtain ⟨g2, hg2, hf⟩ := bnd hf
        refine x_iast hx hb hE.1 hP hD hS 3 0 rfl rfl hg2 dX4_open_66 (fun H locs hP hD hS => ?_)
        have hP : va_P G vwCl (wX4 q cI cZ cO I (va_up A 2 g2) ++ wX5 q1 cI cZ cO I1 A1) H := hP
        have hD : va_D Z (wX4 q cI cZ cO I (va_up A 2 g2) ++ wX5 q1 cI cZ cO I1 A1) := hD
        refine lv_iinc (v := u2 + 1) (lv' := [(2, .int (u2 + 1)), (0, .ref (q 0))]) hx hb dX4_open_67 hl (k := 1) rfl rfl (by decide) rfl (fun ls hl => ?_)
        refine lv_goto (tgt := 51) hx hb dX4_open_70 (by decide) ?_
        exact hk_51 I (va_up A 2 g2) (u2 + 1) H locs hP hD hS ls (lv_sub hl [1, 0] rfl) hf
  have b_35 : ∀ (k_7 : (Nat → Int32) → (Nat → Nat → Int32) → (Nat → Int32) → (Nat → Nat → Int32) → Int32 → Option ((Nat → Int32) × (Nat → Nat → Int32))) (hk_7 : ∀ (I : Nat → Int32) (A : Nat → Nat → Int32) (u2 : Int32), ∀ (H : Heap) (locs : List Loc), va_P G vwCl (wX4 q cI cZ cO I A ++ wX5 q1 cI cZ cO I1 A1) H → va_D Z (wX4 q cI cZ cO I A ++ wX5 q1 cI cZ cO I1 A1) → va_S Z s.heap H locs → ∀ ls : Array Slot, lv_has ls 3 [(0, .ref (q 0)), (1, .ref (q1 0)), (2, .int u2)] → k_7 I A I1 A1 u2 = some (Iz, Az) → W p l e rmX4_open s m [.ref (q 0), .ref (q1 0)].toArray below meth cd H locs 0 0 Q (F0 m 7 ls [])), ∀ (I : Nat → Int32) (A : Nat → Nat → Int32) (u2 : Int32) (y1 : Int32) (y2 : Int32), ∀ (H : Heap) (locs : List Loc), va_P G vwCl (wX4 q cI cZ cO I A ++ wX5 q1 cI cZ cO I1 A1) H → va_D Z (wX4 q cI cZ cO I A ++ wX5 q1 cI cZ cO I1 A1) → va_S Z s.heap H locs → ∀ ls : Array Slot, lv_has ls 3 [(0, .ref (q 0)), (1, .ref (q1 0)), (2, .int u2)] → fX4_open_35 N k_7 I A I1 A1 u2 y1 y2 = some (Iz, Az) → W p l e rmX4_open s m [.ref (q 0), .ref (q1 0)].toArray below meth cd H locs 0 0 Q (F0 m 35 ls [.int y2, .int y1, .ref (q 1)]) := by
    intro k_7 hk_7 I A u2 y1 y2 H locs hP hD hS ls hl hf
    unfold fX4_open_35 at hf
    obtain ⟨g1, hg1, hf⟩ := bnd hf
    refine x_iast hx hb hE.1 hP hD hS 1 0 rfl rfl hg1 dX4_open_35 (fun H locs hP hD hS => ?_)
    have hP : va_P G vwCl (wX4 q cI cZ cO I (va_up A 0 g1) ++ wX5 q1 cI cZ cO I1 A1) H := hP
    have hD : va_D Z (wX4 q cI cZ cO I (va_up A 0 g1) ++ wX5 q1 cI cZ cO I1 A1) := hD
    refine lv_aload_n hx hb dX4_open_36 rfl (lv_at hl 0 rfl) ?_
    refine va_get (D := G) (ci := 4) (v := .ref (q 2)) (C := RX4) (T := TX4) (N := 4) hx hb hts inlX4 hown hE.1 hP 0 rfl rfl 1 (by decide) (hts _ (bg 2 16 rfl)) (fun _ h9 => h9) rfl dX4_open_37 ?_
    refine lv_iload_n hx hb dX4_open_40 rfl (lv_at hl 2 rfl) ?_
    refine lv_iconst (v := 0) hx hb dX4_open_41 (by decide) ?_
    obtain ⟨g2, hg2, hf⟩ := bnd hf
    refine x_iast hx hb hE.1 hP hD hS 2 0 rfl rfl hg2 dX4_open_42 (fun H locs hP hD hS => ?_)
    have hP : va_P G vwCl (wX4 q cI cZ cO I (va_up (va_up A 0 g1) 1 g2) ++ wX5 q1 cI cZ cO I1 A1) H := hP
    have hD : va_D Z (wX4 q cI cZ cO I (va_up (va_up A 0 g1) 1 g2) ++ wX5 q1 cI cZ cO I1 A1) := hD
    refine lv_iinc (v := u2 + 1) (lv' := [(2, .int (u2 + 1)), (0, .ref (q 0)), (1, .ref (q1 0))]) hx hb dX4_open_43 hl (k := 2) rfl rfl (by decide) rfl (fun ls hl => ?_)
    refine lv_goto (tgt := 7) hx hb dX4_open_46 (by decide) ?_
    exact hk_7 I (va_up (va_up A 0 g1) 1 g2) (u2 + 1) H locs hP hD hS ls (lv_sub hl [1, 2, 0] rfl) hf
  have b_7 : ∀ n : Nat, ∀ (I : Nat → Int32) (A : Nat → Nat → Int32) (u2 : Int32), ∀ (H : Heap) (locs : List Loc), va_P G vwCl (wX4 q cI cZ cO I A ++ wX5 q1 cI cZ cO I1 A1) H → va_D Z (wX4 q cI cZ cO I A ++ wX5 q1 cI cZ cO I1 A1) → va_S Z s.heap H locs → ∀ ls : Array Slot, lv_has ls 3 [(0, .ref (q 0)), (1, .ref (q1 0)), (2, .int u2)] → fX4_open_7 N n I A I1 A1 u2 = some (Iz, Az) → W p l e rmX4_open s m [.ref (q 0), .ref (q1 0)].toArray below meth cd H locs 0 0 Q (F0 m 7 ls []) := by
    intro n
    induction n with
    | zero =>
      intro I A u2 H locs hP hD hS ls hl hf
      cases hf
    | succ n hk_7 =>
      intro I A u2 H locs hP hD hS ls hl hf
      replace hf : fX4_open_7s N (fX4_open_7 N n) I A I1 A1 u2 = some (Iz, Az) := hf
      generalize fX4_open_7 N n = k_7 at hf hk_7
      unfold fX4_open_7s at hf
      refine lv_iload_n hx hb dX4_open_7 rfl (lv_at hl 2 rfl) ?_
      refine lv_iconst (v := 5) hx hb dX4_open_8 (by decide) ?_
      refine lv_icmp_ge (tgt := 49) hx hb dX4_open_9 (by decide) (fun c1 => ?_) (fun c1 => ?_)
      · rw [if_pos c1] at hf
        refine lv_iconst (v := 0) hx hb dX4_open_49 (by decide) ?_
        refine lv_istore_n (lv' := [(2, .int 0), (0, .ref (q 0)), (1, .ref (q1 0))]) hx hb dX4_open_50 rfl hl (by decide) rfl (fun ls hl => ?_)
        exact b_51 N I A 0 H locs hP hD hS ls (lv_sub hl [1, 0] rfl) hf
      · rw [if_neg c1] at hf
        refine lv_aload_n hx hb dX4_open_12 rfl (lv_at hl 0 rfl) ?_
        refine va_get (D := G) (ci := 4) (v := .ref (q 1)) (C := RX4) (T := TX4) (N := 4) hx hb hts inlX4 hown hE.1 hP 0 rfl rfl 0 (by decide) (hts _ (bg 2 15 rfl)) (fun _ h9 => h9) rfl dX4_open_13 ?_
        refine lv_iload_n hx hb dX4_open_16 rfl (lv_at hl 2 rfl) ?_
        refine lv_aload_n hx hb dX4_open_17 rfl (lv_at hl 1 rfl) ?_
        refine lv_iload_n hx hb dX4_open_18 rfl (lv_at hl 2 rfl) ?_
        obtain ⟨z2, hz2, hf⟩ := bnd hf
        refine x_rdV (C := RX5) (n := 1) (ci := 5) hx hb hml hown hts hE (ct_X5_hasRumour N l G cI cZ cO q1 I1 A1 u2 z2 hz2) (bg 11 16 rfl) mb_X5_hasRumour.1 mb_X5_hasRumour.2.1 mb_X5_hasRumour.2.2.1 mb_X5_hasRumour.2.2.2 hd_X5_hasRumour rfl (by decide) (x_cut hP [4, 5, 6, 7, 8, 9, 10] rfl) rfl rfl rfl rfl hl.1 (Nat.le_of_ble_eq_true rfl) ⟨Nat.zero_le _, Nat.zero_le _⟩ dX4_open_19 ?_
        refine lv_if_eq (tgt := 34) hx hb dX4_open_22 (by decide) (fun c3 => ?_) (fun c3 => ?_)
        · rw [if_pos c3] at hf
          refine lv_iconst (v := 0) hx hb dX4_open_34 (by decide) ?_
          exact b_35 k_7 hk_7 I A u2 u2 0 H locs hP hD hS ls (lv_sub hl [0, 1, 2] rfl) hf
        · rw [if_neg c3] at hf
          refine lv_aload_n hx hb dX4_open_25 rfl (lv_at hl 1 rfl) ?_
          refine va_get (D := G) (ci := 5) (v := .ref (q1 5)) (C := RX5) (T := TX5) (N := 8) hx hb hts inlX5 hown hE.1 hP 4 rfl rfl 4 (by decide) (hts _ (bg 11 15 rfl)) (fun _ h9 => h9) rfl dX4_open_26 ?_
          refine lv_iload_n hx hb dX4_open_29 rfl (lv_at hl 2 rfl) ?_
          obtain ⟨v4, hv4, hf⟩ := bnd hf
          refine x_iald hx hb hE.1 hP 9 0 rfl rfl hv4 dX4_open_30 ?_
          refine lv_goto (tgt := 35) hx hb dX4_open_31 (by decide) ?_
          exact b_35 k_7 hk_7 I A u2 u2 v4 H locs hP hD hS ls (lv_sub hl [0, 1, 2] rfl) hf
  unfold fX4_open at hf
  have hS : va_S Z s.heap s.heap [] := va_S.rf
  obtain ⟨H, hH⟩ : ∃ H, H = s.heap := ⟨_, rfl⟩
  obtain ⟨locs, hlocs⟩ : ∃ locs : List Loc, locs = [] := ⟨_, rfl⟩
  rw [← hlocs]
  rw [← hlocs] at hS
  suffices hW : ∀ H : Heap, va_P G vwCl (wX4 q cI cZ cO I A ++ wX5 q1 cI cZ cO I1 A1) H → va_S Z s.heap H locs → W p l e rmX4_open s m [.ref (q 0), .ref (q1 0)].toArray below meth cd H locs 0 0 Q (F0 m 0 ls []) from hW s.heap hP hS
  clear hP hS hH H
  intro H hP hS
  refine lv_aload_n hx hb dX4_open_0 rfl (lv_at hl 0 rfl) ?_
  refine lv_iconst (v := 0) hx hb dX4_open_1 (by decide) ?_
  refine va_put (D := G) (ci := 4) (v := .int 0) (ty := .int) (C := RX4) (T := TX4) (N := 4) hx hb hts inlX4 tyX4 tyX4_ok nmX4 hown hE.1 hP hD hS 0 rfl rfl 3 (by decide) (hts _ (bg 11 14 rfl)) (fun _ h9 => h9) rfl (by decide +kernel) rfl rfl (Nat.le_of_ble_eq_true rfl) dX4_open_2 (fun H locs hP hD hS => ?_)
  have hP : va_P G vwCl (wX4 q cI cZ cO (upd I 0 0) A ++ wX5 q1 cI cZ cO I1 A1) H := hP
  have hD : va_D Z (wX4 q cI cZ cO (upd I 0 0) A ++ wX5 q1 cI cZ cO I1 A1) := hD
  refine lv_iconst (v := 0) hx hb dX4_open_5 (by decide) ?_
  refine lv_istore_n (lv' := [(2, .int 0), (0, .ref (q 0)), (1, .ref (q1 0))]) hx hb dX4_open_6 rfl hl (by decide) rfl (fun ls hl => ?_)
  exact b_7 N (upd I 0 0) A 0 H locs hP hD hS ls (lv_sub hl [1, 2, 0] rfl) hf
