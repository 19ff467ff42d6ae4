def fX6_factorial_25 (N : Nat) (u1 : Int32) : Option (Int32) := some u1
def fX6_factorial_4s (N : Nat) (k_4 : Int32 → Int32 → Int32 → Option (Int32)) (u0 : Int32) (u1 : Int32) (u2 : Int32) : Option (Int32) := if u0 < u2 then fX6_factorial_25 N u1 else if 6 < u2 then fX6_factorial_25 N u1 else k_4 u0 (u1 * u2) (u2 + 1)
def fX6_factorial_4 (N : Nat) : Nat → Int32 → Int32 → Int32 → Option (Int32)
  | 0 => fun _ _ _ => none
  | n + 1 => fX6_factorial_4s N (fX6_factorial_4 N n)
def fX6_factorial (N : Nat) (x0 : Int32) : Option (Int32) := fX6_factorial_4 N N x0 1 2
def rmX6_factorial : Room := { frames := 0, cells := 0, slots := 0, locals := 0 }
theorem mb_X6_factorial : Cond.static yX6_factorial ∈ wsL_law ∧ Cond.initialized yX6_factorial.cls ∈ wsL_law ∧ Cond.code yX6_factorial cX6_factorial 3 (some .int) ∈ wsL_law := ⟨(bg 32 3 rfl), (bg 0 2 rfl), (bg 32 4 rfl)⟩
theorem hd_X6_factorial : yX6_factorial.cls ≠ "java/lang/invoke/MethodHandle" ∧ yX6_factorial.cls ≠ "java/lang/invoke/VarHandle" ∧ (parseMethodDescriptor yX6_factorial.desc).map (fun d => d.parameters.length) = some 1 := by decide +kernel
set_option maxRecDepth 100000 in
set_option maxHeartbeats 4000000 in
theorem ct_X6_factorial (N : Nat) (l : Launch) (G : va_G) (cI cZ cO : ClassId) (x0 : Int32) (r : Int32) (hf : fX6_factorial N x0 = some r) : RtI l yX6_factorial cX6_factorial 3 .int rmX6_factorial G cI cZ cO [.int x0] [] r := by
  refine mkRI (by decide) (Nat.le_of_ble_eq_true rfl) ?_
  intro p e s m below meth cd Q hC hP hE fin ls hl
  obtain ⟨hx, hb, hml, hown, hts⟩ := hC
  have hown : s.vm.findClass RX6 = some m.cls := hown
  have hl : lv_has ls 3 [(0, .int x0)] := hl
  have b_25 : ∀ (u1 : Int32), ∀ ls : Array Slot, lv_has ls 3 [(1, .int u1)] → fX6_factorial_25 N u1 = some r → W p l e rmX6_factorial s m [.int x0].toArray below meth cd s.heap [] 0 0 Q (F0 m 25 ls []) := by
    intro u1 ls hl hf
    unfold fX6_factorial_25 at hf
    refine lv_iload_n hx hb dX6_factorial_25 rfl (lv_at hl 0 rfl) ?_
    have e9 := Option.some.inj hf
    exact fin 26 ls _ e9 (nar_i _) dX6_factorial_26
  have b_4 : ∀ n : Nat, ∀ (u0 : Int32) (u1 : Int32) (u2 : Int32), ∀ ls : Array Slot, lv_has ls 3 [(0, .int u0), (1, .int u1), (2, .int u2)] → fX6_factorial_4 N n u0 u1 u2 = some r → W p l e rmX6_factorial s m [.int x0].toArray below meth cd s.heap [] 0 0 Q (F0 m 4 ls []) := by
    intro n
    induction n with
    | zero =>
      intro u0 u1 u2 ls hl hf
      cases hf
    | succ n hk_4 =>
      intro u0 u1 u2 ls hl hf
      replace hf : fX6_factorial_4s N (fX6_factorial_4 N n) u0 u1 u2 = some r := hf
      generalize fX6_factorial_4 N n = k_4 at hf hk_4
      unfold fX6_factorial_4s at hf
      refine lv_iload_n hx hb dX6_factorial_4 rfl (lv_at hl 2 rfl) ?_
      refine lv_iload_n hx hb dX6_factorial_5 rfl (lv_at hl 0 rfl) ?_
      refine lv_icmp_gt (tgt := 25) hx hb dX6_factorial_6 (by decide) (fun c1 => ?_) (fun c1 => ?_)
      · rw [if_pos c1] at hf
        exact b_25 u1 ls (lv_sub hl [1] rfl) hf
      · rw [if_neg c1] at hf
        refine lv_iload_n hx hb dX6_factorial_9 rfl (lv_at hl 2 rfl) ?_
        refine lv_bipush (v := 6) hx hb dX6_factorial_10 (by decide) ?_
        refine lv_icmp_gt (tgt := 25) hx hb dX6_factorial_12 (by decide) (fun c2 => ?_) (fun c2 => ?_)
        · rw [if_pos c2] at hf
          exact b_25 u1 ls (lv_sub hl [1] rfl) hf
        · rw [if_neg c2] at hf
          refine lv_iload_n hx hb dX6_factorial_15 rfl (lv_at hl 1 rfl) ?_
          refine lv_iload_n hx hb dX6_factorial_16 rfl (lv_at hl 2 rfl) ?_
          refine lv_imul hx hb dX6_factorial_17 ?_
          refine lv_istore_n (lv' := [(1, .int (u1 * u2)), (0, .int u0), (2, .int u2)]) hx hb dX6_factorial_18 rfl hl (by decide) rfl (fun ls hl => ?_)
          refine lv_iinc (v := u2 + 1) (lv' := [(2, .int (u2 + 1)), (1, .int (u1 * u2)), (0, .int u0)]) hx hb dX6_factorial_19 hl (k := 2) rfl rfl (by decide) rfl (fun ls hl => ?_)
          refine lv_goto (tgt := 4) hx hb dX6_factorial_22 (by decide) ?_
          exact hk_4 u0 (u1 * u2) (u2 + 1) ls (lv_sub hl [2, 1, 0] rfl) hf
  unfold fX6_factorial at hf
  refine lv_iconst (v := 1) hx hb dX6_factorial_0 (by decide) ?_
  refine lv_istore_n (lv' := [(1, .int 1), (0, .int x0)]) hx hb dX6_factorial_1 rfl hl (by decide) rfl (fun ls hl => ?_)
  refine lv_iconst (v := 2) hx hb dX6_factorial_2 (by decide) ?_
  refine lv_istore_n (lv' := [(2, .int 2), (1, .int 1), (0, .int x0)]) hx hb dX6_factorial_3 rfl hl (by decide) rfl (fun ls hl => ?_)
  exact b_4 N x0 1 2 ls (lv_sub hl [2, 1, 0] rfl) hf
def fX6_share_152 (N : Nat) (k_83 : (Nat → Int32) → (Nat → Nat → Int32) → (Nat → Int32) → (Nat → Nat → Int32) → Int32 → Int32 → Int32 → Int32 → Int32 → Int32 → Int32 → Int32 → Option (Int32)) (tI : Nat → Int32) (tA : Nat → Nat → Int32) (wI : Nat → Int32) (wA : Nat → Nat → Int32) (u1 : Int32) (u2 : Int32) (u3 : Int32) (u4 : Int32) (u6 : Int32) (u7 : Int32) (u8 : Int32) (u9 : Int32) : Option (Int32) := k_83 tI tA wI wA u1 u2 u3 u4 u6 u7 u8 (u9 + 1)
def fX6_share_83s (N : Nat) (k_83 : (Nat → Int32) → (Nat → Nat → Int32) → (Nat → Int32) → (Nat → Nat → Int32) → Int32 → Int32 → Int32 → Int32 → Int32 → Int32 → Int32 → Int32 → Option (Int32)) (tI : Nat → Int32) (tA : Nat → Nat → Int32) (wI : Nat → Int32) (wA : Nat → Nat → Int32) (u1 : Int32) (u2 : Int32) (u3 : Int32) (u4 : Int32) (u6 : Int32) (u7 : Int32) (u8 : Int32) (u9 : Int32) : Option (Int32) := if 63 < u9 then (fX6_factorial N (u7 + 1)).bind fun z2 => (fX6_fraction N u8 z2 u4).bind fun z3 => some z3 else if (u9 &&& (u6 ^^^ (-1))) = 0 then (fJ6_bitCount_0f7a4 N u9).bind fun z5 => (fX6_valueIn N tI tA wI wA u2 (u9 ||| (shl 1 u1)) u3).bind fun z6 => (fX6_valueIn N tI tA wI wA u2 u9 u3).bind fun z7 => (fX6_factorial N z5).bind fun z8 => (fX6_factorial N (u7 - z5)).bind fun z9 => fX6_share_152 N k_83 tI tA wI wA u1 u2 u3 u4 u6 u7 (u8 + ((z8 * z9) * (z6 - z7))) u9 else fX6_share_152 N k_83 tI tA wI wA u1 u2 u3 u4 u6 u7 u8 u9
def fX6_share_83 (N : Nat) : Nat → (Nat → Int32) → (Nat → Nat → Int32) → (Nat → Int32) → (Nat → Nat → Int32) → Int32 → Int32 → Int32 → Int32 → Int32 → Int32 → Int32 → Int32 → Option (Int32)
  | 0 => fun _ _ _ _ _ _ _ _ _ _ _ _ => none
  | n + 1 => fX6_share_83s N (fX6_share_83 N n)
def fX6_share_30 (N : Nat) (tI : Nat → Int32) (tA : Nat → Nat → Int32) (wI : Nat → Int32) (wA : Nat → Nat → Int32) : Option (Int32) := some (-2)
def fX6_share (N : Nat) (tI : Nat → Int32) (tA : Nat → Nat → Int32) (wI : Nat → Int32) (wA : Nat → Nat → Int32) (x1 : Int32) (x2 : Int32) (x3 : Int32) (x4 : Int32) : Option (Int32) := (fX5_hasRumour N tI x2).bind fun z1 => if z1 = 0 then some (-1) else (fX6_isTable N x1).bind fun z3 => if z3 = 0 then fX6_share_30 N tI tA wI wA else (fX6_isOutside N x3 0 8).bind fun z5 => if z5 = 0 then (fX4_saidOf N wA x2).bind fun z7 => (fX6_hasBit N z7 x1).bind fun z8 => if z8 = 0 then (fX6_fraction N 0 1 x4).bind fun z11 => some z11 else (fJ6_bitCount_0f7a4 N (z7 &&& ((shl 1 x1) ^^^ (-1)))).bind fun z10 => fX6_share_83 N N tI tA wI wA x1 x2 x3 x4 (z7 &&& ((shl 1 x1) ^^^ (-1))) z10 0 0 else fX6_share_30 N tI tA wI wA
def rmX6_share : Room := { frames := 5, cells := 0, slots := 0, locals := 116 }
theorem mb_X6_share : Cond.instanceMethod yX6_share ∈ wsL_law ∧ Cond.selects RX6 yX6_share yX6_share ∈ wsL_law ∧ Cond.initialized RX6 ∈ wsL_law ∧ Cond.code yX6_share cX6_share 12 (some .int) ∈ wsL_law := ⟨(bg 31 14 rfl), (bg 31 15 rfl), (bg 0 2 rfl), (bg 31 16 rfl)⟩
theorem hd_X6_share : yX6_share.cls = RX6 ∧ yX6_share.cls ≠ "java/lang/invoke/MethodHandle" ∧ yX6_share.cls ≠ "java/lang/invoke/VarHandle" ∧ (parseMethodDescriptor yX6_share.desc).map (fun d => d.parameters.length) = some 4 := by decide +kernel
set_option maxRecDepth 100000 in
set_option maxHeartbeats 4000000 in
theorem ct_X6_share (N : Nat) (l : Launch) (G : va_G) (cI cZ cO : ClassId) (q : Nat → Nat) (A : Nat → Nat → Int32) (L : Int64) (rI : Nat → Int32) (rA : Nat → Nat → Int32) (tI : Nat → Int32) (tA : Nat → Nat → Int32) (dI : Nat → Int32) (dA : Nat → Nat → Int32) (wI : Nat → Int32) (wA : Nat → Nat → Int32) (uI : Nat → Int32) (uA : Nat → Nat → Int32) (aI : Nat → Int32) (aS : Nat → Nat → Int32) (aT : Nat → Nat → Nat → Int32) (eI : Nat → Int32) (eA : Nat → Nat → Int32) (sS : Nat → Nat → Int32) (sT : Nat → Nat → Nat → Int32) (bI : Nat → Int32) (x1 : Int32) (x2 : Int32) (x3 : Int32) (x4 : Int32) (r : Int32) (hf : fX6_share N tI tA wI wA x1 x2 x3 x4 = some r) : RtI l yX6_share cX6_share 12 .int rmX6_share G cI cZ cO [.ref (q 0), .int x1, .int x2, .int x3, .int x4] (wX6 q cI cZ cO A L rI rA tI tA dI dA wI wA uI uA aI aS aT eI eA sS sT bI) r := by
  refine mkRI (by decide) (Nat.le_of_ble_eq_true rfl) ?_
  intro p e s m below meth cd Q hC hP hE fin ls hl
  obtain ⟨hx, hb, hml, hown, hts⟩ := hC
  have hown : s.vm.findClass RX6 = some m.cls := hown
  have hl : lv_has ls 12 [(0, .ref (q 0)), (1, .int x1), (2, .int x2), (3, .int x3), (4, .int x4)] := hl
  have b_152 : ∀ (k_83 : (Nat → Int32) → (Nat → Nat → Int32) → (Nat → Int32) → (Nat → Nat → Int32) → Int32 → Int32 → Int32 → Int32 → Int32 → Int32 → Int32 → Int32 → Option (Int32)) (hk_83 : ∀ (u1 : Int32) (u2 : Int32) (u3 : Int32) (u4 : Int32) (u6 : Int32) (u7 : Int32) (u8 : Int32) (u9 : Int32), ∀ ls : Array Slot, lv_has ls 12 [(0, .ref (q 0)), (1, .int u1), (2, .int u2), (3, .int u3), (4, .int u4), (6, .int u6), (7, .int u7), (8, .int u8), (9, .int u9)] → k_83 tI tA wI wA u1 u2 u3 u4 u6 u7 u8 u9 = some r → W p l e rmX6_share s m [.ref (q 0), .int x1, .int x2, .int x3, .int x4].toArray below meth cd s.heap [] 0 0 Q (F0 m 83 ls [])), ∀ (u1 : Int32) (u2 : Int32) (u3 : Int32) (u4 : Int32) (u6 : Int32) (u7 : Int32) (u8 : Int32) (u9 : Int32), ∀ ls : Array Slot, lv_has ls 12 [(0, .ref (q 0)), (1, .int u1), (2, .int u2), (3, .int u3), (4, .int u4), (6, .int u6), (7, .int u7), (8, .int u8), (9, .int u9)] → fX6_share_152 N k_83 tI tA wI wA u1 u2 u3 u4 u6 u7 u8 u9 = some r → W p l e rmX6_share s m [.ref (q 0), .int x1, .int x2, .int x3, .int x4].toArray below meth cd s.heap [] 0 0 Q (F0 m 152 ls []) := by
    intro k_83 hk_83 u1 u2 u3 u4 u6 u7 u8 u9 ls hl hf
    unfold fX6_share_152 at hf
    refine lv_iinc (v := u9 + 1) (lv' := [(9, .int (u9 + 1)), (0, .ref (q 0)), (1, .int u1), (2, .int u2), (3, .int u3), (4, .int u4), (6, .int u6), (7, .int u7), (8, .int u8)]) hx hb dX6_share_152 hl (k := 8) rfl rfl (by decide) rfl (fun ls hl => ?_)
    refine lv_goto (tgt := 83) hx hb dX6_share_155 (by decide) ?_
    exact hk_83 u1 u2 u3 u4 u6 u7 u8 (u9 + 1) ls (lv_sub hl [1, 2, 3, 4, 5, 6, 7, 8, 0] rfl) hf
  have b_83 : ∀ n : Nat, ∀ (u1 : Int32) (u2 : Int32) (u3 : Int32) (u4 : Int32) (u6 : Int32) (u7 : Int32) (u8 : Int32) (u9 : Int32), ∀ ls : Array Slot, lv_has ls 12 [(0, .ref (q 0)), (1, .int u1), (2, .int u2), (3, .int u3), (4, .int u4), (6, .int u6), (7, .int u7), (8, .int u8), (9, .int u9)] → fX6_share_83 N n tI tA wI wA u1 u2 u3 u4 u6 u7 u8 u9 = some r → W p l e rmX6_share s m [.ref (q 0), .int x1, .int x2, .int x3, .int x4].toArray below meth cd s.heap [] 0 0 Q (F0 m 83 ls []) := by
    intro n
    induction n with
    | zero =>
      intro u1 u2 u3 u4 u6 u7 u8 u9 ls hl hf
      cases hf
    | succ n hk_83 =>
      intro u1 u2 u3 u4 u6 u7 u8 u9 ls hl hf
      replace hf : fX6_share_83s N (fX6_share_83 N n) tI tA wI wA u1 u2 u3 u4 u6 u7 u8 u9 = some r := hf
      generalize fX6_share_83 N n = k_83 at hf hk_83
      unfold fX6_share_83s at hf
      refine lv_iload hx hb dX6_share_83 (lv_at hl 8 rfl) ?_
      refine lv_bipush (v := 63) hx hb dX6_share_85 (by decide) ?_
      refine lv_icmp_gt (tgt := 158) hx hb dX6_share_87 (by decide) (fun c1 => ?_) (fun c1 => ?_)
      · rw [if_pos c1] at hf
        refine lv_iload hx hb dX6_share_158 (lv_at hl 7 rfl) ?_
        refine lv_iload hx hb dX6_share_160 (lv_at hl 6 rfl) ?_
        refine lv_iconst (v := 1) hx hb dX6_share_162 (by decide) ?_
        refine lv_iadd hx hb dX6_share_163 ?_
        obtain ⟨z2, hz2, hf⟩ := bnd hf
        refine x_rdS (n := 1) hx hb hml hown hts hE (ct_X6_factorial N l G cI cZ cO (u7 + 1) z2 hz2) (bg 32 2 rfl) mb_X6_factorial.1 mb_X6_factorial.2.1 mb_X6_factorial.2.2 hd_X6_factorial rfl (by decide) va_P_nil rfl hl.1 (Nat.le_of_ble_eq_true rfl) ⟨Nat.zero_le _, Nat.zero_le _⟩ dX6_share_164 ?_
        refine lv_iload hx hb dX6_share_167 (lv_at hl 4 rfl) ?_
        obtain ⟨z3, hz3, hf⟩ := bnd hf
        refine x_rdS (n := 3) hx hb hml hown hts hE (ct_X6_fraction N l G cI cZ cO u8 z2 u4 z3 hz3) (bg 31 17 rfl) mb_X6_fraction.1 mb_X6_fraction.2.1 mb_X6_fraction.2.2 hd_X6_fraction rfl (by decide) va_P_nil rfl hl.1 (Nat.le_of_ble_eq_true rfl) ⟨Nat.zero_le _, Nat.zero_le _⟩ dX6_share_169 ?_
        have e9 := Option.some.inj hf
        exact fin 172 ls _ e9 (nar_i _) dX6_share_172
      · rw [if_neg c1] at hf
        refine lv_iload hx hb dX6_share_90 (lv_at hl 8 rfl) ?_
        refine lv_iload hx hb dX6_share_92 (lv_at hl 5 rfl) ?_
        refine lv_iconst (v := (-1)) hx hb dX6_share_94 (by decide) ?_
        refine lv_ixor hx hb dX6_share_95 ?_
        refine lv_iand hx hb dX6_share_96 ?_
        refine lv_if_ne (tgt := 152) hx hb dX6_share_97 (by decide) (fun c4 => ?_) (fun c4 => ?_)
        · rw [if_neg c4] at hf
          exact b_152 k_83 hk_83 u1 u2 u3 u4 u6 u7 u8 u9 ls (lv_sub hl [0, 1, 2, 3, 4, 5, 6, 7, 8] rfl) hf
        · rw [if_pos c4] at hf
          refine lv_iload hx hb dX6_share_100 (lv_at hl 8 rfl) ?_
          obtain ⟨z5, hz5, hf⟩ := bnd hf
          refine x_rdS (n := 1) hx hb hml hown hts hE (ct_J6_bitCount_0f7a4 N l G cI cZ cO u9 z5 hz5) (bg 18 2 rfl) mb_J6_bitCount_0f7a4.1 mb_J6_bitCount_0f7a4.2.1 mb_J6_bitCount_0f7a4.2.2 hd_J6_bitCount_0f7a4 rfl (by decide) va_P_nil rfl hl.1 (Nat.le_of_ble_eq_true rfl) ⟨Nat.zero_le _, Nat.zero_le _⟩ dX6_share_102 ?_
          refine lv_istore (lv' := [(10, .int z5), (0, .ref (q 0)), (1, .int u1), (2, .int u2), (3, .int u3), (4, .int u4), (6, .int u6), (7, .int u7), (8, .int u8), (9, .int u9)]) hx hb dX6_share_105 hl (by decide) rfl (fun ls hl => ?_)
          refine lv_aload_n hx hb dX6_share_107 rfl (lv_at hl 1 rfl) ?_
          refine lv_iload_n hx hb dX6_share_108 rfl (lv_at hl 3 rfl) ?_
          refine lv_iload hx hb dX6_share_109 (lv_at hl 9 rfl) ?_
          refine lv_iconst (v := 1) hx hb dX6_share_111 (by decide) ?_
          refine lv_iload_n hx hb dX6_share_112 rfl (lv_at hl 2 rfl) ?_
          refine x_ishl hx hb dX6_share_113 ?_
          refine lv_ior hx hb dX6_share_114 ?_
          refine lv_iload_n hx hb dX6_share_115 rfl (lv_at hl 4 rfl) ?_
          obtain ⟨z6, hz6, hf⟩ := bnd hf
          refine x_rdV (C := RX6) (n := 3) (ci := 6) hx hb hml hown hts hE (ct_X6_valueIn N l G cI cZ cO q A L rI rA tI tA dI dA wI wA uI uA aI aS aT eI eA sS sT bI u2 (u9 ||| (shl 1 u1)) u3 z6 hz6) (bg 22 11 rfl) mb_X6_valueIn.1 mb_X6_valueIn.2.1 mb_X6_valueIn.2.2.1 mb_X6_valueIn.2.2.2 hd_X6_valueIn rfl (by decide) hP rfl rfl rfl rfl hl.1 (Nat.le_of_ble_eq_true rfl) ⟨Nat.zero_le _, Nat.zero_le _⟩ dX6_share_116 ?_
          refine lv_aload_n hx hb dX6_share_119 rfl (lv_at hl 1 rfl) ?_
          refine lv_iload_n hx hb dX6_share_120 rfl (lv_at hl 3 rfl) ?_
          refine lv_iload hx hb dX6_share_121 (lv_at hl 9 rfl) ?_
          refine lv_iload_n hx hb dX6_share_123 rfl (lv_at hl 4 rfl) ?_
          obtain ⟨z7, hz7, hf⟩ := bnd hf
          refine x_rdV (C := RX6) (n := 3) (ci := 6) hx hb hml hown hts hE (ct_X6_valueIn N l G cI cZ cO q A L rI rA tI tA dI dA wI wA uI uA aI aS aT eI eA sS sT bI u2 u9 u3 z7 hz7) (bg 22 11 rfl) mb_X6_valueIn.1 mb_X6_valueIn.2.1 mb_X6_valueIn.2.2.1 mb_X6_valueIn.2.2.2 hd_X6_valueIn rfl (by decide) hP rfl rfl rfl rfl hl.1 (Nat.le_of_ble_eq_true rfl) ⟨Nat.zero_le _, Nat.zero_le _⟩ dX6_share_124 ?_
          refine lv_isub hx hb dX6_share_127 ?_
          refine lv_istore (lv' := [(11, .int (z6 - z7)), (10, .int z5), (0, .ref (q 0)), (1, .int u1), (2, .int u2), (3, .int u3), (4, .int u4), (6, .int u6), (7, .int u7), (8, .int u8), (9, .int u9)]) hx hb dX6_share_128 hl (by decide) rfl (fun ls hl => ?_)
          refine lv_iload hx hb dX6_share_130 (lv_at hl 9 rfl) ?_
          refine lv_iload hx hb dX6_share_132 (lv_at hl 1 rfl) ?_
          obtain ⟨z8, hz8, hf⟩ := bnd hf
          refine x_rdS (n := 1) hx hb hml hown hts hE (ct_X6_factorial N l G cI cZ cO z5 z8 hz8) (bg 32 2 rfl) mb_X6_factorial.1 mb_X6_factorial.2.1 mb_X6_factorial.2.2 hd_X6_factorial rfl (by decide) va_P_nil rfl hl.1 (Nat.le_of_ble_eq_true rfl) ⟨Nat.zero_le _, Nat.zero_le _⟩ dX6_share_134 ?_
          refine lv_iload hx hb dX6_share_137 (lv_at hl 8 rfl) ?_
          refine lv_iload hx hb dX6_share_139 (lv_at hl 1 rfl) ?_
          refine lv_isub hx hb dX6_share_141 ?_
          obtain ⟨z9, hz9, hf⟩ := bnd hf
          refine x_rdS (n := 1) hx hb hml hown hts hE (ct_X6_factorial N l G cI cZ cO (u7 - z5) z9 hz9) (bg 32 2 rfl) mb_X6_factorial.1 mb_X6_factorial.2.1 mb_X6_factorial.2.2 hd_X6_factorial rfl (by decide) va_P_nil rfl hl.1 (Nat.le_of_ble_eq_true rfl) ⟨Nat.zero_le _, Nat.zero_le _⟩ dX6_share_142 ?_
          refine lv_imul hx hb dX6_share_145 ?_
          refine lv_iload hx hb dX6_share_146 (lv_at hl 0 rfl) ?_
          refine lv_imul hx hb dX6_share_148 ?_
          refine lv_iadd hx hb dX6_share_149 ?_
          refine lv_istore (lv' := [(8, .int (u8 + ((z8 * z9) * (z6 - z7)))), (11, .int (z6 - z7)), (10, .int z5), (0, .ref (q 0)), (1, .int u1), (2, .int u2), (3, .int u3), (4, .int u4), (6, .int u6), (7, .int u7), (9, .int u9)]) hx hb dX6_share_150 hl (by decide) rfl (fun ls hl => ?_)
          exact b_152 k_83 hk_83 u1 u2 u3 u4 u6 u7 (u8 + ((z8 * z9) * (z6 - z7))) u9 ls (lv_sub hl [3, 4, 5, 6, 7, 8, 9, 0, 10] rfl) hf
  have b_30 : ∀ ls : Array Slot, lv_has ls 12 [] → fX6_share_30 N tI tA wI wA = some r → W p l e rmX6_share s m [.ref (q 0), .int x1, .int x2, .int x3, .int x4].toArray below meth cd s.heap [] 0 0 Q (F0 m 30 ls []) := by
    intro ls hl hf
    unfold fX6_share_30 at hf
    refine lv_bipush (v := (-2)) hx hb dX6_share_30 (by decide) ?_
    have e9 := Option.some.inj hf
    exact fin 32 ls _ e9 (nar_i _) dX6_share_32
  unfold fX6_share at hf
  refine lv_aload_n hx hb dX6_share_0 rfl (lv_at hl 0 rfl) ?_
  refine va_get (D := G) (ci := 6) (v := .ref (q 3)) (C := RX6) (T := TX6) (N := 15) hx hb hts inlX6 hown hE.1 hP 0 rfl rfl 1 (by decide) (hts _ (bg 0 20 rfl)) (fun _ h9 => h9) rfl dX6_share_1 ?_
  refine lv_iload_n hx hb dX6_share_4 rfl (lv_at hl 2 rfl) ?_
  obtain ⟨z1, hz1, hf⟩ := bnd hf
  refine x_rdV (C := RX5) (n := 1) (ci := 5) hx hb hml hown hts hE (ct_X5_hasRumour N l G cI cZ cO (sh q 3) tI tA x2 z1 hz1) (bg 12 7 rfl) mb_X5_hasRumour.1 mb_X5_hasRumour.2.1 mb_X5_hasRumour.2.2.1 mb_X5_hasRumour.2.2.2 hd_X5_hasRumour rfl (by decide) (x_cut hP [3, 4, 5, 6, 7, 8, 9] rfl) rfl rfl rfl rfl hl.1 (Nat.le_of_ble_eq_true rfl) ⟨Nat.zero_le _, Nat.zero_le _⟩ dX6_share_5 ?_
  refine lv_if_ne (tgt := 13) hx hb dX6_share_8 (by decide) (fun c2 => ?_) (fun c2 => ?_)
  · rw [if_neg c2] at hf
    refine lv_iload_n hx hb dX6_share_13 rfl (lv_at hl 1 rfl) ?_
    obtain ⟨z3, hz3, hf⟩ := bnd hf
    refine x_rdS (n := 1) hx hb hml hown hts hE (ct_X6_isTable N l G cI cZ cO x1 z3 hz3) (bg 17 15 rfl) mb_X6_isTable.1 mb_X6_isTable.2.1 mb_X6_isTable.2.2 hd_X6_isTable rfl (by decide) va_P_nil rfl hl.1 (Nat.le_of_ble_eq_true rfl) ⟨Nat.zero_le _, Nat.zero_le _⟩ dX6_share_14 ?_
    refine lv_if_eq (tgt := 30) hx hb dX6_share_17 (by decide) (fun c4 => ?_) (fun c4 => ?_)
    · rw [if_pos c4] at hf
      exact b_30 ls (lv_sub hl [] rfl) hf
    · rw [if_neg c4] at hf
      refine lv_iload_n hx hb dX6_share_20 rfl (lv_at hl 3 rfl) ?_
      refine lv_iconst (v := 0) hx hb dX6_share_21 (by decide) ?_
      refine lv_bipush (v := 8) hx hb dX6_share_22 (by decide) ?_
      obtain ⟨z5, hz5, hf⟩ := bnd hf
      refine x_rdS (n := 3) hx hb hml hown hts hE (ct_X6_isOutside N l G cI cZ cO x3 0 8 z5 hz5) (bg 4 17 rfl) mb_X6_isOutside.1 mb_X6_isOutside.2.1 mb_X6_isOutside.2.2 hd_X6_isOutside rfl (by decide) va_P_nil rfl hl.1 (Nat.le_of_ble_eq_true rfl) ⟨Nat.zero_le _, Nat.zero_le _⟩ dX6_share_24 ?_
      refine lv_if_eq (tgt := 33) hx hb dX6_share_27 (by decide) (fun c6 => ?_) (fun c6 => ?_)
      · rw [if_pos c6] at hf
        refine lv_aload_n hx hb dX6_share_33 rfl (lv_at hl 0 rfl) ?_
        refine va_get (D := G) (ci := 6) (v := .ref (q 17)) (C := RX6) (T := TX6) (N := 15) hx hb hts inlX6 hown hE.1 hP 0 rfl rfl 3 (by decide) (hts _ (bg 1 1 rfl)) (fun _ h9 => h9) rfl dX6_share_34 ?_
        refine lv_iload_n hx hb dX6_share_37 rfl (lv_at hl 2 rfl) ?_
        obtain ⟨z7, hz7, hf⟩ := bnd hf
        refine x_rdV (C := RX4) (n := 1) (ci := 4) hx hb hml hown hts hE (ct_X4_saidOf N l G cI cZ cO (sh q 17) wI wA x2 z7 hz7) (bg 12 12 rfl) mb_X4_saidOf.1 mb_X4_saidOf.2.1 mb_X4_saidOf.2.2.1 mb_X4_saidOf.2.2.2 hd_X4_saidOf rfl (by decide) (x_cut hP [17, 18, 19, 20] rfl) rfl rfl rfl rfl hl.1 (Nat.le_of_ble_eq_true rfl) ⟨Nat.zero_le _, Nat.zero_le _⟩ dX6_share_38 ?_
        refine lv_istore (lv' := [(5, .int z7), (0, .ref (q 0)), (1, .int x1), (2, .int x2), (3, .int x3), (4, .int x4)]) hx hb dX6_share_41 hl (by decide) rfl (fun ls hl => ?_)
        refine lv_iload hx hb dX6_share_43 (lv_at hl 0 rfl) ?_
        refine lv_iload_n hx hb dX6_share_45 rfl (lv_at hl 2 rfl) ?_
        obtain ⟨z8, hz8, hf⟩ := bnd hf
        refine x_rdS (n := 2) hx hb hml hown hts hE (ct_X6_hasBit N l G cI cZ cO z7 x1 z8 hz8) (bg 23 23 rfl) mb_X6_hasBit.1 mb_X6_hasBit.2.1 mb_X6_hasBit.2.2 hd_X6_hasBit rfl (by decide) va_P_nil rfl hl.1 (Nat.le_of_ble_eq_true rfl) ⟨Nat.zero_le _, Nat.zero_le _⟩ dX6_share_46 ?_
        refine lv_if_ne (tgt := 60) hx hb dX6_share_49 (by decide) (fun c9 => ?_) (fun c9 => ?_)
        · rw [if_neg c9] at hf
          refine lv_iload hx hb dX6_share_60 (lv_at hl 0 rfl) ?_
          refine lv_iconst (v := 1) hx hb dX6_share_62 (by decide) ?_
          refine lv_iload_n hx hb dX6_share_63 rfl (lv_at hl 2 rfl) ?_
          refine x_ishl hx hb dX6_share_64 ?_
          refine lv_iconst (v := (-1)) hx hb dX6_share_65 (by decide) ?_
          refine lv_ixor hx hb dX6_share_66 ?_
          refine lv_iand hx hb dX6_share_67 ?_
          refine lv_istore (lv' := [(6, .int (z7 &&& ((shl 1 x1) ^^^ (-1)))), (5, .int z7), (0, .ref (q 0)), (1, .int x1), (2, .int x2), (3, .int x3), (4, .int x4)]) hx hb dX6_share_68 hl (by decide) rfl (fun ls hl => ?_)
          refine lv_iload hx hb dX6_share_70 (lv_at hl 0 rfl) ?_
          obtain ⟨z10, hz10, hf⟩ := bnd hf
          refine x_rdS (n := 1) hx hb hml hown hts hE (ct_J6_bitCount_0f7a4 N l G cI cZ cO (z7 &&& ((shl 1 x1) ^^^ (-1))) z10 hz10) (bg 18 2 rfl) mb_J6_bitCount_0f7a4.1 mb_J6_bitCount_0f7a4.2.1 mb_J6_bitCount_0f7a4.2.2 hd_J6_bitCount_0f7a4 rfl (by decide) va_P_nil rfl hl.1 (Nat.le_of_ble_eq_true rfl) ⟨Nat.zero_le _, Nat.zero_le _⟩ dX6_share_72 ?_
          refine lv_istore (lv' := [(7, .int z10), (6, .int (z7 &&& ((shl 1 x1) ^^^ (-1)))), (5, .int z7), (0, .ref (q 0)), (1, .int x1), (2, .int x2), (3, .int x3), (4, .int x4)]) hx hb dX6_share_75 hl (by decide) rfl (fun ls hl => ?_)
          refine lv_iconst (v := 0) hx hb dX6_share_77 (by decide) ?_
          refine lv_istore (lv' := [(8, .int 0), (7, .int z10), (6, .int (z7 &&& ((shl 1 x1) ^^^ (-1)))), (5, .int z7), (0, .ref (q 0)), (1, .int x1), (2, .int x2), (3, .int x3), (4, .int x4)]) hx hb dX6_share_78 hl (by decide) rfl (fun ls hl => ?_)
          refine lv_iconst (v := 0) hx hb dX6_share_80 (by decide) ?_
          refine lv_istore (lv' := [(9, .int 0), (8, .int 0), (7, .int z10), (6, .int (z7 &&& ((shl 1 x1) ^^^ (-1)))), (5, .int z7), (0, .ref (q 0)), (1, .int x1), (2, .int x2), (3, .int x3), (4, .int x4)]) hx hb dX6_share_81 hl (by decide) rfl (fun ls hl => ?_)
          exact b_83 N x1 x2 x3 x4 (z7 &&& ((shl 1 x1) ^^^ (-1))) z10 0 0 ls (lv_sub hl [5, 6, 7, 8, 9, 3, 2, 1, 0] rfl) hf
        · rw [if_pos c9] at hf
          refine lv_iconst (v := 0) hx hb dX6_share_52 (by decide) ?_
          refine lv_iconst (v := 1) hx hb dX6_share_53 (by decide) ?_
          refine lv_iload hx hb dX6_share_54 (lv_at hl 5 rfl) ?_
          obtain ⟨z11, hz11, hf⟩ := bnd hf
          refine x_rdS (n := 3) hx hb hml hown hts hE (ct_X6_fraction N l G cI cZ cO 0 1 x4 z11 hz11) (bg 31 17 rfl) mb_X6_fraction.1 mb_X6_fraction.2.1 mb_X6_fraction.2.2 hd_X6_fraction rfl (by decide) va_P_nil rfl hl.1 (Nat.le_of_ble_eq_true rfl) ⟨Nat.zero_le _, Nat.zero_le _⟩ dX6_share_56 ?_
          have e9 := Option.some.inj hf
          exact fin 59 ls _ e9 (nar_i _) dX6_share_59
      · rw [if_neg c6] at hf
        exact b_30 ls (lv_sub hl [] rfl) hf
  · rw [if_pos c2] at hf
    refine lv_iconst (v := (-1)) hx hb dX6_share_11 (by decide) ?_
    have e9 := Option.some.inj hf
    exact fin 12 ls _ e9 (nar_i _) dX6_share_12
