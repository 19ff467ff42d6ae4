def fX6_holds_130 (N : Nat) (tI : Nat → Int32) (tA : Nat → Nat → Int32) (wI : Nat → Int32) (wA : Nat → Nat → Int32) (y0 : Int32) : Option (Int32) := some y0
def fX6_holds_120 (N : Nat) (tI : Nat → Int32) (tA : Nat → Nat → Int32) (wI : Nat → Int32) (wA : Nat → Nat → Int32) (u2 : Int32) (u3 : Int32) (u4 : Int32) : Option (Int32) := if u2 = 0 then fX6_holds_130 N tI tA wI wA u3 else fX6_holds_130 N tI tA wI wA u4
def fX6_holds_114 (N : Nat) (k_21 : (Nat → Int32) → (Nat → Nat → Int32) → (Nat → Int32) → (Nat → Nat → Int32) → Int32 → Int32 → Int32 → Int32 → Int32 → Option (Int32)) (tI : Nat → Int32) (tA : Nat → Nat → Int32) (wI : Nat → Int32) (wA : Nat → Nat → Int32) (u1 : Int32) (u2 : Int32) (u3 : Int32) (u4 : Int32) (u5 : Int32) : Option (Int32) := k_21 tI tA wI wA u1 u2 u3 u4 (u5 + 1)
def fX6_holds_107 (N : Nat) (k_21 : (Nat → Int32) → (Nat → Nat → Int32) → (Nat → Int32) → (Nat → Nat → Int32) → Int32 → Int32 → Int32 → Int32 → Int32 → Option (Int32)) (tI : Nat → Int32) (tA : Nat → Nat → Int32) (wI : Nat → Int32) (wA : Nat → Nat → Int32) (u1 : Int32) (u2 : Int32) (u5 : Int32) (u6 : Int32) : Option (Int32) := fX6_holds_114 N k_21 tI tA wI wA u1 u2 u6 u5 u5
def fX6_holds_76 (N : Nat) (k_21 : (Nat → Int32) → (Nat → Nat → Int32) → (Nat → Int32) → (Nat → Nat → Int32) → Int32 → Int32 → Int32 → Int32 → Int32 → Option (Int32)) (tI : Nat → Int32) (tA : Nat → Nat → Int32) (wI : Nat → Int32) (wA : Nat → Nat → Int32) (u1 : Int32) (u2 : Int32) (u3 : Int32) (u4 : Int32) (u5 : Int32) (u6 : Int32) (y0 : Int32) : Option (Int32) := (fX5_isFreeOfRivals N tA u5).bind fun z1 => if z1 = 0 then fX6_holds_114 N k_21 tI tA wI wA u1 u2 u3 u4 u5 else if u3 < u6 then fX6_holds_107 N k_21 tI tA wI wA u1 u2 u5 u6 else if u6 = u3 then if y0 = 0 then fX6_holds_114 N k_21 tI tA wI wA u1 u2 u3 u4 u5 else fX6_holds_107 N k_21 tI tA wI wA u1 u2 u5 u6 else fX6_holds_114 N k_21 tI tA wI wA u1 u2 u3 u4 u5
def fX6_holds_21s (N : Nat) (k_21 : (Nat → Int32) → (Nat → Nat → Int32) → (Nat → Int32) → (Nat → Nat → Int32) → Int32 → Int32 → Int32 → Int32 → Int32 → Option (Int32)) (tI : Nat → Int32) (tA : Nat → Nat → Int32) (wI : Nat → Int32) (wA : Nat → Nat → Int32) (u1 : Int32) (u2 : Int32) (u3 : Int32) (u4 : Int32) (u5 : Int32) : Option (Int32) := if 32 ≤ u5 then fX6_holds_120 N tI tA wI wA u2 u3 u4 else if (shl 1 (tI 0)) ≤ u5 then fX6_holds_120 N tI tA wI wA u2 u3 u4 else (fX4_valueOfSet N wI wA tI tA u1 u5).bind fun z3 => (fJ6_bitCount_0f7a4 N u5).bind fun z4 => (fJ6_bitCount_0f7a4 N u4).bind fun z5 => if z5 ≤ z4 then fX6_holds_76 N k_21 tI tA wI wA u1 u2 u3 u4 u5 z3 0 else fX6_holds_76 N k_21 tI tA wI wA u1 u2 u3 u4 u5 z3 1
def fX6_holds_21 (N : Nat) : Nat → (Nat → Int32) → (Nat → Nat → Int32) → (Nat → Int32) → (Nat → Nat → Int32) → Int32 → Int32 → Int32 → Int32 → Int32 → Option (Int32)
  | 0 => fun _ _ _ _ _ _ _ _ _ => none
  | n + 1 => fX6_holds_21s N (fX6_holds_21 N n)
def fX6_holds (N : Nat) (tI : Nat → Int32) (tA : Nat → Nat → Int32) (wI : Nat → Int32) (wA : Nat → Nat → Int32) (x1 : Int32) (x2 : Int32) : Option (Int32) := (fX5_hasPerson N tI x1).bind fun z1 => if z1 = 0 then some (-1) else fX6_holds_21 N N tI tA wI wA x1 x2 0 0 1
def rmX6_holds : Room := { frames := 5, cells := 0, slots := 0, locals := 132 }
theorem mb_X6_holds : Cond.instanceMethod yX6_holds ∈ wsL_law ∧ Cond.selects RX6 yX6_holds yX6_holds ∈ wsL_law ∧ Cond.initialized RX6 ∈ wsL_law ∧ Cond.code yX6_holds cX6_holds 8 (some .int) ∈ wsL_law := ⟨(bg 27 5 rfl), (bg 27 6 rfl), (bg 0 2 rfl), (bg 27 7 rfl)⟩
theorem hd_X6_holds : yX6_holds.cls = RX6 ∧ yX6_holds.cls ≠ "java/lang/invoke/MethodHandle" ∧ yX6_holds.cls ≠ "java/lang/invoke/VarHandle" ∧ (parseMethodDescriptor yX6_holds.desc).map (fun d => d.parameters.length) = some 2 := by decide +kernel
set_option maxRecDepth 100000 in
set_option maxHeartbeats 4000000 in
theorem ct_X6_holds (N : Nat) (l : Launch) (G : va_G) (cI cZ cO : ClassId) (q : Nat → Nat) (A : Nat → Nat → Int32) (L : Int64) (rI : Nat → Int32) (rA : Nat → Nat → Int32) (tI : Nat → Int32) (tA : Nat → Nat → Int32) (dI : Nat → Int32) (dA : Nat → Nat → Int32) (wI : Nat → Int32) (wA : Nat → Nat → Int32) (uI : Nat → Int32) (uA : Nat → Nat → Int32) (aI : Nat → Int32) (aS : Nat → Nat → Int32) (aT : Nat → Nat → Nat → Int32) (eI : Nat → Int32) (eA : Nat → Nat → Int32) (sS : Nat → Nat → Int32) (sT : Nat → Nat → Nat → Int32) (bI : Nat → Int32) (x1 : Int32) (x2 : Int32) (r : Int32) (hf : fX6_holds N tI tA wI wA x1 x2 = some r) : RtI l yX6_holds cX6_holds 8 .int rmX6_holds G cI cZ cO [.ref (q 0), .int x1, .int x2] (wX6 q cI cZ cO A L rI rA tI tA dI dA wI wA uI uA aI aS aT eI eA sS sT bI) r := by
  refine mkRI (by decide) (Nat.le_of_ble_eq_true rfl) ?_
  intro p e s m below meth cd Q hC hP hE fin ls hl
  obtain ⟨hx, hb, hml, hown, hts⟩ := hC
  have hown : s.vm.findClass RX6 = some m.cls := hown
  have hl : lv_has ls 8 [(0, .ref (q 0)), (1, .int x1), (2, .int x2)] := hl
  have b_130 : ∀ (y0 : Int32), ∀ ls : Array Slot, lv_has ls 8 [] → fX6_holds_130 N tI tA wI wA y0 = some r → W p l e rmX6_holds s m [.ref (q 0), .int x1, .int x2].toArray below meth cd s.heap [] 0 0 Q (F0 m 130 ls [.int y0]) := by
    intro y0 ls hl hf
    unfold fX6_holds_130 at hf
    have e9 := Option.some.inj hf
    exact fin 130 ls _ e9 (nar_i _) dX6_holds_130
  have b_120 : ∀ (u2 : Int32) (u3 : Int32) (u4 : Int32), ∀ ls : Array Slot, lv_has ls 8 [(2, .int u2), (3, .int u3), (4, .int u4)] → fX6_holds_120 N tI tA wI wA u2 u3 u4 = some r → W p l e rmX6_holds s m [.ref (q 0), .int x1, .int x2].toArray below meth cd s.heap [] 0 0 Q (F0 m 120 ls []) := by
    intro u2 u3 u4 ls hl hf
    unfold fX6_holds_120 at hf
    refine lv_iload_n hx hb dX6_holds_120 rfl (lv_at hl 0 rfl) ?_
    refine lv_if_eq (tgt := 129) hx hb dX6_holds_121 (by decide) (fun c1 => ?_) (fun c1 => ?_)
    · rw [if_pos c1] at hf
      refine lv_iload_n hx hb dX6_holds_129 rfl (lv_at hl 1 rfl) ?_
      exact b_130 u3 ls (lv_sub hl [] rfl) hf
    · rw [if_neg c1] at hf
      refine lv_iload hx hb dX6_holds_124 (lv_at hl 2 rfl) ?_
      refine lv_goto (tgt := 130) hx hb dX6_holds_126 (by decide) ?_
      exact b_130 u4 ls (lv_sub hl [] rfl) hf
  have b_114 : ∀ (k_21 : (Nat → Int32) → (Nat → Nat → Int32) → (Nat → Int32) → (Nat → Nat → Int32) → Int32 → Int32 → Int32 → Int32 → Int32 → Option (Int32)) (hk_21 : ∀ (u1 : Int32) (u2 : Int32) (u3 : Int32) (u4 : Int32) (u5 : Int32), ∀ ls : Array Slot, lv_has ls 8 [(0, .ref (q 0)), (1, .int u1), (2, .int u2), (3, .int u3), (4, .int u4), (5, .int u5)] → k_21 tI tA wI wA u1 u2 u3 u4 u5 = some r → W p l e rmX6_holds s m [.ref (q 0), .int x1, .int x2].toArray below meth cd s.heap [] 0 0 Q (F0 m 21 ls [])), ∀ (u1 : Int32) (u2 : Int32) (u3 : Int32) (u4 : Int32) (u5 : Int32), ∀ ls : Array Slot, lv_has ls 8 [(0, .ref (q 0)), (1, .int u1), (2, .int u2), (3, .int u3), (4, .int u4), (5, .int u5)] → fX6_holds_114 N k_21 tI tA wI wA u1 u2 u3 u4 u5 = some r → W p l e rmX6_holds s m [.ref (q 0), .int x1, .int x2].toArray below meth cd s.heap [] 0 0 Q (F0 m 114 ls []) := by
    intro k_21 hk_21 u1 u2 u3 u4 u5 ls hl hf
    unfold fX6_holds_114 at hf
    refine lv_iinc (v := u5 + 1) (lv' := [(5, .int (u5 + 1)), (0, .ref (q 0)), (1, .int u1), (2, .int u2), (3, .int u3), (4, .int u4)]) hx hb dX6_holds_114 hl (k := 5) rfl rfl (by decide) rfl (fun ls hl => ?_)
    refine lv_goto (tgt := 21) hx hb dX6_holds_117 (by decide) ?_
    exact hk_21 u1 u2 u3 u4 (u5 + 1) ls (lv_sub hl [1, 2, 3, 4, 5, 0] rfl) hf
  have b_107 : ∀ (k_21 : (Nat → Int32) → (Nat → Nat → Int32) → (Nat → Int32) → (Nat → Nat → Int32) → Int32 → Int32 → Int32 → Int32 → Int32 → Option (Int32)) (hk_21 : ∀ (u1 : Int32) (u2 : Int32) (u3 : Int32) (u4 : Int32) (u5 : Int32), ∀ ls : Array Slot, lv_has ls 8 [(0, .ref (q 0)), (1, .int u1), (2, .int u2), (3, .int u3), (4, .int u4), (5, .int u5)] → k_21 tI tA wI wA u1 u2 u3 u4 u5 = some r → W p l e rmX6_holds s m [.ref (q 0), .int x1, .int x2].toArray below meth cd s.heap [] 0 0 Q (F0 m 21 ls [])), ∀ (u1 : Int32) (u2 : Int32) (u5 : Int32) (u6 : Int32), ∀ ls : Array Slot, lv_has ls 8 [(0, .ref (q 0)), (1, .int u1), (2, .int u2), (5, .int u5), (6, .int u6)] → fX6_holds_107 N k_21 tI tA wI wA u1 u2 u5 u6 = some r → W p l e rmX6_holds s m [.ref (q 0), .int x1, .int x2].toArray below meth cd s.heap [] 0 0 Q (F0 m 107 ls []) := by
    intro k_21 hk_21 u1 u2 u5 u6 ls hl hf
    unfold fX6_holds_107 at hf
    refine lv_iload hx hb dX6_holds_107 (lv_at hl 4 rfl) ?_
    refine lv_istore_n (lv' := [(3, .int u6), (0, .ref (q 0)), (1, .int u1), (2, .int u2), (5, .int u5), (6, .int u6)]) hx hb dX6_holds_109 rfl hl (by decide) rfl (fun ls hl => ?_)
    refine lv_iload hx hb dX6_holds_110 (lv_at hl 4 rfl) ?_
    refine lv_istore (lv' := [(4, .int u5), (3, .int u6), (0, .ref (q 0)), (1, .int u1), (2, .int u2), (5, .int u5), (6, .int u6)]) hx hb dX6_holds_112 hl (by decide) rfl (fun ls hl => ?_)
    exact b_114 k_21 hk_21 u1 u2 u6 u5 u5 ls (lv_sub hl [2, 3, 4, 1, 0, 5] rfl) hf
  have b_76 : ∀ (k_21 : (Nat → Int32) → (Nat → Nat → Int32) → (Nat → Int32) → (Nat → Nat → Int32) → Int32 → Int32 → Int32 → Int32 → Int32 → Option (Int32)) (hk_21 : ∀ (u1 : Int32) (u2 : Int32) (u3 : Int32) (u4 : Int32) (u5 : Int32), ∀ ls : Array Slot, lv_has ls 8 [(0, .ref (q 0)), (1, .int u1), (2, .int u2), (3, .int u3), (4, .int u4), (5, .int u5)] → k_21 tI tA wI wA u1 u2 u3 u4 u5 = some r → W p l e rmX6_holds s m [.ref (q 0), .int x1, .int x2].toArray below meth cd s.heap [] 0 0 Q (F0 m 21 ls [])), ∀ (u1 : Int32) (u2 : Int32) (u3 : Int32) (u4 : Int32) (u5 : Int32) (u6 : Int32) (y0 : Int32), ∀ ls : Array Slot, lv_has ls 8 [(0, .ref (q 0)), (1, .int u1), (2, .int u2), (3, .int u3), (4, .int u4), (5, .int u5), (6, .int u6)] → fX6_holds_76 N k_21 tI tA wI wA u1 u2 u3 u4 u5 u6 y0 = some r → W p l e rmX6_holds s m [.ref (q 0), .int x1, .int x2].toArray below meth cd s.heap [] 0 0 Q (F0 m 76 ls [.int y0]) := by
    intro k_21 hk_21 u1 u2 u3 u4 u5 u6 y0 ls hl hf
    unfold fX6_holds_76 at hf
    refine lv_istore (lv' := [(7, .int y0), (0, .ref (q 0)), (1, .int u1), (2, .int u2), (3, .int u3), (4, .int u4), (5, .int u5), (6, .int u6)]) hx hb dX6_holds_76 hl (by decide) rfl (fun ls hl => ?_)
    refine lv_aload_n hx hb dX6_holds_78 rfl (lv_at hl 1 rfl) ?_
    refine va_get (D := G) (ci := 6) (v := .ref (q 3)) (C := RX6) (T := TX6) (N := 15) hx hb hts inlX6 hown hE.1 hP 0 rfl rfl 1 (by decide) (hts _ (bg 0 20 rfl)) (fun _ h9 => h9) rfl dX6_holds_79 ?_
    refine lv_iload hx hb dX6_holds_82 (lv_at hl 6 rfl) ?_
    obtain ⟨z1, hz1, hf⟩ := bnd hf
    refine x_rdV (C := RX5) (n := 1) (ci := 5) hx hb hml hown hts hE (ct_X5_isFreeOfRivals N l G cI cZ cO (sh q 3) tI tA u5 z1 hz1) (bg 27 13 rfl) mb_X5_isFreeOfRivals.1 mb_X5_isFreeOfRivals.2.1 mb_X5_isFreeOfRivals.2.2.1 mb_X5_isFreeOfRivals.2.2.2 hd_X5_isFreeOfRivals rfl (by decide) (x_cut hP [3, 4, 5, 6, 7, 8, 9] rfl) rfl rfl rfl rfl hl.1 (Nat.le_of_ble_eq_true rfl) ⟨Nat.zero_le _, Nat.zero_le _⟩ dX6_holds_84 ?_
    refine lv_if_eq (tgt := 114) hx hb dX6_holds_87 (by decide) (fun c2 => ?_) (fun c2 => ?_)
    · rw [if_pos c2] at hf
      exact b_114 k_21 hk_21 u1 u2 u3 u4 u5 ls (lv_sub hl [1, 2, 3, 4, 5, 6] rfl) hf
    · rw [if_neg c2] at hf
      refine lv_iload hx hb dX6_holds_90 (lv_at hl 7 rfl) ?_
      refine lv_iload_n hx hb dX6_holds_92 rfl (lv_at hl 4 rfl) ?_
      refine lv_icmp_gt (tgt := 107) hx hb dX6_holds_93 (by decide) (fun c3 => ?_) (fun c3 => ?_)
      · rw [if_pos c3] at hf
        exact b_107 k_21 hk_21 u1 u2 u5 u6 ls (lv_sub hl [1, 2, 3, 6, 7] rfl) hf
      · rw [if_neg c3] at hf
        refine lv_iload hx hb dX6_holds_96 (lv_at hl 7 rfl) ?_
        refine lv_iload_n hx hb dX6_holds_98 rfl (lv_at hl 4 rfl) ?_
        refine lv_icmp_ne (tgt := 114) hx hb dX6_holds_99 (by decide) (fun c4 => ?_) (fun c4 => ?_)
        · rw [if_neg c4] at hf
          exact b_114 k_21 hk_21 u1 u2 u3 u4 u5 ls (lv_sub hl [1, 2, 3, 4, 5, 6] rfl) hf
        · rw [if_pos c4] at hf
          refine lv_iload hx hb dX6_holds_102 (lv_at hl 0 rfl) ?_
          refine lv_if_eq (tgt := 114) hx hb dX6_holds_104 (by decide) (fun c5 => ?_) (fun c5 => ?_)
          · rw [if_pos c5] at hf
            exact b_114 k_21 hk_21 u1 u2 u3 u4 u5 ls (lv_sub hl [1, 2, 3, 4, 5, 6] rfl) hf
          · rw [if_neg c5] at hf
            exact b_107 k_21 hk_21 u1 u2 u5 u6 ls (lv_sub hl [1, 2, 3, 6, 7] rfl) hf
  have b_21 : ∀ n : Nat, ∀ (u1 : Int32) (u2 : Int32) (u3 : Int32) (u4 : Int32) (u5 : Int32), ∀ ls : Array Slot, lv_has ls 8 [(0, .ref (q 0)), (1, .int u1), (2, .int u2), (3, .int u3), (4, .int u4), (5, .int u5)] → fX6_holds_21 N n tI tA wI wA u1 u2 u3 u4 u5 = some r → W p l e rmX6_holds s m [.ref (q 0), .int x1, .int x2].toArray below meth cd s.heap [] 0 0 Q (F0 m 21 ls []) := by
    intro n
    induction n with
    | zero =>
      intro u1 u2 u3 u4 u5 ls hl hf
      cases hf
    | succ n hk_21 =>
      intro u1 u2 u3 u4 u5 ls hl hf
      replace hf : fX6_holds_21s N (fX6_holds_21 N n) tI tA wI wA u1 u2 u3 u4 u5 = some r := hf
      generalize fX6_holds_21 N n = k_21 at hf hk_21
      unfold fX6_holds_21s at hf
      refine lv_iload hx hb dX6_holds_21 (lv_at hl 5 rfl) ?_
      refine lv_bipush (v := 32) hx hb dX6_holds_23 (by decide) ?_
      refine lv_icmp_ge (tgt := 120) hx hb dX6_holds_25 (by decide) (fun c1 => ?_) (fun c1 => ?_)
      · rw [if_pos c1] at hf
        exact b_120 u2 u3 u4 ls (lv_sub hl [2, 3, 4] rfl) hf
      · rw [if_neg c1] at hf
        refine lv_iload hx hb dX6_holds_28 (lv_at hl 5 rfl) ?_
        refine lv_iconst (v := 1) hx hb dX6_holds_30 (by decide) ?_
        refine lv_aload_n hx hb dX6_holds_31 rfl (lv_at hl 0 rfl) ?_
        refine va_get (D := G) (ci := 6) (v := .ref (q 3)) (C := RX6) (T := TX6) (N := 15) hx hb hts inlX6 hown hE.1 hP 0 rfl rfl 1 (by decide) (hts _ (bg 0 20 rfl)) (fun _ h9 => h9) rfl dX6_holds_32 ?_
        refine va_get (D := G) (ci := 5) (v := .int ((tI 0))) (C := RX5) (T := TX5) (N := 8) hx hb hts inlX5 hown hE.1 hP 3 rfl rfl 6 (by decide) (hts _ (bg 11 8 rfl)) (fun _ h9 => h9) rfl dX6_holds_35 ?_
        refine x_ishl hx hb dX6_holds_38 ?_
        refine lv_icmp_ge (tgt := 120) hx hb dX6_holds_39 (by decide) (fun c2 => ?_) (fun c2 => ?_)
        · rw [if_pos c2] at hf
          exact b_120 u2 u3 u4 ls (lv_sub hl [2, 3, 4] rfl) hf
        · rw [if_neg c2] at hf
          refine lv_aload_n hx hb dX6_holds_42 rfl (lv_at hl 0 rfl) ?_
          refine va_get (D := G) (ci := 6) (v := .ref (q 17)) (C := RX6) (T := TX6) (N := 15) hx hb hts inlX6 hown hE.1 hP 0 rfl rfl 3 (by decide) (hts _ (bg 1 1 rfl)) (fun _ h9 => h9) rfl dX6_holds_43 ?_
          refine lv_aload_n hx hb dX6_holds_46 rfl (lv_at hl 0 rfl) ?_
          refine va_get (D := G) (ci := 6) (v := .ref (q 3)) (C := RX6) (T := TX6) (N := 15) hx hb hts inlX6 hown hE.1 hP 0 rfl rfl 1 (by decide) (hts _ (bg 0 20 rfl)) (fun _ h9 => h9) rfl dX6_holds_47 ?_
          refine lv_iload_n hx hb dX6_holds_50 rfl (lv_at hl 1 rfl) ?_
          refine lv_iload hx hb dX6_holds_51 (lv_at hl 5 rfl) ?_
          obtain ⟨z3, hz3, hf⟩ := bnd hf
          refine x_rdV (C := RX4) (n := 3) (ci := 4) hx hb hml hown hts hE (ct_X4_valueOfSet N l G cI cZ cO (sh q 17) wI wA (sh q 3) tI tA u1 u5 z3 hz3) (bg 27 8 rfl) mb_X4_valueOfSet.1 mb_X4_valueOfSet.2.1 mb_X4_valueOfSet.2.2.1 mb_X4_valueOfSet.2.2.2 hd_X4_valueOfSet rfl (by decide) (x_cut hP [17, 18, 19, 20, 3, 4, 5, 6, 7, 8, 9] rfl) rfl rfl rfl rfl hl.1 (Nat.le_of_ble_eq_true rfl) ⟨Nat.zero_le _, Nat.zero_le _⟩ dX6_holds_53 ?_
          refine lv_istore (lv' := [(6, .int z3), (0, .ref (q 0)), (1, .int u1), (2, .int u2), (3, .int u3), (4, .int u4), (5, .int u5)]) hx hb dX6_holds_56 hl (by decide) rfl (fun ls hl => ?_)
          refine lv_iload hx hb dX6_holds_58 (lv_at hl 6 rfl) ?_
          obtain ⟨z4, hz4, hf⟩ := bnd hf
          refine x_rdS (n := 1) hx hb hml hown hts hE (ct_J6_bitCount_0f7a4 N l G cI cZ cO u5 z4 hz4) (bg 18 2 rfl) mb_J6_bitCount_0f7a4.1 mb_J6_bitCount_0f7a4.2.1 mb_J6_bitCount_0f7a4.2.2 hd_J6_bitCount_0f7a4 rfl (by decide) va_P_nil rfl hl.1 (Nat.le_of_ble_eq_true rfl) ⟨Nat.zero_le _, Nat.zero_le _⟩ dX6_holds_60 ?_
          refine lv_iload hx hb dX6_holds_63 (lv_at hl 5 rfl) ?_
          obtain ⟨z5, hz5, hf⟩ := bnd hf
          refine x_rdS (n := 1) hx hb hml hown hts hE (ct_J6_bitCount_0f7a4 N l G cI cZ cO u4 z5 hz5) (bg 18 2 rfl) mb_J6_bitCount_0f7a4.1 mb_J6_bitCount_0f7a4.2.1 mb_J6_bitCount_0f7a4.2.2 hd_J6_bitCount_0f7a4 rfl (by decide) va_P_nil rfl hl.1 (Nat.le_of_ble_eq_true rfl) ⟨Nat.zero_le _, Nat.zero_le _⟩ dX6_holds_65 ?_
          refine lv_icmp_ge (tgt := 75) hx hb dX6_holds_68 (by decide) (fun c6 => ?_) (fun c6 => ?_)
          · rw [if_pos c6] at hf
            refine lv_iconst (v := 0) hx hb dX6_holds_75 (by decide) ?_
            exact b_76 k_21 hk_21 u1 u2 u3 u4 u5 z3 0 ls (lv_sub hl [1, 2, 3, 4, 5, 6, 0] rfl) hf
          · rw [if_neg c6] at hf
            refine lv_iconst (v := 1) hx hb dX6_holds_71 (by decide) ?_
            refine lv_goto (tgt := 76) hx hb dX6_holds_72 (by decide) ?_
            exact b_76 k_21 hk_21 u1 u2 u3 u4 u5 z3 1 ls (lv_sub hl [1, 2, 3, 4, 5, 6, 0] rfl) hf
  unfold fX6_holds at hf
  refine lv_aload_n hx hb dX6_holds_0 rfl (lv_at hl 0 rfl) ?_
  refine va_get (D := G) (ci := 6) (v := .ref (q 3)) (C := RX6) (T := TX6) (N := 15) hx hb hts inlX6 hown hE.1 hP 0 rfl rfl 1 (by decide) (hts _ (bg 0 20 rfl)) (fun _ h9 => h9) rfl dX6_holds_1 ?_
  refine lv_iload_n hx hb dX6_holds_4 rfl (lv_at hl 1 rfl) ?_
  obtain ⟨z1, hz1, hf⟩ := bnd hf
  refine x_rdV (C := RX5) (n := 1) (ci := 5) hx hb hml hown hts hE (ct_X5_hasPerson N l G cI cZ cO (sh q 3) tI tA x1 z1 hz1) (bg 13 19 rfl) mb_X5_hasPerson.1 mb_X5_hasPerson.2.1 mb_X5_hasPerson.2.2.1 mb_X5_hasPerson.2.2.2 hd_X5_hasPerson rfl (by decide) (x_cut hP [3, 4, 5, 6, 7, 8, 9] rfl) rfl rfl rfl rfl hl.1 (Nat.le_of_ble_eq_true rfl) ⟨Nat.zero_le _, Nat.zero_le _⟩ dX6_holds_5 ?_
  refine lv_if_ne (tgt := 13) hx hb dX6_holds_8 (by decide) (fun c2 => ?_) (fun c2 => ?_)
  · rw [if_neg c2] at hf
    refine lv_iconst (v := 0) hx hb dX6_holds_13 (by decide) ?_
    refine lv_istore_n (lv' := [(3, .int 0), (0, .ref (q 0)), (1, .int x1), (2, .int x2)]) hx hb dX6_holds_14 rfl hl (by decide) rfl (fun ls hl => ?_)
    refine lv_iconst (v := 0) hx hb dX6_holds_15 (by decide) ?_
    refine lv_istore (lv' := [(4, .int 0), (3, .int 0), (0, .ref (q 0)), (1, .int x1), (2, .int x2)]) hx hb dX6_holds_16 hl (by decide) rfl (fun ls hl => ?_)
    refine lv_iconst (v := 1) hx hb dX6_holds_18 (by decide) ?_
    refine lv_istore (lv' := [(5, .int 1), (4, .int 0), (3, .int 0), (0, .ref (q 0)), (1, .int x1), (2, .int x2)]) hx hb dX6_holds_19 hl (by decide) rfl (fun ls hl => ?_)
    exact b_21 N x1 x2 0 0 1 ls (lv_sub hl [3, 4, 5, 2, 1, 0] rfl) hf
  · rw [if_pos c2] at hf
    refine lv_iconst (v := (-1)) hx hb dX6_holds_11 (by decide) ?_
    have e9 := Option.some.inj hf
    exact fin 12 ls _ e9 (nar_i _) dX6_holds_12
def fX4_valueOfAll_4s (N : Nat) (k_4 : (Nat → Int32) → (Nat → Nat → Int32) → (Nat → Int32) → (Nat → Nat → Int32) → Int32 → Int32 → Option (Int32)) (I : Nat → Int32) (A : Nat → Nat → Int32) (I1 : Nat → Int32) (A1 : Nat → Nat → Int32) (u2 : Int32) (u3 : Int32) : Option (Int32) := if (I1 0) ≤ u3 then some u2 else (fX4_valueOf N I A I1 A1 u3).bind fun z2 => k_4 I A I1 A1 (u2 + z2) (u3 + 1)
def fX4_valueOfAll_4 (N : Nat) : Nat → (Nat → Int32) → (Nat → Nat → Int32) → (Nat → Int32) → (Nat → Nat → Int32) → Int32 → Int32 → Option (Int32)
  | 0 => fun _ _ _ _ _ _ => none
  | n + 1 => fX4_valueOfAll_4s N (fX4_valueOfAll_4 N n)
def fX4_valueOfAll (N : Nat) (I : Nat → Int32) (A : Nat → Nat → Int32) (I1 : Nat → Int32) (A1 : Nat → Nat → Int32) : Option (Int32) := fX4_valueOfAll_4 N N I A I1 A1 0 0
def rmX4_valueOfAll : Room := { frames := 4, cells := 0, slots := 0, locals := 107 }
theorem mb_X4_valueOfAll : Cond.instanceMethod yX4_valueOfAll ∈ wsL_law ∧ Cond.selects RX4 yX4_valueOfAll yX4_valueOfAll ∈ wsL_law ∧ Cond.initialized RX4 ∈ wsL_law ∧ Cond.code yX4_valueOfAll cX4_valueOfAll 4 (some .int) ∈ wsL_law := ⟨(bg 28 8 rfl), (bg 28 9 rfl), (bg 1 0 rfl), (bg 28 10 rfl)⟩
theorem hd_X4_valueOfAll : yX4_valueOfAll.cls = RX4 ∧ yX4_valueOfAll.cls ≠ "java/lang/invoke/MethodHandle" ∧ yX4_valueOfAll.cls ≠ "java/lang/invoke/VarHandle" ∧ (parseMethodDescriptor yX4_valueOfAll.desc).map (fun d => d.parameters.length) = some 1 := by decide +kernel
set_option maxRecDepth 100000 in
set_option maxHeartbeats 4000000 in
theorem ct_X4_valueOfAll (N : Nat) (l : Launch) (G : va_G) (cI cZ cO : ClassId) (q : Nat → Nat) (I : Nat → Int32) (A : Nat → Nat → Int32) (q1 : Nat → Nat) (I1 : Nat → Int32) (A1 : Nat → Nat → Int32) (r : Int32) (hf : fX4_valueOfAll N I A I1 A1 = some r) : RtI l yX4_valueOfAll cX4_valueOfAll 4 .int rmX4_valueOfAll G cI cZ cO [.ref (q 0), .ref (q1 0)] (wX4 q cI cZ cO I A ++ wX5 q1 cI cZ cO I1 A1) r := by
  refine mkRI (by decide) (Nat.le_of_ble_eq_true rfl) ?_
  intro p e s m below meth cd Q hC hP hE fin ls hl
  obtain ⟨hx, hb, hml, hown, hts⟩ := hC
  have hown : s.vm.findClass RX4 = some m.cls := hown
  have hl : lv_has ls 4 [(0, .ref (q 0)), (1, .ref (q1 0))] := hl
  have b_4 : ∀ n : Nat, ∀ (u2 : Int32) (u3 : Int32), ∀ ls : Array Slot, lv_has ls 4 [(0, .ref (q 0)), (1, .ref (q1 0)), (2, .int u2), (3, .int u3)] → fX4_valueOfAll_4 N n I A I1 A1 u2 u3 = some r → W p l e rmX4_valueOfAll s m [.ref (q 0), .ref (q1 0)].toArray below meth cd s.heap [] 0 0 Q (F0 m 4 ls []) := by
    intro n
    induction n with
    | zero =>
      intro u2 u3 ls hl hf
      cases hf
    | succ n hk_4 =>
      intro u2 u3 ls hl hf
      replace hf : fX4_valueOfAll_4s N (fX4_valueOfAll_4 N n) I A I1 A1 u2 u3 = some r := hf
      generalize fX4_valueOfAll_4 N n = k_4 at hf hk_4
      unfold fX4_valueOfAll_4s at hf
      refine lv_iload_n hx hb dX4_valueOfAll_4 rfl (lv_at hl 3 rfl) ?_
      refine lv_aload_n hx hb dX4_valueOfAll_5 rfl (lv_at hl 1 rfl) ?_
      refine va_get (D := G) (ci := 5) (v := .int ((I1 0))) (C := RX5) (T := TX5) (N := 8) hx hb hts inlX5 hown hE.1 hP 4 rfl rfl 6 (by decide) (hts _ (bg 27 12 rfl)) (fun _ h9 => h9) rfl dX4_valueOfAll_6 ?_
      refine lv_icmp_ge (tgt := 27) hx hb dX4_valueOfAll_9 (by decide) (fun c1 => ?_) (fun c1 => ?_)
      · rw [if_pos c1] at hf
        refine lv_iload_n hx hb dX4_valueOfAll_27 rfl (lv_at hl 2 rfl) ?_
        have e9 := Option.some.inj hf
        exact fin 28 ls _ e9 (nar_i _) dX4_valueOfAll_28
      · rw [if_neg c1] at hf
        refine lv_iload_n hx hb dX4_valueOfAll_12 rfl (lv_at hl 2 rfl) ?_
        refine lv_aload_n hx hb dX4_valueOfAll_13 rfl (lv_at hl 0 rfl) ?_
        refine lv_aload_n hx hb dX4_valueOfAll_14 rfl (lv_at hl 1 rfl) ?_
        refine lv_iload_n hx hb dX4_valueOfAll_15 rfl (lv_at hl 3 rfl) ?_
        obtain ⟨z2, hz2, hf⟩ := bnd hf
        refine x_rdV (C := RX4) (n := 2) (ci := 4) hx hb hml hown hts hE (ct_X4_valueOf N l G cI cZ cO q I A q1 I1 A1 u3 z2 hz2) (bg 20 12 rfl) mb_X4_valueOf.1 mb_X4_valueOf.2.1 mb_X4_valueOf.2.2.1 mb_X4_valueOf.2.2.2 hd_X4_valueOf rfl (by decide) hP rfl rfl rfl rfl hl.1 (Nat.le_of_ble_eq_true rfl) ⟨Nat.zero_le _, Nat.zero_le _⟩ dX4_valueOfAll_16 ?_
        refine lv_iadd hx hb dX4_valueOfAll_19 ?_
        refine lv_istore_n (lv' := [(2, .int (u2 + z2)), (0, .ref (q 0)), (1, .ref (q1 0)), (3, .int u3)]) hx hb dX4_valueOfAll_20 rfl hl (by decide) rfl (fun ls hl => ?_)
        refine lv_iinc (v := u3 + 1) (lv' := [(3, .int (u3 + 1)), (2, .int (u2 + z2)), (0, .ref (q 0)), (1, .ref (q1 0))]) hx hb dX4_valueOfAll_21 hl (k := 3) rfl rfl (by decide) rfl (fun ls hl => ?_)
        refine lv_goto (tgt := 4) hx hb dX4_valueOfAll_24 (by decide) ?_
        exact hk_4 (u2 + z2) (u3 + 1) ls (lv_sub hl [2, 3, 1, 0] rfl) hf
  unfold fX4_valueOfAll at hf
  refine lv_iconst (v := 0) hx hb dX4_valueOfAll_0 (by decide) ?_
  refine lv_istore_n (lv' := [(2, .int 0), (0, .ref (q 0)), (1, .ref (q1 0))]) hx hb dX4_valueOfAll_1 rfl hl (by decide) rfl (fun ls hl => ?_)
  refine lv_iconst (v := 0) hx hb dX4_valueOfAll_2 (by decide) ?_
  refine lv_istore_n (lv' := [(3, .int 0), (2, .int 0), (0, .ref (q 0)), (1, .ref (q1 0))]) hx hb dX4_valueOfAll_3 rfl hl (by decide) rfl (fun ls hl => ?_)
  exact b_4 N 0 0 ls (lv_sub hl [2, 3, 1, 0] rfl) hf
def fX6_trySaying (N : Nat) (tI : Nat → Int32) (tA : Nat → Nat → Int32) (uI : Nat → Int32) (uA : Nat → Nat → Int32) (x1 : Int32) (x2 : Int32) : Option (Int32 × (Nat → Nat → Int32)) := (fX4_canBeSaid N uI uA tI tA x1 x2).bind fun z1 => if z1 = 0 then some (0, uA) else (fX4_putSaid N uA x1 x2).bind fun z3 => some (1, z3)
def rmX6_trySaying : Room := { frames := 3, cells := 0, slots := 0, locals := 67 }
theorem mb_X6_trySaying : Cond.instanceMethod yX6_trySaying ∈ wsL_law ∧ Cond.selects RX6 yX6_trySaying yX6_trySaying ∈ wsL_law ∧ Cond.initialized RX6 ∈ wsL_law ∧ Cond.code yX6_trySaying cX6_trySaying 3 (some .boolean) ∈ wsL_law := ⟨(bg 28 16 rfl), (bg 28 17 rfl), (bg 0 2 rfl), (bg 28 18 rfl)⟩
theorem hd_X6_trySaying : yX6_trySaying.cls = RX6 ∧ yX6_trySaying.cls ≠ "java/lang/invoke/MethodHandle" ∧ yX6_trySaying.cls ≠ "java/lang/invoke/VarHandle" ∧ (parseMethodDescriptor yX6_trySaying.desc).map (fun d => d.parameters.length) = some 2 := by decide +kernel
set_option maxRecDepth 100000 in
set_option maxHeartbeats 4000000 in
theorem ct_X6_trySaying (N : Nat) (l : Launch) (G : va_G) (cI cZ cO : ClassId) (q : Nat → Nat) (A : Nat → Nat → Int32) (L : Int64) (rI : Nat → Int32) (rA : Nat → Nat → Int32) (tI : Nat → Int32) (tA : Nat → Nat → Int32) (dI : Nat → Int32) (dA : Nat → Nat → Int32) (wI : Nat → Int32) (wA : Nat → Nat → Int32) (uI : Nat → Int32) (uA : Nat → Nat → Int32) (aI : Nat → Int32) (aS : Nat → Nat → Int32) (aT : Nat → Nat → Nat → Int32) (eI : Nat → Int32) (eA : Nat → Nat → Int32) (sS : Nat → Nat → Int32) (sT : Nat → Nat → Nat → Int32) (bI : Nat → Int32) (x1 : Int32) (x2 : Int32) (r : Int32) (uAz : Nat → Nat → Int32) (hf : fX6_trySaying N tI tA uI uA x1 x2 = some (r, uAz)) : CtI l yX6_trySaying cX6_trySaying 3 .boolean rmX6_trySaying G cI cZ cO [.ref (q 0), .int x1, .int x2] (wX6 q cI cZ cO A L rI rA tI tA dI dA wI wA uI uA aI aS aT eI eA sS sT bI) (wX6 q cI cZ cO A L rI rA tI tA dI dA wI wA uI uAz aI aS aT eI eA sS sT bI) r := by
  refine mkCI (by decide) (Nat.le_of_ble_eq_true rfl) ?_
  intro p e s m below meth cd Q Z hC hP hE hD hA fin ls hl
  obtain ⟨hx, hb, hml, hown, hts⟩ := hC
  have hown : s.vm.findClass RX6 = some m.cls := hown
  have hl : lv_has ls 3 [(0, .ref (q 0)), (1, .int x1), (2, .int x2)] := hl
  unfold fX6_trySaying at hf
  have hS : va_S Z s.heap s.heap [] := va_S.rf
  obtain ⟨H, hH⟩ : ∃ H, H = s.heap := ⟨_, rfl⟩
  obtain ⟨locs, hlocs⟩ : ∃ locs : List Loc, locs = [] := ⟨_, rfl⟩
  rw [← hlocs]
  rw [← hlocs] at hS
  suffices hW : ∀ H : Heap, va_P G vwCl (wX6 q cI cZ cO A L rI rA tI tA dI dA wI wA uI uA aI aS aT eI eA sS sT bI) H → va_S Z s.heap H locs → W p l e rmX6_trySaying s m [.ref (q 0), .int x1, .int x2].toArray below meth cd H locs 0 0 Q (F0 m 0 ls []) from hW s.heap hP hS
  clear hP hS hH H
  intro H hP hS
  refine lv_aload_n hx hb dX6_trySaying_0 rfl (lv_at hl 0 rfl) ?_
  refine va_get (D := G) (ci := 6) (v := .ref (q 21)) (C := RX6) (T := TX6) (N := 15) hx hb hts inlX6 hown hE.1 hP 0 rfl rfl 4 (by decide) (hts _ (bg 1 2 rfl)) (fun _ h9 => h9) rfl dX6_trySaying_1 ?_
  refine lv_aload_n hx hb dX6_trySaying_4 rfl (lv_at hl 0 rfl) ?_
  refine va_get (D := G) (ci := 6) (v := .ref (q 3)) (C := RX6) (T := TX6) (N := 15) hx hb hts inlX6 hown hE.1 hP 0 rfl rfl 1 (by decide) (hts _ (bg 0 20 rfl)) (fun _ h9 => h9) rfl dX6_trySaying_5 ?_
  refine lv_iload_n hx hb dX6_trySaying_8 rfl (lv_at hl 1 rfl) ?_
  refine lv_iload_n hx hb dX6_trySaying_9 rfl (lv_at hl 2 rfl) ?_
  obtain ⟨z1, hz1, hf⟩ := bnd hf
  refine x_rdV (C := RX4) (n := 3) (ci := 4) hx hb hml hown hts hE (ct_X4_canBeSaid N l G cI cZ cO (sh q 21) uI uA (sh q 3) tI tA x1 x2 z1 hz1) (bg 17 16 rfl) mb_X4_canBeSaid.1 mb_X4_canBeSaid.2.1 mb_X4_canBeSaid.2.2.1 mb_X4_canBeSaid.2.2.2 hd_X4_canBeSaid rfl (by decide) (x_cut hP [21, 22, 23, 24, 3, 4, 5, 6, 7, 8, 9] rfl) rfl rfl rfl rfl hl.1 (Nat.le_of_ble_eq_true rfl) ⟨Nat.zero_le _, Nat.zero_le _⟩ dX6_trySaying_10 ?_
  refine lv_if_ne (tgt := 18) hx hb dX6_trySaying_13 (by decide) (fun c2 => ?_) (fun c2 => ?_)
  · rw [if_neg c2] at hf
    refine lv_aload_n hx hb dX6_trySaying_18 rfl (lv_at hl 0 rfl) ?_
    refine va_get (D := G) (ci := 6) (v := .ref (q 21)) (C := RX6) (T := TX6) (N := 15) hx hb hts inlX6 hown hE.1 hP 0 rfl rfl 4 (by decide) (hts _ (bg 1 2 rfl)) (fun _ h9 => h9) rfl dX6_trySaying_19 ?_
    refine lv_iload_n hx hb dX6_trySaying_22 rfl (lv_at hl 1 rfl) ?_
    refine lv_iload_n hx hb dX6_trySaying_23 rfl (lv_at hl 2 rfl) ?_
    obtain ⟨z3, hz3, hf⟩ := bnd hf
    refine x_wrVv (C := RX4) (n := 2) (ci := 4) (ws1 := (wX6 q cI cZ cO A L rI rA tI tA dI dA wI wA uI z3 aI aS aT eI eA sS sT bI)) hx hb hml hown hts hE (ct_X4_putSaid N l G cI cZ cO (sh q 21) uI uA x1 x2 z3 hz3) (bg 17 22 rfl) mb_X4_putSaid.1 mb_X4_putSaid.2.1 mb_X4_putSaid.2.2.1 mb_X4_putSaid.2.2.2 hd_X4_putSaid rfl (by decide) hP hD hS hA [21, 22, 23, 24] [false, false, false, false, false, false, false, false, false, false, false, false, false, false, false, false, false, false, false, false, false, true, true, true, true, false, false, false, false, false, false, false, false, false, false, false, false, false, false, false, false, false, false, false, false, false, false, false, false, false, false, false, false, false, false, false, false, false, false, false, false, false, false, false, false, false, false, false, false, false, false, false, false, false, false, false, false, false, false, false, false, false, false, false, false, false, false, false, false, false, false, false, false, false, false, false, false, false, false, false, false, false, false] (by decide) (by decide +kernel) rfl rfl ⟨rfl, rfl, rfl, rfl, rfl, rfl, rfl, rfl, rfl, rfl, rfl, rfl, rfl, rfl, rfl, rfl, rfl, rfl, rfl, rfl, rfl, rfl, rfl, rfl, rfl, rfl, rfl, rfl, rfl, rfl, rfl, rfl, rfl, rfl, rfl, rfl, rfl, rfl, rfl, rfl, rfl, rfl, rfl, rfl, rfl, rfl, rfl, rfl, rfl, rfl, rfl, rfl, rfl, rfl, rfl, rfl, rfl, rfl, rfl, rfl, rfl, rfl, rfl, rfl, rfl, rfl, rfl, rfl, rfl, rfl, rfl, rfl, rfl, rfl, rfl, rfl, rfl, rfl, rfl, rfl, rfl, rfl, rfl, rfl, rfl, rfl, rfl, rfl, rfl, rfl, rfl, rfl, rfl, rfl, rfl, rfl, rfl, rfl, rfl, rfl, rfl, rfl, rfl, trivial⟩ rfl rfl rfl rfl hl.1 (Nat.le_of_ble_eq_true rfl) ⟨Nat.zero_le _, Nat.zero_le _⟩ dX6_trySaying_24 (fun H locs hP hD hS => ?_)
    refine lv_iconst (v := 1) hx hb dX6_trySaying_27 (by decide) ?_
    have e9 := Option.some.inj hf
    exact fin H locs 28 ls _ (Prod.mk.inj e9).1 (nar_z (Or.inr (Prod.mk.inj e9).1.symm)) (by rw [← (Prod.mk.inj e9).2]; exact hP) hS dX6_trySaying_28
  · rw [if_pos c2] at hf
    refine lv_iconst (v := 0) hx hb dX6_trySaying_16 (by decide) ?_
    have e9 := Option.some.inj hf
    exact fin H locs 17 ls _ (Prod.mk.inj e9).1 (nar_z (Or.inl (Prod.mk.inj e9).1.symm)) (by rw [← (Prod.mk.inj e9).2]; exact hP) hS dX6_trySaying_17
