def fX6_weighChoices_111 (N : Nat) (k_3 : (Nat → Nat → Int32) → (Nat → Int32) → (Nat → Nat → Int32) → (Nat → Int32) → (Nat → Nat → Int32) → Int32 → Int32 → Int32 → Int32 → Option ((Nat → Nat → Int32))) (k_29 : (Nat → Nat → Int32) → (Nat → Int32) → (Nat → Nat → Int32) → (Nat → Int32) → (Nat → Nat → Int32) → Int32 → Int32 → Int32 → Int32 → Int32 → Option ((Nat → Nat → Int32))) (A : Nat → Nat → Int32) (tI : Nat → Int32) (tA : Nat → Nat → Int32) (wI : Nat → Int32) (wA : Nat → Nat → Int32) (u1 : Int32) (u2 : Int32) (u3 : Int32) (u4 : Int32) (u5 : Int32) (y0 : Int32) (y1 : Int32) : Option ((Nat → Nat → Int32)) := (rd 36 (A 3) u4).bind fun v1 => (fX6_coinValueIn N tI tA wI wA u1 u5 (y0 ||| y1) u3).bind fun z2 => (wr 36 (A 3) u4 (v1 + z2)).bind fun g3 => (rd 36 (A 4) u4).bind fun v4 => (fX6_coinValueIn N tI tA wI wA u2 u5 (y0 ||| y1) u3).bind fun z5 => (wr 36 (A 4) u4 (v4 + z5)).bind fun g6 => k_29 (va_up (va_up A 3 g3) 4 g6) tI tA wI wA u1 u2 u3 u4 (u5 + 1)
def fX6_weighChoices_80 (N : Nat) (k_3 : (Nat → Nat → Int32) → (Nat → Int32) → (Nat → Nat → Int32) → (Nat → Int32) → (Nat → Nat → Int32) → Int32 → Int32 → Int32 → Int32 → Option ((Nat → Nat → Int32))) (k_29 : (Nat → Nat → Int32) → (Nat → Int32) → (Nat → Nat → Int32) → (Nat → Int32) → (Nat → Nat → Int32) → Int32 → Int32 → Int32 → Int32 → Int32 → Option ((Nat → Nat → Int32))) (A : Nat → Nat → Int32) (tI : Nat → Int32) (tA : Nat → Nat → Int32) (wI : Nat → Int32) (wA : Nat → Nat → Int32) (u1 : Int32) (u2 : Int32) (u3 : Int32) (u4 : Int32) (u5 : Int32) (y0 : Int32) (y1 : Int32) : Option ((Nat → Nat → Int32)) := if (rem u4 6) = (u5 + 1) then (fX5_seatOf N tA u2).bind fun z2 => fX6_weighChoices_111 N k_3 k_29 A tI tA wI wA u1 u2 u3 u4 u5 (y0 ||| y1) (shl 1 z2) else fX6_weighChoices_111 N k_3 k_29 A tI tA wI wA u1 u2 u3 u4 u5 (y0 ||| y1) 0
def fX6_weighChoices_29s (N : Nat) (k_3 : (Nat → Nat → Int32) → (Nat → Int32) → (Nat → Nat → Int32) → (Nat → Int32) → (Nat → Nat → Int32) → Int32 → Int32 → Int32 → Int32 → Option ((Nat → Nat → Int32))) (k_29 : (Nat → Nat → Int32) → (Nat → Int32) → (Nat → Nat → Int32) → (Nat → Int32) → (Nat → Nat → Int32) → Int32 → Int32 → Int32 → Int32 → Int32 → Option ((Nat → Nat → Int32))) (A : Nat → Nat → Int32) (tI : Nat → Int32) (tA : Nat → Nat → Int32) (wI : Nat → Int32) (wA : Nat → Nat → Int32) (u1 : Int32) (u2 : Int32) (u3 : Int32) (u4 : Int32) (u5 : Int32) : Option ((Nat → Nat → Int32)) := if (tI 0) ≤ u5 then k_3 A tI tA wI wA u1 u2 u3 (u4 + 1) else (fX4_saidOf N wA u5).bind fun z2 => if (u4 / 6) = (u5 + 1) then (fX5_seatOf N tA u1).bind fun z4 => fX6_weighChoices_80 N k_3 k_29 A tI tA wI wA u1 u2 u3 u4 u5 z2 (shl 1 z4) else fX6_weighChoices_80 N k_3 k_29 A tI tA wI wA u1 u2 u3 u4 u5 z2 0
def fX6_weighChoices_29 (N : Nat) (k_3 : (Nat → Nat → Int32) → (Nat → Int32) → (Nat → Nat → Int32) → (Nat → Int32) → (Nat → Nat → Int32) → Int32 → Int32 → Int32 → Int32 → Option ((Nat → Nat → Int32))) : Nat → (Nat → Nat → Int32) → (Nat → Int32) → (Nat → Nat → Int32) → (Nat → Int32) → (Nat → Nat → Int32) → Int32 → Int32 → Int32 → Int32 → Int32 → Option ((Nat → Nat → Int32))
  | 0 => fun _ _ _ _ _ _ _ _ _ _ => none
  | n + 1 => fX6_weighChoices_29s N k_3 (fX6_weighChoices_29 N k_3 n)
def fX6_weighChoices_3s (N : Nat) (k_3 : (Nat → Nat → Int32) → (Nat → Int32) → (Nat → Nat → Int32) → (Nat → Int32) → (Nat → Nat → Int32) → Int32 → Int32 → Int32 → Int32 → Option ((Nat → Nat → Int32))) (A : Nat → Nat → Int32) (tI : Nat → Int32) (tA : Nat → Nat → Int32) (wI : Nat → Int32) (wA : Nat → Nat → Int32) (u1 : Int32) (u2 : Int32) (u3 : Int32) (u4 : Int32) : Option ((Nat → Nat → Int32)) := if 36 ≤ u4 then some A else (wr 36 (A 3) u4 0).bind fun g2 => (wr 36 (A 4) u4 0).bind fun g3 => fX6_weighChoices_29 N k_3 N (va_up (va_up A 3 g2) 4 g3) tI tA wI wA u1 u2 u3 u4 0
def fX6_weighChoices_3 (N : Nat) : Nat → (Nat → Nat → Int32) → (Nat → Int32) → (Nat → Nat → Int32) → (Nat → Int32) → (Nat → Nat → Int32) → Int32 → Int32 → Int32 → Int32 → Option ((Nat → Nat → Int32))
  | 0 => fun _ _ _ _ _ _ _ _ _ => none
  | n + 1 => fX6_weighChoices_3s N (fX6_weighChoices_3 N n)
def fX6_weighChoices (N : Nat) (A : Nat → Nat → Int32) (tI : Nat → Int32) (tA : Nat → Nat → Int32) (wI : Nat → Int32) (wA : Nat → Nat → Int32) (x1 : Int32) (x2 : Int32) (x3 : Int32) : Option ((Nat → Nat → Int32)) := fX6_weighChoices_3 N N A tI tA wI wA x1 x2 x3 0
def rmX6_weighChoices : Room := { frames := 4, cells := 0, slots := 0, locals := 114 }
theorem mb_X6_weighChoices : Cond.instanceMethod yX6_weighChoices ∈ wsL_law ∧ Cond.selects RX6 yX6_weighChoices yX6_weighChoices ∈ wsL_law ∧ Cond.initialized RX6 ∈ wsL_law ∧ Cond.code yX6_weighChoices cX6_weighChoices 7 none ∈ wsL_law := ⟨(bg 33 0 rfl), (bg 33 1 rfl), (bg 0 2 rfl), (bg 33 2 rfl)⟩
theorem hd_X6_weighChoices : yX6_weighChoices.cls = RX6 ∧ yX6_weighChoices.cls ≠ "java/lang/invoke/MethodHandle" ∧ yX6_weighChoices.cls ≠ "java/lang/invoke/VarHandle" ∧ (parseMethodDescriptor yX6_weighChoices.desc).map (fun d => d.parameters.length) = some 3 := by decide +kernel
set_option maxRecDepth 100000 in
set_option maxHeartbeats 4000000 in
theorem ct_X6_weighChoices (N : Nat) (l : Launch) (G : va_G) (cI cZ cO : ClassId) (q : Nat → Nat) (A : Nat → Nat → Int32) (L : Int64) (rI : Nat → Int32) (rA : Nat → Nat → Int32) (tI : Nat → Int32) (tA : Nat → Nat → Int32) (dI : Nat → Int32) (dA : Nat → Nat → Int32) (wI : Nat → Int32) (wA : Nat → Nat → Int32) (uI : Nat → Int32) (uA : Nat → Nat → Int32) (aI : Nat → Int32) (aS : Nat → Nat → Int32) (aT : Nat → Nat → Nat → Int32) (eI : Nat → Int32) (eA : Nat → Nat → Int32) (sS : Nat → Nat → Int32) (sT : Nat → Nat → Nat → Int32) (bI : Nat → Int32) (x1 : Int32) (x2 : Int32) (x3 : Int32) (Az : Nat → Nat → Int32) (hf : fX6_weighChoices N A tI tA wI wA x1 x2 x3 = some Az) : CtV l yX6_weighChoices cX6_weighChoices 7 rmX6_weighChoices G cI cZ cO [.ref (q 0), .int x1, .int x2, .int x3] (wX6 q cI cZ cO A L rI rA tI tA dI dA wI wA uI uA aI aS aT eI eA sS sT bI) (wX6 q cI cZ cO Az L rI rA tI tA dI dA wI wA uI uA aI aS aT eI eA sS sT bI) := by
  refine mkCV (by decide) (Nat.le_of_ble_eq_true rfl) ?_
  intro p e s m below meth cd Q Z hC hP hE hD hA fin ls hl
  obtain ⟨hx, hb, hml, hown, hts⟩ := hC
  have hown : s.vm.findClass RX6 = some m.cls := hown
  have hl : lv_has ls 7 [(0, .ref (q 0)), (1, .int x1), (2, .int x2), (3, .int x3)] := hl
  have b_111 : ∀ (k_3 : (Nat → Nat → Int32) → (Nat → Int32) → (Nat → Nat → Int32) → (Nat → Int32) → (Nat → Nat → Int32) → Int32 → Int32 → Int32 → Int32 → Option ((Nat → Nat → Int32))) (hk_3 : ∀ (A : Nat → Nat → Int32) (u1 : Int32) (u2 : Int32) (u3 : Int32) (u4 : Int32), ∀ (H : Heap) (locs : List Loc), va_P G vwCl (wX6 q cI cZ cO A L rI rA tI tA dI dA wI wA uI uA aI aS aT eI eA sS sT bI) H → va_D Z (wX6 q cI cZ cO A L rI rA tI tA dI dA wI wA uI uA aI aS aT eI eA sS sT bI) → va_S Z s.heap H locs → ∀ ls : Array Slot, lv_has ls 7 [(0, .ref (q 0)), (1, .int u1), (2, .int u2), (3, .int u3), (4, .int u4)] → k_3 A tI tA wI wA u1 u2 u3 u4 = some Az → W p l e rmX6_weighChoices s m [.ref (q 0), .int x1, .int x2, .int x3].toArray below meth cd H locs 0 0 Q (F0 m 3 ls [])), ∀ (k_29 : (Nat → Nat → Int32) → (Nat → Int32) → (Nat → Nat → Int32) → (Nat → Int32) → (Nat → Nat → Int32) → Int32 → Int32 → Int32 → Int32 → Int32 → Option ((Nat → Nat → Int32))) (hk_29 : ∀ (A : Nat → Nat → Int32) (u1 : Int32) (u2 : Int32) (u3 : Int32) (u4 : Int32) (u5 : Int32), ∀ (H : Heap) (locs : List Loc), va_P G vwCl (wX6 q cI cZ cO A L rI rA tI tA dI dA wI wA uI uA aI aS aT eI eA sS sT bI) H → va_D Z (wX6 q cI cZ cO A L rI rA tI tA dI dA wI wA uI uA aI aS aT eI eA sS sT bI) → va_S Z s.heap H locs → ∀ ls : Array Slot, lv_has ls 7 [(0, .ref (q 0)), (1, .int u1), (2, .int u2), (3, .int u3), (4, .int u4), (5, .int u5)] → k_29 A tI tA wI wA u1 u2 u3 u4 u5 = some Az → W p l e rmX6_weighChoices s m [.ref (q 0), .int x1, .int x2, .int x3].toArray below meth cd H locs 0 0 Q (F0 m 29 ls [])), ∀ (A : Nat → Nat → Int32) (u1 : Int32) (u2 : Int32) (u3 : Int32) (u4 : Int32) (u5 : Int32) (y0 : Int32) (y1 : Int32), ∀ (H : Heap) (locs : List Loc), va_P G vwCl (wX6 q cI cZ cO A L rI rA tI tA dI dA wI wA uI uA aI aS aT eI eA sS sT bI) H → va_D Z (wX6 q cI cZ cO A L rI rA tI tA dI dA wI wA uI uA aI aS aT eI eA sS sT bI) → va_S Z s.heap H locs → ∀ ls : Array Slot, lv_has ls 7 [(0, .ref (q 0)), (1, .int u1), (2, .int u2), (3, .int u3), (4, .int u4), (5, .int u5)] → fX6_weighChoices_111 N k_3 k_29 A tI tA wI wA u1 u2 u3 u4 u5 y0 y1 = some Az → W p l e rmX6_weighChoices s m [.ref (q 0), .int x1, .int x2, .int x3].toArray below meth cd H locs 0 0 Q (F0 m 111 ls [.int y1, .int y0]) := by
    intro k_3 hk_3 k_29 hk_29 A u1 u2 u3 u4 u5 y0 y1 H locs hP hD hS ls hl hf
    unfold fX6_weighChoices_111 at hf
    refine lv_ior hx hb dX6_weighChoices_111 ?_
    refine lv_istore (lv' := [(6, .int (y0 ||| y1)), (0, .ref (q 0)), (1, .int u1), (2, .int u2), (3, .int u3), (4, .int u4), (5, .int u5)]) hx hb dX6_weighChoices_112 hl (by decide) rfl (fun ls hl => ?_)
    refine lv_aload_n hx hb dX6_weighChoices_114 rfl (lv_at hl 1 rfl) ?_
    refine va_get (D := G) (ci := 6) (v := .ref (q 101)) (C := RX6) (T := TX6) (N := 15) hx hb hts inlX6 hown hE.1 hP 0 rfl rfl 12 (by decide) (hts _ (bg 1 21 rfl)) (fun _ h9 => h9) rfl dX6_weighChoices_115 ?_
    refine lv_iload hx hb dX6_weighChoices_118 (lv_at hl 5 rfl) ?_
    refine lv_dup2_11 hx hb dX6_weighChoices_120 rfl rfl ?_
    obtain ⟨v1, hv1, hf⟩ := bnd hf
    refine x_iald hx hb hE.1 hP 101 0 rfl rfl hv1 dX6_weighChoices_121 ?_
    refine lv_aload_n hx hb dX6_weighChoices_122 rfl (lv_at hl 1 rfl) ?_
    refine lv_iload_n hx hb dX6_weighChoices_123 rfl (lv_at hl 2 rfl) ?_
    refine lv_iload hx hb dX6_weighChoices_124 (lv_at hl 6 rfl) ?_
    refine lv_iload hx hb dX6_weighChoices_126 (lv_at hl 0 rfl) ?_
    refine lv_iload_n hx hb dX6_weighChoices_128 rfl (lv_at hl 4 rfl) ?_
    obtain ⟨z2, hz2, hf⟩ := bnd hf
    refine x_rdV (C := RX6) (n := 4) (ci := 6) hx hb hml hown hts hE (ct_X6_coinValueIn N l G cI cZ cO q A L rI rA tI tA dI dA wI wA uI uA aI aS aT eI eA sS sT bI u1 u5 (y0 ||| y1) u3 z2 hz2) (bg 23 18 rfl) mb_X6_coinValueIn.1 mb_X6_coinValueIn.2.1 mb_X6_coinValueIn.2.2.1 mb_X6_coinValueIn.2.2.2 hd_X6_coinValueIn rfl (by decide) hP rfl rfl rfl rfl hl.1 (Nat.le_of_ble_eq_true rfl) ⟨Nat.zero_le _, Nat.zero_le _⟩ dX6_weighChoices_129 ?_
    refine lv_iadd hx hb dX6_weighChoices_132 ?_
    obtain ⟨g3, hg3, hf⟩ := bnd hf
    refine x_iast hx hb hE.1 hP hD hS 101 0 rfl rfl hg3 dX6_weighChoices_133 (fun H locs hP hD hS => ?_)
    have hP : va_P G vwCl (wX6 q cI cZ cO (va_up A 3 g3) L rI rA tI tA dI dA wI wA uI uA aI aS aT eI eA sS sT bI) H := hP
    have hD : va_D Z (wX6 q cI cZ cO (va_up A 3 g3) L rI rA tI tA dI dA wI wA uI uA aI aS aT eI eA sS sT bI) := hD
    refine lv_aload_n hx hb dX6_weighChoices_134 rfl (lv_at hl 1 rfl) ?_
    refine va_get (D := G) (ci := 6) (v := .ref (q 102)) (C := RX6) (T := TX6) (N := 15) hx hb hts inlX6 hown hE.1 hP 0 rfl rfl 13 (by decide) (hts _ (bg 1 22 rfl)) (fun _ h9 => h9) rfl dX6_weighChoices_135 ?_
    refine lv_iload hx hb dX6_weighChoices_138 (lv_at hl 5 rfl) ?_
    refine lv_dup2_11 hx hb dX6_weighChoices_140 rfl rfl ?_
    obtain ⟨v4, hv4, hf⟩ := bnd hf
    refine x_iald hx hb hE.1 hP 102 0 rfl rfl hv4 dX6_weighChoices_141 ?_
    refine lv_aload_n hx hb dX6_weighChoices_142 rfl (lv_at hl 1 rfl) ?_
    refine lv_iload_n hx hb dX6_weighChoices_143 rfl (lv_at hl 3 rfl) ?_
    refine lv_iload hx hb dX6_weighChoices_144 (lv_at hl 6 rfl) ?_
    refine lv_iload hx hb dX6_weighChoices_146 (lv_at hl 0 rfl) ?_
    refine lv_iload_n hx hb dX6_weighChoices_148 rfl (lv_at hl 4 rfl) ?_
    obtain ⟨z5, hz5, hf⟩ := bnd hf
    refine x_rdV (C := RX6) (n := 4) (ci := 6) hx hb hml hown hts hE (ct_X6_coinValueIn N l G cI cZ cO q (va_up A 3 g3) L rI rA tI tA dI dA wI wA uI uA aI aS aT eI eA sS sT bI u2 u5 (y0 ||| y1) u3 z5 hz5) (bg 23 18 rfl) mb_X6_coinValueIn.1 mb_X6_coinValueIn.2.1 mb_X6_coinValueIn.2.2.1 mb_X6_coinValueIn.2.2.2 hd_X6_coinValueIn rfl (by decide) hP rfl rfl rfl rfl hl.1 (Nat.le_of_ble_eq_true rfl) ⟨Nat.zero_le _, Nat.zero_le _⟩ dX6_weighChoices_149 ?_
    refine lv_iadd hx hb dX6_weighChoices_152 ?_
    obtain ⟨g6, hg6, hf⟩ := bnd hf
    refine x_iast hx hb hE.1 hP hD hS 102 0 rfl rfl hg6 dX6_weighChoices_153 (fun H locs hP hD hS => ?_)
    have hP : va_P G vwCl (wX6 q cI cZ cO (va_up (va_up A 3 g3) 4 g6) L rI rA tI tA dI dA wI wA uI uA aI aS aT eI eA sS sT bI) H := hP
    have hD : va_D Z (wX6 q cI cZ cO (va_up (va_up A 3 g3) 4 g6) L rI rA tI tA dI dA wI wA uI uA aI aS aT eI eA sS sT bI) := hD
    refine lv_iinc (v := u5 + 1) (lv' := [(5, .int (u5 + 1)), (6, .int (y0 ||| y1)), (0, .ref (q 0)), (1, .int u1), (2, .int u2), (3, .int u3), (4, .int u4)]) hx hb dX6_weighChoices_154 hl (k := 6) rfl rfl (by decide) rfl (fun ls hl => ?_)
    refine lv_goto (tgt := 29) hx hb dX6_weighChoices_157 (by decide) ?_
    exact hk_29 (va_up (va_up A 3 g3) 4 g6) u1 u2 u3 u4 (u5 + 1) H locs hP hD hS ls (lv_sub hl [2, 3, 4, 5, 6, 0] rfl) hf
  have b_80 : ∀ (k_3 : (Nat → Nat → Int32) → (Nat → Int32) → (Nat → Nat → Int32) → (Nat → Int32) → (Nat → Nat → Int32) → Int32 → Int32 → Int32 → Int32 → Option ((Nat → Nat → Int32))) (hk_3 : ∀ (A : Nat → Nat → Int32) (u1 : Int32) (u2 : Int32) (u3 : Int32) (u4 : Int32), ∀ (H : Heap) (locs : List Loc), va_P G vwCl (wX6 q cI cZ cO A L rI rA tI tA dI dA wI wA uI uA aI aS aT eI eA sS sT bI) H → va_D Z (wX6 q cI cZ cO A L rI rA tI tA dI dA wI wA uI uA aI aS aT eI eA sS sT bI) → va_S Z s.heap H locs → ∀ ls : Array Slot, lv_has ls 7 [(0, .ref (q 0)), (1, .int u1), (2, .int u2), (3, .int u3), (4, .int u4)] → k_3 A tI tA wI wA u1 u2 u3 u4 = some Az → W p l e rmX6_weighChoices s m [.ref (q 0), .int x1, .int x2, .int x3].toArray below meth cd H locs 0 0 Q (F0 m 3 ls [])), ∀ (k_29 : (Nat → Nat → Int32) → (Nat → Int32) → (Nat → Nat → Int32) → (Nat → Int32) → (Nat → Nat → Int32) → Int32 → Int32 → Int32 → Int32 → Int32 → Option ((Nat → Nat → Int32))) (hk_29 : ∀ (A : Nat → Nat → Int32) (u1 : Int32) (u2 : Int32) (u3 : Int32) (u4 : Int32) (u5 : Int32), ∀ (H : Heap) (locs : List Loc), va_P G vwCl (wX6 q cI cZ cO A L rI rA tI tA dI dA wI wA uI uA aI aS aT eI eA sS sT bI) H → va_D Z (wX6 q cI cZ cO A L rI rA tI tA dI dA wI wA uI uA aI aS aT eI eA sS sT bI) → va_S Z s.heap H locs → ∀ ls : Array Slot, lv_has ls 7 [(0, .ref (q 0)), (1, .int u1), (2, .int u2), (3, .int u3), (4, .int u4), (5, .int u5)] → k_29 A tI tA wI wA u1 u2 u3 u4 u5 = some Az → W p l e rmX6_weighChoices s m [.ref (q 0), .int x1, .int x2, .int x3].toArray below meth cd H locs 0 0 Q (F0 m 29 ls [])), ∀ (A : Nat → Nat → Int32) (u1 : Int32) (u2 : Int32) (u3 : Int32) (u4 : Int32) (u5 : Int32) (y0 : Int32) (y1 : Int32), ∀ (H : Heap) (locs : List Loc), va_P G vwCl (wX6 q cI cZ cO A L rI rA tI tA dI dA wI wA uI uA aI aS aT eI eA sS sT bI) H → va_D Z (wX6 q cI cZ cO A L rI rA tI tA dI dA wI wA uI uA aI aS aT eI eA sS sT bI) → va_S Z s.heap H locs → ∀ ls : Array Slot, lv_has ls 7 [(0, .ref (q 0)), (1, .int u1), (2, .int u2), (3, .int u3), (4, .int u4), (5, .int u5)] → fX6_weighChoices_80 N k_3 k_29 A tI tA wI wA u1 u2 u3 u4 u5 y0 y1 = some Az → W p l e rmX6_weighChoices s m [.ref (q 0), .int x1, .int x2, .int x3].toArray below meth cd H locs 0 0 Q (F0 m 80 ls [.int y1, .int y0]) := by
    intro k_3 hk_3 k_29 hk_29 A u1 u2 u3 u4 u5 y0 y1 H locs hP hD hS ls hl hf
    unfold fX6_weighChoices_80 at hf
    refine lv_ior hx hb dX6_weighChoices_80 ?_
    refine lv_istore (lv' := [(6, .int (y0 ||| y1)), (0, .ref (q 0)), (1, .int u1), (2, .int u2), (3, .int u3), (4, .int u4), (5, .int u5)]) hx hb dX6_weighChoices_81 hl (by decide) rfl (fun ls hl => ?_)
    refine lv_iload hx hb dX6_weighChoices_83 (lv_at hl 0 rfl) ?_
    refine lv_iload hx hb dX6_weighChoices_85 (lv_at hl 5 rfl) ?_
    refine lv_bipush (v := 6) hx hb dX6_weighChoices_87 (by decide) ?_
    refine x_irem hx hb dX6_weighChoices_89 (by decide) ?_
    refine lv_iload hx hb dX6_weighChoices_90 (lv_at hl 6 rfl) ?_
    refine lv_iconst (v := 1) hx hb dX6_weighChoices_92 (by decide) ?_
    refine lv_iadd hx hb dX6_weighChoices_93 ?_
    refine lv_icmp_ne (tgt := 110) hx hb dX6_weighChoices_94 (by decide) (fun c1 => ?_) (fun c1 => ?_)
    · rw [if_neg c1] at hf
      refine lv_iconst (v := 0) hx hb dX6_weighChoices_110 (by decide) ?_
      exact b_111 k_3 hk_3 k_29 hk_29 A u1 u2 u3 u4 u5 (y0 ||| y1) 0 H locs hP hD hS ls (lv_sub hl [1, 2, 3, 4, 5, 6] rfl) hf
    · rw [if_pos c1] at hf
      refine lv_iconst (v := 1) hx hb dX6_weighChoices_97 (by decide) ?_
      refine lv_aload_n hx hb dX6_weighChoices_98 rfl (lv_at hl 1 rfl) ?_
      refine va_get (D := G) (ci := 6) (v := .ref (q 3)) (C := RX6) (T := TX6) (N := 15) hx hb hts inlX6 hown hE.1 hP 0 rfl rfl 1 (by decide) (hts _ (bg 0 20 rfl)) (fun _ h9 => h9) rfl dX6_weighChoices_99 ?_
      refine lv_iload_n hx hb dX6_weighChoices_102 rfl (lv_at hl 3 rfl) ?_
      obtain ⟨z2, hz2, hf⟩ := bnd hf
      refine x_rdV (C := RX5) (n := 1) (ci := 5) hx hb hml hown hts hE (ct_X5_seatOf N l G cI cZ cO (sh q 3) tI tA u2 z2 hz2) (bg 23 22 rfl) mb_X5_seatOf.1 mb_X5_seatOf.2.1 mb_X5_seatOf.2.2.1 mb_X5_seatOf.2.2.2 hd_X5_seatOf rfl (by decide) (x_cut hP [3, 4, 5, 6, 7, 8, 9] rfl) rfl rfl rfl rfl hl.1 (Nat.le_of_ble_eq_true rfl) ⟨Nat.zero_le _, Nat.zero_le _⟩ dX6_weighChoices_103 ?_
      refine x_ishl hx hb dX6_weighChoices_106 ?_
      refine lv_goto (tgt := 111) hx hb dX6_weighChoices_107 (by decide) ?_
      exact b_111 k_3 hk_3 k_29 hk_29 A u1 u2 u3 u4 u5 (y0 ||| y1) (shl 1 z2) H locs hP hD hS ls (lv_sub hl [1, 2, 3, 4, 5, 6] rfl) hf
  have b_29 : ∀ (k_3 : (Nat → Nat → Int32) → (Nat → Int32) → (Nat → Nat → Int32) → (Nat → Int32) → (Nat → Nat → Int32) → Int32 → Int32 → Int32 → Int32 → Option ((Nat → Nat → Int32))) (hk_3 : ∀ (A : Nat → Nat → Int32) (u1 : Int32) (u2 : Int32) (u3 : Int32) (u4 : Int32), ∀ (H : Heap) (locs : List Loc), va_P G vwCl (wX6 q cI cZ cO A L rI rA tI tA dI dA wI wA uI uA aI aS aT eI eA sS sT bI) H → va_D Z (wX6 q cI cZ cO A L rI rA tI tA dI dA wI wA uI uA aI aS aT eI eA sS sT bI) → va_S Z s.heap H locs → ∀ ls : Array Slot, lv_has ls 7 [(0, .ref (q 0)), (1, .int u1), (2, .int u2), (3, .int u3), (4, .int u4)] → k_3 A tI tA wI wA u1 u2 u3 u4 = some Az → W p l e rmX6_weighChoices s m [.ref (q 0), .int x1, .int x2, .int x3].toArray below meth cd H locs 0 0 Q (F0 m 3 ls [])), ∀ n : Nat, ∀ (A : Nat → Nat → Int32) (u1 : Int32) (u2 : Int32) (u3 : Int32) (u4 : Int32) (u5 : Int32), ∀ (H : Heap) (locs : List Loc), va_P G vwCl (wX6 q cI cZ cO A L rI rA tI tA dI dA wI wA uI uA aI aS aT eI eA sS sT bI) H → va_D Z (wX6 q cI cZ cO A L rI rA tI tA dI dA wI wA uI uA aI aS aT eI eA sS sT bI) → va_S Z s.heap H locs → ∀ ls : Array Slot, lv_has ls 7 [(0, .ref (q 0)), (1, .int u1), (2, .int u2), (3, .int u3), (4, .int u4), (5, .int u5)] → fX6_weighChoices_29 N k_3 n A tI tA wI wA u1 u2 u3 u4 u5 = some Az → W p l e rmX6_weighChoices s m [.ref (q 0), .int x1, .int x2, .int x3].toArray below meth cd H locs 0 0 Q (F0 m 29 ls []) := by
    intro k_3 hk_3
    intro n
    induction n with
    | zero =>
      intro A u1 u2 u3 u4 u5 H locs hP hD hS ls hl hf
      cases hf
    | succ n hk_29 =>
      intro A u1 u2 u3 u4 u5 H locs hP hD hS ls hl hf
      replace hf : fX6_weighChoices_29s N k_3 (fX6_weighChoices_29 N k_3 n) A tI tA wI wA u1 u2 u3 u4 u5 = some Az := hf
      generalize fX6_weighChoices_29 N k_3 n = k_29 at hf hk_29
      unfold fX6_weighChoices_29s at hf
      refine lv_iload hx hb dX6_weighChoices_29 (lv_at hl 5 rfl) ?_
      refine lv_aload_n hx hb dX6_weighChoices_31 rfl (lv_at hl 0 rfl) ?_
      refine va_get (D := G) (ci := 6) (v := .ref (q 3)) (C := RX6) (T := TX6) (N := 15) hx hb hts inlX6 hown hE.1 hP 0 rfl rfl 1 (by decide) (hts _ (bg 0 20 rfl)) (fun _ h9 => h9) rfl dX6_weighChoices_32 ?_
      refine va_get (D := G) (ci := 5) (v := .int ((tI 0))) (C := RX5) (T := TX5) (N := 8) hx hb hts inlX5 hown hE.1 hP 3 rfl rfl 6 (by decide) (hts _ (bg 11 8 rfl)) (fun _ h9 => h9) rfl dX6_weighChoices_35 ?_
      refine lv_icmp_ge (tgt := 160) hx hb dX6_weighChoices_38 (by decide) (fun c1 => ?_) (fun c1 => ?_)
      · rw [if_pos c1] at hf
        refine lv_iinc (v := u4 + 1) (lv' := [(4, .int (u4 + 1)), (0, .ref (q 0)), (1, .int u1), (2, .int u2), (3, .int u3), (5, .int u5)]) hx hb dX6_weighChoices_160 hl (k := 4) rfl rfl (by decide) rfl (fun ls hl => ?_)
        refine lv_goto (tgt := 3) hx hb dX6_weighChoices_163 (by decide) ?_
        exact hk_3 A u1 u2 u3 (u4 + 1) H locs hP hD hS ls (lv_sub hl [1, 2, 3, 4, 0] rfl) hf
      · rw [if_neg c1] at hf
        refine lv_aload_n hx hb dX6_weighChoices_41 rfl (lv_at hl 0 rfl) ?_
        refine va_get (D := G) (ci := 6) (v := .ref (q 17)) (C := RX6) (T := TX6) (N := 15) hx hb hts inlX6 hown hE.1 hP 0 rfl rfl 3 (by decide) (hts _ (bg 1 1 rfl)) (fun _ h9 => h9) rfl dX6_weighChoices_42 ?_
        refine lv_iload hx hb dX6_weighChoices_45 (lv_at hl 5 rfl) ?_
        obtain ⟨z2, hz2, hf⟩ := bnd hf
        refine x_rdV (C := RX4) (n := 1) (ci := 4) hx hb hml hown hts hE (ct_X4_saidOf N l G cI cZ cO (sh q 17) wI wA u5 z2 hz2) (bg 12 12 rfl) mb_X4_saidOf.1 mb_X4_saidOf.2.1 mb_X4_saidOf.2.2.1 mb_X4_saidOf.2.2.2 hd_X4_saidOf rfl (by decide) (x_cut hP [17, 18, 19, 20] rfl) rfl rfl rfl rfl hl.1 (Nat.le_of_ble_eq_true rfl) ⟨Nat.zero_le _, Nat.zero_le _⟩ dX6_weighChoices_47 ?_
        refine lv_istore (lv' := [(6, .int z2), (0, .ref (q 0)), (1, .int u1), (2, .int u2), (3, .int u3), (4, .int u4), (5, .int u5)]) hx hb dX6_weighChoices_50 hl (by decide) rfl (fun ls hl => ?_)
        refine lv_iload hx hb dX6_weighChoices_52 (lv_at hl 0 rfl) ?_
        refine lv_iload hx hb dX6_weighChoices_54 (lv_at hl 5 rfl) ?_
        refine lv_bipush (v := 6) hx hb dX6_weighChoices_56 (by decide) ?_
        refine lv_idiv hx hb dX6_weighChoices_58 (by decide) ?_
        refine lv_iload hx hb dX6_weighChoices_59 (lv_at hl 6 rfl) ?_
        refine lv_iconst (v := 1) hx hb dX6_weighChoices_61 (by decide) ?_
        refine lv_iadd hx hb dX6_weighChoices_62 ?_
        refine lv_icmp_ne (tgt := 79) hx hb dX6_weighChoices_63 (by decide) (fun c3 => ?_) (fun c3 => ?_)
        · rw [if_neg c3] at hf
          refine lv_iconst (v := 0) hx hb dX6_weighChoices_79 (by decide) ?_
          exact b_80 k_3 hk_3 k_29 hk_29 A u1 u2 u3 u4 u5 z2 0 H locs hP hD hS ls (lv_sub hl [1, 2, 3, 4, 5, 6] rfl) hf
        · rw [if_pos c3] at hf
          refine lv_iconst (v := 1) hx hb dX6_weighChoices_66 (by decide) ?_
          refine lv_aload_n hx hb dX6_weighChoices_67 rfl (lv_at hl 1 rfl) ?_
          refine va_get (D := G) (ci := 6) (v := .ref (q 3)) (C := RX6) (T := TX6) (N := 15) hx hb hts inlX6 hown hE.1 hP 0 rfl rfl 1 (by decide) (hts _ (bg 0 20 rfl)) (fun _ h9 => h9) rfl dX6_weighChoices_68 ?_
          refine lv_iload_n hx hb dX6_weighChoices_71 rfl (lv_at hl 2 rfl) ?_
          obtain ⟨z4, hz4, hf⟩ := bnd hf
          refine x_rdV (C := RX5) (n := 1) (ci := 5) hx hb hml hown hts hE (ct_X5_seatOf N l G cI cZ cO (sh q 3) tI tA u1 z4 hz4) (bg 23 22 rfl) mb_X5_seatOf.1 mb_X5_seatOf.2.1 mb_X5_seatOf.2.2.1 mb_X5_seatOf.2.2.2 hd_X5_seatOf rfl (by decide) (x_cut hP [3, 4, 5, 6, 7, 8, 9] rfl) rfl rfl rfl rfl hl.1 (Nat.le_of_ble_eq_true rfl) ⟨Nat.zero_le _, Nat.zero_le _⟩ dX6_weighChoices_72 ?_
          refine x_ishl hx hb dX6_weighChoices_75 ?_
          refine lv_goto (tgt := 80) hx hb dX6_weighChoices_76 (by decide) ?_
          exact b_80 k_3 hk_3 k_29 hk_29 A u1 u2 u3 u4 u5 z2 (shl 1 z4) H locs hP hD hS ls (lv_sub hl [1, 2, 3, 4, 5, 6] rfl) hf
  have b_3 : ∀ n : Nat, ∀ (A : Nat → Nat → Int32) (u1 : Int32) (u2 : Int32) (u3 : Int32) (u4 : Int32), ∀ (H : Heap) (locs : List Loc), va_P G vwCl (wX6 q cI cZ cO A L rI rA tI tA dI dA wI wA uI uA aI aS aT eI eA sS sT bI) H → va_D Z (wX6 q cI cZ cO A L rI rA tI tA dI dA wI wA uI uA aI aS aT eI eA sS sT bI) → va_S Z s.heap H locs → ∀ ls : Array Slot, lv_has ls 7 [(0, .ref (q 0)), (1, .int u1), (2, .int u2), (3, .int u3), (4, .int u4)] → fX6_weighChoices_3 N n A tI tA wI wA u1 u2 u3 u4 = some Az → W p l e rmX6_weighChoices s m [.ref (q 0), .int x1, .int x2, .int x3].toArray below meth cd H locs 0 0 Q (F0 m 3 ls []) := by
    intro n
    induction n with
    | zero =>
      intro A u1 u2 u3 u4 H locs hP hD hS ls hl hf
      cases hf
    | succ n hk_3 =>
      intro A u1 u2 u3 u4 H locs hP hD hS ls hl hf
      replace hf : fX6_weighChoices_3s N (fX6_weighChoices_3 N n) A tI tA wI wA u1 u2 u3 u4 = some Az := hf
      generalize fX6_weighChoices_3 N n = k_3 at hf hk_3
      unfold fX6_weighChoices_3s at hf
      refine lv_iload hx hb dX6_weighChoices_3 (lv_at hl 4 rfl) ?_
      refine lv_bipush (v := 36) hx hb dX6_weighChoices_5 (by decide) ?_
      refine lv_icmp_ge (tgt := 166) hx hb dX6_weighChoices_7 (by decide) (fun c1 => ?_) (fun c1 => ?_)
      · rw [if_pos c1] at hf
        have e9 := Option.some.inj hf
        exact fin H locs 166 ls (by rw [← e9]; exact hP) hS dX6_weighChoices_166
      · rw [if_neg c1] at hf
        refine lv_aload_n hx hb dX6_weighChoices_10 rfl (lv_at hl 0 rfl) ?_
        refine va_get (D := G) (ci := 6) (v := .ref (q 101)) (C := RX6) (T := TX6) (N := 15) hx hb hts inlX6 hown hE.1 hP 0 rfl rfl 12 (by decide) (hts _ (bg 1 21 rfl)) (fun _ h9 => h9) rfl dX6_weighChoices_11 ?_
        refine lv_iload hx hb dX6_weighChoices_14 (lv_at hl 4 rfl) ?_
        refine lv_iconst (v := 0) hx hb dX6_weighChoices_16 (by decide) ?_
        obtain ⟨g2, hg2, hf⟩ := bnd hf
        refine x_iast hx hb hE.1 hP hD hS 101 0 rfl rfl hg2 dX6_weighChoices_17 (fun H locs hP hD hS => ?_)
        have hP : va_P G vwCl (wX6 q cI cZ cO (va_up A 3 g2) L rI rA tI tA dI dA wI wA uI uA aI aS aT eI eA sS sT bI) H := hP
        have hD : va_D Z (wX6 q cI cZ cO (va_up A 3 g2) L rI rA tI tA dI dA wI wA uI uA aI aS aT eI eA sS sT bI) := hD
        refine lv_aload_n hx hb dX6_weighChoices_18 rfl (lv_at hl 0 rfl) ?_
        refine va_get (D := G) (ci := 6) (v := .ref (q 102)) (C := RX6) (T := TX6) (N := 15) hx hb hts inlX6 hown hE.1 hP 0 rfl rfl 13 (by decide) (hts _ (bg 1 22 rfl)) (fun _ h9 => h9) rfl dX6_weighChoices_19 ?_
        refine lv_iload hx hb dX6_weighChoices_22 (lv_at hl 4 rfl) ?_
        refine lv_iconst (v := 0) hx hb dX6_weighChoices_24 (by decide) ?_
        obtain ⟨g3, hg3, hf⟩ := bnd hf
        refine x_iast hx hb hE.1 hP hD hS 102 0 rfl rfl hg3 dX6_weighChoices_25 (fun H locs hP hD hS => ?_)
        have hP : va_P G vwCl (wX6 q cI cZ cO (va_up (va_up A 3 g2) 4 g3) L rI rA tI tA dI dA wI wA uI uA aI aS aT eI eA sS sT bI) H := hP
        have hD : va_D Z (wX6 q cI cZ cO (va_up (va_up A 3 g2) 4 g3) L rI rA tI tA dI dA wI wA uI uA aI aS aT eI eA sS sT bI) := hD
        refine lv_iconst (v := 0) hx hb dX6_weighChoices_26 (by decide) ?_
        refine lv_istore (lv' := [(5, .int 0), (0, .ref (q 0)), (1, .int u1), (2, .int u2), (3, .int u3), (4, .int u4)]) hx hb dX6_weighChoices_27 hl (by decide) rfl (fun ls hl => ?_)
        exact b_29 k_3 hk_3 N (va_up (va_up A 3 g2) 4 g3) u1 u2 u3 u4 0 H locs hP hD hS ls (lv_sub hl [1, 2, 3, 4, 5, 0] rfl) hf
  unfold fX6_weighChoices at hf
  have hS : va_S Z s.heap s.heap [] := va_S.rf
  obtain ⟨H, hH⟩ : ∃ H, H = s.heap := ⟨_, rfl⟩
  obtain ⟨locs, hlocs⟩ : ∃ locs : List Loc, locs = [] := ⟨_, rfl⟩
  rw [← hlocs]
  rw [← hlocs] at hS
  suffices hW : ∀ H : Heap, va_P G vwCl (wX6 q cI cZ cO A L rI rA tI tA dI dA wI wA uI uA aI aS aT eI eA sS sT bI) H → va_S Z s.heap H locs → W p l e rmX6_weighChoices s m [.ref (q 0), .int x1, .int x2, .int x3].toArray below meth cd H locs 0 0 Q (F0 m 0 ls []) from hW s.heap hP hS
  clear hP hS hH H
  intro H hP hS
  refine lv_iconst (v := 0) hx hb dX6_weighChoices_0 (by decide) ?_
  refine lv_istore (lv' := [(4, .int 0), (0, .ref (q 0)), (1, .int x1), (2, .int x2), (3, .int x3)]) hx hb dX6_weighChoices_1 hl (by decide) rfl (fun ls hl => ?_)
  exact b_3 N A x1 x2 x3 0 H locs hP hD hS ls (lv_sub hl [1, 2, 3, 4, 0] rfl) hf
def fX6_canChoose_34 (N : Nat) (tI : Nat → Int32) (tA : Nat → Nat → Int32) (wI : Nat → Int32) (wA : Nat → Nat → Int32) (y0 : Int32) : Option (Int32) := (bz y0).bind fun v1 => some v1
def fX6_canChoose_29 (N : Nat) (tI : Nat → Int32) (tA : Nat → Nat → Int32) (wI : Nat → Int32) (wA : Nat → Nat → Int32) : Option (Int32) := fX6_canChoose_34 N tI tA wI wA 1
def fX6_canChoose (N : Nat) (tI : Nat → Int32) (tA : Nat → Nat → Int32) (wI : Nat → Int32) (wA : Nat → Nat → Int32) (x1 : Int32) (x2 : Int32) : Option (Int32) := if x2 = 0 then fX6_canChoose_29 N tI tA wI wA else (fX5_seatOf N tA x1).bind fun z2 => (fX4_canBeSaid N wI wA tI tA (x2 - 1) z2).bind fun z3 => if z3 = 0 then fX6_canChoose_34 N tI tA wI wA 0 else fX6_canChoose_29 N tI tA wI wA
def rmX6_canChoose : Room := { frames := 3, cells := 0, slots := 0, locals := 67 }
theorem mb_X6_canChoose : Cond.instanceMethod yX6_canChoose ∈ wsL_law ∧ Cond.selects RX6 yX6_canChoose yX6_canChoose ∈ wsL_law ∧ Cond.initialized RX6 ∈ wsL_law ∧ Cond.code yX6_canChoose cX6_canChoose 3 (some .boolean) ∈ wsL_law := ⟨(bg 33 4 rfl), (bg 33 5 rfl), (bg 0 2 rfl), (bg 33 6 rfl)⟩
theorem hd_X6_canChoose : yX6_canChoose.cls = RX6 ∧ yX6_canChoose.cls ≠ "java/lang/invoke/MethodHandle" ∧ yX6_canChoose.cls ≠ "java/lang/invoke/VarHandle" ∧ (parseMethodDescriptor yX6_canChoose.desc).map (fun d => d.parameters.length) = some 2 := by decide +kernel
set_option maxRecDepth 100000 in
set_option maxHeartbeats 4000000 in
theorem ct_X6_canChoose (N : Nat) (l : Launch) (G : va_G) (cI cZ cO : ClassId) (q : Nat → Nat) (A : Nat → Nat → Int32) (L : Int64) (rI : Nat → Int32) (rA : Nat → Nat → Int32) (tI : Nat → Int32) (tA : Nat → Nat → Int32) (dI : Nat → Int32) (dA : Nat → Nat → Int32) (wI : Nat → Int32) (wA : Nat → Nat → Int32) (uI : Nat → Int32) (uA : Nat → Nat → Int32) (aI : Nat → Int32) (aS : Nat → Nat → Int32) (aT : Nat → Nat → Nat → Int32) (eI : Nat → Int32) (eA : Nat → Nat → Int32) (sS : Nat → Nat → Int32) (sT : Nat → Nat → Nat → Int32) (bI : Nat → Int32) (x1 : Int32) (x2 : Int32) (r : Int32) (hf : fX6_canChoose N tI tA wI wA x1 x2 = some r) : RtI l yX6_canChoose cX6_canChoose 3 .boolean rmX6_canChoose G cI cZ cO [.ref (q 0), .int x1, .int x2] (wX6 q cI cZ cO A L rI rA tI tA dI dA wI wA uI uA aI aS aT eI eA sS sT bI) r := by
  refine mkRI (by decide) (Nat.le_of_ble_eq_true rfl) ?_
  intro p e s m below meth cd Q hC hP hE fin ls hl
  obtain ⟨hx, hb, hml, hown, hts⟩ := hC
  have hown : s.vm.findClass RX6 = some m.cls := hown
  have hl : lv_has ls 3 [(0, .ref (q 0)), (1, .int x1), (2, .int x2)] := hl
  have b_34 : ∀ (y0 : Int32), ∀ ls : Array Slot, lv_has ls 3 [] → fX6_canChoose_34 N tI tA wI wA y0 = some r → W p l e rmX6_canChoose s m [.ref (q 0), .int x1, .int x2].toArray below meth cd s.heap [] 0 0 Q (F0 m 34 ls [.int y0]) := by
    intro y0 ls hl hf
    unfold fX6_canChoose_34 at hf
    obtain ⟨v1, hv1, hf⟩ := bnd hf
    obtain ⟨ev1, hv1⟩ := bz_in hv1
    rw [ev1]
    have e9 := Option.some.inj hf
    exact fin 34 ls _ e9 (nar_z (by rw [← e9]; exact hv1)) dX6_canChoose_34
  have b_29 : ∀ ls : Array Slot, lv_has ls 3 [] → fX6_canChoose_29 N tI tA wI wA = some r → W p l e rmX6_canChoose s m [.ref (q 0), .int x1, .int x2].toArray below meth cd s.heap [] 0 0 Q (F0 m 29 ls []) := by
    intro ls hl hf
    unfold fX6_canChoose_29 at hf
    refine lv_iconst (v := 1) hx hb dX6_canChoose_29 (by decide) ?_
    refine lv_goto (tgt := 34) hx hb dX6_canChoose_30 (by decide) ?_
    exact b_34 1 ls (lv_sub hl [] rfl) hf
  unfold fX6_canChoose at hf
  refine lv_iload_n hx hb dX6_canChoose_0 rfl (lv_at hl 2 rfl) ?_
  refine lv_if_eq (tgt := 29) hx hb dX6_canChoose_1 (by decide) (fun c1 => ?_) (fun c1 => ?_)
  · rw [if_pos c1] at hf
    exact b_29 ls (lv_sub hl [] rfl) hf
  · rw [if_neg c1] at hf
    refine lv_aload_n hx hb dX6_canChoose_4 rfl (lv_at hl 0 rfl) ?_
    refine va_get (D := G) (ci := 6) (v := .ref (q 17)) (C := RX6) (T := TX6) (N := 15) hx hb hts inlX6 hown hE.1 hP 0 rfl rfl 3 (by decide) (hts _ (bg 1 1 rfl)) (fun _ h9 => h9) rfl dX6_canChoose_5 ?_
    refine lv_aload_n hx hb dX6_canChoose_8 rfl (lv_at hl 0 rfl) ?_
    refine va_get (D := G) (ci := 6) (v := .ref (q 3)) (C := RX6) (T := TX6) (N := 15) hx hb hts inlX6 hown hE.1 hP 0 rfl rfl 1 (by decide) (hts _ (bg 0 20 rfl)) (fun _ h9 => h9) rfl dX6_canChoose_9 ?_
    refine lv_iload_n hx hb dX6_canChoose_12 rfl (lv_at hl 2 rfl) ?_
    refine lv_iconst (v := 1) hx hb dX6_canChoose_13 (by decide) ?_
    refine lv_isub hx hb dX6_canChoose_14 ?_
    refine lv_aload_n hx hb dX6_canChoose_15 rfl (lv_at hl 0 rfl) ?_
    refine va_get (D := G) (ci := 6) (v := .ref (q 3)) (C := RX6) (T := TX6) (N := 15) hx hb hts inlX6 hown hE.1 hP 0 rfl rfl 1 (by decide) (hts _ (bg 0 20 rfl)) (fun _ h9 => h9) rfl dX6_canChoose_16 ?_
    refine lv_iload_n hx hb dX6_canChoose_19 rfl (lv_at hl 1 rfl) ?_
    obtain ⟨z2, hz2, hf⟩ := bnd hf
    refine x_rdV (C := RX5) (n := 1) (ci := 5) hx hb hml hown hts hE (ct_X5_seatOf N l G cI cZ cO (sh q 3) tI tA x1 z2 hz2) (bg 23 22 rfl) mb_X5_seatOf.1 mb_X5_seatOf.2.1 mb_X5_seatOf.2.2.1 mb_X5_seatOf.2.2.2 hd_X5_seatOf rfl (by decide) (x_cut hP [3, 4, 5, 6, 7, 8, 9] rfl) rfl rfl rfl rfl hl.1 (Nat.le_of_ble_eq_true rfl) ⟨Nat.zero_le _, Nat.zero_le _⟩ dX6_canChoose_20 ?_
    obtain ⟨z3, hz3, hf⟩ := bnd hf
    refine x_rdV (C := RX4) (n := 3) (ci := 4) hx hb hml hown hts hE (ct_X4_canBeSaid N l G cI cZ cO (sh q 17) wI wA (sh q 3) tI tA (x2 - 1) z2 z3 hz3) (bg 17 16 rfl) mb_X4_canBeSaid.1 mb_X4_canBeSaid.2.1 mb_X4_canBeSaid.2.2.1 mb_X4_canBeSaid.2.2.2 hd_X4_canBeSaid rfl (by decide) (x_cut hP [17, 18, 19, 20, 3, 4, 5, 6, 7, 8, 9] rfl) rfl rfl rfl rfl hl.1 (Nat.le_of_ble_eq_true rfl) ⟨Nat.zero_le _, Nat.zero_le _⟩ dX6_canChoose_23 ?_
    refine lv_if_eq (tgt := 33) hx hb dX6_canChoose_26 (by decide) (fun c4 => ?_) (fun c4 => ?_)
    · rw [if_pos c4] at hf
      refine lv_iconst (v := 0) hx hb dX6_canChoose_33 (by decide) ?_
      exact b_34 0 ls (lv_sub hl [] rfl) hf
    · rw [if_neg c4] at hf
      exact b_29 ls (lv_sub hl [] rfl) hf
