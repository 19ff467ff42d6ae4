def fX6_plan_128 (N : Nat) (A : Nat → Nat → Int32) (tI : Nat → Int32) (tA : Nat → Nat → Int32) (wI : Nat → Int32) (wA : Nat → Nat → Int32) (bI : Nat → Int32) (y0 : Int32) : Option (Int32 × (Nat → Nat → Int32) × (Nat → Int32)) := some (y0, A, bI)
def fX6_plan_74 (N : Nat) (k_29 : (Nat → Nat → Int32) → (Nat → Int32) → (Nat → Nat → Int32) → (Nat → Int32) → (Nat → Nat → Int32) → (Nat → Int32) → Int32 → Int32 → Int32 → Int32 → Option (Int32 × (Nat → Nat → Int32) × (Nat → Int32))) (A : Nat → Nat → Int32) (tI : Nat → Int32) (tA : Nat → Nat → Int32) (wI : Nat → Int32) (wA : Nat → Nat → Int32) (bI : Nat → Int32) (u1 : Int32) (u2 : Int32) (u3 : Int32) (u4 : Int32) (y1 : Int32) (y2 : Int32) : Option (Int32 × (Nat → Nat → Int32) × (Nat → Int32)) := (wr 30 (A 1) y1 y2).bind fun g1 => k_29 (va_up A 1 g1) tI tA wI wA bI u1 u2 u3 (u4 + 1)
def fX6_plan_29s (N : Nat) (k_29 : (Nat → Nat → Int32) → (Nat → Int32) → (Nat → Nat → Int32) → (Nat → Int32) → (Nat → Nat → Int32) → (Nat → Int32) → Int32 → Int32 → Int32 → Int32 → Option (Int32 × (Nat → Nat → Int32) × (Nat → Int32))) (A : Nat → Nat → Int32) (tI : Nat → Int32) (tA : Nat → Nat → Int32) (wI : Nat → Int32) (wA : Nat → Nat → Int32) (bI : Nat → Int32) (u1 : Int32) (u2 : Int32) (u3 : Int32) (u4 : Int32) : Option (Int32 × (Nat → Nat → Int32) × (Nat → Int32)) := if 30 ≤ u4 then (fX1_start N bI 0 1).bind fun z2 => (fX6_offerOneThing N A tI tA wI wA z2).bind fun z3 => (fX6_offerTwoThings N A tI tA wI wA z3 u1 u2).bind fun z4 => if u3 = 0 then (fX6_purseIn N tI tA wI wA u1 u2).bind fun z6 => fX6_plan_128 N A tI tA wI wA z4 (z6 + (z4 0)) else fX6_plan_128 N A tI tA wI wA z4 (z4 1) else (fX6_canSayThing N tI tA wI wA u4).bind fun z7 => if z7 = 0 then fX6_plan_74 N k_29 A tI tA wI wA bI u1 u2 u3 u4 u4 0 else (fX6_thingBit N u4).bind fun z9 => (fX6_gainOf N tI tA wI wA u1 (u4 / 6) z9 u2).bind fun z10 => fX6_plan_74 N k_29 A tI tA wI wA bI u1 u2 u3 u4 u4 z10
def fX6_plan_29 (N : Nat) : Nat → (Nat → Nat → Int32) → (Nat → Int32) → (Nat → Nat → Int32) → (Nat → Int32) → (Nat → Nat → Int32) → (Nat → Int32) → Int32 → Int32 → Int32 → Int32 → Option (Int32 × (Nat → Nat → Int32) × (Nat → Int32))
  | 0 => fun _ _ _ _ _ _ _ _ _ _ => none
  | n + 1 => fX6_plan_29s N (fX6_plan_29 N n)
def fX6_plan (N : Nat) (A : Nat → Nat → Int32) (tI : Nat → Int32) (tA : Nat → Nat → Int32) (wI : Nat → Int32) (wA : Nat → Nat → Int32) (bI : Nat → Int32) (x1 : Int32) (x2 : Int32) (x3 : Int32) : Option (Int32 × (Nat → Nat → Int32) × (Nat → Int32)) := (fX5_hasPerson N tI x1).bind fun z1 => if z1 = 0 then some ((-1), A, bI) else (fX6_isOutside N x2 0 8).bind fun z3 => if z3 = 0 then fX6_plan_29 N N A tI tA wI wA bI x1 x2 x3 0 else some ((-2), A, bI)
def rmX6_plan : Room := { frames := 6, cells := 0, slots := 0, locals := 164 }
theorem mb_X6_plan : Cond.instanceMethod yX6_plan ∈ wsL_law ∧ Cond.selects RX6 yX6_plan yX6_plan ∈ wsL_law ∧ Cond.initialized RX6 ∈ wsL_law ∧ Cond.code yX6_plan cX6_plan 5 (some .int) ∈ wsL_law := ⟨(bg 25 13 rfl), (bg 25 14 rfl), (bg 0 2 rfl), (bg 25 15 rfl)⟩
theorem hd_X6_plan : yX6_plan.cls = RX6 ∧ yX6_plan.cls ≠ "java/lang/invoke/MethodHandle" ∧ yX6_plan.cls ≠ "java/lang/invoke/VarHandle" ∧ (parseMethodDescriptor yX6_plan.desc).map (fun d => d.parameters.length) = some 3 := by decide +kernel
set_option maxRecDepth 100000 in
set_option maxHeartbeats 4000000 in
theorem ct_X6_plan (N : Nat) (l : Launch) (G : va_G) (cI cZ cO : ClassId) (q : Nat → Nat) (A : Nat → Nat → Int32) (L : Int64) (rI : Nat → Int32) (rA : Nat → Nat → Int32) (tI : Nat → Int32) (tA : Nat → Nat → Int32) (dI : Nat → Int32) (dA : Nat → Nat → Int32) (wI : Nat → Int32) (wA : Nat → Nat → Int32) (uI : Nat → Int32) (uA : Nat → Nat → Int32) (aI : Nat → Int32) (aS : Nat → Nat → Int32) (aT : Nat → Nat → Nat → Int32) (eI : Nat → Int32) (eA : Nat → Nat → Int32) (sS : Nat → Nat → Int32) (sT : Nat → Nat → Nat → Int32) (bI : Nat → Int32) (x1 : Int32) (x2 : Int32) (x3 : Int32) (r : Int32) (Az : Nat → Nat → Int32) (bIz : Nat → Int32) (hf : fX6_plan N A tI tA wI wA bI x1 x2 x3 = some (r, Az, bIz)) : CtI l yX6_plan cX6_plan 5 .int rmX6_plan G cI cZ cO [.ref (q 0), .int x1, .int x2, .int x3] (wX6 q cI cZ cO A L rI rA tI tA dI dA wI wA uI uA aI aS aT eI eA sS sT bI) (wX6 q cI cZ cO Az L rI rA tI tA dI dA wI wA uI uA aI aS aT eI eA sS sT bIz) r := by
  refine mkCI (by decide) (Nat.le_of_ble_eq_true rfl) ?_
  intro p e s m below meth cd Q Z hC hP hE hD hA fin ls hl
  obtain ⟨hx, hb, hml, hown, hts⟩ := hC
  have hown : s.vm.findClass RX6 = some m.cls := hown
  have hl : lv_has ls 5 [(0, .ref (q 0)), (1, .int x1), (2, .int x2), (3, .int x3)] := hl
  have b_128 : ∀ (A : Nat → Nat → Int32) (bI : Nat → Int32) (y0 : Int32), ∀ (H : Heap) (locs : List Loc), va_P G vwCl (wX6 q cI cZ cO A L rI rA tI tA dI dA wI wA uI uA aI aS aT eI eA sS sT bI) H → va_D Z (wX6 q cI cZ cO A L rI rA tI tA dI dA wI wA uI uA aI aS aT eI eA sS sT bI) → va_S Z s.heap H locs → ∀ ls : Array Slot, lv_has ls 5 [] → fX6_plan_128 N A tI tA wI wA bI y0 = some (r, Az, bIz) → W p l e rmX6_plan s m [.ref (q 0), .int x1, .int x2, .int x3].toArray below meth cd H locs 0 0 Q (F0 m 128 ls [.int y0]) := by
    intro A bI y0 H locs hP hD hS ls hl hf
    unfold fX6_plan_128 at hf
    have e9 := Option.some.inj hf
    exact fin H locs 128 ls _ (Prod.mk.inj e9).1 (nar_i _) (by rw [← (Prod.mk.inj (Prod.mk.inj e9).2).1, ← (Prod.mk.inj (Prod.mk.inj e9).2).2]; exact hP) hS dX6_plan_128
  have b_74 : ∀ (k_29 : (Nat → Nat → Int32) → (Nat → Int32) → (Nat → Nat → Int32) → (Nat → Int32) → (Nat → Nat → Int32) → (Nat → Int32) → Int32 → Int32 → Int32 → Int32 → Option (Int32 × (Nat → Nat → Int32) × (Nat → Int32))) (hk_29 : ∀ (A : Nat → Nat → Int32) (bI : Nat → Int32) (u1 : Int32) (u2 : Int32) (u3 : Int32) (u4 : Int32), ∀ (H : Heap) (locs : List Loc), va_P G vwCl (wX6 q cI cZ cO A L rI rA tI tA dI dA wI wA uI uA aI aS aT eI eA sS sT bI) H → va_D Z (wX6 q cI cZ cO A L rI rA tI tA dI dA wI wA uI uA aI aS aT eI eA sS sT bI) → va_S Z s.heap H locs → ∀ ls : Array Slot, lv_has ls 5 [(0, .ref (q 0)), (1, .int u1), (2, .int u2), (3, .int u3), (4, .int u4)] → k_29 A tI tA wI wA bI u1 u2 u3 u4 = some (r, Az, bIz) → W p l e rmX6_plan s m [.ref (q 0), .int x1, .int x2, .int x3].toArray below meth cd H locs 0 0 Q (F0 m 29 ls [])), ∀ (A : Nat → Nat → Int32) (bI : Nat → Int32) (u1 : Int32) (u2 : Int32) (u3 : Int32) (u4 : Int32) (y1 : Int32) (y2 : Int32), ∀ (H : Heap) (locs : List Loc), va_P G vwCl (wX6 q cI cZ cO A L rI rA tI tA dI dA wI wA uI uA aI aS aT eI eA sS sT bI) H → va_D Z (wX6 q cI cZ cO A L rI rA tI tA dI dA wI wA uI uA aI aS aT eI eA sS sT bI) → va_S Z s.heap H locs → ∀ ls : Array Slot, lv_has ls 5 [(0, .ref (q 0)), (1, .int u1), (2, .int u2), (3, .int u3), (4, .int u4)] → fX6_plan_74 N k_29 A tI tA wI wA bI u1 u2 u3 u4 y1 y2 = some (r, Az, bIz) → W p l e rmX6_plan s m [.ref (q 0), .int x1, .int x2, .int x3].toArray below meth cd H locs 0 0 Q (F0 m 74 ls [.int y2, .int y1, .ref (q 99)]) := by
    intro k_29 hk_29 A bI u1 u2 u3 u4 y1 y2 H locs hP hD hS ls hl hf
    unfold fX6_plan_74 at hf
    obtain ⟨g1, hg1, hf⟩ := bnd hf
    refine x_iast hx hb hE.1 hP hD hS 99 0 rfl rfl hg1 dX6_plan_74 (fun H locs hP hD hS => ?_)
    have hP : va_P G vwCl (wX6 q cI cZ cO (va_up A 1 g1) L rI rA tI tA dI dA wI wA uI uA aI aS aT eI eA sS sT bI) H := hP
    have hD : va_D Z (wX6 q cI cZ cO (va_up A 1 g1) L rI rA tI tA dI dA wI wA uI uA aI aS aT eI eA sS sT bI) := hD
    refine lv_iinc (v := u4 + 1) (lv' := [(4, .int (u4 + 1)), (0, .ref (q 0)), (1, .int u1), (2, .int u2), (3, .int u3)]) hx hb dX6_plan_75 hl (k := 4) rfl rfl (by decide) rfl (fun ls hl => ?_)
    refine lv_goto (tgt := 29) hx hb dX6_plan_78 (by decide) ?_
    exact hk_29 (va_up A 1 g1) bI u1 u2 u3 (u4 + 1) H locs hP hD hS ls (lv_sub hl [1, 2, 3, 4, 0] rfl) hf
  have b_29 : ∀ n : Nat, ∀ (A : Nat → Nat → Int32) (bI : Nat → Int32) (u1 : Int32) (u2 : Int32) (u3 : Int32) (u4 : Int32), ∀ (H : Heap) (locs : List Loc), va_P G vwCl (wX6 q cI cZ cO A L rI rA tI tA dI dA wI wA uI uA aI aS aT eI eA sS sT bI) H → va_D Z (wX6 q cI cZ cO A L rI rA tI tA dI dA wI wA uI uA aI aS aT eI eA sS sT bI) → va_S Z s.heap H locs → ∀ ls : Array Slot, lv_has ls 5 [(0, .ref (q 0)), (1, .int u1), (2, .int u2), (3, .int u3), (4, .int u4)] → fX6_plan_29 N n A tI tA wI wA bI u1 u2 u3 u4 = some (r, Az, bIz) → W p l e rmX6_plan s m [.ref (q 0), .int x1, .int x2, .int x3].toArray below meth cd H locs 0 0 Q (F0 m 29 ls []) := by
    intro n
    induction n with
    | zero =>
      intro A bI u1 u2 u3 u4 H locs hP hD hS ls hl hf
      cases hf
    | succ n hk_29 =>
      intro A bI u1 u2 u3 u4 H locs hP hD hS ls hl hf
      replace hf : fX6_plan_29s N (fX6_plan_29 N n) A tI tA wI wA bI u1 u2 u3 u4 = some (r, Az, bIz) := hf
      generalize fX6_plan_29 N n = k_29 at hf hk_29
      unfold fX6_plan_29s at hf
      refine lv_iload hx hb dX6_plan_29 (lv_at hl 4 rfl) ?_
      refine lv_aload_n hx hb dX6_plan_31 rfl (lv_at hl 0 rfl) ?_
      refine va_get (D := G) (ci := 6) (v := .ref (q 99)) (C := RX6) (T := TX6) (N := 15) hx hb hts inlX6 hown hE.1 hP 0 rfl rfl 10 (by decide) (hts _ (bg 1 19 rfl)) (fun _ h9 => h9) rfl dX6_plan_32 ?_
      refine va_alen (v := 30) hx hb hE.1 hP 99 0 rfl rfl rfl dX6_plan_35 ?_
      refine lv_icmp_ge (tgt := 81) hx hb dX6_plan_36 (by decide) (fun c1 => ?_) (fun c1 => ?_)
      · rw [if_pos c1] at hf
        refine lv_aload_n hx hb dX6_plan_81 rfl (lv_at hl 0 rfl) ?_
        refine va_get (D := G) (ci := 6) (v := .ref (q 98)) (C := RX6) (T := TX6) (N := 15) hx hb hts inlX6 hown hE.1 hP 0 rfl rfl 9 (by decide) (hts _ (bg 1 17 rfl)) (fun _ h9 => h9) rfl dX6_plan_82 ?_
        refine lv_iconst (v := 0) hx hb dX6_plan_85 (by decide) ?_
        refine lv_iconst (v := 1) hx hb dX6_plan_86 (by decide) ?_
        obtain ⟨z2, hz2, hf⟩ := bnd hf
        refine x_wrVv (C := RX1) (n := 2) (ci := 1) (ws1 := (wX6 q cI cZ cO A L rI rA tI tA dI dA wI wA uI uA aI aS aT eI eA sS sT z2)) hx hb hml hown hts hE (ct_X1_start N l G cI cZ cO (sh q 98) bI 0 1 z2 hz2) (bg 24 13 rfl) mb_X1_start.1 mb_X1_start.2.1 mb_X1_start.2.2.1 mb_X1_start.2.2.2 hd_X1_start rfl (by decide) hP hD hS hA [98] [false, false, false, false, false, false, false, false, false, false, false, false, false, false, false, false, false, false, false, false, false, false, false, false, false, false, false, false, false, false, false, false, false, false, false, false, false, false, false, false, false, false, false, false, false, false, false, false, false, false, false, false, false, false, false, false, false, false, false, false, false, false, false, false, false, false, false, false, false, false, false, false, false, false, false, false, false, false, false, false, false, false, false, false, false, false, false, false, false, false, false, false, false, false, false, false, false, false, true, false, false, false, false] (by decide) (by decide +kernel) rfl rfl ⟨rfl, rfl, rfl, rfl, rfl, rfl, rfl, rfl, rfl, rfl, rfl, rfl, rfl, rfl, rfl, rfl, rfl, rfl, rfl, rfl, rfl, rfl, rfl, rfl, rfl, rfl, rfl, rfl, rfl, rfl, rfl, rfl, rfl, rfl, rfl, rfl, rfl, rfl, rfl, rfl, rfl, rfl, rfl, rfl, rfl, rfl, rfl, rfl, rfl, rfl, rfl, rfl, rfl, rfl, rfl, rfl, rfl, rfl, rfl, rfl, rfl, rfl, rfl, rfl, rfl, rfl, rfl, rfl, rfl, rfl, rfl, rfl, rfl, rfl, rfl, rfl, rfl, rfl, rfl, rfl, rfl, rfl, rfl, rfl, rfl, rfl, rfl, rfl, rfl, rfl, rfl, rfl, rfl, rfl, rfl, rfl, rfl, rfl, rfl, rfl, rfl, rfl, rfl, trivial⟩ rfl rfl rfl rfl hl.1 (Nat.le_of_ble_eq_true rfl) ⟨Nat.zero_le _, Nat.zero_le _⟩ dX6_plan_87 (fun H locs hP hD hS => ?_)
        refine lv_aload_n hx hb dX6_plan_90 rfl (lv_at hl 0 rfl) ?_
        obtain ⟨z3, hz3, hf⟩ := bnd hf
        refine x_wwVv (C := RX6) (n := 0) (ci := 6) hx hb hml hown hts hE (ct_X6_offerOneThing N l G cI cZ cO q A L rI rA tI tA dI dA wI wA uI uA aI aS aT eI eA sS sT z2 z3 hz3) (bg 26 4 rfl) mb_X6_offerOneThing.1 mb_X6_offerOneThing.2.1 mb_X6_offerOneThing.2.2.1 mb_X6_offerOneThing.2.2.2 hd_X6_offerOneThing rfl (by decide) hP hD hS hA rfl rfl rfl rfl rfl hl.1 (Nat.le_of_ble_eq_true rfl) ⟨Nat.zero_le _, Nat.zero_le _⟩ dX6_plan_91 (fun H locs hP hD hS => ?_)
        have hP : va_P G vwCl (wX6 q cI cZ cO A L rI rA tI tA dI dA wI wA uI uA aI aS aT eI eA sS sT z3) H := hP
        have hD : va_D Z (wX6 q cI cZ cO A L rI rA tI tA dI dA wI wA uI uA aI aS aT eI eA sS sT z3) := hD
        refine lv_aload_n hx hb dX6_plan_94 rfl (lv_at hl 0 rfl) ?_
        refine lv_iload_n hx hb dX6_plan_95 rfl (lv_at hl 1 rfl) ?_
        refine lv_iload_n hx hb dX6_plan_96 rfl (lv_at hl 2 rfl) ?_
        obtain ⟨z4, hz4, hf⟩ := bnd hf
        refine x_wwVv (C := RX6) (n := 2) (ci := 6) hx hb hml hown hts hE (ct_X6_offerTwoThings N l G cI cZ cO q A L rI rA tI tA dI dA wI wA uI uA aI aS aT eI eA sS sT z3 u1 u2 z4 hz4) (bg 26 12 rfl) mb_X6_offerTwoThings.1 mb_X6_offerTwoThings.2.1 mb_X6_offerTwoThings.2.2.1 mb_X6_offerTwoThings.2.2.2 hd_X6_offerTwoThings rfl (by decide) hP hD hS hA rfl rfl rfl rfl rfl hl.1 (Nat.le_of_ble_eq_true rfl) ⟨Nat.zero_le _, Nat.zero_le _⟩ dX6_plan_97 (fun H locs hP hD hS => ?_)
        have hP : va_P G vwCl (wX6 q cI cZ cO A L rI rA tI tA dI dA wI wA uI uA aI aS aT eI eA sS sT z4) H := hP
        have hD : va_D Z (wX6 q cI cZ cO A L rI rA tI tA dI dA wI wA uI uA aI aS aT eI eA sS sT z4) := hD
        refine lv_iload_n hx hb dX6_plan_100 rfl (lv_at hl 3 rfl) ?_
        refine lv_if_eq (tgt := 114) hx hb dX6_plan_101 (by decide) (fun c5 => ?_) (fun c5 => ?_)
        · rw [if_pos c5] at hf
          refine lv_aload_n hx hb dX6_plan_114 rfl (lv_at hl 0 rfl) ?_
          refine lv_iload_n hx hb dX6_plan_115 rfl (lv_at hl 1 rfl) ?_
          refine lv_iload_n hx hb dX6_plan_116 rfl (lv_at hl 2 rfl) ?_
          obtain ⟨z6, hz6, hf⟩ := bnd hf
          refine x_rdV (C := RX6) (n := 2) (ci := 6) hx hb hml hown hts hE (ct_X6_purseIn N l G cI cZ cO q A L rI rA tI tA dI dA wI wA uI uA aI aS aT eI eA sS sT z4 u1 u2 z6 hz6) (bg 23 14 rfl) mb_X6_purseIn.1 mb_X6_purseIn.2.1 mb_X6_purseIn.2.2.1 mb_X6_purseIn.2.2.2 hd_X6_purseIn rfl (by decide) hP rfl rfl rfl rfl hl.1 (Nat.le_of_ble_eq_true rfl) ⟨Nat.zero_le _, Nat.zero_le _⟩ dX6_plan_117 ?_
          refine lv_aload_n hx hb dX6_plan_120 rfl (lv_at hl 0 rfl) ?_
          refine va_get (D := G) (ci := 6) (v := .ref (q 98)) (C := RX6) (T := TX6) (N := 15) hx hb hts inlX6 hown hE.1 hP 0 rfl rfl 9 (by decide) (hts _ (bg 1 17 rfl)) (fun _ h9 => h9) rfl dX6_plan_121 ?_
          refine va_get (D := G) (ci := 1) (v := .int ((z4 0))) (C := RX1) (T := TX1) (N := 2) hx hb hts inlX1 hown hE.1 hP 98 rfl rfl 0 (by decide) (hts _ (bg 25 16 rfl)) (fun _ h9 => h9) rfl dX6_plan_124 ?_
          refine lv_iadd hx hb dX6_plan_127 ?_
          exact b_128 A z4 (z6 + (z4 0)) H locs hP hD hS ls (lv_sub hl [] rfl) hf
        · rw [if_neg c5] at hf
          refine lv_aload_n hx hb dX6_plan_104 rfl (lv_at hl 0 rfl) ?_
          refine va_get (D := G) (ci := 6) (v := .ref (q 98)) (C := RX6) (T := TX6) (N := 15) hx hb hts inlX6 hown hE.1 hP 0 rfl rfl 9 (by decide) (hts _ (bg 1 17 rfl)) (fun _ h9 => h9) rfl dX6_plan_105 ?_
          refine va_get (D := G) (ci := 1) (v := .int ((z4 1))) (C := RX1) (T := TX1) (N := 2) hx hb hts inlX1 hown hE.1 hP 98 rfl rfl 1 (by decide) (hts _ (bg 24 12 rfl)) (fun _ h9 => h9) rfl dX6_plan_108 ?_
          refine lv_goto (tgt := 128) hx hb dX6_plan_111 (by decide) ?_
          exact b_128 A z4 (z4 1) H locs hP hD hS ls (lv_sub hl [] rfl) hf
      · rw [if_neg c1] at hf
        refine lv_aload_n hx hb dX6_plan_39 rfl (lv_at hl 0 rfl) ?_
        refine va_get (D := G) (ci := 6) (v := .ref (q 99)) (C := RX6) (T := TX6) (N := 15) hx hb hts inlX6 hown hE.1 hP 0 rfl rfl 10 (by decide) (hts _ (bg 1 19 rfl)) (fun _ h9 => h9) rfl dX6_plan_40 ?_
        refine lv_iload hx hb dX6_plan_43 (lv_at hl 4 rfl) ?_
        refine lv_aload_n hx hb dX6_plan_45 rfl (lv_at hl 0 rfl) ?_
        refine lv_iload hx hb dX6_plan_46 (lv_at hl 4 rfl) ?_
        obtain ⟨z7, hz7, hf⟩ := bnd hf
        refine x_rdV (C := RX6) (n := 1) (ci := 6) hx hb hml hown hts hE (ct_X6_canSayThing N l G cI cZ cO q A L rI rA tI tA dI dA wI wA uI uA aI aS aT eI eA sS sT bI u4 z7 hz7) (bg 25 17 rfl) mb_X6_canSayThing.1 mb_X6_canSayThing.2.1 mb_X6_canSayThing.2.2.1 mb_X6_canSayThing.2.2.2 hd_X6_canSayThing rfl (by decide) hP rfl rfl rfl rfl hl.1 (Nat.le_of_ble_eq_true rfl) ⟨Nat.zero_le _, Nat.zero_le _⟩ dX6_plan_48 ?_
        refine lv_if_eq (tgt := 73) hx hb dX6_plan_51 (by decide) (fun c8 => ?_) (fun c8 => ?_)
        · rw [if_pos c8] at hf
          refine lv_iconst (v := 0) hx hb dX6_plan_73 (by decide) ?_
          exact b_74 k_29 hk_29 A bI u1 u2 u3 u4 u4 0 H locs hP hD hS ls (lv_sub hl [0, 1, 2, 3, 4] rfl) hf
        · rw [if_neg c8] at hf
          refine lv_aload_n hx hb dX6_plan_54 rfl (lv_at hl 0 rfl) ?_
          refine lv_iload_n hx hb dX6_plan_55 rfl (lv_at hl 1 rfl) ?_
          refine lv_iload hx hb dX6_plan_56 (lv_at hl 4 rfl) ?_
          refine lv_bipush (v := 6) hx hb dX6_plan_58 (by decide) ?_
          refine lv_idiv hx hb dX6_plan_60 (by decide) ?_
          refine lv_iload hx hb dX6_plan_61 (lv_at hl 4 rfl) ?_
          obtain ⟨z9, hz9, hf⟩ := bnd hf
          refine x_rdS (n := 1) hx hb hml hown hts hE (ct_X6_thingBit N l G cI cZ cO u4 z9 hz9) (bg 25 21 rfl) mb_X6_thingBit.1 mb_X6_thingBit.2.1 mb_X6_thingBit.2.2 hd_X6_thingBit rfl (by decide) va_P_nil rfl hl.1 (Nat.le_of_ble_eq_true rfl) ⟨Nat.zero_le _, Nat.zero_le _⟩ dX6_plan_63 ?_
          refine lv_iload_n hx hb dX6_plan_66 rfl (lv_at hl 2 rfl) ?_
          obtain ⟨z10, hz10, hf⟩ := bnd hf
          refine x_rdV (C := RX6) (n := 4) (ci := 6) hx hb hml hown hts hE (ct_X6_gainOf N l G cI cZ cO q A L rI rA tI tA dI dA wI wA uI uA aI aS aT eI eA sS sT bI u1 (u4 / 6) z9 u2 z10 hz10) (bg 26 0 rfl) mb_X6_gainOf.1 mb_X6_gainOf.2.1 mb_X6_gainOf.2.2.1 mb_X6_gainOf.2.2.2 hd_X6_gainOf rfl (by decide) hP rfl rfl rfl rfl hl.1 (Nat.le_of_ble_eq_true rfl) ⟨Nat.zero_le _, Nat.zero_le _⟩ dX6_plan_67 ?_
          refine lv_goto (tgt := 74) hx hb dX6_plan_70 (by decide) ?_
          exact b_74 k_29 hk_29 A bI u1 u2 u3 u4 u4 z10 H locs hP hD hS ls (lv_sub hl [0, 1, 2, 3, 4] rfl) hf
  unfold fX6_plan at hf
  have hS : va_S Z s.heap s.heap [] := va_S.rf
  obtain ⟨H, hH⟩ : ∃ H, H = s.heap := ⟨_, rfl⟩
  obtain ⟨locs, hlocs⟩ : ∃ locs : List Loc, locs = [] := ⟨_, rfl⟩
  rw [← hlocs]
  rw [← hlocs] at hS
  suffices hW : ∀ H : Heap, va_P G vwCl (wX6 q cI cZ cO A L rI rA tI tA dI dA wI wA uI uA aI aS aT eI eA sS sT bI) H → va_S Z s.heap H locs → W p l e rmX6_plan s m [.ref (q 0), .int x1, .int x2, .int x3].toArray below meth cd H locs 0 0 Q (F0 m 0 ls []) from hW s.heap hP hS
  clear hP hS hH H
  intro H hP hS
  refine lv_aload_n hx hb dX6_plan_0 rfl (lv_at hl 0 rfl) ?_
  refine va_get (D := G) (ci := 6) (v := .ref (q 3)) (C := RX6) (T := TX6) (N := 15) hx hb hts inlX6 hown hE.1 hP 0 rfl rfl 1 (by decide) (hts _ (bg 0 20 rfl)) (fun _ h9 => h9) rfl dX6_plan_1 ?_
  refine lv_iload_n hx hb dX6_plan_4 rfl (lv_at hl 1 rfl) ?_
  obtain ⟨z1, hz1, hf⟩ := bnd hf
  refine x_rdV (C := RX5) (n := 1) (ci := 5) hx hb hml hown hts hE (ct_X5_hasPerson N l G cI cZ cO (sh q 3) tI tA x1 z1 hz1) (bg 13 19 rfl) mb_X5_hasPerson.1 mb_X5_hasPerson.2.1 mb_X5_hasPerson.2.2.1 mb_X5_hasPerson.2.2.2 hd_X5_hasPerson rfl (by decide) (x_cut hP [3, 4, 5, 6, 7, 8, 9] rfl) rfl rfl rfl rfl hl.1 (Nat.le_of_ble_eq_true rfl) ⟨Nat.zero_le _, Nat.zero_le _⟩ dX6_plan_5 ?_
  refine lv_if_ne (tgt := 13) hx hb dX6_plan_8 (by decide) (fun c2 => ?_) (fun c2 => ?_)
  · rw [if_neg c2] at hf
    refine lv_iload_n hx hb dX6_plan_13 rfl (lv_at hl 2 rfl) ?_
    refine lv_iconst (v := 0) hx hb dX6_plan_14 (by decide) ?_
    refine lv_bipush (v := 8) hx hb dX6_plan_15 (by decide) ?_
    obtain ⟨z3, hz3, hf⟩ := bnd hf
    refine x_rdS (n := 3) hx hb hml hown hts hE (ct_X6_isOutside N l G cI cZ cO x2 0 8 z3 hz3) (bg 4 17 rfl) mb_X6_isOutside.1 mb_X6_isOutside.2.1 mb_X6_isOutside.2.2 hd_X6_isOutside rfl (by decide) va_P_nil rfl hl.1 (Nat.le_of_ble_eq_true rfl) ⟨Nat.zero_le _, Nat.zero_le _⟩ dX6_plan_17 ?_
    refine lv_if_eq (tgt := 26) hx hb dX6_plan_20 (by decide) (fun c4 => ?_) (fun c4 => ?_)
    · rw [if_pos c4] at hf
      refine lv_iconst (v := 0) hx hb dX6_plan_26 (by decide) ?_
      refine lv_istore (lv' := [(4, .int 0), (0, .ref (q 0)), (1, .int x1), (2, .int x2), (3, .int x3)]) hx hb dX6_plan_27 hl (by decide) rfl (fun ls hl => ?_)
      exact b_29 N A bI x1 x2 x3 0 H locs hP hD hS ls (lv_sub hl [1, 2, 3, 4, 0] rfl) hf
    · rw [if_neg c4] at hf
      refine lv_bipush (v := (-2)) hx hb dX6_plan_23 (by decide) ?_
      have e9 := Option.some.inj hf
      exact fin H locs 25 ls _ (Prod.mk.inj e9).1 (nar_i _) (by rw [← (Prod.mk.inj (Prod.mk.inj e9).2).1, ← (Prod.mk.inj (Prod.mk.inj e9).2).2]; exact hP) hS dX6_plan_25
  · rw [if_pos c2] at hf
    refine lv_iconst (v := (-1)) hx hb dX6_plan_11 (by decide) ?_
    have e9 := Option.some.inj hf
    exact fin H locs 12 ls _ (Prod.mk.inj e9).1 (nar_i _) (by rw [← (Prod.mk.inj (Prod.mk.inj e9).2).1, ← (Prod.mk.inj (Prod.mk.inj e9).2).2]; exact hP) hS dX6_plan_12
def fX4_valueOfSet_44 (N : Nat) (k_6 : (Nat → Int32) → (Nat → Nat → Int32) → (Nat → Int32) → (Nat → Nat → Int32) → Int32 → Int32 → Int32 → Int32 → Option (Int32)) (I : Nat → Int32) (A : Nat → Nat → Int32) (I1 : Nat → Int32) (A1 : Nat → Nat → Int32) (u2 : Int32) (u3 : Int32) (u4 : Int32) (u5 : Int32) : Option (Int32) := k_6 I A I1 A1 u2 u3 u4 (u5 + 1)
def fX4_valueOfSet_6s (N : Nat) (k_6 : (Nat → Int32) → (Nat → Nat → Int32) → (Nat → Int32) → (Nat → Nat → Int32) → Int32 → Int32 → Int32 → Int32 → Option (Int32)) (I : Nat → Int32) (A : Nat → Nat → Int32) (I1 : Nat → Int32) (A1 : Nat → Nat → Int32) (u2 : Int32) (u3 : Int32) (u4 : Int32) (u5 : Int32) : Option (Int32) := if (I1 0) ≤ u5 then some u4 else (fX6_hasBit N u3 u5).bind fun z2 => if z2 = 0 then fX4_valueOfSet_44 N k_6 I A I1 A1 u2 u3 u4 u5 else (fX4_coinsOf N A u2 u5).bind fun z4 => (fX4_valueOf N I A I1 A1 u5).bind fun z5 => fX4_valueOfSet_44 N k_6 I A I1 A1 u2 u3 (u4 + (z4 * z5)) u5
def fX4_valueOfSet_6 (N : Nat) : Nat → (Nat → Int32) → (Nat → Nat → Int32) → (Nat → Int32) → (Nat → Nat → Int32) → Int32 → Int32 → Int32 → Int32 → Option (Int32)
  | 0 => fun _ _ _ _ _ _ _ _ => none
  | n + 1 => fX4_valueOfSet_6s N (fX4_valueOfSet_6 N n)
def fX4_valueOfSet (N : Nat) (I : Nat → Int32) (A : Nat → Nat → Int32) (I1 : Nat → Int32) (A1 : Nat → Nat → Int32) (x2 : Int32) (x3 : Int32) : Option (Int32) := fX4_valueOfSet_6 N N I A I1 A1 x2 x3 0 0
def rmX4_valueOfSet : Room := { frames := 4, cells := 0, slots := 0, locals := 107 }
theorem mb_X4_valueOfSet : Cond.instanceMethod yX4_valueOfSet ∈ wsL_law ∧ Cond.selects RX4 yX4_valueOfSet yX4_valueOfSet ∈ wsL_law ∧ Cond.initialized RX4 ∈ wsL_law ∧ Cond.code yX4_valueOfSet cX4_valueOfSet 6 (some .int) ∈ wsL_law := ⟨(bg 27 9 rfl), (bg 27 10 rfl), (bg 1 0 rfl), (bg 27 11 rfl)⟩
theorem hd_X4_valueOfSet : yX4_valueOfSet.cls = RX4 ∧ yX4_valueOfSet.cls ≠ "java/lang/invoke/MethodHandle" ∧ yX4_valueOfSet.cls ≠ "java/lang/invoke/VarHandle" ∧ (parseMethodDescriptor yX4_valueOfSet.desc).map (fun d => d.parameters.length) = some 3 := by decide +kernel
set_option maxRecDepth 100000 in
set_option maxHeartbeats 4000000 in
theorem ct_X4_valueOfSet (N : Nat) (l : Launch) (G : va_G) (cI cZ cO : ClassId) (q : Nat → Nat) (I : Nat → Int32) (A : Nat → Nat → Int32) (q1 : Nat → Nat) (I1 : Nat → Int32) (A1 : Nat → Nat → Int32) (x2 : Int32) (x3 : Int32) (r : Int32) (hf : fX4_valueOfSet N I A I1 A1 x2 x3 = some r) : RtI l yX4_valueOfSet cX4_valueOfSet 6 .int rmX4_valueOfSet G cI cZ cO [.ref (q 0), .ref (q1 0), .int x2, .int x3] (wX4 q cI cZ cO I A ++ wX5 q1 cI cZ cO I1 A1) r := by
  refine mkRI (by decide) (Nat.le_of_ble_eq_true rfl) ?_
  intro p e s m below meth cd Q hC hP hE fin ls hl
  obtain ⟨hx, hb, hml, hown, hts⟩ := hC
  have hown : s.vm.findClass RX4 = some m.cls := hown
  have hl : lv_has ls 6 [(0, .ref (q 0)), (1, .ref (q1 0)), (2, .int x2), (3, .int x3)] := hl
  have b_44 : ∀ (k_6 : (Nat → Int32) → (Nat → Nat → Int32) → (Nat → Int32) → (Nat → Nat → Int32) → Int32 → Int32 → Int32 → Int32 → Option (Int32)) (hk_6 : ∀ (u2 : Int32) (u3 : Int32) (u4 : Int32) (u5 : Int32), ∀ ls : Array Slot, lv_has ls 6 [(0, .ref (q 0)), (1, .ref (q1 0)), (2, .int u2), (3, .int u3), (4, .int u4), (5, .int u5)] → k_6 I A I1 A1 u2 u3 u4 u5 = some r → W p l e rmX4_valueOfSet s m [.ref (q 0), .ref (q1 0), .int x2, .int x3].toArray below meth cd s.heap [] 0 0 Q (F0 m 6 ls [])), ∀ (u2 : Int32) (u3 : Int32) (u4 : Int32) (u5 : Int32), ∀ ls : Array Slot, lv_has ls 6 [(0, .ref (q 0)), (1, .ref (q1 0)), (2, .int u2), (3, .int u3), (4, .int u4), (5, .int u5)] → fX4_valueOfSet_44 N k_6 I A I1 A1 u2 u3 u4 u5 = some r → W p l e rmX4_valueOfSet s m [.ref (q 0), .ref (q1 0), .int x2, .int x3].toArray below meth cd s.heap [] 0 0 Q (F0 m 44 ls []) := by
    intro k_6 hk_6 u2 u3 u4 u5 ls hl hf
    unfold fX4_valueOfSet_44 at hf
    refine lv_iinc (v := u5 + 1) (lv' := [(5, .int (u5 + 1)), (0, .ref (q 0)), (1, .ref (q1 0)), (2, .int u2), (3, .int u3), (4, .int u4)]) hx hb dX4_valueOfSet_44 hl (k := 5) rfl rfl (by decide) rfl (fun ls hl => ?_)
    refine lv_goto (tgt := 6) hx hb dX4_valueOfSet_47 (by decide) ?_
    exact hk_6 u2 u3 u4 (u5 + 1) ls (lv_sub hl [1, 2, 3, 4, 5, 0] rfl) hf
  have b_6 : ∀ n : Nat, ∀ (u2 : Int32) (u3 : Int32) (u4 : Int32) (u5 : Int32), ∀ ls : Array Slot, lv_has ls 6 [(0, .ref (q 0)), (1, .ref (q1 0)), (2, .int u2), (3, .int u3), (4, .int u4), (5, .int u5)] → fX4_valueOfSet_6 N n I A I1 A1 u2 u3 u4 u5 = some r → W p l e rmX4_valueOfSet s m [.ref (q 0), .ref (q1 0), .int x2, .int x3].toArray below meth cd s.heap [] 0 0 Q (F0 m 6 ls []) := by
    intro n
    induction n with
    | zero =>
      intro u2 u3 u4 u5 ls hl hf
      cases hf
    | succ n hk_6 =>
      intro u2 u3 u4 u5 ls hl hf
      replace hf : fX4_valueOfSet_6s N (fX4_valueOfSet_6 N n) I A I1 A1 u2 u3 u4 u5 = some r := hf
      generalize fX4_valueOfSet_6 N n = k_6 at hf hk_6
      unfold fX4_valueOfSet_6s at hf
      refine lv_iload hx hb dX4_valueOfSet_6 (lv_at hl 5 rfl) ?_
      refine lv_aload_n hx hb dX4_valueOfSet_8 rfl (lv_at hl 1 rfl) ?_
      refine va_get (D := G) (ci := 5) (v := .int ((I1 0))) (C := RX5) (T := TX5) (N := 8) hx hb hts inlX5 hown hE.1 hP 4 rfl rfl 6 (by decide) (hts _ (bg 27 12 rfl)) (fun _ h9 => h9) rfl dX4_valueOfSet_9 ?_
      refine lv_icmp_ge (tgt := 50) hx hb dX4_valueOfSet_12 (by decide) (fun c1 => ?_) (fun c1 => ?_)
      · rw [if_pos c1] at hf
        refine lv_iload hx hb dX4_valueOfSet_50 (lv_at hl 4 rfl) ?_
        have e9 := Option.some.inj hf
        exact fin 52 ls _ e9 (nar_i _) dX4_valueOfSet_52
      · rw [if_neg c1] at hf
        refine lv_iload_n hx hb dX4_valueOfSet_15 rfl (lv_at hl 3 rfl) ?_
        refine lv_iload hx hb dX4_valueOfSet_16 (lv_at hl 5 rfl) ?_
        obtain ⟨z2, hz2, hf⟩ := bnd hf
        refine x_rdN (n := 2) hx hb hml hown hts hE (ct_X6_hasBit N l G cI cZ cO u3 u5 z2 hz2) (List.mem_of_getElem? (i := 14) rfl) mb_X6_hasBit.1 mb_X6_hasBit.2.1 mb_X6_hasBit.2.2 hd_X6_hasBit rfl (by decide) va_P_nil rfl hl.1 (Nat.le_of_ble_eq_true rfl) ⟨Nat.zero_le _, Nat.zero_le _⟩ dX4_valueOfSet_18 ?_
        refine lv_if_eq (tgt := 44) hx hb dX4_valueOfSet_21 (by decide) (fun c3 => ?_) (fun c3 => ?_)
        · rw [if_pos c3] at hf
          exact b_44 k_6 hk_6 u2 u3 u4 u5 ls (lv_sub hl [0, 1, 2, 3, 4, 5] rfl) hf
        · rw [if_neg c3] at hf
          refine lv_iload hx hb dX4_valueOfSet_24 (lv_at hl 4 rfl) ?_
          refine lv_aload_n hx hb dX4_valueOfSet_26 rfl (lv_at hl 0 rfl) ?_
          refine lv_iload_n hx hb dX4_valueOfSet_27 rfl (lv_at hl 2 rfl) ?_
          refine lv_iload hx hb dX4_valueOfSet_28 (lv_at hl 5 rfl) ?_
          obtain ⟨z4, hz4, hf⟩ := bnd hf
          refine x_rdV (C := RX4) (n := 2) (ci := 4) hx hb hml hown hts hE (ct_X4_coinsOf N l G cI cZ cO q I A u2 u5 z4 hz4) (bg 16 11 rfl) mb_X4_coinsOf.1 mb_X4_coinsOf.2.1 mb_X4_coinsOf.2.2.1 mb_X4_coinsOf.2.2.2 hd_X4_coinsOf rfl (by decide) (x_cut hP [0, 1, 2, 3] rfl) rfl rfl rfl rfl hl.1 (Nat.le_of_ble_eq_true rfl) ⟨Nat.zero_le _, Nat.zero_le _⟩ dX4_valueOfSet_30 ?_
          refine lv_aload_n hx hb dX4_valueOfSet_33 rfl (lv_at hl 0 rfl) ?_
          refine lv_aload_n hx hb dX4_valueOfSet_34 rfl (lv_at hl 1 rfl) ?_
          refine lv_iload hx hb dX4_valueOfSet_35 (lv_at hl 5 rfl) ?_
          obtain ⟨z5, hz5, hf⟩ := bnd hf
          refine x_rdV (C := RX4) (n := 2) (ci := 4) hx hb hml hown hts hE (ct_X4_valueOf N l G cI cZ cO q I A q1 I1 A1 u5 z5 hz5) (bg 20 12 rfl) mb_X4_valueOf.1 mb_X4_valueOf.2.1 mb_X4_valueOf.2.2.1 mb_X4_valueOf.2.2.2 hd_X4_valueOf rfl (by decide) hP rfl rfl rfl rfl hl.1 (Nat.le_of_ble_eq_true rfl) ⟨Nat.zero_le _, Nat.zero_le _⟩ dX4_valueOfSet_37 ?_
          refine lv_imul hx hb dX4_valueOfSet_40 ?_
          refine lv_iadd hx hb dX4_valueOfSet_41 ?_
          refine lv_istore (lv' := [(4, .int (u4 + (z4 * z5))), (0, .ref (q 0)), (1, .ref (q1 0)), (2, .int u2), (3, .int u3), (5, .int u5)]) hx hb dX4_valueOfSet_42 hl (by decide) rfl (fun ls hl => ?_)
          exact b_44 k_6 hk_6 u2 u3 (u4 + (z4 * z5)) u5 ls (lv_sub hl [1, 2, 3, 4, 0, 5] rfl) hf
  unfold fX4_valueOfSet at hf
  refine lv_iconst (v := 0) hx hb dX4_valueOfSet_0 (by decide) ?_
  refine lv_istore (lv' := [(4, .int 0), (0, .ref (q 0)), (1, .ref (q1 0)), (2, .int x2), (3, .int x3)]) hx hb dX4_valueOfSet_1 hl (by decide) rfl (fun ls hl => ?_)
  refine lv_iconst (v := 0) hx hb dX4_valueOfSet_3 (by decide) ?_
  refine lv_istore (lv' := [(5, .int 0), (4, .int 0), (0, .ref (q 0)), (1, .ref (q1 0)), (2, .int x2), (3, .int x3)]) hx hb dX4_valueOfSet_4 hl (by decide) rfl (fun ls hl => ?_)
  exact b_6 N x2 x3 0 0 ls (lv_sub hl [2, 3, 4, 5, 1, 0] rfl) hf
def fX5_isFreeOfRivals_28 (N : Nat) (k_2 : (Nat → Nat → Int32) → Int32 → Int32 → Option (Int32)) (A : Nat → Nat → Int32) (u1 : Int32) (u2 : Int32) : Option (Int32) := k_2 A u1 (u2 + 1)
def fX5_isFreeOfRivals_2s (N : Nat) (k_2 : (Nat → Nat → Int32) → Int32 → Int32 → Option (Int32)) (A : Nat → Nat → Int32) (u1 : Int32) (u2 : Int32) : Option (Int32) := if 5 ≤ u2 then some 1 else (fX6_hasBit N u1 u2).bind fun z2 => if z2 = 0 then fX5_isFreeOfRivals_28 N k_2 A u1 u2 else (rd 5 (A 3) u2).bind fun v4 => if (u1 &&& v4) = 0 then fX5_isFreeOfRivals_28 N k_2 A u1 u2 else some 0
def fX5_isFreeOfRivals_2 (N : Nat) : Nat → (Nat → Nat → Int32) → Int32 → Int32 → Option (Int32)
  | 0 => fun _ _ _ => none
  | n + 1 => fX5_isFreeOfRivals_2s N (fX5_isFreeOfRivals_2 N n)
def fX5_isFreeOfRivals (N : Nat) (A : Nat → Nat → Int32) (x1 : Int32) : Option (Int32) := fX5_isFreeOfRivals_2 N N A x1 0
def rmX5_isFreeOfRivals : Room := { frames := 1, cells := 0, slots := 0, locals := 21 }
theorem mb_X5_isFreeOfRivals : Cond.instanceMethod yX5_isFreeOfRivals ∈ wsL_law ∧ Cond.selects RX5 yX5_isFreeOfRivals yX5_isFreeOfRivals ∈ wsL_law ∧ Cond.initialized RX5 ∈ wsL_law ∧ Cond.code yX5_isFreeOfRivals cX5_isFreeOfRivals 3 (some .boolean) ∈ wsL_law := ⟨(bg 27 14 rfl), (bg 27 15 rfl), (bg 0 19 rfl), (bg 27 16 rfl)⟩
theorem hd_X5_isFreeOfRivals : yX5_isFreeOfRivals.cls = RX5 ∧ yX5_isFreeOfRivals.cls ≠ "java/lang/invoke/MethodHandle" ∧ yX5_isFreeOfRivals.cls ≠ "java/lang/invoke/VarHandle" ∧ (parseMethodDescriptor yX5_isFreeOfRivals.desc).map (fun d => d.parameters.length) = some 1 := by decide +kernel
set_option maxRecDepth 100000 in
set_option maxHeartbeats 4000000 in
theorem ct_X5_isFreeOfRivals (N : Nat) (l : Launch) (G : va_G) (cI cZ cO : ClassId) (q : Nat → Nat) (I : Nat → Int32) (A : Nat → Nat → Int32) (x1 : Int32) (r : Int32) (hf : fX5_isFreeOfRivals N A x1 = some r) : RtI l yX5_isFreeOfRivals cX5_isFreeOfRivals 3 .boolean rmX5_isFreeOfRivals G cI cZ cO [.ref (q 0), .int x1] (wX5 q cI cZ cO I A) r := by
  refine mkRI (by decide) (Nat.le_of_ble_eq_true rfl) ?_
  intro p e s m below meth cd Q hC hP hE fin ls hl
  obtain ⟨hx, hb, hml, hown, hts⟩ := hC
  have hown : s.vm.findClass RX5 = some m.cls := hown
  have hl : lv_has ls 3 [(0, .ref (q 0)), (1, .int x1)] := hl
  have b_28 : ∀ (k_2 : (Nat → Nat → Int32) → Int32 → Int32 → Option (Int32)) (hk_2 : ∀ (u1 : Int32) (u2 : Int32), ∀ ls : Array Slot, lv_has ls 3 [(0, .ref (q 0)), (1, .int u1), (2, .int u2)] → k_2 A u1 u2 = some r → W p l e rmX5_isFreeOfRivals s m [.ref (q 0), .int x1].toArray below meth cd s.heap [] 0 0 Q (F0 m 2 ls [])), ∀ (u1 : Int32) (u2 : Int32), ∀ ls : Array Slot, lv_has ls 3 [(0, .ref (q 0)), (1, .int u1), (2, .int u2)] → fX5_isFreeOfRivals_28 N k_2 A u1 u2 = some r → W p l e rmX5_isFreeOfRivals s m [.ref (q 0), .int x1].toArray below meth cd s.heap [] 0 0 Q (F0 m 28 ls []) := by
    intro k_2 hk_2 u1 u2 ls hl hf
    unfold fX5_isFreeOfRivals_28 at hf
    refine lv_iinc (v := u2 + 1) (lv' := [(2, .int (u2 + 1)), (0, .ref (q 0)), (1, .int u1)]) hx hb dX5_isFreeOfRivals_28 hl (k := 2) rfl rfl (by decide) rfl (fun ls hl => ?_)
    refine lv_goto (tgt := 2) hx hb dX5_isFreeOfRivals_31 (by decide) ?_
    exact hk_2 u1 (u2 + 1) ls (lv_sub hl [1, 2, 0] rfl) hf
  have b_2 : ∀ n : Nat, ∀ (u1 : Int32) (u2 : Int32), ∀ ls : Array Slot, lv_has ls 3 [(0, .ref (q 0)), (1, .int u1), (2, .int u2)] → fX5_isFreeOfRivals_2 N n A u1 u2 = some r → W p l e rmX5_isFreeOfRivals s m [.ref (q 0), .int x1].toArray below meth cd s.heap [] 0 0 Q (F0 m 2 ls []) := by
    intro n
    induction n with
    | zero =>
      intro u1 u2 ls hl hf
      cases hf
    | succ n hk_2 =>
      intro u1 u2 ls hl hf
      replace hf : fX5_isFreeOfRivals_2s N (fX5_isFreeOfRivals_2 N n) A u1 u2 = some r := hf
      generalize fX5_isFreeOfRivals_2 N n = k_2 at hf hk_2
      unfold fX5_isFreeOfRivals_2s at hf
      refine lv_iload_n hx hb dX5_isFreeOfRivals_2 rfl (lv_at hl 2 rfl) ?_
      refine lv_iconst (v := 5) hx hb dX5_isFreeOfRivals_3 (by decide) ?_
      refine lv_icmp_ge (tgt := 34) hx hb dX5_isFreeOfRivals_4 (by decide) (fun c1 => ?_) (fun c1 => ?_)
      · rw [if_pos c1] at hf
        refine lv_iconst (v := 1) hx hb dX5_isFreeOfRivals_34 (by decide) ?_
        have e9 := Option.some.inj hf
        exact fin 35 ls _ e9 (nar_z (Or.inr e9.symm)) dX5_isFreeOfRivals_35
      · rw [if_neg c1] at hf
        refine lv_iload_n hx hb dX5_isFreeOfRivals_7 rfl (lv_at hl 1 rfl) ?_
        refine lv_iload_n hx hb dX5_isFreeOfRivals_8 rfl (lv_at hl 2 rfl) ?_
        obtain ⟨z2, hz2, hf⟩ := bnd hf
        refine x_rdN (n := 2) hx hb hml hown hts hE (ct_X6_hasBit N l G cI cZ cO u1 u2 z2 hz2) (List.mem_of_getElem? (i := 17) rfl) mb_X6_hasBit.1 mb_X6_hasBit.2.1 mb_X6_hasBit.2.2 hd_X6_hasBit rfl (by decide) va_P_nil rfl hl.1 (Nat.le_of_ble_eq_true rfl) ⟨Nat.zero_le _, Nat.zero_le _⟩ dX5_isFreeOfRivals_9 ?_
        refine lv_if_eq (tgt := 28) hx hb dX5_isFreeOfRivals_12 (by decide) (fun c3 => ?_) (fun c3 => ?_)
        · rw [if_pos c3] at hf
          exact b_28 k_2 hk_2 u1 u2 ls (lv_sub hl [0, 1, 2] rfl) hf
        · rw [if_neg c3] at hf
          refine lv_iload_n hx hb dX5_isFreeOfRivals_15 rfl (lv_at hl 1 rfl) ?_
          refine lv_aload_n hx hb dX5_isFreeOfRivals_16 rfl (lv_at hl 0 rfl) ?_
          refine va_get (D := G) (ci := 5) (v := .ref (q 4)) (C := RX5) (T := TX5) (N := 8) hx hb hts inlX5 hown hE.1 hP 0 rfl rfl 3 (by decide) (hts _ (bg 2 9 rfl)) (fun _ h9 => h9) rfl dX5_isFreeOfRivals_17 ?_
          refine lv_iload_n hx hb dX5_isFreeOfRivals_20 rfl (lv_at hl 2 rfl) ?_
          obtain ⟨v4, hv4, hf⟩ := bnd hf
          refine x_iald hx hb hE.1 hP 4 0 rfl rfl hv4 dX5_isFreeOfRivals_21 ?_
          refine lv_iand hx hb dX5_isFreeOfRivals_22 ?_
          refine lv_if_eq (tgt := 28) hx hb dX5_isFreeOfRivals_23 (by decide) (fun c5 => ?_) (fun c5 => ?_)
          · rw [if_pos c5] at hf
            exact b_28 k_2 hk_2 u1 u2 ls (lv_sub hl [0, 1, 2] rfl) hf
          · rw [if_neg c5] at hf
            refine lv_iconst (v := 0) hx hb dX5_isFreeOfRivals_26 (by decide) ?_
            have e9 := Option.some.inj hf
            exact fin 27 ls _ e9 (nar_z (Or.inl e9.symm)) dX5_isFreeOfRivals_27
  unfold fX5_isFreeOfRivals at hf
  refine lv_iconst (v := 0) hx hb dX5_isFreeOfRivals_0 (by decide) ?_
  refine lv_istore_n (lv' := [(2, .int 0), (0, .ref (q 0)), (1, .int x1)]) hx hb dX5_isFreeOfRivals_1 rfl hl (by decide) rfl (fun ls hl => ?_)
  exact b_2 N x1 0 ls (lv_sub hl [1, 2, 0] rfl) hf
