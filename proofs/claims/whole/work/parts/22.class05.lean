def fX6_town_52s (N : Nat) (k_52 : (Nat → Nat → Int32) → (Nat → Int32) → (Nat → Nat → Int32) → (Nat → Int32) → (Nat → Nat → Int32) → (Nat → Int32) → (Nat → Nat → Int32) → (Nat → Int32) → (Nat → Nat → Int32) → (Nat → Int32) → Int32 → Option (Int32 × (Nat → Nat → Int32) × (Nat → Int32) × (Nat → Int32) × (Nat → Nat → Int32) × (Nat → Int32) × (Nat → Nat → Int32) × (Nat → Int32) × (Nat → Nat → Int32) × (Nat → Int32))) (A : Nat → Nat → Int32) (rI : Nat → Int32) (rA : Nat → Nat → Int32) (tI : Nat → Int32) (tA : Nat → Nat → Int32) (dI : Nat → Int32) (dA : Nat → Nat → Int32) (wI : Nat → Int32) (wA : Nat → Nat → Int32) (aI : Nat → Int32) (u1 : Int32) : Option (Int32 × (Nat → Nat → Int32) × (Nat → Int32) × (Nat → Int32) × (Nat → Nat → Int32) × (Nat → Int32) × (Nat → Nat → Int32) × (Nat → Int32) × (Nat → Nat → Int32) × (Nat → Int32)) := if 2 ≤ u1 then some ((10 * (tI 0)) + (tI 1), A, rI, tI, tA, dI, dA, wI, wA, aI) else (wrZ 2 (A 0) u1 0).bind fun g2 => k_52 (va_up A 0 g2) rI rA tI tA dI dA wI wA aI (u1 + 1)
def fX6_town_52 (N : Nat) : Nat → (Nat → Nat → Int32) → (Nat → Int32) → (Nat → Nat → Int32) → (Nat → Int32) → (Nat → Nat → Int32) → (Nat → Int32) → (Nat → Nat → Int32) → (Nat → Int32) → (Nat → Nat → Int32) → (Nat → Int32) → Int32 → Option (Int32 × (Nat → Nat → Int32) × (Nat → Int32) × (Nat → Int32) × (Nat → Nat → Int32) × (Nat → Int32) × (Nat → Nat → Int32) × (Nat → Int32) × (Nat → Nat → Int32) × (Nat → Int32))
  | 0 => fun _ _ _ _ _ _ _ _ _ _ _ => none
  | n + 1 => fX6_town_52s N (fX6_town_52 N n)
def fX6_town (N : Nat) (A : Nat → Nat → Int32) (rI : Nat → Int32) (rA : Nat → Nat → Int32) (tI : Nat → Int32) (tA : Nat → Nat → Int32) (dI : Nat → Int32) (dA : Nat → Nat → Int32) (wI : Nat → Int32) (wA : Nat → Nat → Int32) (aI : Nat → Int32) : Option (Int32 × (Nat → Nat → Int32) × (Nat → Int32) × (Nat → Int32) × (Nat → Nat → Int32) × (Nat → Int32) × (Nat → Nat → Int32) × (Nat → Int32) × (Nat → Nat → Int32) × (Nat → Int32)) := (fX3_readInto N rI rA dI dA).bind fun z1 => if z1.1 = (-9) then (fX3_readInto N z1.2.1 rA tI tA).bind fun z3 => (fX4_open N wI wA z3.2.2.1 z3.2.2.2).bind fun z4 => fX6_town_52 N N A z3.2.1 rA z3.2.2.1 z3.2.2.2 z1.2.2.1 z1.2.2.2 z4.1 z4.2 (upd aI 1 0) 0 else some ((-3), A, z1.2.1, tI, tA, z1.2.2.1, z1.2.2.2, wI, wA, aI)
def rmX6_town : Room := { frames := 6, cells := 0, slots := 0, locals := 133 }
theorem mb_X6_town : Cond.instanceMethod yX6_town ∈ wsL_law ∧ Cond.selects RX6 yX6_town yX6_town ∈ wsL_law ∧ Cond.initialized RX6 ∈ wsL_law ∧ Cond.code yX6_town cX6_town 2 (some .int) ∈ wsL_law := ⟨(bg 11 4 rfl), (bg 11 5 rfl), (bg 0 2 rfl), (bg 11 6 rfl)⟩
theorem hd_X6_town : yX6_town.cls = RX6 ∧ yX6_town.cls ≠ "java/lang/invoke/MethodHandle" ∧ yX6_town.cls ≠ "java/lang/invoke/VarHandle" ∧ (parseMethodDescriptor yX6_town.desc).map (fun d => d.parameters.length) = some 0 := by decide +kernel
set_option maxRecDepth 100000 in
set_option maxHeartbeats 4000000 in
theorem ct_X6_town (N : Nat) (l : Launch) (G : va_G) (cI cZ cO : ClassId) (q : Nat → Nat) (A : Nat → Nat → Int32) (L : Int64) (rI : Nat → Int32) (rA : Nat → Nat → Int32) (tI : Nat → Int32) (tA : Nat → Nat → Int32) (dI : Nat → Int32) (dA : Nat → Nat → Int32) (wI : Nat → Int32) (wA : Nat → Nat → Int32) (uI : Nat → Int32) (uA : Nat → Nat → Int32) (aI : Nat → Int32) (aS : Nat → Nat → Int32) (aT : Nat → Nat → Nat → Int32) (eI : Nat → Int32) (eA : Nat → Nat → Int32) (sS : Nat → Nat → Int32) (sT : Nat → Nat → Nat → Int32) (bI : Nat → Int32) (r : Int32) (Az : Nat → Nat → Int32) (rIz : Nat → Int32) (tIz : Nat → Int32) (tAz : Nat → Nat → Int32) (dIz : Nat → Int32) (dAz : Nat → Nat → Int32) (wIz : Nat → Int32) (wAz : Nat → Nat → Int32) (aIz : Nat → Int32) (hf : fX6_town N A rI rA tI tA dI dA wI wA aI = some (r, Az, rIz, tIz, tAz, dIz, dAz, wIz, wAz, aIz)) : CtI l yX6_town cX6_town 2 .int rmX6_town G cI cZ cO [.ref (q 0)] (wX6 q cI cZ cO A L rI rA tI tA dI dA wI wA uI uA aI aS aT eI eA sS sT bI) (wX6 q cI cZ cO Az L rIz rA tIz tAz dIz dAz wIz wAz uI uA aIz aS aT eI eA sS sT bI) r := by
  refine mkCI (by decide) (Nat.le_of_ble_eq_true rfl) ?_
  intro p e s m below meth cd Q Z hC hP hE hD hA fin ls hl
  obtain ⟨hx, hb, hml, hown, hts⟩ := hC
  have hown : s.vm.findClass RX6 = some m.cls := hown
  have hl : lv_has ls 2 [(0, .ref (q 0))] := hl
  have b_52 : ∀ n : Nat, ∀ (A : Nat → Nat → Int32) (rI : Nat → Int32) (tI : Nat → Int32) (tA : Nat → Nat → Int32) (dI : Nat → Int32) (dA : Nat → Nat → Int32) (wI : Nat → Int32) (wA : Nat → Nat → Int32) (aI : Nat → Int32) (u1 : Int32), ∀ (H : Heap) (locs : List Loc), va_P G vwCl (wX6 q cI cZ cO A L rI rA tI tA dI dA wI wA uI uA aI aS aT eI eA sS sT bI) H → va_D Z (wX6 q cI cZ cO A L rI rA tI tA dI dA wI wA uI uA aI aS aT eI eA sS sT bI) → va_S Z s.heap H locs → ∀ ls : Array Slot, lv_has ls 2 [(0, .ref (q 0)), (1, .int u1)] → fX6_town_52 N n A rI rA tI tA dI dA wI wA aI u1 = some (r, Az, rIz, tIz, tAz, dIz, dAz, wIz, wAz, aIz) → W p l e rmX6_town s m [.ref (q 0)].toArray below meth cd H locs 0 0 Q (F0 m 52 ls []) := by
    intro n
    induction n with
    | zero =>
      intro A rI tI tA dI dA wI wA aI u1 H locs hP hD hS ls hl hf
      cases hf
    | succ n hk_52 =>
      intro A rI tI tA dI dA wI wA aI u1 H locs hP hD hS ls hl hf
      replace hf : fX6_town_52s N (fX6_town_52 N n) A rI rA tI tA dI dA wI wA aI u1 = some (r, Az, rIz, tIz, tAz, dIz, dAz, wIz, wAz, aIz) := hf
      generalize fX6_town_52 N n = k_52 at hf hk_52
      unfold fX6_town_52s at hf
      refine lv_iload_n hx hb dX6_town_52 rfl (lv_at hl 1 rfl) ?_
      refine lv_aload_n hx hb dX6_town_53 rfl (lv_at hl 0 rfl) ?_
      refine va_get (D := G) (ci := 6) (v := .ref (q 97)) (C := RX6) (T := TX6) (N := 15) hx hb hts inlX6 hown hE.1 hP 0 rfl rfl 8 (by decide) (hts _ (bg 1 13 rfl)) (fun _ h9 => h9) rfl dX6_town_54 ?_
      refine va_alen (v := 2) hx hb hE.1 hP 97 1 rfl rfl rfl dX6_town_57 ?_
      refine lv_icmp_ge (tgt := 74) hx hb dX6_town_58 (by decide) (fun c1 => ?_) (fun c1 => ?_)
      · rw [if_pos c1] at hf
        refine lv_bipush (v := 10) hx hb dX6_town_74 (by decide) ?_
        refine lv_aload_n hx hb dX6_town_76 rfl (lv_at hl 0 rfl) ?_
        refine va_get (D := G) (ci := 6) (v := .ref (q 3)) (C := RX6) (T := TX6) (N := 15) hx hb hts inlX6 hown hE.1 hP 0 rfl rfl 1 (by decide) (hts _ (bg 0 20 rfl)) (fun _ h9 => h9) rfl dX6_town_77 ?_
        refine va_get (D := G) (ci := 5) (v := .int ((tI 0))) (C := RX5) (T := TX5) (N := 8) hx hb hts inlX5 hown hE.1 hP 3 rfl rfl 6 (by decide) (hts _ (bg 11 8 rfl)) (fun _ h9 => h9) rfl dX6_town_80 ?_
        refine lv_imul hx hb dX6_town_83 ?_
        refine lv_aload_n hx hb dX6_town_84 rfl (lv_at hl 0 rfl) ?_
        refine va_get (D := G) (ci := 6) (v := .ref (q 3)) (C := RX6) (T := TX6) (N := 15) hx hb hts inlX6 hown hE.1 hP 0 rfl rfl 1 (by decide) (hts _ (bg 0 20 rfl)) (fun _ h9 => h9) rfl dX6_town_85 ?_
        refine va_get (D := G) (ci := 5) (v := .int ((tI 1))) (C := RX5) (T := TX5) (N := 8) hx hb hts inlX5 hown hE.1 hP 3 rfl rfl 7 (by decide) (hts _ (bg 11 9 rfl)) (fun _ h9 => h9) rfl dX6_town_88 ?_
        refine lv_iadd hx hb dX6_town_91 ?_
        have e9 := Option.some.inj hf
        exact fin H locs 92 ls _ (Prod.mk.inj e9).1 (nar_i _) (by rw [← (Prod.mk.inj (Prod.mk.inj e9).2).1, ← (Prod.mk.inj (Prod.mk.inj (Prod.mk.inj e9).2).2).1, ← (Prod.mk.inj (Prod.mk.inj (Prod.mk.inj (Prod.mk.inj e9).2).2).2).1, ← (Prod.mk.inj (Prod.mk.inj (Prod.mk.inj (Prod.mk.inj (Prod.mk.inj e9).2).2).2).2).1, ← (Prod.mk.inj (Prod.mk.inj (Prod.mk.inj (Prod.mk.inj (Prod.mk.inj (Prod.mk.inj e9).2).2).2).2).2).1, ← (Prod.mk.inj (Prod.mk.inj (Prod.mk.inj (Prod.mk.inj (Prod.mk.inj (Prod.mk.inj (Prod.mk.inj e9).2).2).2).2).2).2).1, ← (Prod.mk.inj (Prod.mk.inj (Prod.mk.inj (Prod.mk.inj (Prod.mk.inj (Prod.mk.inj (Prod.mk.inj (Prod.mk.inj e9).2).2).2).2).2).2).2).1, ← (Prod.mk.inj (Prod.mk.inj (Prod.mk.inj (Prod.mk.inj (Prod.mk.inj (Prod.mk.inj (Prod.mk.inj (Prod.mk.inj (Prod.mk.inj e9).2).2).2).2).2).2).2).2).1, ← (Prod.mk.inj (Prod.mk.inj (Prod.mk.inj (Prod.mk.inj (Prod.mk.inj (Prod.mk.inj (Prod.mk.inj (Prod.mk.inj (Prod.mk.inj e9).2).2).2).2).2).2).2).2).2]; exact hP) hS dX6_town_92
      · rw [if_neg c1] at hf
        refine lv_aload_n hx hb dX6_town_61 rfl (lv_at hl 0 rfl) ?_
        refine va_get (D := G) (ci := 6) (v := .ref (q 97)) (C := RX6) (T := TX6) (N := 15) hx hb hts inlX6 hown hE.1 hP 0 rfl rfl 8 (by decide) (hts _ (bg 1 13 rfl)) (fun _ h9 => h9) rfl dX6_town_62 ?_
        refine lv_iload_n hx hb dX6_town_65 rfl (lv_at hl 1 rfl) ?_
        refine lv_iconst (v := 0) hx hb dX6_town_66 (by decide) ?_
        obtain ⟨g2, hg2, hf⟩ := bnd hf
        refine x_zast hx hb hE.1 hP hD hS 97 1 rfl rfl hg2 dX6_town_67 (fun H locs hP hD hS => ?_)
        have hP : va_P G vwCl (wX6 q cI cZ cO (va_up A 0 g2) L rI rA tI tA dI dA wI wA uI uA aI aS aT eI eA sS sT bI) H := hP
        have hD : va_D Z (wX6 q cI cZ cO (va_up A 0 g2) L rI rA tI tA dI dA wI wA uI uA aI aS aT eI eA sS sT bI) := hD
        refine lv_iinc (v := u1 + 1) (lv' := [(1, .int (u1 + 1)), (0, .ref (q 0))]) hx hb dX6_town_68 hl (k := 1) rfl rfl (by decide) rfl (fun ls hl => ?_)
        refine lv_goto (tgt := 52) hx hb dX6_town_71 (by decide) ?_
        exact hk_52 (va_up A 0 g2) rI tI tA dI dA wI wA aI (u1 + 1) H locs hP hD hS ls (lv_sub hl [1, 0] rfl) hf
  unfold fX6_town at hf
  have hS : va_S Z s.heap s.heap [] := va_S.rf
  obtain ⟨H, hH⟩ : ∃ H, H = s.heap := ⟨_, rfl⟩
  obtain ⟨locs, hlocs⟩ : ∃ locs : List Loc, locs = [] := ⟨_, rfl⟩
  rw [← hlocs]
  rw [← hlocs] at hS
  suffices hW : ∀ H : Heap, va_P G vwCl (wX6 q cI cZ cO A L rI rA tI tA dI dA wI wA uI uA aI aS aT eI eA sS sT bI) H → va_S Z s.heap H locs → W p l e rmX6_town s m [.ref (q 0)].toArray below meth cd H locs 0 0 Q (F0 m 0 ls []) from hW s.heap hP hS
  clear hP hS hH H
  intro H hP hS
  refine lv_aload_n hx hb dX6_town_0 rfl (lv_at hl 0 rfl) ?_
  refine va_get (D := G) (ci := 6) (v := .ref (q 1)) (C := RX6) (T := TX6) (N := 15) hx hb hts inlX6 hown hE.1 hP 0 rfl rfl 0 (by decide) (hts _ (bg 0 16 rfl)) (fun _ h9 => h9) rfl dX6_town_1 ?_
  refine lv_aload_n hx hb dX6_town_4 rfl (lv_at hl 0 rfl) ?_
  refine va_get (D := G) (ci := 6) (v := .ref (q 10)) (C := RX6) (T := TX6) (N := 15) hx hb hts inlX6 hown hE.1 hP 0 rfl rfl 2 (by decide) (hts _ (bg 0 21 rfl)) (fun _ h9 => h9) rfl dX6_town_5 ?_
  obtain ⟨z1, hz1, hf⟩ := bnd hf
  refine x_wrV (C := RX3) (n := 1) (ci := 3) (ws1 := (wX6 q cI cZ cO A L z1.2.1 rA tI tA z1.2.2.1 z1.2.2.2 wI wA uI uA aI aS aT eI eA sS sT bI)) hx hb hml hown hts hE (ct_X3_readInto N l G cI cZ cO (sh q 1) rI rA (sh q 10) dI dA z1.1 z1.2.1 z1.2.2.1 z1.2.2.2 hz1) (bg 6 1 rfl) mb_X3_readInto.1 mb_X3_readInto.2.1 mb_X3_readInto.2.2.1 mb_X3_readInto.2.2.2 hd_X3_readInto rfl (by decide) hP hD hS hA [1, 2, 10, 11, 12, 13, 14, 15, 16] [false, true, true, false, false, false, false, false, false, false, true, true, true, true, true, true, true, false, false, false, false, false, false, false, false, false, false, false, false, false, false, false, false, false, false, false, false, false, false, false, false, false, false, false, false, false, false, false, false, false, false, false, false, false, false, false, false, false, false, false, false, false, false, false, false, false, false, false, false, false, false, false, false, false, false, false, false, false, false, false, false, false, false, false, false, false, false, false, false, false, false, false, false, false, false, false, false, false, false, false, false, false, false] (by decide) (by decide +kernel) rfl rfl ⟨rfl, rfl, rfl, rfl, rfl, rfl, rfl, rfl, rfl, rfl, rfl, rfl, rfl, rfl, rfl, rfl, rfl, rfl, rfl, rfl, rfl, rfl, rfl, rfl, rfl, rfl, rfl, rfl, rfl, rfl, rfl, rfl, rfl, rfl, rfl, rfl, rfl, rfl, rfl, rfl, rfl, rfl, rfl, rfl, rfl, rfl, rfl, rfl, rfl, rfl, rfl, rfl, rfl, rfl, rfl, rfl, rfl, rfl, rfl, rfl, rfl, rfl, rfl, rfl, rfl, rfl, rfl, rfl, rfl, rfl, rfl, rfl, rfl, rfl, rfl, rfl, rfl, rfl, rfl, rfl, rfl, rfl, rfl, rfl, rfl, rfl, rfl, rfl, rfl, rfl, rfl, rfl, rfl, rfl, rfl, rfl, rfl, rfl, rfl, rfl, rfl, rfl, rfl, trivial⟩ rfl rfl rfl rfl hl.1 (Nat.le_of_ble_eq_true rfl) ⟨Nat.zero_le _, Nat.zero_le _⟩ dX6_town_8 (fun H locs hP hD hS => ?_)
  refine lv_bipush (v := (-9)) hx hb dX6_town_11 (by decide) ?_
  refine lv_icmp_eq (tgt := 19) hx hb dX6_town_13 (by decide) (fun c2 => ?_) (fun c2 => ?_)
  · rw [if_pos c2] at hf
    refine lv_aload_n hx hb dX6_town_19 rfl (lv_at hl 0 rfl) ?_
    refine va_get (D := G) (ci := 6) (v := .ref (q 1)) (C := RX6) (T := TX6) (N := 15) hx hb hts inlX6 hown hE.1 hP 0 rfl rfl 0 (by decide) (hts _ (bg 0 16 rfl)) (fun _ h9 => h9) rfl dX6_town_20 ?_
    refine lv_aload_n hx hb dX6_town_23 rfl (lv_at hl 0 rfl) ?_
    refine va_get (D := G) (ci := 6) (v := .ref (q 3)) (C := RX6) (T := TX6) (N := 15) hx hb hts inlX6 hown hE.1 hP 0 rfl rfl 1 (by decide) (hts _ (bg 0 20 rfl)) (fun _ h9 => h9) rfl dX6_town_24 ?_
    obtain ⟨z3, hz3, hf⟩ := bnd hf
    refine x_wrV (C := RX3) (n := 1) (ci := 3) (ws1 := (wX6 q cI cZ cO A L z3.2.1 rA z3.2.2.1 z3.2.2.2 z1.2.2.1 z1.2.2.2 wI wA uI uA aI aS aT eI eA sS sT bI)) hx hb hml hown hts hE (ct_X3_readInto N l G cI cZ cO (sh q 1) z1.2.1 rA (sh q 3) tI tA z3.1 z3.2.1 z3.2.2.1 z3.2.2.2 hz3) (bg 6 1 rfl) mb_X3_readInto.1 mb_X3_readInto.2.1 mb_X3_readInto.2.2.1 mb_X3_readInto.2.2.2 hd_X3_readInto rfl (by decide) hP hD hS hA [1, 2, 3, 4, 5, 6, 7, 8, 9] [false, true, true, true, true, true, true, true, true, true, false, false, false, false, false, false, false, false, false, false, false, false, false, false, false, false, false, false, false, false, false, false, false, false, false, false, false, false, false, false, false, false, false, false, false, false, false, false, false, false, false, false, false, false, false, false, false, false, false, false, false, false, false, false, false, false, false, false, false, false, false, false, false, false, false, false, false, false, false, false, false, false, false, false, false, false, false, false, false, false, false, false, false, false, false, false, false, false, false, false, false, false, false] (by decide) (by decide +kernel) rfl rfl ⟨rfl, rfl, rfl, rfl, rfl, rfl, rfl, rfl, rfl, rfl, rfl, rfl, rfl, rfl, rfl, rfl, rfl, rfl, rfl, rfl, rfl, rfl, rfl, rfl, rfl, rfl, rfl, rfl, rfl, rfl, rfl, rfl, rfl, rfl, rfl, rfl, rfl, rfl, rfl, rfl, rfl, rfl, rfl, rfl, rfl, rfl, rfl, rfl, rfl, rfl, rfl, rfl, rfl, rfl, rfl, rfl, rfl, rfl, rfl, rfl, rfl, rfl, rfl, rfl, rfl, rfl, rfl, rfl, rfl, rfl, rfl, rfl, rfl, rfl, rfl, rfl, rfl, rfl, rfl, rfl, rfl, rfl, rfl, rfl, rfl, rfl, rfl, rfl, rfl, rfl, rfl, rfl, rfl, rfl, rfl, rfl, rfl, rfl, rfl, rfl, rfl, rfl, rfl, trivial⟩ rfl rfl rfl rfl hl.1 (Nat.le_of_ble_eq_true rfl) ⟨Nat.zero_le _, Nat.zero_le _⟩ dX6_town_27 (fun H locs hP hD hS => ?_)
    refine lv_pop hx hb dX6_town_30 rfl ?_
    refine lv_aload_n hx hb dX6_town_31 rfl (lv_at hl 0 rfl) ?_
    refine va_get (D := G) (ci := 6) (v := .ref (q 17)) (C := RX6) (T := TX6) (N := 15) hx hb hts inlX6 hown hE.1 hP 0 rfl rfl 3 (by decide) (hts _ (bg 1 1 rfl)) (fun _ h9 => h9) rfl dX6_town_32 ?_
    refine lv_aload_n hx hb dX6_town_35 rfl (lv_at hl 0 rfl) ?_
    refine va_get (D := G) (ci := 6) (v := .ref (q 3)) (C := RX6) (T := TX6) (N := 15) hx hb hts inlX6 hown hE.1 hP 0 rfl rfl 1 (by decide) (hts _ (bg 0 20 rfl)) (fun _ h9 => h9) rfl dX6_town_36 ?_
    obtain ⟨z4, hz4, hf⟩ := bnd hf
    refine x_wrVv (C := RX4) (n := 1) (ci := 4) (ws1 := (wX6 q cI cZ cO A L z3.2.1 rA z3.2.2.1 z3.2.2.2 z1.2.2.1 z1.2.2.2 z4.1 z4.2 uI uA aI aS aT eI eA sS sT bI)) hx hb hml hown hts hE (ct_X4_open N l G cI cZ cO (sh q 17) wI wA (sh q 3) z3.2.2.1 z3.2.2.2 z4.1 z4.2 hz4) (bg 11 10 rfl) mb_X4_open.1 mb_X4_open.2.1 mb_X4_open.2.2.1 mb_X4_open.2.2.2 hd_X4_open rfl (by decide) hP hD hS hA [17, 18, 19, 20, 3, 4, 5, 6, 7, 8, 9] [false, false, false, true, true, true, true, true, true, true, false, false, false, false, false, false, false, true, true, true, true, false, false, false, false, false, false, false, false, false, false, false, false, false, false, false, false, false, false, false, false, false, false, false, false, false, false, false, false, false, false, false, false, false, false, false, false, false, false, false, false, false, false, false, false, false, false, false, false, false, false, false, false, false, false, false, false, false, false, false, false, false, false, false, false, false, false, false, false, false, false, false, false, false, false, false, false, false, false, false, false, false, false] (by decide) (by decide +kernel) rfl rfl ⟨rfl, rfl, rfl, rfl, rfl, rfl, rfl, rfl, rfl, rfl, rfl, rfl, rfl, rfl, rfl, rfl, rfl, rfl, rfl, rfl, rfl, rfl, rfl, rfl, rfl, rfl, rfl, rfl, rfl, rfl, rfl, rfl, rfl, rfl, rfl, rfl, rfl, rfl, rfl, rfl, rfl, rfl, rfl, rfl, rfl, rfl, rfl, rfl, rfl, rfl, rfl, rfl, rfl, rfl, rfl, rfl, rfl, rfl, rfl, rfl, rfl, rfl, rfl, rfl, rfl, rfl, rfl, rfl, rfl, rfl, rfl, rfl, rfl, rfl, rfl, rfl, rfl, rfl, rfl, rfl, rfl, rfl, rfl, rfl, rfl, rfl, rfl, rfl, rfl, rfl, rfl, rfl, rfl, rfl, rfl, rfl, rfl, rfl, rfl, rfl, rfl, rfl, rfl, trivial⟩ rfl rfl rfl rfl hl.1 (Nat.le_of_ble_eq_true rfl) ⟨Nat.zero_le _, Nat.zero_le _⟩ dX6_town_39 (fun H locs hP hD hS => ?_)
    refine lv_aload_n hx hb dX6_town_42 rfl (lv_at hl 0 rfl) ?_
    refine va_get (D := G) (ci := 6) (v := .ref (q 25)) (C := RX6) (T := TX6) (N := 15) hx hb hts inlX6 hown hE.1 hP 0 rfl rfl 5 (by decide) (hts _ (bg 1 6 rfl)) (fun _ h9 => h9) rfl dX6_town_43 ?_
    refine lv_iconst (v := 0) hx hb dX6_town_46 (by decide) ?_
    refine va_put (D := G) (ci := 0) (v := .int 0) (ty := .int) (C := RX0) (T := TX0) (N := 3) hx hb hts inlX0 tyX0 tyX0_ok nmX0 hown hE.1 hP hD hS 25 rfl rfl 2 (by decide) (hts _ (bg 11 7 rfl)) (fun _ h9 => h9) rfl (by decide +kernel) rfl rfl (Nat.le_of_ble_eq_true rfl) dX6_town_47 (fun H locs hP hD hS => ?_)
    have hP : va_P G vwCl (wX6 q cI cZ cO A L z3.2.1 rA z3.2.2.1 z3.2.2.2 z1.2.2.1 z1.2.2.2 z4.1 z4.2 uI uA (upd aI 1 0) aS aT eI eA sS sT bI) H := hP
    have hD : va_D Z (wX6 q cI cZ cO A L z3.2.1 rA z3.2.2.1 z3.2.2.2 z1.2.2.1 z1.2.2.2 z4.1 z4.2 uI uA (upd aI 1 0) aS aT eI eA sS sT bI) := hD
    refine lv_iconst (v := 0) hx hb dX6_town_50 (by decide) ?_
    refine lv_istore_n (lv' := [(1, .int 0), (0, .ref (q 0))]) hx hb dX6_town_51 rfl hl (by decide) rfl (fun ls hl => ?_)
    exact b_52 N A z3.2.1 z3.2.2.1 z3.2.2.2 z1.2.2.1 z1.2.2.2 z4.1 z4.2 (upd aI 1 0) 0 H locs hP hD hS ls (lv_sub hl [1, 0] rfl) hf
  · rw [if_neg c2] at hf
    refine lv_bipush (v := (-3)) hx hb dX6_town_16 (by decide) ?_
    have e9 := Option.some.inj hf
    exact fin H locs 18 ls _ (Prod.mk.inj e9).1 (nar_i _) (by rw [← (Prod.mk.inj (Prod.mk.inj e9).2).1, ← (Prod.mk.inj (Prod.mk.inj (Prod.mk.inj e9).2).2).1, ← (Prod.mk.inj (Prod.mk.inj (Prod.mk.inj (Prod.mk.inj e9).2).2).2).1, ← (Prod.mk.inj (Prod.mk.inj (Prod.mk.inj (Prod.mk.inj (Prod.mk.inj e9).2).2).2).2).1, ← (Prod.mk.inj (Prod.mk.inj (Prod.mk.inj (Prod.mk.inj (Prod.mk.inj (Prod.mk.inj e9).2).2).2).2).2).1, ← (Prod.mk.inj (Prod.mk.inj (Prod.mk.inj (Prod.mk.inj (Prod.mk.inj (Prod.mk.inj (Prod.mk.inj e9).2).2).2).2).2).2).1, ← (Prod.mk.inj (Prod.mk.inj (Prod.mk.inj (Prod.mk.inj (Prod.mk.inj (Prod.mk.inj (Prod.mk.inj (Prod.mk.inj e9).2).2).2).2).2).2).2).1, ← (Prod.mk.inj (Prod.mk.inj (Prod.mk.inj (Prod.mk.inj (Prod.mk.inj (Prod.mk.inj (Prod.mk.inj (Prod.mk.inj (Prod.mk.inj e9).2).2).2).2).2).2).2).2).1, ← (Prod.mk.inj (Prod.mk.inj (Prod.mk.inj (Prod.mk.inj (Prod.mk.inj (Prod.mk.inj (Prod.mk.inj (Prod.mk.inj (Prod.mk.inj e9).2).2).2).2).2).2).2).2).2]; exact hP) hS dX6_town_18
def fX5_isLie_22 (N : Nat) (I : Nat → Int32) (A : Nat → Nat → Int32) (y0 : Int32) : Option (Int32) := (bz y0).bind fun v1 => some v1
def fX5_isLie_21 (N : Nat) (I : Nat → Int32) (A : Nat → Nat → Int32) : Option (Int32) := fX5_isLie_22 N I A 0
def fX5_isLie (N : Nat) (I : Nat → Int32) (A : Nat → Nat → Int32) (x1 : Int32) : Option (Int32) := (fX5_hasRumour N I x1).bind fun z1 => if z1 = 0 then fX5_isLie_21 N I A else (rd 5 (A 1) x1).bind fun v3 => if v3 = 0 then fX5_isLie_21 N I A else fX5_isLie_22 N I A 1
def rmX5_isLie : Room := { frames := 1, cells := 0, slots := 0, locals := 21 }
theorem mb_X5_isLie : Cond.instanceMethod yX5_isLie ∈ wsL_law ∧ Cond.selects RX5 yX5_isLie yX5_isLie ∈ wsL_law ∧ Cond.initialized RX5 ∈ wsL_law ∧ Cond.code yX5_isLie cX5_isLie 2 (some .boolean) ∈ wsL_law := ⟨(bg 12 9 rfl), (bg 12 10 rfl), (bg 0 19 rfl), (bg 12 11 rfl)⟩
theorem hd_X5_isLie : yX5_isLie.cls = RX5 ∧ yX5_isLie.cls ≠ "java/lang/invoke/MethodHandle" ∧ yX5_isLie.cls ≠ "java/lang/invoke/VarHandle" ∧ (parseMethodDescriptor yX5_isLie.desc).map (fun d => d.parameters.length) = some 1 := by decide +kernel
set_option maxRecDepth 100000 in
set_option maxHeartbeats 4000000 in
theorem ct_X5_isLie (N : Nat) (l : Launch) (G : va_G) (cI cZ cO : ClassId) (q : Nat → Nat) (I : Nat → Int32) (A : Nat → Nat → Int32) (x1 : Int32) (r : Int32) (hf : fX5_isLie N I A x1 = some r) : RtI l yX5_isLie cX5_isLie 2 .boolean rmX5_isLie G cI cZ cO [.ref (q 0), .int x1] (wX5 q cI cZ cO I A) r := by
  refine mkRI (by decide) (Nat.le_of_ble_eq_true rfl) ?_
  intro p e s m below meth cd Q hC hP hE fin ls hl
  obtain ⟨hx, hb, hml, hown, hts⟩ := hC
  have hown : s.vm.findClass RX5 = some m.cls := hown
  have hl : lv_has ls 2 [(0, .ref (q 0)), (1, .int x1)] := hl
  have b_22 : ∀ (y0 : Int32), ∀ ls : Array Slot, lv_has ls 2 [] → fX5_isLie_22 N I A y0 = some r → W p l e rmX5_isLie s m [.ref (q 0), .int x1].toArray below meth cd s.heap [] 0 0 Q (F0 m 22 ls [.int y0]) := by
    intro y0 ls hl hf
    unfold fX5_isLie_22 at hf
    obtain ⟨v1, hv1, hf⟩ := bnd hf
    obtain ⟨ev1, hv1⟩ := bz_in hv1
    rw [ev1]
    have e9 := Option.some.inj hf
    exact fin 22 ls _ e9 (nar_z (by rw [← e9]; exact hv1)) dX5_isLie_22
  have b_21 : ∀ ls : Array Slot, lv_has ls 2 [] → fX5_isLie_21 N I A = some r → W p l e rmX5_isLie s m [.ref (q 0), .int x1].toArray below meth cd s.heap [] 0 0 Q (F0 m 21 ls []) := by
    intro ls hl hf
    unfold fX5_isLie_21 at hf
    refine lv_iconst (v := 0) hx hb dX5_isLie_21 (by decide) ?_
    exact b_22 0 ls (lv_sub hl [] rfl) hf
  unfold fX5_isLie at hf
  refine lv_aload_n hx hb dX5_isLie_0 rfl (lv_at hl 0 rfl) ?_
  refine lv_iload_n hx hb dX5_isLie_1 rfl (lv_at hl 1 rfl) ?_
  obtain ⟨z1, hz1, hf⟩ := bnd hf
  refine x_rdV (C := RX5) (n := 1) (ci := 5) hx hb hml hown hts hE (ct_X5_hasRumour N l G cI cZ cO q I A x1 z1 hz1) (bg 7 7 rfl) mb_X5_hasRumour.1 mb_X5_hasRumour.2.1 mb_X5_hasRumour.2.2.1 mb_X5_hasRumour.2.2.2 hd_X5_hasRumour rfl (by decide) hP rfl rfl rfl rfl hl.1 (Nat.le_of_ble_eq_true rfl) ⟨Nat.zero_le _, Nat.zero_le _⟩ dX5_isLie_2 ?_
  refine lv_if_eq (tgt := 21) hx hb dX5_isLie_5 (by decide) (fun c2 => ?_) (fun c2 => ?_)
  · rw [if_pos c2] at hf
    exact b_21 ls (lv_sub hl [] rfl) hf
  · rw [if_neg c2] at hf
    refine lv_aload_n hx hb dX5_isLie_8 rfl (lv_at hl 0 rfl) ?_
    refine va_get (D := G) (ci := 5) (v := .ref (q 2)) (C := RX5) (T := TX5) (N := 8) hx hb hts inlX5 hown hE.1 hP 0 rfl rfl 1 (by decide) (hts _ (bg 2 7 rfl)) (fun _ h9 => h9) rfl dX5_isLie_9 ?_
    refine lv_iload_n hx hb dX5_isLie_12 rfl (lv_at hl 1 rfl) ?_
    obtain ⟨v3, hv3, hf⟩ := bnd hf
    refine x_zald hx hb hE.1 hP 2 1 rfl rfl hv3 dX5_isLie_13 ?_
    refine lv_if_eq (tgt := 21) hx hb dX5_isLie_14 (by decide) (fun c4 => ?_) (fun c4 => ?_)
    · rw [if_pos c4] at hf
      exact b_21 ls (lv_sub hl [] rfl) hf
    · rw [if_neg c4] at hf
      refine lv_iconst (v := 1) hx hb dX5_isLie_17 (by decide) ?_
      refine lv_goto (tgt := 22) hx hb dX5_isLie_18 (by decide) ?_
      exact b_22 1 ls (lv_sub hl [] rfl) hf
def fX6_at_17 (N : Nat) (n : Nat) (f : Nat → Int32) (y0 : Int32) : Option (Int32) := some y0
def fX6_at_16 (N : Nat) (n : Nat) (f : Nat → Int32) : Option (Int32) := fX6_at_17 N n f 0
def fX6_at (N : Nat) (n : Nat) (f : Nat → Int32) (x1 : Int32) : Option (Int32) := if x1 < 0 then fX6_at_16 N n f else if (Int32.ofNat n) ≤ x1 then fX6_at_16 N n f else (rd n f x1).bind fun v3 => fX6_at_17 N n f v3
def rmX6_at : Room := { frames := 0, cells := 0, slots := 0, locals := 0 }
theorem mb_X6_at : Cond.static yX6_at ∈ wsL_law ∧ Cond.initialized yX6_at.cls ∈ wsL_law ∧ Cond.code yX6_at cX6_at 2 (some .int) ∈ wsL_law := ⟨(bg 12 16 rfl), (bg 0 2 rfl), (bg 12 17 rfl)⟩
theorem hd_X6_at : yX6_at.cls ≠ "java/lang/invoke/MethodHandle" ∧ yX6_at.cls ≠ "java/lang/invoke/VarHandle" ∧ (parseMethodDescriptor yX6_at.desc).map (fun d => d.parameters.length) = some 2 := by decide +kernel
set_option maxRecDepth 100000 in
set_option maxHeartbeats 4000000 in
theorem ct_X6_at (N : Nat) (l : Launch) (G : va_G) (cI cZ cO : ClassId) (q n : Nat) (f : Nat → Int32) (x1 : Int32) (r : Int32) (hf : fX6_at N n f x1 = some r) : RtI l yX6_at cX6_at 2 .int rmX6_at G cI cZ cO [.ref q, .int x1] ([(q, .inl (cI, n, .inl f))]) r := by
  refine mkRI (by decide) (Nat.le_of_ble_eq_true rfl) ?_
  intro p e s m below meth cd Q hC hP hE fin ls hl
  obtain ⟨hx, hb, hml, hown, hts⟩ := hC
  have hown : s.vm.findClass RX6 = some m.cls := hown
  have hl : lv_has ls 2 [(0, .ref q), (1, .int x1)] := hl
  have b_17 : ∀ (y0 : Int32), ∀ ls : Array Slot, lv_has ls 2 [] → fX6_at_17 N n f y0 = some r → W p l e rmX6_at s m [.ref q, .int x1].toArray below meth cd s.heap [] 0 0 Q (F0 m 17 ls [.int y0]) := by
    intro y0 ls hl hf
    unfold fX6_at_17 at hf
    have e9 := Option.some.inj hf
    exact fin 17 ls _ e9 (nar_i _) dX6_at_17
  have b_16 : ∀ ls : Array Slot, lv_has ls 2 [] → fX6_at_16 N n f = some r → W p l e rmX6_at s m [.ref q, .int x1].toArray below meth cd s.heap [] 0 0 Q (F0 m 16 ls []) := by
    intro ls hl hf
    unfold fX6_at_16 at hf
    refine lv_iconst (v := 0) hx hb dX6_at_16 (by decide) ?_
    exact b_17 0 ls (lv_sub hl [] rfl) hf
  unfold fX6_at at hf
  refine lv_iload_n hx hb dX6_at_0 rfl (lv_at hl 1 rfl) ?_
  refine lv_if_lt (tgt := 16) hx hb dX6_at_1 (by decide) (fun c1 => ?_) (fun c1 => ?_)
  · rw [if_pos c1] at hf
    exact b_16 ls (lv_sub hl [] rfl) hf
  · rw [if_neg c1] at hf
    refine lv_iload_n hx hb dX6_at_4 rfl (lv_at hl 1 rfl) ?_
    refine lv_aload_n hx hb dX6_at_5 rfl (lv_at hl 0 rfl) ?_
    refine va_alen (v := Int32.ofNat n) hx hb hE.1 hP 0 0 rfl rfl rfl dX6_at_6 ?_
    refine lv_icmp_ge (tgt := 16) hx hb dX6_at_7 (by decide) (fun c2 => ?_) (fun c2 => ?_)
    · rw [if_pos c2] at hf
      exact b_16 ls (lv_sub hl [] rfl) hf
    · rw [if_neg c2] at hf
      refine lv_aload_n hx hb dX6_at_10 rfl (lv_at hl 0 rfl) ?_
      refine lv_iload_n hx hb dX6_at_11 rfl (lv_at hl 1 rfl) ?_
      obtain ⟨v3, hv3, hf⟩ := bnd hf
      refine x_iald hx hb hE.1 hP 0 0 rfl rfl hv3 dX6_at_12 ?_
      refine lv_goto (tgt := 17) hx hb dX6_at_13 (by decide) ?_
      exact b_17 v3 ls (lv_sub hl [] rfl) hf
def fX4_saidOf (N : Nat) (A : Nat → Nat → Int32) (x1 : Int32) : Option (Int32) := (fX6_at N 5 (A 0) x1).bind fun z1 => some z1
def rmX4_saidOf : Room := { frames := 1, cells := 0, slots := 0, locals := 21 }
theorem mb_X4_saidOf : Cond.instanceMethod yX4_saidOf ∈ wsL_law ∧ Cond.selects RX4 yX4_saidOf yX4_saidOf ∈ wsL_law ∧ Cond.initialized RX4 ∈ wsL_law ∧ Cond.code yX4_saidOf cX4_saidOf 2 (some .int) ∈ wsL_law := ⟨(bg 12 13 rfl), (bg 12 14 rfl), (bg 1 0 rfl), (bg 12 15 rfl)⟩
theorem hd_X4_saidOf : yX4_saidOf.cls = RX4 ∧ yX4_saidOf.cls ≠ "java/lang/invoke/MethodHandle" ∧ yX4_saidOf.cls ≠ "java/lang/invoke/VarHandle" ∧ (parseMethodDescriptor yX4_saidOf.desc).map (fun d => d.parameters.length) = some 1 := by decide +kernel
set_option maxRecDepth 100000 in
set_option maxHeartbeats 4000000 in
theorem ct_X4_saidOf (N : Nat) (l : Launch) (G : va_G) (cI cZ cO : ClassId) (q : Nat → Nat) (I : Nat → Int32) (A : Nat → Nat → Int32) (x1 : Int32) (r : Int32) (hf : fX4_saidOf N A x1 = some r) : RtI l yX4_saidOf cX4_saidOf 2 .int rmX4_saidOf G cI cZ cO [.ref (q 0), .int x1] (wX4 q cI cZ cO I A) r := by
  refine mkRI (by decide) (Nat.le_of_ble_eq_true rfl) ?_
  intro p e s m below meth cd Q hC hP hE fin ls hl
  obtain ⟨hx, hb, hml, hown, hts⟩ := hC
  have hown : s.vm.findClass RX4 = some m.cls := hown
  have hl : lv_has ls 2 [(0, .ref (q 0)), (1, .int x1)] := hl
  unfold fX4_saidOf at hf
  refine lv_aload_n hx hb dX4_saidOf_0 rfl (lv_at hl 0 rfl) ?_
  refine va_get (D := G) (ci := 4) (v := .ref (q 1)) (C := RX4) (T := TX4) (N := 4) hx hb hts inlX4 hown hE.1 hP 0 rfl rfl 0 (by decide) (hts _ (bg 2 15 rfl)) (fun _ h9 => h9) rfl dX4_saidOf_1 ?_
  refine lv_iload_n hx hb dX4_saidOf_4 rfl (lv_at hl 1 rfl) ?_
  obtain ⟨z1, hz1, hf⟩ := bnd hf
  refine x_rdN (n := 2) hx hb hml hown hts hE (ct_X6_at N l G cI cZ cO (q 1) 5 (A 0) x1 z1 hz1) (List.mem_of_getElem? (i := 11) rfl) mb_X6_at.1 mb_X6_at.2.1 mb_X6_at.2.2 hd_X6_at rfl (by decide) (x_cut hP [1] rfl) rfl hl.1 (Nat.le_of_ble_eq_true rfl) ⟨Nat.zero_le _, Nat.zero_le _⟩ dX4_saidOf_5 ?_
  have e9 := Option.some.inj hf
  exact fin 8 ls _ e9 (nar_i _) dX4_saidOf_8
def fX4_deniedOf (N : Nat) (A : Nat → Nat → Int32) (x1 : Int32) : Option (Int32) := (fX6_at N 5 (A 1) x1).bind fun z1 => some z1
def rmX4_deniedOf : Room := { frames := 1, cells := 0, slots := 0, locals := 21 }
theorem mb_X4_deniedOf : Cond.instanceMethod yX4_deniedOf ∈ wsL_law ∧ Cond.selects RX4 yX4_deniedOf yX4_deniedOf ∈ wsL_law ∧ Cond.initialized RX4 ∈ wsL_law ∧ Cond.code yX4_deniedOf cX4_deniedOf 2 (some .int) ∈ wsL_law := ⟨(bg 12 19 rfl), (bg 12 20 rfl), (bg 1 0 rfl), (bg 12 21 rfl)⟩
theorem hd_X4_deniedOf : yX4_deniedOf.cls = RX4 ∧ yX4_deniedOf.cls ≠ "java/lang/invoke/MethodHandle" ∧ yX4_deniedOf.cls ≠ "java/lang/invoke/VarHandle" ∧ (parseMethodDescriptor yX4_deniedOf.desc).map (fun d => d.parameters.length) = some 1 := by decide +kernel
set_option maxRecDepth 100000 in
set_option maxHeartbeats 4000000 in
theorem ct_X4_deniedOf (N : Nat) (l : Launch) (G : va_G) (cI cZ cO : ClassId) (q : Nat → Nat) (I : Nat → Int32) (A : Nat → Nat → Int32) (x1 : Int32) (r : Int32) (hf : fX4_deniedOf N A x1 = some r) : RtI l yX4_deniedOf cX4_deniedOf 2 .int rmX4_deniedOf G cI cZ cO [.ref (q 0), .int x1] (wX4 q cI cZ cO I A) r := by
  refine mkRI (by decide) (Nat.le_of_ble_eq_true rfl) ?_
  intro p e s m below meth cd Q hC hP hE fin ls hl
  obtain ⟨hx, hb, hml, hown, hts⟩ := hC
  have hown : s.vm.findClass RX4 = some m.cls := hown
  have hl : lv_has ls 2 [(0, .ref (q 0)), (1, .int x1)] := hl
  unfold fX4_deniedOf at hf
  refine lv_aload_n hx hb dX4_deniedOf_0 rfl (lv_at hl 0 rfl) ?_
  refine va_get (D := G) (ci := 4) (v := .ref (q 2)) (C := RX4) (T := TX4) (N := 4) hx hb hts inlX4 hown hE.1 hP 0 rfl rfl 1 (by decide) (hts _ (bg 2 16 rfl)) (fun _ h9 => h9) rfl dX4_deniedOf_1 ?_
  refine lv_iload_n hx hb dX4_deniedOf_4 rfl (lv_at hl 1 rfl) ?_
  obtain ⟨z1, hz1, hf⟩ := bnd hf
  refine x_rdN (n := 2) hx hb hml hown hts hE (ct_X6_at N l G cI cZ cO (q 2) 5 (A 1) x1 z1 hz1) (List.mem_of_getElem? (i := 11) rfl) mb_X6_at.1 mb_X6_at.2.1 mb_X6_at.2.2 hd_X6_at rfl (by decide) (x_cut hP [2] rfl) rfl hl.1 (Nat.le_of_ble_eq_true rfl) ⟨Nat.zero_le _, Nat.zero_le _⟩ dX4_deniedOf_5 ?_
  have e9 := Option.some.inj hf
  exact fin 8 ls _ e9 (nar_i _) dX4_deniedOf_8
def fX5_isProved_23 (N : Nat) (A : Nat → Nat → Int32) (y0 : Int32) : Option (Int32) := (bz y0).bind fun v1 => some v1
def fX5_isProved_22 (N : Nat) (A : Nat → Nat → Int32) : Option (Int32) := fX5_isProved_23 N A 0
def fX5_isProved (N : Nat) (A : Nat → Nat → Int32) (x1 : Int32) (x2 : Int32) : Option (Int32) := (fX6_at N 5 (A 2) x1).bind fun z1 => if z1 = 0 then fX5_isProved_22 N A else if x2 < z1 then fX5_isProved_22 N A else fX5_isProved_23 N A 1
def rmX5_isProved : Room := { frames := 1, cells := 0, slots := 0, locals := 21 }
theorem mb_X5_isProved : Cond.instanceMethod yX5_isProved ∈ wsL_law ∧ Cond.selects RX5 yX5_isProved yX5_isProved ∈ wsL_law ∧ Cond.initialized RX5 ∈ wsL_law ∧ Cond.code yX5_isProved cX5_isProved 4 (some .boolean) ∈ wsL_law := ⟨(bg 12 23 rfl), (bg 13 0 rfl), (bg 0 19 rfl), (bg 13 1 rfl)⟩
theorem hd_X5_isProved : yX5_isProved.cls = RX5 ∧ yX5_isProved.cls ≠ "java/lang/invoke/MethodHandle" ∧ yX5_isProved.cls ≠ "java/lang/invoke/VarHandle" ∧ (parseMethodDescriptor yX5_isProved.desc).map (fun d => d.parameters.length) = some 2 := by decide +kernel
set_option maxRecDepth 100000 in
set_option maxHeartbeats 4000000 in
theorem ct_X5_isProved (N : Nat) (l : Launch) (G : va_G) (cI cZ cO : ClassId) (q : Nat → Nat) (I : Nat → Int32) (A : Nat → Nat → Int32) (x1 : Int32) (x2 : Int32) (r : Int32) (hf : fX5_isProved N A x1 x2 = some r) : RtI l yX5_isProved cX5_isProved 4 .boolean rmX5_isProved G cI cZ cO [.ref (q 0), .int x1, .int x2] (wX5 q cI cZ cO I A) r := by
  refine mkRI (by decide) (Nat.le_of_ble_eq_true rfl) ?_
  intro p e s m below meth cd Q hC hP hE fin ls hl
  obtain ⟨hx, hb, hml, hown, hts⟩ := hC
  have hown : s.vm.findClass RX5 = some m.cls := hown
  have hl : lv_has ls 4 [(0, .ref (q 0)), (1, .int x1), (2, .int x2)] := hl
  have b_23 : ∀ (y0 : Int32), ∀ ls : Array Slot, lv_has ls 4 [] → fX5_isProved_23 N A y0 = some r → W p l e rmX5_isProved s m [.ref (q 0), .int x1, .int x2].toArray below meth cd s.heap [] 0 0 Q (F0 m 23 ls [.int y0]) := by
    intro y0 ls hl hf
    unfold fX5_isProved_23 at hf
    obtain ⟨v1, hv1, hf⟩ := bnd hf
    obtain ⟨ev1, hv1⟩ := bz_in hv1
    rw [ev1]
    have e9 := Option.some.inj hf
    exact fin 23 ls _ e9 (nar_z (by rw [← e9]; exact hv1)) dX5_isProved_23
  have b_22 : ∀ ls : Array Slot, lv_has ls 4 [] → fX5_isProved_22 N A = some r → W p l e rmX5_isProved s m [.ref (q 0), .int x1, .int x2].toArray below meth cd s.heap [] 0 0 Q (F0 m 22 ls []) := by
    intro ls hl hf
    unfold fX5_isProved_22 at hf
    refine lv_iconst (v := 0) hx hb dX5_isProved_22 (by decide) ?_
    exact b_23 0 ls (lv_sub hl [] rfl) hf
  unfold fX5_isProved at hf
  refine lv_aload_n hx hb dX5_isProved_0 rfl (lv_at hl 0 rfl) ?_
  refine va_get (D := G) (ci := 5) (v := .ref (q 3)) (C := RX5) (T := TX5) (N := 8) hx hb hts inlX5 hown hE.1 hP 0 rfl rfl 2 (by decide) (hts _ (bg 2 8 rfl)) (fun _ h9 => h9) rfl dX5_isProved_1 ?_
  refine lv_iload_n hx hb dX5_isProved_4 rfl (lv_at hl 1 rfl) ?_
  obtain ⟨z1, hz1, hf⟩ := bnd hf
  refine x_rdN (n := 2) hx hb hml hown hts hE (ct_X6_at N l G cI cZ cO (q 3) 5 (A 2) x1 z1 hz1) (List.mem_of_getElem? (i := 12) rfl) mb_X6_at.1 mb_X6_at.2.1 mb_X6_at.2.2 hd_X6_at rfl (by decide) (x_cut hP [3] rfl) rfl hl.1 (Nat.le_of_ble_eq_true rfl) ⟨Nat.zero_le _, Nat.zero_le _⟩ dX5_isProved_5 ?_
  refine lv_istore_n (lv' := [(3, .int z1), (0, .ref (q 0)), (1, .int x1), (2, .int x2)]) hx hb dX5_isProved_8 rfl hl (by decide) rfl (fun ls hl => ?_)
  refine lv_iload_n hx hb dX5_isProved_9 rfl (lv_at hl 0 rfl) ?_
  refine lv_if_eq (tgt := 22) hx hb dX5_isProved_10 (by decide) (fun c2 => ?_) (fun c2 => ?_)
  · rw [if_pos c2] at hf
    exact b_22 ls (lv_sub hl [] rfl) hf
  · rw [if_neg c2] at hf
    refine lv_iload_n hx hb dX5_isProved_13 rfl (lv_at hl 3 rfl) ?_
    refine lv_iload_n hx hb dX5_isProved_14 rfl (lv_at hl 0 rfl) ?_
    refine lv_icmp_lt (tgt := 22) hx hb dX5_isProved_15 (by decide) (fun c3 => ?_) (fun c3 => ?_)
    · rw [if_pos c3] at hf
      exact b_22 ls (lv_sub hl [] rfl) hf
    · rw [if_neg c3] at hf
      refine lv_iconst (v := 1) hx hb dX5_isProved_18 (by decide) ?_
      refine lv_goto (tgt := 23) hx hb dX5_isProved_19 (by decide) ?_
      exact b_23 1 ls (lv_sub hl [] rfl) hf
def fX6_rumour_144 (N : Nat) (tI : Nat → Int32) (tA : Nat → Nat → Int32) (wI : Nat → Int32) (wA : Nat → Nat → Int32) (y0 : Int32) : Option (Int32) := some y0
def fX6_rumour_82 (N : Nat) (tI : Nat → Int32) (tA : Nat → Nat → Int32) (wI : Nat → Int32) (wA : Nat → Nat → Int32) (y0 : Int32) : Option (Int32) := some y0
def fX6_rumour (N : Nat) (tI : Nat → Int32) (tA : Nat → Nat → Int32) (wI : Nat → Int32) (wA : Nat → Nat → Int32) (x1 : Int32) (x2 : Int32) : Option (Int32) := (fX5_hasRumour N tI x1).bind fun z1 => if z1 = 0 then some (-1) else if x2 = 0 then (rd 5 (tA 0) x1).bind fun v4 => some v4 else if x2 = 1 then (fX5_isLie N tI tA x1).bind fun z6 => if z6 = 0 then fX6_rumour_82 N tI tA wI wA 0 else fX6_rumour_82 N tI tA wI wA 1 else if x2 = 2 then (rd 5 (tA 2) x1).bind fun v9 => some v9 else if x2 = 3 then (fX4_saidOf N wA x1).bind fun z11 => some z11 else if x2 = 4 then (fX4_deniedOf N wA x1).bind fun z13 => some z13 else if x2 = 5 then (rd 5 (tA 3) x1).bind fun v15 => some v15 else if x2 = 6 then (fX5_isProved N tA x1 (wI 0)).bind fun z17 => if z17 = 0 then fX6_rumour_144 N tI tA wI wA 0 else fX6_rumour_144 N tI tA wI wA 1 else some (-2)
def rmX6_rumour : Room := { frames := 2, cells := 0, slots := 0, locals := 44 }
theorem mb_X6_rumour : Cond.instanceMethod yX6_rumour ∈ wsL_law ∧ Cond.selects RX6 yX6_rumour yX6_rumour ∈ wsL_law ∧ Cond.initialized RX6 ∈ wsL_law ∧ Cond.code yX6_rumour cX6_rumour 3 (some .int) ∈ wsL_law := ⟨(bg 12 0 rfl), (bg 12 1 rfl), (bg 0 2 rfl), (bg 12 2 rfl)⟩
theorem hd_X6_rumour : yX6_rumour.cls = RX6 ∧ yX6_rumour.cls ≠ "java/lang/invoke/MethodHandle" ∧ yX6_rumour.cls ≠ "java/lang/invoke/VarHandle" ∧ (parseMethodDescriptor yX6_rumour.desc).map (fun d => d.parameters.length) = some 2 := by decide +kernel
set_option maxRecDepth 100000 in
set_option maxHeartbeats 4000000 in
theorem ct_X6_rumour (N : Nat) (l : Launch) (G : va_G) (cI cZ cO : ClassId) (q : Nat → Nat) (A : Nat → Nat → Int32) (L : Int64) (rI : Nat → Int32) (rA : Nat → Nat → Int32) (tI : Nat → Int32) (tA : Nat → Nat → Int32) (dI : Nat → Int32) (dA : Nat → Nat → Int32) (wI : Nat → Int32) (wA : Nat → Nat → Int32) (uI : Nat → Int32) (uA : Nat → Nat → Int32) (aI : Nat → Int32) (aS : Nat → Nat → Int32) (aT : Nat → Nat → Nat → Int32) (eI : Nat → Int32) (eA : Nat → Nat → Int32) (sS : Nat → Nat → Int32) (sT : Nat → Nat → Nat → Int32) (bI : Nat → Int32) (x1 : Int32) (x2 : Int32) (r : Int32) (hf : fX6_rumour N tI tA wI wA x1 x2 = some r) : RtI l yX6_rumour cX6_rumour 3 .int rmX6_rumour G cI cZ cO [.ref (q 0), .int x1, .int x2] (wX6 q cI cZ cO A L rI rA tI tA dI dA wI wA uI uA aI aS aT eI eA sS sT bI) r := by
  refine mkRI (by decide) (Nat.le_of_ble_eq_true rfl) ?_
  intro p e s m below meth cd Q hC hP hE fin ls hl
  obtain ⟨hx, hb, hml, hown, hts⟩ := hC
  have hown : s.vm.findClass RX6 = some m.cls := hown
  have hl : lv_has ls 3 [(0, .ref (q 0)), (1, .int x1), (2, .int x2)] := hl
  have b_144 : ∀ (y0 : Int32), ∀ ls : Array Slot, lv_has ls 3 [] → fX6_rumour_144 N tI tA wI wA y0 = some r → W p l e rmX6_rumour s m [.ref (q 0), .int x1, .int x2].toArray below meth cd s.heap [] 0 0 Q (F0 m 144 ls [.int y0]) := by
    intro y0 ls hl hf
    unfold fX6_rumour_144 at hf
    have e9 := Option.some.inj hf
    exact fin 144 ls _ e9 (nar_i _) dX6_rumour_144
  have b_82 : ∀ (y0 : Int32), ∀ ls : Array Slot, lv_has ls 3 [] → fX6_rumour_82 N tI tA wI wA y0 = some r → W p l e rmX6_rumour s m [.ref (q 0), .int x1, .int x2].toArray below meth cd s.heap [] 0 0 Q (F0 m 82 ls [.int y0]) := by
    intro y0 ls hl hf
    unfold fX6_rumour_82 at hf
    have e9 := Option.some.inj hf
    exact fin 82 ls _ e9 (nar_i _) dX6_rumour_82
  unfold fX6_rumour at hf
  refine lv_aload_n hx hb dX6_rumour_0 rfl (lv_at hl 0 rfl) ?_
  refine va_get (D := G) (ci := 6) (v := .ref (q 3)) (C := RX6) (T := TX6) (N := 15) hx hb hts inlX6 hown hE.1 hP 0 rfl rfl 1 (by decide) (hts _ (bg 0 20 rfl)) (fun _ h9 => h9) rfl dX6_rumour_1 ?_
  refine lv_iload_n hx hb dX6_rumour_4 rfl (lv_at hl 1 rfl) ?_
  obtain ⟨z1, hz1, hf⟩ := bnd hf
  refine x_rdV (C := RX5) (n := 1) (ci := 5) hx hb hml hown hts hE (ct_X5_hasRumour N l G cI cZ cO (sh q 3) tI tA x1 z1 hz1) (bg 12 7 rfl) mb_X5_hasRumour.1 mb_X5_hasRumour.2.1 mb_X5_hasRumour.2.2.1 mb_X5_hasRumour.2.2.2 hd_X5_hasRumour rfl (by decide) (x_cut hP [3, 4, 5, 6, 7, 8, 9] rfl) rfl rfl rfl rfl hl.1 (Nat.le_of_ble_eq_true rfl) ⟨Nat.zero_le _, Nat.zero_le _⟩ dX6_rumour_5 ?_
  refine lv_if_ne (tgt := 13) hx hb dX6_rumour_8 (by decide) (fun c2 => ?_) (fun c2 => ?_)
  · rw [if_neg c2] at hf
    refine lv_iload_n hx hb dX6_rumour_13 rfl (lv_at hl 2 rfl) ?_
    by_cases c3 : x2 = 0
    · rw [if_pos c3] at hf
      refine x_tsw (tgt := 56) hx hb c3 dX6_rumour_14 (by decide) (by decide) rfl (by decide) ?_
      refine lv_aload_n hx hb dX6_rumour_56 rfl (lv_at hl 0 rfl) ?_
      refine va_get (D := G) (ci := 6) (v := .ref (q 3)) (C := RX6) (T := TX6) (N := 15) hx hb hts inlX6 hown hE.1 hP 0 rfl rfl 1 (by decide) (hts _ (bg 0 20 rfl)) (fun _ h9 => h9) rfl dX6_rumour_57 ?_
      refine va_get (D := G) (ci := 5) (v := .ref (q 4)) (C := RX5) (T := TX5) (N := 8) hx hb hts inlX5 hown hE.1 hP 3 rfl rfl 0 (by decide) (hts _ (bg 12 3 rfl)) (fun _ h9 => h9) rfl dX6_rumour_60 ?_
      refine lv_iload_n hx hb dX6_rumour_63 rfl (lv_at hl 1 rfl) ?_
      obtain ⟨v4, hv4, hf⟩ := bnd hf
      refine x_iald hx hb hE.1 hP 4 0 rfl rfl hv4 dX6_rumour_64 ?_
      have e9 := Option.some.inj hf
      exact fin 65 ls _ e9 (nar_i _) dX6_rumour_65
    · rw [if_neg c3] at hf
      by_cases c5 : x2 = 1
      · rw [if_pos c5] at hf
        refine x_tsw (tgt := 66) hx hb c5 dX6_rumour_14 (by decide) (by decide) rfl (by decide) ?_
        refine lv_aload_n hx hb dX6_rumour_66 rfl (lv_at hl 0 rfl) ?_
        refine va_get (D := G) (ci := 6) (v := .ref (q 3)) (C := RX6) (T := TX6) (N := 15) hx hb hts inlX6 hown hE.1 hP 0 rfl rfl 1 (by decide) (hts _ (bg 0 20 rfl)) (fun _ h9 => h9) rfl dX6_rumour_67 ?_
        refine lv_iload_n hx hb dX6_rumour_70 rfl (lv_at hl 1 rfl) ?_
        obtain ⟨z6, hz6, hf⟩ := bnd hf
        refine x_rdV (C := RX5) (n := 1) (ci := 5) hx hb hml hown hts hE (ct_X5_isLie N l G cI cZ cO (sh q 3) tI tA x1 z6 hz6) (bg 12 8 rfl) mb_X5_isLie.1 mb_X5_isLie.2.1 mb_X5_isLie.2.2.1 mb_X5_isLie.2.2.2 hd_X5_isLie rfl (by decide) (x_cut hP [3, 4, 5, 6, 7, 8, 9] rfl) rfl rfl rfl rfl hl.1 (Nat.le_of_ble_eq_true rfl) ⟨Nat.zero_le _, Nat.zero_le _⟩ dX6_rumour_71 ?_
        refine lv_if_eq (tgt := 81) hx hb dX6_rumour_74 (by decide) (fun c7 => ?_) (fun c7 => ?_)
        · rw [if_pos c7] at hf
          refine lv_iconst (v := 0) hx hb dX6_rumour_81 (by decide) ?_
          exact b_82 0 ls (lv_sub hl [] rfl) hf
        · rw [if_neg c7] at hf
          refine lv_iconst (v := 1) hx hb dX6_rumour_77 (by decide) ?_
          refine lv_goto (tgt := 82) hx hb dX6_rumour_78 (by decide) ?_
          exact b_82 1 ls (lv_sub hl [] rfl) hf
      · rw [if_neg c5] at hf
        by_cases c8 : x2 = 2
        · rw [if_pos c8] at hf
          refine x_tsw (tgt := 83) hx hb c8 dX6_rumour_14 (by decide) (by decide) rfl (by decide) ?_
          refine lv_aload_n hx hb dX6_rumour_83 rfl (lv_at hl 0 rfl) ?_
          refine va_get (D := G) (ci := 6) (v := .ref (q 3)) (C := RX6) (T := TX6) (N := 15) hx hb hts inlX6 hown hE.1 hP 0 rfl rfl 1 (by decide) (hts _ (bg 0 20 rfl)) (fun _ h9 => h9) rfl dX6_rumour_84 ?_
          refine va_get (D := G) (ci := 5) (v := .ref (q 6)) (C := RX5) (T := TX5) (N := 8) hx hb hts inlX5 hown hE.1 hP 3 rfl rfl 2 (by decide) (hts _ (bg 12 4 rfl)) (fun _ h9 => h9) rfl dX6_rumour_87 ?_
          refine lv_iload_n hx hb dX6_rumour_90 rfl (lv_at hl 1 rfl) ?_
          obtain ⟨v9, hv9, hf⟩ := bnd hf
          refine x_iald hx hb hE.1 hP 6 0 rfl rfl hv9 dX6_rumour_91 ?_
          have e9 := Option.some.inj hf
          exact fin 92 ls _ e9 (nar_i _) dX6_rumour_92
        · rw [if_neg c8] at hf
          by_cases c10 : x2 = 3
          · rw [if_pos c10] at hf
            refine x_tsw (tgt := 93) hx hb c10 dX6_rumour_14 (by decide) (by decide) rfl (by decide) ?_
            refine lv_aload_n hx hb dX6_rumour_93 rfl (lv_at hl 0 rfl) ?_
            refine va_get (D := G) (ci := 6) (v := .ref (q 17)) (C := RX6) (T := TX6) (N := 15) hx hb hts inlX6 hown hE.1 hP 0 rfl rfl 3 (by decide) (hts _ (bg 1 1 rfl)) (fun _ h9 => h9) rfl dX6_rumour_94 ?_
            refine lv_iload_n hx hb dX6_rumour_97 rfl (lv_at hl 1 rfl) ?_
            obtain ⟨z11, hz11, hf⟩ := bnd hf
            refine x_rdV (C := RX4) (n := 1) (ci := 4) hx hb hml hown hts hE (ct_X4_saidOf N l G cI cZ cO (sh q 17) wI wA x1 z11 hz11) (bg 12 12 rfl) mb_X4_saidOf.1 mb_X4_saidOf.2.1 mb_X4_saidOf.2.2.1 mb_X4_saidOf.2.2.2 hd_X4_saidOf rfl (by decide) (x_cut hP [17, 18, 19, 20] rfl) rfl rfl rfl rfl hl.1 (Nat.le_of_ble_eq_true rfl) ⟨Nat.zero_le _, Nat.zero_le _⟩ dX6_rumour_98 ?_
            have e9 := Option.some.inj hf
            exact fin 101 ls _ e9 (nar_i _) dX6_rumour_101
          · rw [if_neg c10] at hf
            by_cases c12 : x2 = 4
            · rw [if_pos c12] at hf
              refine x_tsw (tgt := 102) hx hb c12 dX6_rumour_14 (by decide) (by decide) rfl (by decide) ?_
              refine lv_aload_n hx hb dX6_rumour_102 rfl (lv_at hl 0 rfl) ?_
              refine va_get (D := G) (ci := 6) (v := .ref (q 17)) (C := RX6) (T := TX6) (N := 15) hx hb hts inlX6 hown hE.1 hP 0 rfl rfl 3 (by decide) (hts _ (bg 1 1 rfl)) (fun _ h9 => h9) rfl dX6_rumour_103 ?_
              refine lv_iload_n hx hb dX6_rumour_106 rfl (lv_at hl 1 rfl) ?_
              obtain ⟨z13, hz13, hf⟩ := bnd hf
              refine x_rdV (C := RX4) (n := 1) (ci := 4) hx hb hml hown hts hE (ct_X4_deniedOf N l G cI cZ cO (sh q 17) wI wA x1 z13 hz13) (bg 12 18 rfl) mb_X4_deniedOf.1 mb_X4_deniedOf.2.1 mb_X4_deniedOf.2.2.1 mb_X4_deniedOf.2.2.2 hd_X4_deniedOf rfl (by decide) (x_cut hP [17, 18, 19, 20] rfl) rfl rfl rfl rfl hl.1 (Nat.le_of_ble_eq_true rfl) ⟨Nat.zero_le _, Nat.zero_le _⟩ dX6_rumour_107 ?_
              have e9 := Option.some.inj hf
              exact fin 110 ls _ e9 (nar_i _) dX6_rumour_110
            · rw [if_neg c12] at hf
              by_cases c14 : x2 = 5
              · rw [if_pos c14] at hf
                refine x_tsw (tgt := 111) hx hb c14 dX6_rumour_14 (by decide) (by decide) rfl (by decide) ?_
                refine lv_aload_n hx hb dX6_rumour_111 rfl (lv_at hl 0 rfl) ?_
                refine va_get (D := G) (ci := 6) (v := .ref (q 3)) (C := RX6) (T := TX6) (N := 15) hx hb hts inlX6 hown hE.1 hP 0 rfl rfl 1 (by decide) (hts _ (bg 0 20 rfl)) (fun _ h9 => h9) rfl dX6_rumour_112 ?_
                refine va_get (D := G) (ci := 5) (v := .ref (q 7)) (C := RX5) (T := TX5) (N := 8) hx hb hts inlX5 hown hE.1 hP 3 rfl rfl 3 (by decide) (hts _ (bg 12 5 rfl)) (fun _ h9 => h9) rfl dX6_rumour_115 ?_
                refine lv_iload_n hx hb dX6_rumour_118 rfl (lv_at hl 1 rfl) ?_
                obtain ⟨v15, hv15, hf⟩ := bnd hf
                refine x_iald hx hb hE.1 hP 7 0 rfl rfl hv15 dX6_rumour_119 ?_
                have e9 := Option.some.inj hf
                exact fin 120 ls _ e9 (nar_i _) dX6_rumour_120
              · rw [if_neg c14] at hf
                by_cases c16 : x2 = 6
                · rw [if_pos c16] at hf
                  refine x_tsw (tgt := 121) hx hb c16 dX6_rumour_14 (by decide) (by decide) rfl (by decide) ?_
                  refine lv_aload_n hx hb dX6_rumour_121 rfl (lv_at hl 0 rfl) ?_
                  refine va_get (D := G) (ci := 6) (v := .ref (q 3)) (C := RX6) (T := TX6) (N := 15) hx hb hts inlX6 hown hE.1 hP 0 rfl rfl 1 (by decide) (hts _ (bg 0 20 rfl)) (fun _ h9 => h9) rfl dX6_rumour_122 ?_
                  refine lv_iload_n hx hb dX6_rumour_125 rfl (lv_at hl 1 rfl) ?_
                  refine lv_aload_n hx hb dX6_rumour_126 rfl (lv_at hl 0 rfl) ?_
                  refine va_get (D := G) (ci := 6) (v := .ref (q 17)) (C := RX6) (T := TX6) (N := 15) hx hb hts inlX6 hown hE.1 hP 0 rfl rfl 3 (by decide) (hts _ (bg 1 1 rfl)) (fun _ h9 => h9) rfl dX6_rumour_127 ?_
                  refine va_get (D := G) (ci := 4) (v := .int ((wI 0))) (C := RX4) (T := TX4) (N := 4) hx hb hts inlX4 hown hE.1 hP 17 rfl rfl 3 (by decide) (hts _ (bg 12 6 rfl)) (fun _ h9 => h9) rfl dX6_rumour_130 ?_
                  obtain ⟨z17, hz17, hf⟩ := bnd hf
                  refine x_rdV (C := RX5) (n := 2) (ci := 5) hx hb hml hown hts hE (ct_X5_isProved N l G cI cZ cO (sh q 3) tI tA x1 (wI 0) z17 hz17) (bg 12 22 rfl) mb_X5_isProved.1 mb_X5_isProved.2.1 mb_X5_isProved.2.2.1 mb_X5_isProved.2.2.2 hd_X5_isProved rfl (by decide) (x_cut hP [3, 4, 5, 6, 7, 8, 9] rfl) rfl rfl rfl rfl hl.1 (Nat.le_of_ble_eq_true rfl) ⟨Nat.zero_le _, Nat.zero_le _⟩ dX6_rumour_133 ?_
                  refine lv_if_eq (tgt := 143) hx hb dX6_rumour_136 (by decide) (fun c18 => ?_) (fun c18 => ?_)
                  · rw [if_pos c18] at hf
                    refine lv_iconst (v := 0) hx hb dX6_rumour_143 (by decide) ?_
                    exact b_144 0 ls (lv_sub hl [] rfl) hf
                  · rw [if_neg c18] at hf
                    refine lv_iconst (v := 1) hx hb dX6_rumour_139 (by decide) ?_
                    refine lv_goto (tgt := 144) hx hb dX6_rumour_140 (by decide) ?_
                    exact b_144 1 ls (lv_sub hl [] rfl) hf
                · rw [if_neg c16] at hf
                  refine lv_tableOut (tgt := 145) hx hb dX6_rumour_14 (by have tc3 := lv_neT (a := 0) c3 (by decide); have tc5 := lv_neT (a := 1) c5 (by decide); have tc8 := lv_neT (a := 2) c8 (by decide); have tc10 := lv_neT (a := 3) c10 (by decide); have tc12 := lv_neT (a := 4) c12 (by decide); have tc14 := lv_neT (a := 5) c14 (by decide); have tc16 := lv_neT (a := 6) c16 (by decide); omega) (by decide) ?_
                  refine lv_bipush (v := (-2)) hx hb dX6_rumour_145 (by decide) ?_
                  have e9 := Option.some.inj hf
                  exact fin 147 ls _ e9 (nar_i _) dX6_rumour_147
  · rw [if_pos c2] at hf
    refine lv_iconst (v := (-1)) hx hb dX6_rumour_11 (by decide) ?_
    have e9 := Option.some.inj hf
    exact fin 12 ls _ e9 (nar_i _) dX6_rumour_12
