def fX7_share_191 (N : Nat) (I : Nat → Int32) (A : Nat → Nat → Int32) (y0 : Int32) : Option (Int32 × (Nat → Nat → Int32)) := some (y0, A)
def fX7_share_152 (N : Nat) (k_73 : (Nat → Int32) → (Nat → Nat → Int32) → Int32 → Int32 → Int32 → Int32 → Int32 → Int32 → Int32 → Int32 → Option (Int32 × (Nat → Nat → Int32))) (I : Nat → Int32) (A : Nat → Nat → Int32) (u1 : Int32) (u2 : Int32) (u3 : Int32) (u4 : Int32) (u5 : Int32) (u6 : Int32) (u7 : Int32) (u8 : Int32) : Option (Int32 × (Nat → Nat → Int32)) := k_73 I A u1 u2 u3 u4 u5 u6 u7 (u8 + 1)
def fX7_share_73s (N : Nat) (k_73 : (Nat → Int32) → (Nat → Nat → Int32) → Int32 → Int32 → Int32 → Int32 → Int32 → Int32 → Int32 → Int32 → Option (Int32 × (Nat → Nat → Int32))) (I : Nat → Int32) (A : Nat → Nat → Int32) (u1 : Int32) (u2 : Int32) (u3 : Int32) (u4 : Int32) (u5 : Int32) (u6 : Int32) (u7 : Int32) (u8 : Int32) : Option (Int32 × (Nat → Nat → Int32)) := if 63 < u8 then (fX7_factorial N u6).bind fun z2 => (fX7_common N u7 z2).bind fun z3 => if u4 = 0 then (fX7_factorial N u6).bind fun z5 => (nz z3).bind fun v6 => fX7_share_191 N I A (z5 / v6) else (nz z3).bind fun v7 => fX7_share_191 N I A (u7 / v7) else if (u8 &&& (u5 ^^^ (-1))) = 0 then (fX7_has N u8 u1).bind fun z9 => if z9 = 0 then (fX7_ones N u8).bind fun z11 => (fX7_factorial N z11).bind fun z12 => (fX7_ones N u8).bind fun z13 => (fX7_factorial N ((u6 - 1) - z13)).bind fun z14 => (fX7_worthBy N I A u2 (u8 ||| (shl 1 u1)) u3).bind fun z15 => (fX7_worthBy N I z15.2 u2 u8 u3).bind fun z16 => fX7_share_152 N k_73 I z16.2 u1 u2 u3 u4 u5 u6 (u7 + ((z12 * z14) * (z15.1 - z16.1))) u8 else fX7_share_152 N k_73 I A u1 u2 u3 u4 u5 u6 u7 u8 else fX7_share_152 N k_73 I A u1 u2 u3 u4 u5 u6 u7 u8
def fX7_share_73 (N : Nat) : Nat → (Nat → Int32) → (Nat → Nat → Int32) → Int32 → Int32 → Int32 → Int32 → Int32 → Int32 → Int32 → Int32 → Option (Int32 × (Nat → Nat → Int32))
  | 0 => fun _ _ _ _ _ _ _ _ _ _ => none
  | n + 1 => fX7_share_73s N (fX7_share_73 N n)
def fX7_share_59 (N : Nat) (I : Nat → Int32) (A : Nat → Nat → Int32) (y0 : Int32) : Option (Int32 × (Nat → Nat → Int32)) := some (y0, A)
def fX7_share_29 (N : Nat) (I : Nat → Int32) (A : Nat → Nat → Int32) : Option (Int32 × (Nat → Nat → Int32)) := some ((-2), A)
def fX7_share (N : Nat) (I : Nat → Int32) (A : Nat → Nat → Int32) (x1 : Int32) (x2 : Int32) (x3 : Int32) (x4 : Int32) : Option (Int32 × (Nat → Nat → Int32)) := (fX7_isRumour N I x2).bind fun z1 => if z1 = 0 then some ((-1), A) else (fX7_isTable N x1).bind fun z3 => if z3 = 0 then fX7_share_29 N I A else (fX7_in N (Int32.toInt64 x3) 0 8).bind fun z5 => if z5 = 0 then fX7_share_29 N I A else (rd 62 (A 5) x2).bind fun v7 => (fX7_has N v7 x1).bind fun z8 => if z8 = 0 then if x4 = 0 then fX7_share_59 N I A 1 else fX7_share_59 N I A 0 else (fX7_ones N v7).bind fun z10 => fX7_share_73 N N I A x1 x2 x3 x4 v7 z10 0 0
def rmX7_share : Room := { frames := 4, cells := 0, slots := 0, locals := 94 }
theorem mb_X7_share : Cond.instanceMethod yX7_share ∈ wsL_law ∧ Cond.selects RX7 yX7_share yX7_share ∈ wsL_law ∧ Cond.initialized RX7 ∈ wsL_law ∧ Cond.code yX7_share cX7_share 10 (some .int) ∈ wsL_law := ⟨(bg 32 6 rfl), (bg 32 7 rfl), (bg 0 5 rfl), (bg 32 8 rfl)⟩
theorem hd_X7_share : yX7_share.cls = RX7 ∧ yX7_share.cls ≠ "java/lang/invoke/MethodHandle" ∧ yX7_share.cls ≠ "java/lang/invoke/VarHandle" ∧ (parseMethodDescriptor yX7_share.desc).map (fun d => d.parameters.length) = some 4 := by decide +kernel
set_option maxRecDepth 100000 in
set_option maxHeartbeats 4000000 in
theorem ct_X7_share (N : Nat) (l : Launch) (G : va_G) (cI cZ cO : ClassId) (q : Nat → Nat) (I : Nat → Int32) (A : Nat → Nat → Int32) (L : Int64) (x1 : Int32) (x2 : Int32) (x3 : Int32) (x4 : Int32) (r : Int32) (Az : Nat → Nat → Int32) (hf : fX7_share N I A x1 x2 x3 x4 = some (r, Az)) : CtI l yX7_share cX7_share 10 .int rmX7_share G cI cZ cO [.ref (q 0), .int x1, .int x2, .int x3, .int x4] (wX7 q cI cZ cO I A L) (wX7 q cI cZ cO I Az L) r := by
  refine mkCI (by decide) (Nat.le_of_ble_eq_true rfl) ?_
  intro p e s m below meth cd Q Z hC hP hE hD hA fin ls hl
  obtain ⟨hx, hb, hml, hown, hts⟩ := hC
  have hown : s.vm.findClass RX7 = some m.cls := hown
  have hl : lv_has ls 10 [(0, .ref (q 0)), (1, .int x1), (2, .int x2), (3, .int x3), (4, .int x4)] := hl
  have b_191 : ∀ (A : Nat → Nat → Int32) (y0 : Int32), ∀ (H : Heap) (locs : List Loc), va_P G vwCl (wX7 q cI cZ cO I A L) H → va_D Z (wX7 q cI cZ cO I A L) → va_S Z s.heap H locs → ∀ ls : Array Slot, lv_has ls 10 [] → fX7_share_191 N I A y0 = some (r, Az) → W p l e rmX7_share s m [.ref (q 0), .int x1, .int x2, .int x3, .int x4].toArray below meth cd H locs 0 0 Q (F0 m 191 ls [.int y0]) := by
    intro A y0 H locs hP hD hS ls hl hf
    unfold fX7_share_191 at hf
    have e9 := Option.some.inj hf
    exact fin H locs 191 ls _ (Prod.mk.inj e9).1 (nar_i _) (by rw [← (Prod.mk.inj e9).2]; exact hP) hS dX7_share_191
  have b_152 : ∀ (k_73 : (Nat → Int32) → (Nat → Nat → Int32) → Int32 → Int32 → Int32 → Int32 → Int32 → Int32 → Int32 → Int32 → Option (Int32 × (Nat → Nat → Int32))) (hk_73 : ∀ (A : Nat → Nat → Int32) (u1 : Int32) (u2 : Int32) (u3 : Int32) (u4 : Int32) (u5 : Int32) (u6 : Int32) (u7 : Int32) (u8 : Int32), ∀ (H : Heap) (locs : List Loc), va_P G vwCl (wX7 q cI cZ cO I A L) H → va_D Z (wX7 q cI cZ cO I A L) → va_S Z s.heap H locs → ∀ ls : Array Slot, lv_has ls 10 [(0, .ref (q 0)), (1, .int u1), (2, .int u2), (3, .int u3), (4, .int u4), (5, .int u5), (6, .int u6), (7, .int u7), (8, .int u8)] → k_73 I A u1 u2 u3 u4 u5 u6 u7 u8 = some (r, Az) → W p l e rmX7_share s m [.ref (q 0), .int x1, .int x2, .int x3, .int x4].toArray below meth cd H locs 0 0 Q (F0 m 73 ls [])), ∀ (A : Nat → Nat → Int32) (u1 : Int32) (u2 : Int32) (u3 : Int32) (u4 : Int32) (u5 : Int32) (u6 : Int32) (u7 : Int32) (u8 : Int32), ∀ (H : Heap) (locs : List Loc), va_P G vwCl (wX7 q cI cZ cO I A L) H → va_D Z (wX7 q cI cZ cO I A L) → va_S Z s.heap H locs → ∀ ls : Array Slot, lv_has ls 10 [(0, .ref (q 0)), (1, .int u1), (2, .int u2), (3, .int u3), (4, .int u4), (5, .int u5), (6, .int u6), (7, .int u7), (8, .int u8)] → fX7_share_152 N k_73 I A u1 u2 u3 u4 u5 u6 u7 u8 = some (r, Az) → W p l e rmX7_share s m [.ref (q 0), .int x1, .int x2, .int x3, .int x4].toArray below meth cd H locs 0 0 Q (F0 m 152 ls []) := by
    intro k_73 hk_73 A u1 u2 u3 u4 u5 u6 u7 u8 H locs hP hD hS ls hl hf
    unfold fX7_share_152 at hf
    refine lv_iinc (v := u8 + 1) (lv' := [(8, .int (u8 + 1)), (0, .ref (q 0)), (1, .int u1), (2, .int u2), (3, .int u3), (4, .int u4), (5, .int u5), (6, .int u6), (7, .int u7)]) hx hb dX7_share_152 hl (k := 8) rfl rfl (by decide) rfl (fun ls hl => ?_)
    refine lv_goto (tgt := 73) hx hb dX7_share_155 (by decide) ?_
    exact hk_73 A u1 u2 u3 u4 u5 u6 u7 (u8 + 1) H locs hP hD hS ls (lv_sub hl [1, 2, 3, 4, 5, 6, 7, 8, 0] rfl) hf
  have b_73 : ∀ n : Nat, ∀ (A : Nat → Nat → Int32) (u1 : Int32) (u2 : Int32) (u3 : Int32) (u4 : Int32) (u5 : Int32) (u6 : Int32) (u7 : Int32) (u8 : Int32), ∀ (H : Heap) (locs : List Loc), va_P G vwCl (wX7 q cI cZ cO I A L) H → va_D Z (wX7 q cI cZ cO I A L) → va_S Z s.heap H locs → ∀ ls : Array Slot, lv_has ls 10 [(0, .ref (q 0)), (1, .int u1), (2, .int u2), (3, .int u3), (4, .int u4), (5, .int u5), (6, .int u6), (7, .int u7), (8, .int u8)] → fX7_share_73 N n I A u1 u2 u3 u4 u5 u6 u7 u8 = some (r, Az) → W p l e rmX7_share s m [.ref (q 0), .int x1, .int x2, .int x3, .int x4].toArray below meth cd H locs 0 0 Q (F0 m 73 ls []) := by
    intro n
    induction n with
    | zero =>
      intro A u1 u2 u3 u4 u5 u6 u7 u8 H locs hP hD hS ls hl hf
      cases hf
    | succ n hk_73 =>
      intro A u1 u2 u3 u4 u5 u6 u7 u8 H locs hP hD hS ls hl hf
      replace hf : fX7_share_73s N (fX7_share_73 N n) I A u1 u2 u3 u4 u5 u6 u7 u8 = some (r, Az) := hf
      generalize fX7_share_73 N n = k_73 at hf hk_73
      unfold fX7_share_73s at hf
      refine lv_iload hx hb dX7_share_73 (lv_at hl 8 rfl) ?_
      refine lv_bipush (v := 63) hx hb dX7_share_75 (by decide) ?_
      refine lv_icmp_gt (tgt := 158) hx hb dX7_share_77 (by decide) (fun c1 => ?_) (fun c1 => ?_)
      · rw [if_pos c1] at hf
        refine lv_iload hx hb dX7_share_158 (lv_at hl 7 rfl) ?_
        refine lv_iload hx hb dX7_share_160 (lv_at hl 6 rfl) ?_
        obtain ⟨z2, hz2, hf⟩ := bnd hf
        refine x_rdS (n := 1) hx hb hml hown hts hE (ct_X7_factorial N l G cI cZ cO u6 z2 hz2) (bg 32 9 rfl) mb_X7_factorial.1 mb_X7_factorial.2.1 mb_X7_factorial.2.2 hd_X7_factorial rfl (by decide) va_P_nil rfl hl.1 (Nat.le_of_ble_eq_true rfl) ⟨Nat.zero_le _, Nat.zero_le _⟩ dX7_share_162 ?_
        obtain ⟨z3, hz3, hf⟩ := bnd hf
        refine x_rdS (n := 2) hx hb hml hown hts hE (ct_X7_common N l G cI cZ cO u7 z2 z3 hz3) (bg 32 16 rfl) mb_X7_common.1 mb_X7_common.2.1 mb_X7_common.2.2 hd_X7_common rfl (by decide) va_P_nil rfl hl.1 (Nat.le_of_ble_eq_true rfl) ⟨Nat.zero_le _, Nat.zero_le _⟩ dX7_share_165 ?_
        refine lv_istore (lv' := [(8, .int z3), (0, .ref (q 0)), (1, .int u1), (2, .int u2), (3, .int u3), (4, .int u4), (5, .int u5), (6, .int u6), (7, .int u7)]) hx hb dX7_share_168 hl (by decide) rfl (fun ls hl => ?_)
        refine lv_iload hx hb dX7_share_170 (lv_at hl 5 rfl) ?_
        refine lv_if_eq (tgt := 183) hx hb dX7_share_172 (by decide) (fun c4 => ?_) (fun c4 => ?_)
        · rw [if_pos c4] at hf
          refine lv_iload hx hb dX7_share_183 (lv_at hl 7 rfl) ?_
          obtain ⟨z5, hz5, hf⟩ := bnd hf
          refine x_rdS (n := 1) hx hb hml hown hts hE (ct_X7_factorial N l G cI cZ cO u6 z5 hz5) (bg 32 9 rfl) mb_X7_factorial.1 mb_X7_factorial.2.1 mb_X7_factorial.2.2 hd_X7_factorial rfl (by decide) va_P_nil rfl hl.1 (Nat.le_of_ble_eq_true rfl) ⟨Nat.zero_le _, Nat.zero_le _⟩ dX7_share_185 ?_
          refine lv_iload hx hb dX7_share_188 (lv_at hl 0 rfl) ?_
          obtain ⟨v6, hv6, hf⟩ := bnd hf
          obtain ⟨ev6, hv6⟩ := nz_in hv6
          rw [ev6]
          refine lv_idiv hx hb dX7_share_190 hv6 ?_
          exact b_191 A (z5 / v6) H locs hP hD hS ls (lv_sub hl [] rfl) hf
        · rw [if_neg c4] at hf
          refine lv_iload hx hb dX7_share_175 (lv_at hl 8 rfl) ?_
          refine lv_iload hx hb dX7_share_177 (lv_at hl 0 rfl) ?_
          obtain ⟨v7, hv7, hf⟩ := bnd hf
          obtain ⟨ev7, hv7⟩ := nz_in hv7
          rw [ev7]
          refine lv_idiv hx hb dX7_share_179 hv7 ?_
          refine lv_goto (tgt := 191) hx hb dX7_share_180 (by decide) ?_
          exact b_191 A (u7 / v7) H locs hP hD hS ls (lv_sub hl [] rfl) hf
      · rw [if_neg c1] at hf
        refine lv_iload hx hb dX7_share_80 (lv_at hl 8 rfl) ?_
        refine lv_iload hx hb dX7_share_82 (lv_at hl 5 rfl) ?_
        refine lv_iconst (v := (-1)) hx hb dX7_share_84 (by decide) ?_
        refine lv_ixor hx hb dX7_share_85 ?_
        refine lv_iand hx hb dX7_share_86 ?_
        refine lv_if_ne (tgt := 152) hx hb dX7_share_87 (by decide) (fun c8 => ?_) (fun c8 => ?_)
        · rw [if_neg c8] at hf
          exact b_152 k_73 hk_73 A u1 u2 u3 u4 u5 u6 u7 u8 H locs hP hD hS ls (lv_sub hl [0, 1, 2, 3, 4, 5, 6, 7, 8] rfl) hf
        · rw [if_pos c8] at hf
          refine lv_iload hx hb dX7_share_90 (lv_at hl 8 rfl) ?_
          refine lv_iload_n hx hb dX7_share_92 rfl (lv_at hl 1 rfl) ?_
          obtain ⟨z9, hz9, hf⟩ := bnd hf
          refine x_rdS (n := 2) hx hb hml hown hts hE (ct_X7_has N l G cI cZ cO u8 u1 z9 hz9) (bg 10 12 rfl) mb_X7_has.1 mb_X7_has.2.1 mb_X7_has.2.2 hd_X7_has rfl (by decide) va_P_nil rfl hl.1 (Nat.le_of_ble_eq_true rfl) ⟨Nat.zero_le _, Nat.zero_le _⟩ dX7_share_93 ?_
          refine lv_if_ne (tgt := 152) hx hb dX7_share_96 (by decide) (fun c10 => ?_) (fun c10 => ?_)
          · rw [if_neg c10] at hf
            exact b_152 k_73 hk_73 A u1 u2 u3 u4 u5 u6 u7 u8 H locs hP hD hS ls (lv_sub hl [0, 1, 2, 3, 4, 5, 6, 7, 8] rfl) hf
          · rw [if_pos c10] at hf
            refine lv_iload hx hb dX7_share_99 (lv_at hl 8 rfl) ?_
            obtain ⟨z11, hz11, hf⟩ := bnd hf
            refine x_rdS (n := 1) hx hb hml hown hts hE (ct_X7_ones N l G cI cZ cO u8 z11 hz11) (bg 18 21 rfl) mb_X7_ones.1 mb_X7_ones.2.1 mb_X7_ones.2.2 hd_X7_ones rfl (by decide) va_P_nil rfl hl.1 (Nat.le_of_ble_eq_true rfl) ⟨Nat.zero_le _, Nat.zero_le _⟩ dX7_share_101 ?_
            obtain ⟨z12, hz12, hf⟩ := bnd hf
            refine x_rdS (n := 1) hx hb hml hown hts hE (ct_X7_factorial N l G cI cZ cO z11 z12 hz12) (bg 32 9 rfl) mb_X7_factorial.1 mb_X7_factorial.2.1 mb_X7_factorial.2.2 hd_X7_factorial rfl (by decide) va_P_nil rfl hl.1 (Nat.le_of_ble_eq_true rfl) ⟨Nat.zero_le _, Nat.zero_le _⟩ dX7_share_104 ?_
            refine lv_iload hx hb dX7_share_107 (lv_at hl 6 rfl) ?_
            refine lv_iconst (v := 1) hx hb dX7_share_109 (by decide) ?_
            refine lv_isub hx hb dX7_share_110 ?_
            refine lv_iload hx hb dX7_share_111 (lv_at hl 8 rfl) ?_
            obtain ⟨z13, hz13, hf⟩ := bnd hf
            refine x_rdS (n := 1) hx hb hml hown hts hE (ct_X7_ones N l G cI cZ cO u8 z13 hz13) (bg 18 21 rfl) mb_X7_ones.1 mb_X7_ones.2.1 mb_X7_ones.2.2 hd_X7_ones rfl (by decide) va_P_nil rfl hl.1 (Nat.le_of_ble_eq_true rfl) ⟨Nat.zero_le _, Nat.zero_le _⟩ dX7_share_113 ?_
            refine lv_isub hx hb dX7_share_116 ?_
            obtain ⟨z14, hz14, hf⟩ := bnd hf
            refine x_rdS (n := 1) hx hb hml hown hts hE (ct_X7_factorial N l G cI cZ cO ((u6 - 1) - z13) z14 hz14) (bg 32 9 rfl) mb_X7_factorial.1 mb_X7_factorial.2.1 mb_X7_factorial.2.2 hd_X7_factorial rfl (by decide) va_P_nil rfl hl.1 (Nat.le_of_ble_eq_true rfl) ⟨Nat.zero_le _, Nat.zero_le _⟩ dX7_share_117 ?_
            refine lv_imul hx hb dX7_share_120 ?_
            refine lv_istore (lv' := [(9, .int (z12 * z14)), (0, .ref (q 0)), (1, .int u1), (2, .int u2), (3, .int u3), (4, .int u4), (5, .int u5), (6, .int u6), (7, .int u7), (8, .int u8)]) hx hb dX7_share_121 hl (by decide) rfl (fun ls hl => ?_)
            refine lv_iload hx hb dX7_share_123 (lv_at hl 8 rfl) ?_
            refine lv_iload hx hb dX7_share_125 (lv_at hl 0 rfl) ?_
            refine lv_aload_n hx hb dX7_share_127 rfl (lv_at hl 1 rfl) ?_
            refine lv_iload_n hx hb dX7_share_128 rfl (lv_at hl 3 rfl) ?_
            refine lv_iload hx hb dX7_share_129 (lv_at hl 9 rfl) ?_
            refine lv_iconst (v := 1) hx hb dX7_share_131 (by decide) ?_
            refine lv_iload_n hx hb dX7_share_132 rfl (lv_at hl 2 rfl) ?_
            refine x_ishl hx hb dX7_share_133 ?_
            refine lv_ior hx hb dX7_share_134 ?_
            refine lv_iload_n hx hb dX7_share_135 rfl (lv_at hl 4 rfl) ?_
            obtain ⟨z15, hz15, hf⟩ := bnd hf
            refine x_wwV (C := RX7) (n := 3) (ci := 7) hx hb hml hown hts hE (ct_X7_worthBy N l G cI cZ cO q I A L u2 (u8 ||| (shl 1 u1)) u3 z15.1 z15.2 hz15) (bg 32 12 rfl) mb_X7_worthBy.1 mb_X7_worthBy.2.1 mb_X7_worthBy.2.2.1 mb_X7_worthBy.2.2.2 hd_X7_worthBy rfl (by decide) hP hD hS hA rfl rfl rfl rfl rfl hl.1 (Nat.le_of_ble_eq_true rfl) ⟨Nat.zero_le _, Nat.zero_le _⟩ dX7_share_136 (fun H locs hP hD hS => ?_)
            have hP : va_P G vwCl (wX7 q cI cZ cO I z15.2 L) H := hP
            have hD : va_D Z (wX7 q cI cZ cO I z15.2 L) := hD
            refine lv_aload_n hx hb dX7_share_139 rfl (lv_at hl 1 rfl) ?_
            refine lv_iload_n hx hb dX7_share_140 rfl (lv_at hl 3 rfl) ?_
            refine lv_iload hx hb dX7_share_141 (lv_at hl 9 rfl) ?_
            refine lv_iload_n hx hb dX7_share_143 rfl (lv_at hl 4 rfl) ?_
            obtain ⟨z16, hz16, hf⟩ := bnd hf
            refine x_wwV (C := RX7) (n := 3) (ci := 7) hx hb hml hown hts hE (ct_X7_worthBy N l G cI cZ cO q I z15.2 L u2 u8 u3 z16.1 z16.2 hz16) (bg 32 12 rfl) mb_X7_worthBy.1 mb_X7_worthBy.2.1 mb_X7_worthBy.2.2.1 mb_X7_worthBy.2.2.2 hd_X7_worthBy rfl (by decide) hP hD hS hA rfl rfl rfl rfl rfl hl.1 (Nat.le_of_ble_eq_true rfl) ⟨Nat.zero_le _, Nat.zero_le _⟩ dX7_share_144 (fun H locs hP hD hS => ?_)
            have hP : va_P G vwCl (wX7 q cI cZ cO I z16.2 L) H := hP
            have hD : va_D Z (wX7 q cI cZ cO I z16.2 L) := hD
            refine lv_isub hx hb dX7_share_147 ?_
            refine lv_imul hx hb dX7_share_148 ?_
            refine lv_iadd hx hb dX7_share_149 ?_
            refine lv_istore (lv' := [(7, .int (u7 + ((z12 * z14) * (z15.1 - z16.1)))), (9, .int (z12 * z14)), (0, .ref (q 0)), (1, .int u1), (2, .int u2), (3, .int u3), (4, .int u4), (5, .int u5), (6, .int u6), (8, .int u8)]) hx hb dX7_share_150 hl (by decide) rfl (fun ls hl => ?_)
            exact b_152 k_73 hk_73 z16.2 u1 u2 u3 u4 u5 u6 (u7 + ((z12 * z14) * (z15.1 - z16.1))) u8 H locs hP hD hS ls (lv_sub hl [2, 3, 4, 5, 6, 7, 8, 0, 9] rfl) hf
  have b_59 : ∀ (A : Nat → Nat → Int32) (y0 : Int32), ∀ (H : Heap) (locs : List Loc), va_P G vwCl (wX7 q cI cZ cO I A L) H → va_D Z (wX7 q cI cZ cO I A L) → va_S Z s.heap H locs → ∀ ls : Array Slot, lv_has ls 10 [] → fX7_share_59 N I A y0 = some (r, Az) → W p l e rmX7_share s m [.ref (q 0), .int x1, .int x2, .int x3, .int x4].toArray below meth cd H locs 0 0 Q (F0 m 59 ls [.int y0]) := by
    intro A y0 H locs hP hD hS ls hl hf
    unfold fX7_share_59 at hf
    have e9 := Option.some.inj hf
    exact fin H locs 59 ls _ (Prod.mk.inj e9).1 (nar_i _) (by rw [← (Prod.mk.inj e9).2]; exact hP) hS dX7_share_59
  have b_29 : ∀ (A : Nat → Nat → Int32), ∀ (H : Heap) (locs : List Loc), va_P G vwCl (wX7 q cI cZ cO I A L) H → va_D Z (wX7 q cI cZ cO I A L) → va_S Z s.heap H locs → ∀ ls : Array Slot, lv_has ls 10 [] → fX7_share_29 N I A = some (r, Az) → W p l e rmX7_share s m [.ref (q 0), .int x1, .int x2, .int x3, .int x4].toArray below meth cd H locs 0 0 Q (F0 m 29 ls []) := by
    intro A H locs hP hD hS ls hl hf
    unfold fX7_share_29 at hf
    refine lv_bipush (v := (-2)) hx hb dX7_share_29 (by decide) ?_
    have e9 := Option.some.inj hf
    exact fin H locs 31 ls _ (Prod.mk.inj e9).1 (nar_i _) (by rw [← (Prod.mk.inj e9).2]; exact hP) hS dX7_share_31
  unfold fX7_share at hf
  have hS : va_S Z s.heap s.heap [] := va_S.rf
  obtain ⟨H, hH⟩ : ∃ H, H = s.heap := ⟨_, rfl⟩
  obtain ⟨locs, hlocs⟩ : ∃ locs : List Loc, locs = [] := ⟨_, rfl⟩
  rw [← hlocs]
  rw [← hlocs] at hS
  suffices hW : ∀ H : Heap, va_P G vwCl (wX7 q cI cZ cO I A L) H → va_S Z s.heap H locs → W p l e rmX7_share s m [.ref (q 0), .int x1, .int x2, .int x3, .int x4].toArray below meth cd H locs 0 0 Q (F0 m 0 ls []) from hW s.heap hP hS
  clear hP hS hH H
  intro H hP hS
  refine lv_aload_n hx hb dX7_share_0 rfl (lv_at hl 0 rfl) ?_
  refine lv_iload_n hx hb dX7_share_1 rfl (lv_at hl 2 rfl) ?_
  obtain ⟨z1, hz1, hf⟩ := bnd hf
  refine x_rdV (C := RX7) (n := 1) (ci := 7) hx hb hml hown hts hE (ct_X7_isRumour N l G cI cZ cO q I A L x2 z1 hz1) (bg 13 6 rfl) mb_X7_isRumour.1 mb_X7_isRumour.2.1 mb_X7_isRumour.2.2.1 mb_X7_isRumour.2.2.2 hd_X7_isRumour rfl (by decide) hP rfl rfl rfl rfl hl.1 (Nat.le_of_ble_eq_true rfl) ⟨Nat.zero_le _, Nat.zero_le _⟩ dX7_share_2 ?_
  refine lv_if_ne (tgt := 10) hx hb dX7_share_5 (by decide) (fun c2 => ?_) (fun c2 => ?_)
  · rw [if_neg c2] at hf
    refine lv_iload_n hx hb dX7_share_10 rfl (lv_at hl 1 rfl) ?_
    obtain ⟨z3, hz3, hf⟩ := bnd hf
    refine x_rdS (n := 1) hx hb hml hown hts hE (ct_X7_isTable N l G cI cZ cO x1 z3 hz3) (bg 18 13 rfl) mb_X7_isTable.1 mb_X7_isTable.2.1 mb_X7_isTable.2.2 hd_X7_isTable rfl (by decide) va_P_nil rfl hl.1 (Nat.le_of_ble_eq_true rfl) ⟨Nat.zero_le _, Nat.zero_le _⟩ dX7_share_11 ?_
    refine lv_if_eq (tgt := 29) hx hb dX7_share_14 (by decide) (fun c4 => ?_) (fun c4 => ?_)
    · rw [if_pos c4] at hf
      exact b_29 A H locs hP hD hS ls (lv_sub hl [] rfl) hf
    · rw [if_neg c4] at hf
      refine lv_iload_n hx hb dX7_share_17 rfl (lv_at hl 3 rfl) ?_
      refine lv_i2l (v := Int32.toInt64 x3) hx hb dX7_share_18 rfl ?_
      refine lv_lconst (v := 0) hx hb dX7_share_19 (by decide) ?_
      refine lv_ldc2 hx hb hown (hts _ (bg 23 1 rfl)) dX7_share_20 ?_
      obtain ⟨z5, hz5, hf⟩ := bnd hf
      refine x_rdS (n := 3) hx hb hml hown hts hE (ct_X7_in N l G cI cZ cO (Int32.toInt64 x3) 0 8 z5 hz5) (bg 5 9 rfl) mb_X7_in.1 mb_X7_in.2.1 mb_X7_in.2.2 hd_X7_in rfl (by decide) va_P_nil rfl hl.1 (Nat.le_of_ble_eq_true rfl) ⟨Nat.zero_le _, Nat.zero_le _⟩ dX7_share_23 ?_
      refine lv_if_ne (tgt := 32) hx hb dX7_share_26 (by decide) (fun c6 => ?_) (fun c6 => ?_)
      · rw [if_neg c6] at hf
        refine lv_aload_n hx hb dX7_share_32 rfl (lv_at hl 0 rfl) ?_
        refine va_get (D := G) (ci := 7) (v := .ref (q 6)) (C := RX7) (T := TX7) (N := 33) hx hb hts inlX7 hown hE.1 hP 0 rfl rfl 7 (by decide) (hts _ (bg 3 19 rfl)) (fun _ h9 => h9) rfl dX7_share_33 ?_
        refine lv_iload_n hx hb dX7_share_36 rfl (lv_at hl 2 rfl) ?_
        obtain ⟨v7, hv7, hf⟩ := bnd hf
        refine x_iald hx hb hE.1 hP 6 0 rfl rfl hv7 dX7_share_37 ?_
        refine lv_istore (lv' := [(5, .int v7), (0, .ref (q 0)), (1, .int x1), (2, .int x2), (3, .int x3), (4, .int x4)]) hx hb dX7_share_38 hl (by decide) rfl (fun ls hl => ?_)
        refine lv_iload hx hb dX7_share_40 (lv_at hl 0 rfl) ?_
        refine lv_iload_n hx hb dX7_share_42 rfl (lv_at hl 2 rfl) ?_
        obtain ⟨z8, hz8, hf⟩ := bnd hf
        refine x_rdS (n := 2) hx hb hml hown hts hE (ct_X7_has N l G cI cZ cO v7 x1 z8 hz8) (bg 10 12 rfl) mb_X7_has.1 mb_X7_has.2.1 mb_X7_has.2.2 hd_X7_has rfl (by decide) va_P_nil rfl hl.1 (Nat.le_of_ble_eq_true rfl) ⟨Nat.zero_le _, Nat.zero_le _⟩ dX7_share_43 ?_
        refine lv_if_ne (tgt := 60) hx hb dX7_share_46 (by decide) (fun c9 => ?_) (fun c9 => ?_)
        · rw [if_neg c9] at hf
          refine lv_iload hx hb dX7_share_60 (lv_at hl 0 rfl) ?_
          obtain ⟨z10, hz10, hf⟩ := bnd hf
          refine x_rdS (n := 1) hx hb hml hown hts hE (ct_X7_ones N l G cI cZ cO v7 z10 hz10) (bg 18 21 rfl) mb_X7_ones.1 mb_X7_ones.2.1 mb_X7_ones.2.2 hd_X7_ones rfl (by decide) va_P_nil rfl hl.1 (Nat.le_of_ble_eq_true rfl) ⟨Nat.zero_le _, Nat.zero_le _⟩ dX7_share_62 ?_
          refine lv_istore (lv' := [(6, .int z10), (5, .int v7), (0, .ref (q 0)), (1, .int x1), (2, .int x2), (3, .int x3), (4, .int x4)]) hx hb dX7_share_65 hl (by decide) rfl (fun ls hl => ?_)
          refine lv_iconst (v := 0) hx hb dX7_share_67 (by decide) ?_
          refine lv_istore (lv' := [(7, .int 0), (6, .int z10), (5, .int v7), (0, .ref (q 0)), (1, .int x1), (2, .int x2), (3, .int x3), (4, .int x4)]) hx hb dX7_share_68 hl (by decide) rfl (fun ls hl => ?_)
          refine lv_iconst (v := 0) hx hb dX7_share_70 (by decide) ?_
          refine lv_istore (lv' := [(8, .int 0), (7, .int 0), (6, .int z10), (5, .int v7), (0, .ref (q 0)), (1, .int x1), (2, .int x2), (3, .int x3), (4, .int x4)]) hx hb dX7_share_71 hl (by decide) rfl (fun ls hl => ?_)
          exact b_73 N A x1 x2 x3 x4 v7 z10 0 0 H locs hP hD hS ls (lv_sub hl [4, 5, 6, 7, 8, 3, 2, 1, 0] rfl) hf
        · rw [if_pos c9] at hf
          refine lv_iload hx hb dX7_share_49 (lv_at hl 5 rfl) ?_
          refine lv_if_eq (tgt := 58) hx hb dX7_share_51 (by decide) (fun c11 => ?_) (fun c11 => ?_)
          · rw [if_pos c11] at hf
            refine lv_iconst (v := 1) hx hb dX7_share_58 (by decide) ?_
            exact b_59 A 1 H locs hP hD hS ls (lv_sub hl [] rfl) hf
          · rw [if_neg c11] at hf
            refine lv_iconst (v := 0) hx hb dX7_share_54 (by decide) ?_
            refine lv_goto (tgt := 59) hx hb dX7_share_55 (by decide) ?_
            exact b_59 A 0 H locs hP hD hS ls (lv_sub hl [] rfl) hf
      · rw [if_pos c6] at hf
        exact b_29 A H locs hP hD hS ls (lv_sub hl [] rfl) hf
  · rw [if_pos c2] at hf
    refine lv_iconst (v := (-1)) hx hb dX7_share_8 (by decide) ?_
    have e9 := Option.some.inj hf
    exact fin H locs 9 ls _ (Prod.mk.inj e9).1 (nar_i _) (by rw [← (Prod.mk.inj e9).2]; exact hP) hS dX7_share_9
def fX7_isChoice_36 (N : Nat) (I : Nat → Int32) (A : Nat → Nat → Int32) (y0 : Int32) : Option (Int32) := (bz y0).bind fun v1 => some v1
def fX7_isChoice_35 (N : Nat) (I : Nat → Int32) (A : Nat → Nat → Int32) : Option (Int32) := fX7_isChoice_36 N I A 0
def fX7_isChoice_31 (N : Nat) (I : Nat → Int32) (A : Nat → Nat → Int32) : Option (Int32) := fX7_isChoice_36 N I A 1
def fX7_isChoice (N : Nat) (I : Nat → Int32) (A : Nat → Nat → Int32) (x1 : Int32) (x2 : Int32) : Option (Int32) := if x2 = 0 then fX7_isChoice_31 N I A else (fX7_isRumour N I (x2 - 1)).bind fun z2 => if z2 = 0 then fX7_isChoice_35 N I A else (rd 4 (A 4) x1).bind fun v4 => (fX7_canSay N A 0 (x2 - 1) v4).bind fun z5 => if z5 = 0 then fX7_isChoice_35 N I A else fX7_isChoice_31 N I A
def rmX7_isChoice : Room := { frames := 2, cells := 0, slots := 0, locals := 46 }
theorem mb_X7_isChoice : Cond.instanceMethod yX7_isChoice ∈ wsL_law ∧ Cond.selects RX7 yX7_isChoice yX7_isChoice ∈ wsL_law ∧ Cond.initialized RX7 ∈ wsL_law ∧ Cond.code yX7_isChoice cX7_isChoice 3 (some .boolean) ∈ wsL_law := ⟨(bg 33 23 rfl), (bg 34 0 rfl), (bg 0 5 rfl), (bg 34 1 rfl)⟩
theorem hd_X7_isChoice : yX7_isChoice.cls = RX7 ∧ yX7_isChoice.cls ≠ "java/lang/invoke/MethodHandle" ∧ yX7_isChoice.cls ≠ "java/lang/invoke/VarHandle" ∧ (parseMethodDescriptor yX7_isChoice.desc).map (fun d => d.parameters.length) = some 2 := by decide +kernel
set_option maxRecDepth 100000 in
set_option maxHeartbeats 4000000 in
theorem ct_X7_isChoice (N : Nat) (l : Launch) (G : va_G) (cI cZ cO : ClassId) (q : Nat → Nat) (I : Nat → Int32) (A : Nat → Nat → Int32) (L : Int64) (x1 : Int32) (x2 : Int32) (r : Int32) (hf : fX7_isChoice N I A x1 x2 = some r) : RtI l yX7_isChoice cX7_isChoice 3 .boolean rmX7_isChoice G cI cZ cO [.ref (q 0), .int x1, .int x2] (wX7 q cI cZ cO I A L) r := by
  refine mkRI (by decide) (Nat.le_of_ble_eq_true rfl) ?_
  intro p e s m below meth cd Q hC hP hE fin ls hl
  obtain ⟨hx, hb, hml, hown, hts⟩ := hC
  have hown : s.vm.findClass RX7 = some m.cls := hown
  have hl : lv_has ls 3 [(0, .ref (q 0)), (1, .int x1), (2, .int x2)] := hl
  have b_36 : ∀ (y0 : Int32), ∀ ls : Array Slot, lv_has ls 3 [] → fX7_isChoice_36 N I A y0 = some r → W p l e rmX7_isChoice s m [.ref (q 0), .int x1, .int x2].toArray below meth cd s.heap [] 0 0 Q (F0 m 36 ls [.int y0]) := by
    intro y0 ls hl hf
    unfold fX7_isChoice_36 at hf
    obtain ⟨v1, hv1, hf⟩ := bnd hf
    obtain ⟨ev1, hv1⟩ := bz_in hv1
    rw [ev1]
    have e9 := Option.some.inj hf
    exact fin 36 ls _ e9 (nar_z (by rw [← e9]; exact hv1)) dX7_isChoice_36
  have b_35 : ∀ ls : Array Slot, lv_has ls 3 [] → fX7_isChoice_35 N I A = some r → W p l e rmX7_isChoice s m [.ref (q 0), .int x1, .int x2].toArray below meth cd s.heap [] 0 0 Q (F0 m 35 ls []) := by
    intro ls hl hf
    unfold fX7_isChoice_35 at hf
    refine lv_iconst (v := 0) hx hb dX7_isChoice_35 (by decide) ?_
    exact b_36 0 ls (lv_sub hl [] rfl) hf
  have b_31 : ∀ ls : Array Slot, lv_has ls 3 [] → fX7_isChoice_31 N I A = some r → W p l e rmX7_isChoice s m [.ref (q 0), .int x1, .int x2].toArray below meth cd s.heap [] 0 0 Q (F0 m 31 ls []) := by
    intro ls hl hf
    unfold fX7_isChoice_31 at hf
    refine lv_iconst (v := 1) hx hb dX7_isChoice_31 (by decide) ?_
    refine lv_goto (tgt := 36) hx hb dX7_isChoice_32 (by decide) ?_
    exact b_36 1 ls (lv_sub hl [] rfl) hf
  unfold fX7_isChoice at hf
  refine lv_iload_n hx hb dX7_isChoice_0 rfl (lv_at hl 2 rfl) ?_
  refine lv_if_eq (tgt := 31) hx hb dX7_isChoice_1 (by decide) (fun c1 => ?_) (fun c1 => ?_)
  · rw [if_pos c1] at hf
    exact b_31 ls (lv_sub hl [] rfl) hf
  · rw [if_neg c1] at hf
    refine lv_aload_n hx hb dX7_isChoice_4 rfl (lv_at hl 0 rfl) ?_
    refine lv_iload_n hx hb dX7_isChoice_5 rfl (lv_at hl 2 rfl) ?_
    refine lv_iconst (v := 1) hx hb dX7_isChoice_6 (by decide) ?_
    refine lv_isub hx hb dX7_isChoice_7 ?_
    obtain ⟨z2, hz2, hf⟩ := bnd hf
    refine x_rdV (C := RX7) (n := 1) (ci := 7) hx hb hml hown hts hE (ct_X7_isRumour N l G cI cZ cO q I A L (x2 - 1) z2 hz2) (bg 13 6 rfl) mb_X7_isRumour.1 mb_X7_isRumour.2.1 mb_X7_isRumour.2.2.1 mb_X7_isRumour.2.2.2 hd_X7_isRumour rfl (by decide) hP rfl rfl rfl rfl hl.1 (Nat.le_of_ble_eq_true rfl) ⟨Nat.zero_le _, Nat.zero_le _⟩ dX7_isChoice_8 ?_
    refine lv_if_eq (tgt := 35) hx hb dX7_isChoice_11 (by decide) (fun c3 => ?_) (fun c3 => ?_)
    · rw [if_pos c3] at hf
      exact b_35 ls (lv_sub hl [] rfl) hf
    · rw [if_neg c3] at hf
      refine lv_aload_n hx hb dX7_isChoice_14 rfl (lv_at hl 0 rfl) ?_
      refine lv_iconst (v := 0) hx hb dX7_isChoice_15 (by decide) ?_
      refine lv_iload_n hx hb dX7_isChoice_16 rfl (lv_at hl 2 rfl) ?_
      refine lv_iconst (v := 1) hx hb dX7_isChoice_17 (by decide) ?_
      refine lv_isub hx hb dX7_isChoice_18 ?_
      refine lv_aload_n hx hb dX7_isChoice_19 rfl (lv_at hl 0 rfl) ?_
      refine va_get (D := G) (ci := 7) (v := .ref (q 5)) (C := RX7) (T := TX7) (N := 33) hx hb hts inlX7 hown hE.1 hP 0 rfl rfl 6 (by decide) (hts _ (bg 3 18 rfl)) (fun _ h9 => h9) rfl dX7_isChoice_20 ?_
      refine lv_iload_n hx hb dX7_isChoice_23 rfl (lv_at hl 1 rfl) ?_
      obtain ⟨v4, hv4, hf⟩ := bnd hf
      refine x_iald hx hb hE.1 hP 5 0 rfl rfl hv4 dX7_isChoice_24 ?_
      obtain ⟨z5, hz5, hf⟩ := bnd hf
      refine x_rdV (C := RX7) (n := 3) (ci := 7) hx hb hml hown hts hE (ct_X7_canSay N l G cI cZ cO q I A L 0 (x2 - 1) v4 z5 hz5) (bg 18 17 rfl) mb_X7_canSay.1 mb_X7_canSay.2.1 mb_X7_canSay.2.2.1 mb_X7_canSay.2.2.2 hd_X7_canSay rfl (by decide) hP rfl rfl rfl rfl hl.1 (Nat.le_of_ble_eq_true rfl) ⟨Nat.zero_le _, Nat.zero_le _⟩ dX7_isChoice_25 ?_
      refine lv_if_eq (tgt := 35) hx hb dX7_isChoice_28 (by decide) (fun c6 => ?_) (fun c6 => ?_)
      · rw [if_pos c6] at hf
        exact b_35 ls (lv_sub hl [] rfl) hf
      · rw [if_neg c6] at hf
        exact b_31 ls (lv_sub hl [] rfl) hf
def fX7_layPairs_123 (N : Nat) (k_3 : (Nat → Int32) → (Nat → Nat → Int32) → Int32 → Int32 → Int32 → Int32 → Option ((Nat → Nat → Int32))) (I : Nat → Int32) (A : Nat → Nat → Int32) (u1 : Int32) (u2 : Int32) (u3 : Int32) (u4 : Int32) : Option ((Nat → Nat → Int32)) := k_3 I A u1 u2 u3 (u4 + 1)
def fX7_layPairs_92 (N : Nat) (k_3 : (Nat → Int32) → (Nat → Nat → Int32) → Int32 → Int32 → Int32 → Int32 → Option ((Nat → Nat → Int32))) (I : Nat → Int32) (A : Nat → Nat → Int32) (u1 : Int32) (u2 : Int32) (u3 : Int32) (u4 : Int32) : Option ((Nat → Nat → Int32)) := (fX7_dawnTrial N I A u3).bind fun z1 => (fX7_purseOf N I z1 1 u1).bind fun z2 => (wr 36 (z1 18) u4 z2).bind fun g3 => (fX7_purseOf N I (va_up z1 18 g3) 1 u2).bind fun z4 => (wr 36 (z1 19) u4 z4).bind fun g5 => fX7_layPairs_123 N k_3 I (va_up (va_up z1 18 g3) 19 g5) u1 u2 u3 u4
def fX7_layPairs_66 (N : Nat) (k_3 : (Nat → Int32) → (Nat → Nat → Int32) → Int32 → Int32 → Int32 → Int32 → Option ((Nat → Nat → Int32))) (I : Nat → Int32) (A : Nat → Nat → Int32) (u1 : Int32) (u2 : Int32) (u3 : Int32) (u4 : Int32) : Option ((Nat → Nat → Int32)) := if (rem u4 6) ≤ 0 then fX7_layPairs_92 N k_3 I A u1 u2 u3 u4 else (rd 4 (A 4) u2).bind fun v2 => (fX7_sayTrial N I A ((rem u4 6) - 1) v2).bind fun z3 => fX7_layPairs_92 N k_3 I z3.2 u1 u2 u3 u4
def fX7_layPairs_3s (N : Nat) (k_3 : (Nat → Int32) → (Nat → Nat → Int32) → Int32 → Int32 → Int32 → Int32 → Option ((Nat → Nat → Int32))) (I : Nat → Int32) (A : Nat → Nat → Int32) (u1 : Int32) (u2 : Int32) (u3 : Int32) (u4 : Int32) : Option ((Nat → Nat → Int32)) := if 36 ≤ u4 then some A else (fX7_isChoice N I A u1 (u4 / 6)).bind fun z2 => if z2 = 0 then fX7_layPairs_123 N k_3 I A u1 u2 u3 u4 else (fX7_isChoice N I A u2 (rem u4 6)).bind fun z4 => if z4 = 0 then fX7_layPairs_123 N k_3 I A u1 u2 u3 u4 else (fX7_layTrial N A).bind fun z6 => if (u4 / 6) ≤ 0 then fX7_layPairs_66 N k_3 I z6 u1 u2 u3 u4 else (rd 4 (z6 4) u1).bind fun v8 => (fX7_sayTrial N I z6 ((u4 / 6) - 1) v8).bind fun z9 => fX7_layPairs_66 N k_3 I z9.2 u1 u2 u3 u4
def fX7_layPairs_3 (N : Nat) : Nat → (Nat → Int32) → (Nat → Nat → Int32) → Int32 → Int32 → Int32 → Int32 → Option ((Nat → Nat → Int32))
  | 0 => fun _ _ _ _ _ _ => none
  | n + 1 => fX7_layPairs_3s N (fX7_layPairs_3 N n)
def fX7_layPairs (N : Nat) (I : Nat → Int32) (A : Nat → Nat → Int32) (x1 : Int32) (x2 : Int32) (x3 : Int32) : Option ((Nat → Nat → Int32)) := fX7_layPairs_3 N N I A x1 x2 x3 0
def rmX7_layPairs : Room := { frames := 3, cells := 0, slots := 0, locals := 71 }
theorem mb_X7_layPairs : Cond.instanceMethod yX7_layPairs ∈ wsL_law ∧ Cond.selects RX7 yX7_layPairs yX7_layPairs ∈ wsL_law ∧ Cond.initialized RX7 ∈ wsL_law ∧ Cond.code yX7_layPairs cX7_layPairs 5 none ∈ wsL_law := ⟨(bg 33 19 rfl), (bg 33 20 rfl), (bg 0 5 rfl), (bg 33 21 rfl)⟩
theorem hd_X7_layPairs : yX7_layPairs.cls = RX7 ∧ yX7_layPairs.cls ≠ "java/lang/invoke/MethodHandle" ∧ yX7_layPairs.cls ≠ "java/lang/invoke/VarHandle" ∧ (parseMethodDescriptor yX7_layPairs.desc).map (fun d => d.parameters.length) = some 3 := by decide +kernel
set_option maxRecDepth 100000 in
set_option maxHeartbeats 4000000 in
theorem ct_X7_layPairs (N : Nat) (l : Launch) (G : va_G) (cI cZ cO : ClassId) (q : Nat → Nat) (I : Nat → Int32) (A : Nat → Nat → Int32) (L : Int64) (x1 : Int32) (x2 : Int32) (x3 : Int32) (Az : Nat → Nat → Int32) (hf : fX7_layPairs N I A x1 x2 x3 = some Az) : CtV l yX7_layPairs cX7_layPairs 5 rmX7_layPairs G cI cZ cO [.ref (q 0), .int x1, .int x2, .int x3] (wX7 q cI cZ cO I A L) (wX7 q cI cZ cO I Az L) := by
  refine mkCV (by decide) (Nat.le_of_ble_eq_true rfl) ?_
  intro p e s m below meth cd Q Z hC hP hE hD hA fin ls hl
  obtain ⟨hx, hb, hml, hown, hts⟩ := hC
  have hown : s.vm.findClass RX7 = some m.cls := hown
  have hl : lv_has ls 5 [(0, .ref (q 0)), (1, .int x1), (2, .int x2), (3, .int x3)] := hl
  have b_123 : ∀ (k_3 : (Nat → Int32) → (Nat → Nat → Int32) → Int32 → Int32 → Int32 → Int32 → Option ((Nat → Nat → Int32))) (hk_3 : ∀ (A : Nat → Nat → Int32) (u1 : Int32) (u2 : Int32) (u3 : Int32) (u4 : Int32), ∀ (H : Heap) (locs : List Loc), va_P G vwCl (wX7 q cI cZ cO I A L) H → va_D Z (wX7 q cI cZ cO I A L) → va_S Z s.heap H locs → ∀ ls : Array Slot, lv_has ls 5 [(0, .ref (q 0)), (1, .int u1), (2, .int u2), (3, .int u3), (4, .int u4)] → k_3 I A u1 u2 u3 u4 = some Az → W p l e rmX7_layPairs s m [.ref (q 0), .int x1, .int x2, .int x3].toArray below meth cd H locs 0 0 Q (F0 m 3 ls [])), ∀ (A : Nat → Nat → Int32) (u1 : Int32) (u2 : Int32) (u3 : Int32) (u4 : Int32), ∀ (H : Heap) (locs : List Loc), va_P G vwCl (wX7 q cI cZ cO I A L) H → va_D Z (wX7 q cI cZ cO I A L) → va_S Z s.heap H locs → ∀ ls : Array Slot, lv_has ls 5 [(0, .ref (q 0)), (1, .int u1), (2, .int u2), (3, .int u3), (4, .int u4)] → fX7_layPairs_123 N k_3 I A u1 u2 u3 u4 = some Az → W p l e rmX7_layPairs s m [.ref (q 0), .int x1, .int x2, .int x3].toArray below meth cd H locs 0 0 Q (F0 m 123 ls []) := by
    intro k_3 hk_3 A u1 u2 u3 u4 H locs hP hD hS ls hl hf
    unfold fX7_layPairs_123 at hf
    refine lv_iinc (v := u4 + 1) (lv' := [(4, .int (u4 + 1)), (0, .ref (q 0)), (1, .int u1), (2, .int u2), (3, .int u3)]) hx hb dX7_layPairs_123 hl (k := 4) rfl rfl (by decide) rfl (fun ls hl => ?_)
    refine lv_goto (tgt := 3) hx hb dX7_layPairs_126 (by decide) ?_
    exact hk_3 A u1 u2 u3 (u4 + 1) H locs hP hD hS ls (lv_sub hl [1, 2, 3, 4, 0] rfl) hf
  have b_92 : ∀ (k_3 : (Nat → Int32) → (Nat → Nat → Int32) → Int32 → Int32 → Int32 → Int32 → Option ((Nat → Nat → Int32))) (hk_3 : ∀ (A : Nat → Nat → Int32) (u1 : Int32) (u2 : Int32) (u3 : Int32) (u4 : Int32), ∀ (H : Heap) (locs : List Loc), va_P G vwCl (wX7 q cI cZ cO I A L) H → va_D Z (wX7 q cI cZ cO I A L) → va_S Z s.heap H locs → ∀ ls : Array Slot, lv_has ls 5 [(0, .ref (q 0)), (1, .int u1), (2, .int u2), (3, .int u3), (4, .int u4)] → k_3 I A u1 u2 u3 u4 = some Az → W p l e rmX7_layPairs s m [.ref (q 0), .int x1, .int x2, .int x3].toArray below meth cd H locs 0 0 Q (F0 m 3 ls [])), ∀ (A : Nat → Nat → Int32) (u1 : Int32) (u2 : Int32) (u3 : Int32) (u4 : Int32), ∀ (H : Heap) (locs : List Loc), va_P G vwCl (wX7 q cI cZ cO I A L) H → va_D Z (wX7 q cI cZ cO I A L) → va_S Z s.heap H locs → ∀ ls : Array Slot, lv_has ls 5 [(0, .ref (q 0)), (1, .int u1), (2, .int u2), (3, .int u3), (4, .int u4)] → fX7_layPairs_92 N k_3 I A u1 u2 u3 u4 = some Az → W p l e rmX7_layPairs s m [.ref (q 0), .int x1, .int x2, .int x3].toArray below meth cd H locs 0 0 Q (F0 m 92 ls []) := by
    intro k_3 hk_3 A u1 u2 u3 u4 H locs hP hD hS ls hl hf
    unfold fX7_layPairs_92 at hf
    refine lv_aload_n hx hb dX7_layPairs_92 rfl (lv_at hl 0 rfl) ?_
    refine lv_iload_n hx hb dX7_layPairs_93 rfl (lv_at hl 3 rfl) ?_
    obtain ⟨z1, hz1, hf⟩ := bnd hf
    refine x_wwVv (C := RX7) (n := 1) (ci := 7) hx hb hml hown hts hE (ct_X7_dawnTrial N l G cI cZ cO q I A L u3 z1 hz1) (bg 23 6 rfl) mb_X7_dawnTrial.1 mb_X7_dawnTrial.2.1 mb_X7_dawnTrial.2.2.1 mb_X7_dawnTrial.2.2.2 hd_X7_dawnTrial rfl (by decide) hP hD hS hA rfl rfl rfl rfl rfl hl.1 (Nat.le_of_ble_eq_true rfl) ⟨Nat.zero_le _, Nat.zero_le _⟩ dX7_layPairs_94 (fun H locs hP hD hS => ?_)
    have hP : va_P G vwCl (wX7 q cI cZ cO I z1 L) H := hP
    have hD : va_D Z (wX7 q cI cZ cO I z1 L) := hD
    refine lv_aload_n hx hb dX7_layPairs_97 rfl (lv_at hl 0 rfl) ?_
    refine va_get (D := G) (ci := 7) (v := .ref (q 19)) (C := RX7) (T := TX7) (N := 33) hx hb hts inlX7 hown hE.1 hP 0 rfl rfl 28 (by decide) (hts _ (bg 4 8 rfl)) (fun _ h9 => h9) rfl dX7_layPairs_98 ?_
    refine lv_iload hx hb dX7_layPairs_101 (lv_at hl 4 rfl) ?_
    refine lv_aload_n hx hb dX7_layPairs_103 rfl (lv_at hl 0 rfl) ?_
    refine lv_iconst (v := 1) hx hb dX7_layPairs_104 (by decide) ?_
    refine lv_iload_n hx hb dX7_layPairs_105 rfl (lv_at hl 1 rfl) ?_
    obtain ⟨z2, hz2, hf⟩ := bnd hf
    refine x_rdV (C := RX7) (n := 2) (ci := 7) hx hb hml hown hts hE (ct_X7_purseOf N l G cI cZ cO q I z1 L 1 u1 z2 hz2) (bg 24 4 rfl) mb_X7_purseOf.1 mb_X7_purseOf.2.1 mb_X7_purseOf.2.2.1 mb_X7_purseOf.2.2.2 hd_X7_purseOf rfl (by decide) hP rfl rfl rfl rfl hl.1 (Nat.le_of_ble_eq_true rfl) ⟨Nat.zero_le _, Nat.zero_le _⟩ dX7_layPairs_106 ?_
    obtain ⟨g3, hg3, hf⟩ := bnd hf
    refine x_iast hx hb hE.1 hP hD hS 19 0 rfl rfl hg3 dX7_layPairs_109 (fun H locs hP hD hS => ?_)
    have hP : va_P G vwCl (wX7 q cI cZ cO I (va_up z1 18 g3) L) H := hP
    have hD : va_D Z (wX7 q cI cZ cO I (va_up z1 18 g3) L) := hD
    refine lv_aload_n hx hb dX7_layPairs_110 rfl (lv_at hl 0 rfl) ?_
    refine va_get (D := G) (ci := 7) (v := .ref (q 20)) (C := RX7) (T := TX7) (N := 33) hx hb hts inlX7 hown hE.1 hP 0 rfl rfl 29 (by decide) (hts _ (bg 4 9 rfl)) (fun _ h9 => h9) rfl dX7_layPairs_111 ?_
    refine lv_iload hx hb dX7_layPairs_114 (lv_at hl 4 rfl) ?_
    refine lv_aload_n hx hb dX7_layPairs_116 rfl (lv_at hl 0 rfl) ?_
    refine lv_iconst (v := 1) hx hb dX7_layPairs_117 (by decide) ?_
    refine lv_iload_n hx hb dX7_layPairs_118 rfl (lv_at hl 2 rfl) ?_
    obtain ⟨z4, hz4, hf⟩ := bnd hf
    refine x_rdV (C := RX7) (n := 2) (ci := 7) hx hb hml hown hts hE (ct_X7_purseOf N l G cI cZ cO q I (va_up z1 18 g3) L 1 u2 z4 hz4) (bg 24 4 rfl) mb_X7_purseOf.1 mb_X7_purseOf.2.1 mb_X7_purseOf.2.2.1 mb_X7_purseOf.2.2.2 hd_X7_purseOf rfl (by decide) hP rfl rfl rfl rfl hl.1 (Nat.le_of_ble_eq_true rfl) ⟨Nat.zero_le _, Nat.zero_le _⟩ dX7_layPairs_119 ?_
    obtain ⟨g5, hg5, hf⟩ := bnd hf
    refine x_iast hx hb hE.1 hP hD hS 20 0 rfl rfl hg5 dX7_layPairs_122 (fun H locs hP hD hS => ?_)
    have hP : va_P G vwCl (wX7 q cI cZ cO I (va_up (va_up z1 18 g3) 19 g5) L) H := hP
    have hD : va_D Z (wX7 q cI cZ cO I (va_up (va_up z1 18 g3) 19 g5) L) := hD
    exact b_123 k_3 hk_3 (va_up (va_up z1 18 g3) 19 g5) u1 u2 u3 u4 H locs hP hD hS ls (lv_sub hl [0, 1, 2, 3, 4] rfl) hf
  have b_66 : ∀ (k_3 : (Nat → Int32) → (Nat → Nat → Int32) → Int32 → Int32 → Int32 → Int32 → Option ((Nat → Nat → Int32))) (hk_3 : ∀ (A : Nat → Nat → Int32) (u1 : Int32) (u2 : Int32) (u3 : Int32) (u4 : Int32), ∀ (H : Heap) (locs : List Loc), va_P G vwCl (wX7 q cI cZ cO I A L) H → va_D Z (wX7 q cI cZ cO I A L) → va_S Z s.heap H locs → ∀ ls : Array Slot, lv_has ls 5 [(0, .ref (q 0)), (1, .int u1), (2, .int u2), (3, .int u3), (4, .int u4)] → k_3 I A u1 u2 u3 u4 = some Az → W p l e rmX7_layPairs s m [.ref (q 0), .int x1, .int x2, .int x3].toArray below meth cd H locs 0 0 Q (F0 m 3 ls [])), ∀ (A : Nat → Nat → Int32) (u1 : Int32) (u2 : Int32) (u3 : Int32) (u4 : Int32), ∀ (H : Heap) (locs : List Loc), va_P G vwCl (wX7 q cI cZ cO I A L) H → va_D Z (wX7 q cI cZ cO I A L) → va_S Z s.heap H locs → ∀ ls : Array Slot, lv_has ls 5 [(0, .ref (q 0)), (1, .int u1), (2, .int u2), (3, .int u3), (4, .int u4)] → fX7_layPairs_66 N k_3 I A u1 u2 u3 u4 = some Az → W p l e rmX7_layPairs s m [.ref (q 0), .int x1, .int x2, .int x3].toArray below meth cd H locs 0 0 Q (F0 m 66 ls []) := by
    intro k_3 hk_3 A u1 u2 u3 u4 H locs hP hD hS ls hl hf
    unfold fX7_layPairs_66 at hf
    refine lv_iload hx hb dX7_layPairs_66 (lv_at hl 4 rfl) ?_
    refine lv_bipush (v := 6) hx hb dX7_layPairs_68 (by decide) ?_
    refine x_irem hx hb dX7_layPairs_70 (by decide) ?_
    refine lv_if_le (tgt := 92) hx hb dX7_layPairs_71 (by decide) (fun c1 => ?_) (fun c1 => ?_)
    · rw [if_pos c1] at hf
      exact b_92 k_3 hk_3 A u1 u2 u3 u4 H locs hP hD hS ls (lv_sub hl [0, 1, 2, 3, 4] rfl) hf
    · rw [if_neg c1] at hf
      refine lv_aload_n hx hb dX7_layPairs_74 rfl (lv_at hl 0 rfl) ?_
      refine lv_iload hx hb dX7_layPairs_75 (lv_at hl 4 rfl) ?_
      refine lv_bipush (v := 6) hx hb dX7_layPairs_77 (by decide) ?_
      refine x_irem hx hb dX7_layPairs_79 (by decide) ?_
      refine lv_iconst (v := 1) hx hb dX7_layPairs_80 (by decide) ?_
      refine lv_isub hx hb dX7_layPairs_81 ?_
      refine lv_aload_n hx hb dX7_layPairs_82 rfl (lv_at hl 0 rfl) ?_
      refine va_get (D := G) (ci := 7) (v := .ref (q 5)) (C := RX7) (T := TX7) (N := 33) hx hb hts inlX7 hown hE.1 hP 0 rfl rfl 6 (by decide) (hts _ (bg 3 18 rfl)) (fun _ h9 => h9) rfl dX7_layPairs_83 ?_
      refine lv_iload_n hx hb dX7_layPairs_86 rfl (lv_at hl 2 rfl) ?_
      obtain ⟨v2, hv2, hf⟩ := bnd hf
      refine x_iald hx hb hE.1 hP 5 0 rfl rfl hv2 dX7_layPairs_87 ?_
      obtain ⟨z3, hz3, hf⟩ := bnd hf
      refine x_wwV (C := RX7) (n := 2) (ci := 7) hx hb hml hown hts hE (ct_X7_sayTrial N l G cI cZ cO q I A L ((rem u4 6) - 1) v2 z3.1 z3.2 hz3) (bg 27 0 rfl) mb_X7_sayTrial.1 mb_X7_sayTrial.2.1 mb_X7_sayTrial.2.2.1 mb_X7_sayTrial.2.2.2 hd_X7_sayTrial rfl (by decide) hP hD hS hA rfl rfl rfl rfl rfl hl.1 (Nat.le_of_ble_eq_true rfl) ⟨Nat.zero_le _, Nat.zero_le _⟩ dX7_layPairs_88 (fun H locs hP hD hS => ?_)
      have hP : va_P G vwCl (wX7 q cI cZ cO I z3.2 L) H := hP
      have hD : va_D Z (wX7 q cI cZ cO I z3.2 L) := hD
      refine lv_pop hx hb dX7_layPairs_91 rfl ?_
      exact b_92 k_3 hk_3 z3.2 u1 u2 u3 u4 H locs hP hD hS ls (lv_sub hl [0, 1, 2, 3, 4] rfl) hf
  have b_3 : ∀ n : Nat, ∀ (A : Nat → Nat → Int32) (u1 : Int32) (u2 : Int32) (u3 : Int32) (u4 : Int32), ∀ (H : Heap) (locs : List Loc), va_P G vwCl (wX7 q cI cZ cO I A L) H → va_D Z (wX7 q cI cZ cO I A L) → va_S Z s.heap H locs → ∀ ls : Array Slot, lv_has ls 5 [(0, .ref (q 0)), (1, .int u1), (2, .int u2), (3, .int u3), (4, .int u4)] → fX7_layPairs_3 N n I A u1 u2 u3 u4 = some Az → W p l e rmX7_layPairs s m [.ref (q 0), .int x1, .int x2, .int x3].toArray below meth cd H locs 0 0 Q (F0 m 3 ls []) := by
    intro n
    induction n with
    | zero =>
      intro A u1 u2 u3 u4 H locs hP hD hS ls hl hf
      cases hf
    | succ n hk_3 =>
      intro A u1 u2 u3 u4 H locs hP hD hS ls hl hf
      replace hf : fX7_layPairs_3s N (fX7_layPairs_3 N n) I A u1 u2 u3 u4 = some Az := hf
      generalize fX7_layPairs_3 N n = k_3 at hf hk_3
      unfold fX7_layPairs_3s at hf
      refine lv_iload hx hb dX7_layPairs_3 (lv_at hl 4 rfl) ?_
      refine lv_bipush (v := 36) hx hb dX7_layPairs_5 (by decide) ?_
      refine lv_icmp_ge (tgt := 129) hx hb dX7_layPairs_7 (by decide) (fun c1 => ?_) (fun c1 => ?_)
      · rw [if_pos c1] at hf
        have e9 := Option.some.inj hf
        exact fin H locs 129 ls (by rw [← e9]; exact hP) hS dX7_layPairs_129
      · rw [if_neg c1] at hf
        refine lv_aload_n hx hb dX7_layPairs_10 rfl (lv_at hl 0 rfl) ?_
        refine lv_iload_n hx hb dX7_layPairs_11 rfl (lv_at hl 1 rfl) ?_
        refine lv_iload hx hb dX7_layPairs_12 (lv_at hl 4 rfl) ?_
        refine lv_bipush (v := 6) hx hb dX7_layPairs_14 (by decide) ?_
        refine lv_idiv hx hb dX7_layPairs_16 (by decide) ?_
        obtain ⟨z2, hz2, hf⟩ := bnd hf
        refine x_rdV (C := RX7) (n := 2) (ci := 7) hx hb hml hown hts hE (ct_X7_isChoice N l G cI cZ cO q I A L u1 (u4 / 6) z2 hz2) (bg 33 22 rfl) mb_X7_isChoice.1 mb_X7_isChoice.2.1 mb_X7_isChoice.2.2.1 mb_X7_isChoice.2.2.2 hd_X7_isChoice rfl (by decide) hP rfl rfl rfl rfl hl.1 (Nat.le_of_ble_eq_true rfl) ⟨Nat.zero_le _, Nat.zero_le _⟩ dX7_layPairs_17 ?_
        refine lv_if_eq (tgt := 123) hx hb dX7_layPairs_20 (by decide) (fun c3 => ?_) (fun c3 => ?_)
        · rw [if_pos c3] at hf
          exact b_123 k_3 hk_3 A u1 u2 u3 u4 H locs hP hD hS ls (lv_sub hl [0, 1, 2, 3, 4] rfl) hf
        · rw [if_neg c3] at hf
          refine lv_aload_n hx hb dX7_layPairs_23 rfl (lv_at hl 0 rfl) ?_
          refine lv_iload_n hx hb dX7_layPairs_24 rfl (lv_at hl 2 rfl) ?_
          refine lv_iload hx hb dX7_layPairs_25 (lv_at hl 4 rfl) ?_
          refine lv_bipush (v := 6) hx hb dX7_layPairs_27 (by decide) ?_
          refine x_irem hx hb dX7_layPairs_29 (by decide) ?_
          obtain ⟨z4, hz4, hf⟩ := bnd hf
          refine x_rdV (C := RX7) (n := 2) (ci := 7) hx hb hml hown hts hE (ct_X7_isChoice N l G cI cZ cO q I A L u2 (rem u4 6) z4 hz4) (bg 33 22 rfl) mb_X7_isChoice.1 mb_X7_isChoice.2.1 mb_X7_isChoice.2.2.1 mb_X7_isChoice.2.2.2 hd_X7_isChoice rfl (by decide) hP rfl rfl rfl rfl hl.1 (Nat.le_of_ble_eq_true rfl) ⟨Nat.zero_le _, Nat.zero_le _⟩ dX7_layPairs_30 ?_
          refine lv_if_eq (tgt := 123) hx hb dX7_layPairs_33 (by decide) (fun c5 => ?_) (fun c5 => ?_)
          · rw [if_pos c5] at hf
            exact b_123 k_3 hk_3 A u1 u2 u3 u4 H locs hP hD hS ls (lv_sub hl [0, 1, 2, 3, 4] rfl) hf
          · rw [if_neg c5] at hf
            refine lv_aload_n hx hb dX7_layPairs_36 rfl (lv_at hl 0 rfl) ?_
            obtain ⟨z6, hz6, hf⟩ := bnd hf
            refine x_wwVv (C := RX7) (n := 0) (ci := 7) hx hb hml hown hts hE (ct_X7_layTrial N l G cI cZ cO q I A L z6 hz6) (bg 23 2 rfl) mb_X7_layTrial.1 mb_X7_layTrial.2.1 mb_X7_layTrial.2.2.1 mb_X7_layTrial.2.2.2 hd_X7_layTrial rfl (by decide) hP hD hS hA rfl rfl rfl rfl rfl hl.1 (Nat.le_of_ble_eq_true rfl) ⟨Nat.zero_le _, Nat.zero_le _⟩ dX7_layPairs_37 (fun H locs hP hD hS => ?_)
            have hP : va_P G vwCl (wX7 q cI cZ cO I z6 L) H := hP
            have hD : va_D Z (wX7 q cI cZ cO I z6 L) := hD
            refine lv_iload hx hb dX7_layPairs_40 (lv_at hl 4 rfl) ?_
            refine lv_bipush (v := 6) hx hb dX7_layPairs_42 (by decide) ?_
            refine lv_idiv hx hb dX7_layPairs_44 (by decide) ?_
            refine lv_if_le (tgt := 66) hx hb dX7_layPairs_45 (by decide) (fun c7 => ?_) (fun c7 => ?_)
            · rw [if_pos c7] at hf
              exact b_66 k_3 hk_3 z6 u1 u2 u3 u4 H locs hP hD hS ls (lv_sub hl [0, 1, 2, 3, 4] rfl) hf
            · rw [if_neg c7] at hf
              refine lv_aload_n hx hb dX7_layPairs_48 rfl (lv_at hl 0 rfl) ?_
              refine lv_iload hx hb dX7_layPairs_49 (lv_at hl 4 rfl) ?_
              refine lv_bipush (v := 6) hx hb dX7_layPairs_51 (by decide) ?_
              refine lv_idiv hx hb dX7_layPairs_53 (by decide) ?_
              refine lv_iconst (v := 1) hx hb dX7_layPairs_54 (by decide) ?_
              refine lv_isub hx hb dX7_layPairs_55 ?_
              refine lv_aload_n hx hb dX7_layPairs_56 rfl (lv_at hl 0 rfl) ?_
              refine va_get (D := G) (ci := 7) (v := .ref (q 5)) (C := RX7) (T := TX7) (N := 33) hx hb hts inlX7 hown hE.1 hP 0 rfl rfl 6 (by decide) (hts _ (bg 3 18 rfl)) (fun _ h9 => h9) rfl dX7_layPairs_57 ?_
              refine lv_iload_n hx hb dX7_layPairs_60 rfl (lv_at hl 1 rfl) ?_
              obtain ⟨v8, hv8, hf⟩ := bnd hf
              refine x_iald hx hb hE.1 hP 5 0 rfl rfl hv8 dX7_layPairs_61 ?_
              obtain ⟨z9, hz9, hf⟩ := bnd hf
              refine x_wwV (C := RX7) (n := 2) (ci := 7) hx hb hml hown hts hE (ct_X7_sayTrial N l G cI cZ cO q I z6 L ((u4 / 6) - 1) v8 z9.1 z9.2 hz9) (bg 27 0 rfl) mb_X7_sayTrial.1 mb_X7_sayTrial.2.1 mb_X7_sayTrial.2.2.1 mb_X7_sayTrial.2.2.2 hd_X7_sayTrial rfl (by decide) hP hD hS hA rfl rfl rfl rfl rfl hl.1 (Nat.le_of_ble_eq_true rfl) ⟨Nat.zero_le _, Nat.zero_le _⟩ dX7_layPairs_62 (fun H locs hP hD hS => ?_)
              have hP : va_P G vwCl (wX7 q cI cZ cO I z9.2 L) H := hP
              have hD : va_D Z (wX7 q cI cZ cO I z9.2 L) := hD
              refine lv_pop hx hb dX7_layPairs_65 rfl ?_
              exact b_66 k_3 hk_3 z9.2 u1 u2 u3 u4 H locs hP hD hS ls (lv_sub hl [0, 1, 2, 3, 4] rfl) hf
  unfold fX7_layPairs at hf
  have hS : va_S Z s.heap s.heap [] := va_S.rf
  obtain ⟨H, hH⟩ : ∃ H, H = s.heap := ⟨_, rfl⟩
  obtain ⟨locs, hlocs⟩ : ∃ locs : List Loc, locs = [] := ⟨_, rfl⟩
  rw [← hlocs]
  rw [← hlocs] at hS
  suffices hW : ∀ H : Heap, va_P G vwCl (wX7 q cI cZ cO I A L) H → va_S Z s.heap H locs → W p l e rmX7_layPairs s m [.ref (q 0), .int x1, .int x2, .int x3].toArray below meth cd H locs 0 0 Q (F0 m 0 ls []) from hW s.heap hP hS
  clear hP hS hH H
  intro H hP hS
  refine lv_iconst (v := 0) hx hb dX7_layPairs_0 (by decide) ?_
  refine lv_istore (lv' := [(4, .int 0), (0, .ref (q 0)), (1, .int x1), (2, .int x2), (3, .int x3)]) hx hb dX7_layPairs_1 hl (by decide) rfl (fun ls hl => ?_)
  exact b_3 N A x1 x2 x3 0 H locs hP hD hS ls (lv_sub hl [1, 2, 3, 4, 0] rfl) hf
def fX7_isRest_130 (N : Nat) (k_34 : (Nat → Int32) → (Nat → Nat → Int32) → Int32 → Int32 → Int32 → Int32 → Int32 → Option (Int32)) (I : Nat → Int32) (A : Nat → Nat → Int32) (u1 : Int32) (u2 : Int32) (u3 : Int32) (u5 : Int32) (y0 : Int32) : Option (Int32) := k_34 I A u1 u2 u3 y0 (u5 + 1)
def fX7_isRest_129 (N : Nat) (k_34 : (Nat → Int32) → (Nat → Nat → Int32) → Int32 → Int32 → Int32 → Int32 → Int32 → Option (Int32)) (I : Nat → Int32) (A : Nat → Nat → Int32) (u1 : Int32) (u2 : Int32) (u3 : Int32) (u5 : Int32) : Option (Int32) := fX7_isRest_130 N k_34 I A u1 u2 u3 u5 0
def fX7_isRest_125 (N : Nat) (k_34 : (Nat → Int32) → (Nat → Nat → Int32) → Int32 → Int32 → Int32 → Int32 → Int32 → Option (Int32)) (I : Nat → Int32) (A : Nat → Nat → Int32) (u1 : Int32) (u2 : Int32) (u3 : Int32) (u5 : Int32) : Option (Int32) := fX7_isRest_130 N k_34 I A u1 u2 u3 u5 1
def fX7_isRest_85 (N : Nat) (k_34 : (Nat → Int32) → (Nat → Nat → Int32) → Int32 → Int32 → Int32 → Int32 → Int32 → Option (Int32)) (I : Nat → Int32) (A : Nat → Nat → Int32) (u1 : Int32) (u2 : Int32) (u3 : Int32) (u5 : Int32) (y0 : Int32) : Option (Int32) := if y0 = 0 then fX7_isRest_129 N k_34 I A u1 u2 u3 u5 else (fX7_isChoice N I A u2 u5).bind fun z2 => if z2 = 0 then fX7_isRest_125 N k_34 I A u1 u2 u3 u5 else (rd 36 (A 19) ((u3 - (rem u3 6)) + u5)).bind fun v4 => (rd 36 (A 19) u3).bind fun v5 => if v5 < v4 then fX7_isRest_129 N k_34 I A u1 u2 u3 u5 else fX7_isRest_125 N k_34 I A u1 u2 u3 u5
def fX7_isRest_84 (N : Nat) (k_34 : (Nat → Int32) → (Nat → Nat → Int32) → Int32 → Int32 → Int32 → Int32 → Int32 → Option (Int32)) (I : Nat → Int32) (A : Nat → Nat → Int32) (u1 : Int32) (u2 : Int32) (u3 : Int32) (u5 : Int32) : Option (Int32) := fX7_isRest_85 N k_34 I A u1 u2 u3 u5 0
def fX7_isRest_80 (N : Nat) (k_34 : (Nat → Int32) → (Nat → Nat → Int32) → Int32 → Int32 → Int32 → Int32 → Int32 → Option (Int32)) (I : Nat → Int32) (A : Nat → Nat → Int32) (u1 : Int32) (u2 : Int32) (u3 : Int32) (u5 : Int32) : Option (Int32) := fX7_isRest_85 N k_34 I A u1 u2 u3 u5 1
def fX7_isRest_34s (N : Nat) (k_34 : (Nat → Int32) → (Nat → Nat → Int32) → Int32 → Int32 → Int32 → Int32 → Int32 → Option (Int32)) (I : Nat → Int32) (A : Nat → Nat → Int32) (u1 : Int32) (u2 : Int32) (u3 : Int32) (u4 : Int32) (u5 : Int32) : Option (Int32) := if 6 ≤ u5 then (bz u4).bind fun v2 => some v2 else if u4 = 0 then fX7_isRest_84 N k_34 I A u1 u2 u3 u5 else (fX7_isChoice N I A u1 u5).bind fun z4 => if z4 = 0 then fX7_isRest_80 N k_34 I A u1 u2 u3 u5 else (rd 36 (A 18) ((6 * u5) + (rem u3 6))).bind fun v6 => (rd 36 (A 18) u3).bind fun v7 => if v7 < v6 then fX7_isRest_84 N k_34 I A u1 u2 u3 u5 else fX7_isRest_80 N k_34 I A u1 u2 u3 u5
def fX7_isRest_34 (N : Nat) : Nat → (Nat → Int32) → (Nat → Nat → Int32) → Int32 → Int32 → Int32 → Int32 → Int32 → Option (Int32)
  | 0 => fun _ _ _ _ _ _ _ => none
  | n + 1 => fX7_isRest_34s N (fX7_isRest_34 N n)
def fX7_isRest_29 (N : Nat) (I : Nat → Int32) (A : Nat → Nat → Int32) (u1 : Int32) (u2 : Int32) (u3 : Int32) (y0 : Int32) : Option (Int32) := fX7_isRest_34 N N I A u1 u2 u3 y0 0
def fX7_isRest_28 (N : Nat) (I : Nat → Int32) (A : Nat → Nat → Int32) (u1 : Int32) (u2 : Int32) (u3 : Int32) : Option (Int32) := fX7_isRest_29 N I A u1 u2 u3 0
def fX7_isRest (N : Nat) (I : Nat → Int32) (A : Nat → Nat → Int32) (x1 : Int32) (x2 : Int32) (x3 : Int32) : Option (Int32) := (fX7_isChoice N I A x1 (x3 / 6)).bind fun z1 => if z1 = 0 then fX7_isRest_28 N I A x1 x2 x3 else (fX7_isChoice N I A x2 (rem x3 6)).bind fun z3 => if z3 = 0 then fX7_isRest_28 N I A x1 x2 x3 else fX7_isRest_29 N I A x1 x2 x3 1
def rmX7_isRest : Room := { frames := 3, cells := 0, slots := 0, locals := 68 }
theorem mb_X7_isRest : Cond.instanceMethod yX7_isRest ∈ wsL_law ∧ Cond.selects RX7 yX7_isRest yX7_isRest ∈ wsL_law ∧ Cond.initialized RX7 ∈ wsL_law ∧ Cond.code yX7_isRest cX7_isRest 6 (some .boolean) ∈ wsL_law := ⟨(bg 34 3 rfl), (bg 34 4 rfl), (bg 0 5 rfl), (bg 34 5 rfl)⟩
theorem hd_X7_isRest : yX7_isRest.cls = RX7 ∧ yX7_isRest.cls ≠ "java/lang/invoke/MethodHandle" ∧ yX7_isRest.cls ≠ "java/lang/invoke/VarHandle" ∧ (parseMethodDescriptor yX7_isRest.desc).map (fun d => d.parameters.length) = some 3 := by decide +kernel
set_option maxRecDepth 100000 in
set_option maxHeartbeats 4000000 in
theorem ct_X7_isRest (N : Nat) (l : Launch) (G : va_G) (cI cZ cO : ClassId) (q : Nat → Nat) (I : Nat → Int32) (A : Nat → Nat → Int32) (L : Int64) (x1 : Int32) (x2 : Int32) (x3 : Int32) (r : Int32) (hf : fX7_isRest N I A x1 x2 x3 = some r) : RtI l yX7_isRest cX7_isRest 6 .boolean rmX7_isRest G cI cZ cO [.ref (q 0), .int x1, .int x2, .int x3] (wX7 q cI cZ cO I A L) r := by
  refine mkRI (by decide) (Nat.le_of_ble_eq_true rfl) ?_
  intro p e s m below meth cd Q hC hP hE fin ls hl
  obtain ⟨hx, hb, hml, hown, hts⟩ := hC
  have hown : s.vm.findClass RX7 = some m.cls := hown
  have hl : lv_has ls 6 [(0, .ref (q 0)), (1, .int x1), (2, .int x2), (3, .int x3)] := hl
  have b_130 : ∀ (k_34 : (Nat → Int32) → (Nat → Nat → Int32) → Int32 → Int32 → Int32 → Int32 → Int32 → Option (Int32)) (hk_34 : ∀ (u1 : Int32) (u2 : Int32) (u3 : Int32) (u4 : Int32) (u5 : Int32), ∀ ls : Array Slot, lv_has ls 6 [(0, .ref (q 0)), (1, .int u1), (2, .int u2), (3, .int u3), (4, .int u4), (5, .int u5)] → k_34 I A u1 u2 u3 u4 u5 = some r → W p l e rmX7_isRest s m [.ref (q 0), .int x1, .int x2, .int x3].toArray below meth cd s.heap [] 0 0 Q (F0 m 34 ls [])), ∀ (u1 : Int32) (u2 : Int32) (u3 : Int32) (u5 : Int32) (y0 : Int32), ∀ ls : Array Slot, lv_has ls 6 [(0, .ref (q 0)), (1, .int u1), (2, .int u2), (3, .int u3), (5, .int u5)] → fX7_isRest_130 N k_34 I A u1 u2 u3 u5 y0 = some r → W p l e rmX7_isRest s m [.ref (q 0), .int x1, .int x2, .int x3].toArray below meth cd s.heap [] 0 0 Q (F0 m 130 ls [.int y0]) := by
    intro k_34 hk_34 u1 u2 u3 u5 y0 ls hl hf
    unfold fX7_isRest_130 at hf
    refine lv_istore (lv' := [(4, .int y0), (0, .ref (q 0)), (1, .int u1), (2, .int u2), (3, .int u3), (5, .int u5)]) hx hb dX7_isRest_130 hl (by decide) rfl (fun ls hl => ?_)
    refine lv_iinc (v := u5 + 1) (lv' := [(5, .int (u5 + 1)), (4, .int y0), (0, .ref (q 0)), (1, .int u1), (2, .int u2), (3, .int u3)]) hx hb dX7_isRest_132 hl (k := 5) rfl rfl (by decide) rfl (fun ls hl => ?_)
    refine lv_goto (tgt := 34) hx hb dX7_isRest_135 (by decide) ?_
    exact hk_34 u1 u2 u3 y0 (u5 + 1) ls (lv_sub hl [2, 3, 4, 5, 1, 0] rfl) hf
  have b_129 : ∀ (k_34 : (Nat → Int32) → (Nat → Nat → Int32) → Int32 → Int32 → Int32 → Int32 → Int32 → Option (Int32)) (hk_34 : ∀ (u1 : Int32) (u2 : Int32) (u3 : Int32) (u4 : Int32) (u5 : Int32), ∀ ls : Array Slot, lv_has ls 6 [(0, .ref (q 0)), (1, .int u1), (2, .int u2), (3, .int u3), (4, .int u4), (5, .int u5)] → k_34 I A u1 u2 u3 u4 u5 = some r → W p l e rmX7_isRest s m [.ref (q 0), .int x1, .int x2, .int x3].toArray below meth cd s.heap [] 0 0 Q (F0 m 34 ls [])), ∀ (u1 : Int32) (u2 : Int32) (u3 : Int32) (u5 : Int32), ∀ ls : Array Slot, lv_has ls 6 [(0, .ref (q 0)), (1, .int u1), (2, .int u2), (3, .int u3), (5, .int u5)] → fX7_isRest_129 N k_34 I A u1 u2 u3 u5 = some r → W p l e rmX7_isRest s m [.ref (q 0), .int x1, .int x2, .int x3].toArray below meth cd s.heap [] 0 0 Q (F0 m 129 ls []) := by
    intro k_34 hk_34 u1 u2 u3 u5 ls hl hf
    unfold fX7_isRest_129 at hf
    refine lv_iconst (v := 0) hx hb dX7_isRest_129 (by decide) ?_
    exact b_130 k_34 hk_34 u1 u2 u3 u5 0 ls (lv_sub hl [0, 1, 2, 3, 4] rfl) hf
  have b_125 : ∀ (k_34 : (Nat → Int32) → (Nat → Nat → Int32) → Int32 → Int32 → Int32 → Int32 → Int32 → Option (Int32)) (hk_34 : ∀ (u1 : Int32) (u2 : Int32) (u3 : Int32) (u4 : Int32) (u5 : Int32), ∀ ls : Array Slot, lv_has ls 6 [(0, .ref (q 0)), (1, .int u1), (2, .int u2), (3, .int u3), (4, .int u4), (5, .int u5)] → k_34 I A u1 u2 u3 u4 u5 = some r → W p l e rmX7_isRest s m [.ref (q 0), .int x1, .int x2, .int x3].toArray below meth cd s.heap [] 0 0 Q (F0 m 34 ls [])), ∀ (u1 : Int32) (u2 : Int32) (u3 : Int32) (u5 : Int32), ∀ ls : Array Slot, lv_has ls 6 [(0, .ref (q 0)), (1, .int u1), (2, .int u2), (3, .int u3), (5, .int u5)] → fX7_isRest_125 N k_34 I A u1 u2 u3 u5 = some r → W p l e rmX7_isRest s m [.ref (q 0), .int x1, .int x2, .int x3].toArray below meth cd s.heap [] 0 0 Q (F0 m 125 ls []) := by
    intro k_34 hk_34 u1 u2 u3 u5 ls hl hf
    unfold fX7_isRest_125 at hf
    refine lv_iconst (v := 1) hx hb dX7_isRest_125 (by decide) ?_
    refine lv_goto (tgt := 130) hx hb dX7_isRest_126 (by decide) ?_
    exact b_130 k_34 hk_34 u1 u2 u3 u5 1 ls (lv_sub hl [0, 1, 2, 3, 4] rfl) hf
  have b_85 : ∀ (k_34 : (Nat → Int32) → (Nat → Nat → Int32) → Int32 → Int32 → Int32 → Int32 → Int32 → Option (Int32)) (hk_34 : ∀ (u1 : Int32) (u2 : Int32) (u3 : Int32) (u4 : Int32) (u5 : Int32), ∀ ls : Array Slot, lv_has ls 6 [(0, .ref (q 0)), (1, .int u1), (2, .int u2), (3, .int u3), (4, .int u4), (5, .int u5)] → k_34 I A u1 u2 u3 u4 u5 = some r → W p l e rmX7_isRest s m [.ref (q 0), .int x1, .int x2, .int x3].toArray below meth cd s.heap [] 0 0 Q (F0 m 34 ls [])), ∀ (u1 : Int32) (u2 : Int32) (u3 : Int32) (u5 : Int32) (y0 : Int32), ∀ ls : Array Slot, lv_has ls 6 [(0, .ref (q 0)), (1, .int u1), (2, .int u2), (3, .int u3), (5, .int u5)] → fX7_isRest_85 N k_34 I A u1 u2 u3 u5 y0 = some r → W p l e rmX7_isRest s m [.ref (q 0), .int x1, .int x2, .int x3].toArray below meth cd s.heap [] 0 0 Q (F0 m 85 ls [.int y0]) := by
    intro k_34 hk_34 u1 u2 u3 u5 y0 ls hl hf
    unfold fX7_isRest_85 at hf
    refine lv_istore (lv' := [(4, .int y0), (0, .ref (q 0)), (1, .int u1), (2, .int u2), (3, .int u3), (5, .int u5)]) hx hb dX7_isRest_85 hl (by decide) rfl (fun ls hl => ?_)
    refine lv_iload hx hb dX7_isRest_87 (lv_at hl 0 rfl) ?_
    refine lv_if_eq (tgt := 129) hx hb dX7_isRest_89 (by decide) (fun c1 => ?_) (fun c1 => ?_)
    · rw [if_pos c1] at hf
      exact b_129 k_34 hk_34 u1 u2 u3 u5 ls (lv_sub hl [1, 2, 3, 4, 5] rfl) hf
    · rw [if_neg c1] at hf
      refine lv_aload_n hx hb dX7_isRest_92 rfl (lv_at hl 1 rfl) ?_
      refine lv_iload_n hx hb dX7_isRest_93 rfl (lv_at hl 3 rfl) ?_
      refine lv_iload hx hb dX7_isRest_94 (lv_at hl 5 rfl) ?_
      obtain ⟨z2, hz2, hf⟩ := bnd hf
      refine x_rdV (C := RX7) (n := 2) (ci := 7) hx hb hml hown hts hE (ct_X7_isChoice N l G cI cZ cO q I A L u2 u5 z2 hz2) (bg 33 22 rfl) mb_X7_isChoice.1 mb_X7_isChoice.2.1 mb_X7_isChoice.2.2.1 mb_X7_isChoice.2.2.2 hd_X7_isChoice rfl (by decide) hP rfl rfl rfl rfl hl.1 (Nat.le_of_ble_eq_true rfl) ⟨Nat.zero_le _, Nat.zero_le _⟩ dX7_isRest_96 ?_
      refine lv_if_eq (tgt := 125) hx hb dX7_isRest_99 (by decide) (fun c3 => ?_) (fun c3 => ?_)
      · rw [if_pos c3] at hf
        exact b_125 k_34 hk_34 u1 u2 u3 u5 ls (lv_sub hl [1, 2, 3, 4, 5] rfl) hf
      · rw [if_neg c3] at hf
        refine lv_aload_n hx hb dX7_isRest_102 rfl (lv_at hl 1 rfl) ?_
        refine va_get (D := G) (ci := 7) (v := .ref (q 20)) (C := RX7) (T := TX7) (N := 33) hx hb hts inlX7 hown hE.1 hP 0 rfl rfl 29 (by decide) (hts _ (bg 4 9 rfl)) (fun _ h9 => h9) rfl dX7_isRest_103 ?_
        refine lv_iload_n hx hb dX7_isRest_106 rfl (lv_at hl 4 rfl) ?_
        refine lv_iload_n hx hb dX7_isRest_107 rfl (lv_at hl 4 rfl) ?_
        refine lv_bipush (v := 6) hx hb dX7_isRest_108 (by decide) ?_
        refine x_irem hx hb dX7_isRest_110 (by decide) ?_
        refine lv_isub hx hb dX7_isRest_111 ?_
        refine lv_iload hx hb dX7_isRest_112 (lv_at hl 5 rfl) ?_
        refine lv_iadd hx hb dX7_isRest_114 ?_
        obtain ⟨v4, hv4, hf⟩ := bnd hf
        refine x_iald hx hb hE.1 hP 20 0 rfl rfl hv4 dX7_isRest_115 ?_
        refine lv_aload_n hx hb dX7_isRest_116 rfl (lv_at hl 1 rfl) ?_
        refine va_get (D := G) (ci := 7) (v := .ref (q 20)) (C := RX7) (T := TX7) (N := 33) hx hb hts inlX7 hown hE.1 hP 0 rfl rfl 29 (by decide) (hts _ (bg 4 9 rfl)) (fun _ h9 => h9) rfl dX7_isRest_117 ?_
        refine lv_iload_n hx hb dX7_isRest_120 rfl (lv_at hl 4 rfl) ?_
        obtain ⟨v5, hv5, hf⟩ := bnd hf
        refine x_iald hx hb hE.1 hP 20 0 rfl rfl hv5 dX7_isRest_121 ?_
        refine lv_icmp_gt (tgt := 129) hx hb dX7_isRest_122 (by decide) (fun c6 => ?_) (fun c6 => ?_)
        · rw [if_pos c6] at hf
          exact b_129 k_34 hk_34 u1 u2 u3 u5 ls (lv_sub hl [1, 2, 3, 4, 5] rfl) hf
        · rw [if_neg c6] at hf
          exact b_125 k_34 hk_34 u1 u2 u3 u5 ls (lv_sub hl [1, 2, 3, 4, 5] rfl) hf
  have b_84 : ∀ (k_34 : (Nat → Int32) → (Nat → Nat → Int32) → Int32 → Int32 → Int32 → Int32 → Int32 → Option (Int32)) (hk_34 : ∀ (u1 : Int32) (u2 : Int32) (u3 : Int32) (u4 : Int32) (u5 : Int32), ∀ ls : Array Slot, lv_has ls 6 [(0, .ref (q 0)), (1, .int u1), (2, .int u2), (3, .int u3), (4, .int u4), (5, .int u5)] → k_34 I A u1 u2 u3 u4 u5 = some r → W p l e rmX7_isRest s m [.ref (q 0), .int x1, .int x2, .int x3].toArray below meth cd s.heap [] 0 0 Q (F0 m 34 ls [])), ∀ (u1 : Int32) (u2 : Int32) (u3 : Int32) (u5 : Int32), ∀ ls : Array Slot, lv_has ls 6 [(0, .ref (q 0)), (1, .int u1), (2, .int u2), (3, .int u3), (5, .int u5)] → fX7_isRest_84 N k_34 I A u1 u2 u3 u5 = some r → W p l e rmX7_isRest s m [.ref (q 0), .int x1, .int x2, .int x3].toArray below meth cd s.heap [] 0 0 Q (F0 m 84 ls []) := by
    intro k_34 hk_34 u1 u2 u3 u5 ls hl hf
    unfold fX7_isRest_84 at hf
    refine lv_iconst (v := 0) hx hb dX7_isRest_84 (by decide) ?_
    exact b_85 k_34 hk_34 u1 u2 u3 u5 0 ls (lv_sub hl [0, 1, 2, 3, 4] rfl) hf
  have b_80 : ∀ (k_34 : (Nat → Int32) → (Nat → Nat → Int32) → Int32 → Int32 → Int32 → Int32 → Int32 → Option (Int32)) (hk_34 : ∀ (u1 : Int32) (u2 : Int32) (u3 : Int32) (u4 : Int32) (u5 : Int32), ∀ ls : Array Slot, lv_has ls 6 [(0, .ref (q 0)), (1, .int u1), (2, .int u2), (3, .int u3), (4, .int u4), (5, .int u5)] → k_34 I A u1 u2 u3 u4 u5 = some r → W p l e rmX7_isRest s m [.ref (q 0), .int x1, .int x2, .int x3].toArray below meth cd s.heap [] 0 0 Q (F0 m 34 ls [])), ∀ (u1 : Int32) (u2 : Int32) (u3 : Int32) (u5 : Int32), ∀ ls : Array Slot, lv_has ls 6 [(0, .ref (q 0)), (1, .int u1), (2, .int u2), (3, .int u3), (5, .int u5)] → fX7_isRest_80 N k_34 I A u1 u2 u3 u5 = some r → W p l e rmX7_isRest s m [.ref (q 0), .int x1, .int x2, .int x3].toArray below meth cd s.heap [] 0 0 Q (F0 m 80 ls []) := by
    intro k_34 hk_34 u1 u2 u3 u5 ls hl hf
    unfold fX7_isRest_80 at hf
    refine lv_iconst (v := 1) hx hb dX7_isRest_80 (by decide) ?_
    refine lv_goto (tgt := 85) hx hb dX7_isRest_81 (by decide) ?_
    exact b_85 k_34 hk_34 u1 u2 u3 u5 1 ls (lv_sub hl [0, 1, 2, 3, 4] rfl) hf
  have b_34 : ∀ n : Nat, ∀ (u1 : Int32) (u2 : Int32) (u3 : Int32) (u4 : Int32) (u5 : Int32), ∀ ls : Array Slot, lv_has ls 6 [(0, .ref (q 0)), (1, .int u1), (2, .int u2), (3, .int u3), (4, .int u4), (5, .int u5)] → fX7_isRest_34 N n I A u1 u2 u3 u4 u5 = some r → W p l e rmX7_isRest s m [.ref (q 0), .int x1, .int x2, .int x3].toArray below meth cd s.heap [] 0 0 Q (F0 m 34 ls []) := by
    intro n
    induction n with
    | zero =>
      intro u1 u2 u3 u4 u5 ls hl hf
      cases hf
    | succ n hk_34 =>
      intro u1 u2 u3 u4 u5 ls hl hf
      replace hf : fX7_isRest_34s N (fX7_isRest_34 N n) I A u1 u2 u3 u4 u5 = some r := hf
      generalize fX7_isRest_34 N n = k_34 at hf hk_34
      unfold fX7_isRest_34s at hf
      refine lv_iload hx hb dX7_isRest_34 (lv_at hl 5 rfl) ?_
      refine lv_bipush (v := 6) hx hb dX7_isRest_36 (by decide) ?_
      refine lv_icmp_ge (tgt := 138) hx hb dX7_isRest_38 (by decide) (fun c1 => ?_) (fun c1 => ?_)
      · rw [if_pos c1] at hf
        refine lv_iload hx hb dX7_isRest_138 (lv_at hl 4 rfl) ?_
        obtain ⟨v2, hv2, hf⟩ := bnd hf
        obtain ⟨ev2, hv2⟩ := bz_in hv2
        rw [ev2]
        have e9 := Option.some.inj hf
        exact fin 140 ls _ e9 (nar_z (by rw [← e9]; exact hv2)) dX7_isRest_140
      · rw [if_neg c1] at hf
        refine lv_iload hx hb dX7_isRest_41 (lv_at hl 4 rfl) ?_
        refine lv_if_eq (tgt := 84) hx hb dX7_isRest_43 (by decide) (fun c3 => ?_) (fun c3 => ?_)
        · rw [if_pos c3] at hf
          exact b_84 k_34 hk_34 u1 u2 u3 u5 ls (lv_sub hl [0, 1, 2, 3, 5] rfl) hf
        · rw [if_neg c3] at hf
          refine lv_aload_n hx hb dX7_isRest_46 rfl (lv_at hl 0 rfl) ?_
          refine lv_iload_n hx hb dX7_isRest_47 rfl (lv_at hl 1 rfl) ?_
          refine lv_iload hx hb dX7_isRest_48 (lv_at hl 5 rfl) ?_
          obtain ⟨z4, hz4, hf⟩ := bnd hf
          refine x_rdV (C := RX7) (n := 2) (ci := 7) hx hb hml hown hts hE (ct_X7_isChoice N l G cI cZ cO q I A L u1 u5 z4 hz4) (bg 33 22 rfl) mb_X7_isChoice.1 mb_X7_isChoice.2.1 mb_X7_isChoice.2.2.1 mb_X7_isChoice.2.2.2 hd_X7_isChoice rfl (by decide) hP rfl rfl rfl rfl hl.1 (Nat.le_of_ble_eq_true rfl) ⟨Nat.zero_le _, Nat.zero_le _⟩ dX7_isRest_50 ?_
          refine lv_if_eq (tgt := 80) hx hb dX7_isRest_53 (by decide) (fun c5 => ?_) (fun c5 => ?_)
          · rw [if_pos c5] at hf
            exact b_80 k_34 hk_34 u1 u2 u3 u5 ls (lv_sub hl [0, 1, 2, 3, 5] rfl) hf
          · rw [if_neg c5] at hf
            refine lv_aload_n hx hb dX7_isRest_56 rfl (lv_at hl 0 rfl) ?_
            refine va_get (D := G) (ci := 7) (v := .ref (q 19)) (C := RX7) (T := TX7) (N := 33) hx hb hts inlX7 hown hE.1 hP 0 rfl rfl 28 (by decide) (hts _ (bg 4 8 rfl)) (fun _ h9 => h9) rfl dX7_isRest_57 ?_
            refine lv_bipush (v := 6) hx hb dX7_isRest_60 (by decide) ?_
            refine lv_iload hx hb dX7_isRest_62 (lv_at hl 5 rfl) ?_
            refine lv_imul hx hb dX7_isRest_64 ?_
            refine lv_iload_n hx hb dX7_isRest_65 rfl (lv_at hl 3 rfl) ?_
            refine lv_bipush (v := 6) hx hb dX7_isRest_66 (by decide) ?_
            refine x_irem hx hb dX7_isRest_68 (by decide) ?_
            refine lv_iadd hx hb dX7_isRest_69 ?_
            obtain ⟨v6, hv6, hf⟩ := bnd hf
            refine x_iald hx hb hE.1 hP 19 0 rfl rfl hv6 dX7_isRest_70 ?_
            refine lv_aload_n hx hb dX7_isRest_71 rfl (lv_at hl 0 rfl) ?_
            refine va_get (D := G) (ci := 7) (v := .ref (q 19)) (C := RX7) (T := TX7) (N := 33) hx hb hts inlX7 hown hE.1 hP 0 rfl rfl 28 (by decide) (hts _ (bg 4 8 rfl)) (fun _ h9 => h9) rfl dX7_isRest_72 ?_
            refine lv_iload_n hx hb dX7_isRest_75 rfl (lv_at hl 3 rfl) ?_
            obtain ⟨v7, hv7, hf⟩ := bnd hf
            refine x_iald hx hb hE.1 hP 19 0 rfl rfl hv7 dX7_isRest_76 ?_
            refine lv_icmp_gt (tgt := 84) hx hb dX7_isRest_77 (by decide) (fun c8 => ?_) (fun c8 => ?_)
            · rw [if_pos c8] at hf
              exact b_84 k_34 hk_34 u1 u2 u3 u5 ls (lv_sub hl [0, 1, 2, 3, 5] rfl) hf
            · rw [if_neg c8] at hf
              exact b_80 k_34 hk_34 u1 u2 u3 u5 ls (lv_sub hl [0, 1, 2, 3, 5] rfl) hf
  have b_29 : ∀ (u1 : Int32) (u2 : Int32) (u3 : Int32) (y0 : Int32), ∀ ls : Array Slot, lv_has ls 6 [(0, .ref (q 0)), (1, .int u1), (2, .int u2), (3, .int u3)] → fX7_isRest_29 N I A u1 u2 u3 y0 = some r → W p l e rmX7_isRest s m [.ref (q 0), .int x1, .int x2, .int x3].toArray below meth cd s.heap [] 0 0 Q (F0 m 29 ls [.int y0]) := by
    intro u1 u2 u3 y0 ls hl hf
    unfold fX7_isRest_29 at hf
    refine lv_istore (lv' := [(4, .int y0), (0, .ref (q 0)), (1, .int u1), (2, .int u2), (3, .int u3)]) hx hb dX7_isRest_29 hl (by decide) rfl (fun ls hl => ?_)
    refine lv_iconst (v := 0) hx hb dX7_isRest_31 (by decide) ?_
    refine lv_istore (lv' := [(5, .int 0), (4, .int y0), (0, .ref (q 0)), (1, .int u1), (2, .int u2), (3, .int u3)]) hx hb dX7_isRest_32 hl (by decide) rfl (fun ls hl => ?_)
    exact b_34 N u1 u2 u3 y0 0 ls (lv_sub hl [2, 3, 4, 5, 1, 0] rfl) hf
  have b_28 : ∀ (u1 : Int32) (u2 : Int32) (u3 : Int32), ∀ ls : Array Slot, lv_has ls 6 [(0, .ref (q 0)), (1, .int u1), (2, .int u2), (3, .int u3)] → fX7_isRest_28 N I A u1 u2 u3 = some r → W p l e rmX7_isRest s m [.ref (q 0), .int x1, .int x2, .int x3].toArray below meth cd s.heap [] 0 0 Q (F0 m 28 ls []) := by
    intro u1 u2 u3 ls hl hf
    unfold fX7_isRest_28 at hf
    refine lv_iconst (v := 0) hx hb dX7_isRest_28 (by decide) ?_
    exact b_29 u1 u2 u3 0 ls (lv_sub hl [0, 1, 2, 3] rfl) hf
  unfold fX7_isRest at hf
  refine lv_aload_n hx hb dX7_isRest_0 rfl (lv_at hl 0 rfl) ?_
  refine lv_iload_n hx hb dX7_isRest_1 rfl (lv_at hl 1 rfl) ?_
  refine lv_iload_n hx hb dX7_isRest_2 rfl (lv_at hl 3 rfl) ?_
  refine lv_bipush (v := 6) hx hb dX7_isRest_3 (by decide) ?_
  refine lv_idiv hx hb dX7_isRest_5 (by decide) ?_
  obtain ⟨z1, hz1, hf⟩ := bnd hf
  refine x_rdV (C := RX7) (n := 2) (ci := 7) hx hb hml hown hts hE (ct_X7_isChoice N l G cI cZ cO q I A L x1 (x3 / 6) z1 hz1) (bg 33 22 rfl) mb_X7_isChoice.1 mb_X7_isChoice.2.1 mb_X7_isChoice.2.2.1 mb_X7_isChoice.2.2.2 hd_X7_isChoice rfl (by decide) hP rfl rfl rfl rfl hl.1 (Nat.le_of_ble_eq_true rfl) ⟨Nat.zero_le _, Nat.zero_le _⟩ dX7_isRest_6 ?_
  refine lv_if_eq (tgt := 28) hx hb dX7_isRest_9 (by decide) (fun c2 => ?_) (fun c2 => ?_)
  · rw [if_pos c2] at hf
    exact b_28 x1 x2 x3 ls (lv_sub hl [0, 1, 2, 3] rfl) hf
  · rw [if_neg c2] at hf
    refine lv_aload_n hx hb dX7_isRest_12 rfl (lv_at hl 0 rfl) ?_
    refine lv_iload_n hx hb dX7_isRest_13 rfl (lv_at hl 2 rfl) ?_
    refine lv_iload_n hx hb dX7_isRest_14 rfl (lv_at hl 3 rfl) ?_
    refine lv_bipush (v := 6) hx hb dX7_isRest_15 (by decide) ?_
    refine x_irem hx hb dX7_isRest_17 (by decide) ?_
    obtain ⟨z3, hz3, hf⟩ := bnd hf
    refine x_rdV (C := RX7) (n := 2) (ci := 7) hx hb hml hown hts hE (ct_X7_isChoice N l G cI cZ cO q I A L x2 (rem x3 6) z3 hz3) (bg 33 22 rfl) mb_X7_isChoice.1 mb_X7_isChoice.2.1 mb_X7_isChoice.2.2.1 mb_X7_isChoice.2.2.2 hd_X7_isChoice rfl (by decide) hP rfl rfl rfl rfl hl.1 (Nat.le_of_ble_eq_true rfl) ⟨Nat.zero_le _, Nat.zero_le _⟩ dX7_isRest_18 ?_
    refine lv_if_eq (tgt := 28) hx hb dX7_isRest_21 (by decide) (fun c4 => ?_) (fun c4 => ?_)
    · rw [if_pos c4] at hf
      exact b_28 x1 x2 x3 ls (lv_sub hl [0, 1, 2, 3] rfl) hf
    · rw [if_neg c4] at hf
      refine lv_iconst (v := 1) hx hb dX7_isRest_24 (by decide) ?_
      refine lv_goto (tgt := 29) hx hb dX7_isRest_25 (by decide) ?_
      exact b_29 x1 x2 x3 1 ls (lv_sub hl [0, 1, 2, 3] rfl) hf
def fX7_rests_131 (N : Nat) (I : Nat → Int32) (A : Nat → Nat → Int32) (y0 : Int32) : Option (Int32 × (Nat → Nat → Int32)) := some (y0, A)
def fX7_rests_113 (N : Nat) (k_66 : (Nat → Int32) → (Nat → Nat → Int32) → Int32 → Int32 → Int32 → Int32 → Int32 → Int32 → Option (Int32 × (Nat → Nat → Int32))) (I : Nat → Int32) (A : Nat → Nat → Int32) (u1 : Int32) (u2 : Int32) (u4 : Int32) (u5 : Int32) (u6 : Int32) (u7 : Int32) : Option (Int32 × (Nat → Nat → Int32)) := k_66 I A u1 u2 u4 u5 u6 (u7 + 1)
def fX7_rests_108 (N : Nat) (k_66 : (Nat → Int32) → (Nat → Nat → Int32) → Int32 → Int32 → Int32 → Int32 → Int32 → Int32 → Option (Int32 × (Nat → Nat → Int32))) (I : Nat → Int32) (A : Nat → Nat → Int32) (u1 : Int32) (u2 : Int32) (u4 : Int32) (u5 : Int32) (u7 : Int32) (y0 : Int32) : Option (Int32 × (Nat → Nat → Int32)) := fX7_rests_113 N k_66 I A u1 u2 u4 (u5 + 1) y0 u7
def fX7_rests_66s (N : Nat) (k_66 : (Nat → Int32) → (Nat → Nat → Int32) → Int32 → Int32 → Int32 → Int32 → Int32 → Int32 → Option (Int32 × (Nat → Nat → Int32))) (I : Nat → Int32) (A : Nat → Nat → Int32) (u1 : Int32) (u2 : Int32) (u4 : Int32) (u5 : Int32) (u6 : Int32) (u7 : Int32) : Option (Int32 × (Nat → Nat → Int32)) := if 36 ≤ u7 then if u4 = 0 then fX7_rests_131 N I A u5 else fX7_rests_131 N I A u6 else (fX7_isRest N I A u1 u2 u7).bind fun z3 => if z3 = 0 then fX7_rests_113 N k_66 I A u1 u2 u4 u5 u6 u7 else if u5 = 0 then fX7_rests_108 N k_66 I A u1 u2 u4 u5 u7 ((10 * (u7 / 6)) + (rem u7 6)) else fX7_rests_108 N k_66 I A u1 u2 u4 u5 u7 u6
def fX7_rests_66 (N : Nat) : Nat → (Nat → Int32) → (Nat → Nat → Int32) → Int32 → Int32 → Int32 → Int32 → Int32 → Int32 → Option (Int32 × (Nat → Nat → Int32))
  | 0 => fun _ _ _ _ _ _ _ _ => none
  | n + 1 => fX7_rests_66s N (fX7_rests_66 N n)
def fX7_rests_46 (N : Nat) (I : Nat → Int32) (A : Nat → Nat → Int32) : Option (Int32 × (Nat → Nat → Int32)) := some ((-2), A)
def fX7_rests_16 (N : Nat) (I : Nat → Int32) (A : Nat → Nat → Int32) : Option (Int32 × (Nat → Nat → Int32)) := some ((-1), A)
def fX7_rests (N : Nat) (I : Nat → Int32) (A : Nat → Nat → Int32) (x1 : Int32) (x2 : Int32) (x3 : Int32) (x4 : Int32) : Option (Int32 × (Nat → Nat → Int32)) := (fX7_isPerson N I x1).bind fun z1 => if z1 = 0 then fX7_rests_16 N I A else (fX7_isPerson N I x2).bind fun z3 => if z3 = 0 then fX7_rests_16 N I A else if x1 = x2 then fX7_rests_46 N I A else (fX7_in N (Int32.toInt64 x3) 0 8).bind fun z6 => if z6 = 0 then fX7_rests_46 N I A else (fX7_in N (Int32.toInt64 x4) 0 1).bind fun z8 => if z8 = 0 then fX7_rests_46 N I A else (fX7_layPairs N I A x1 x2 x3).bind fun z10 => fX7_rests_66 N N I z10 x1 x2 x4 0 (-9) 0
def rmX7_rests : Room := { frames := 4, cells := 0, slots := 0, locals := 95 }
theorem mb_X7_rests : Cond.instanceMethod yX7_rests ∈ wsL_law ∧ Cond.selects RX7 yX7_rests yX7_rests ∈ wsL_law ∧ Cond.initialized RX7 ∈ wsL_law ∧ Cond.code yX7_rests cX7_rests 8 (some .int) ∈ wsL_law := ⟨(bg 33 15 rfl), (bg 33 16 rfl), (bg 0 5 rfl), (bg 33 17 rfl)⟩
theorem hd_X7_rests : yX7_rests.cls = RX7 ∧ yX7_rests.cls ≠ "java/lang/invoke/MethodHandle" ∧ yX7_rests.cls ≠ "java/lang/invoke/VarHandle" ∧ (parseMethodDescriptor yX7_rests.desc).map (fun d => d.parameters.length) = some 4 := by decide +kernel
set_option maxRecDepth 100000 in
set_option maxHeartbeats 4000000 in
theorem ct_X7_rests (N : Nat) (l : Launch) (G : va_G) (cI cZ cO : ClassId) (q : Nat → Nat) (I : Nat → Int32) (A : Nat → Nat → Int32) (L : Int64) (x1 : Int32) (x2 : Int32) (x3 : Int32) (x4 : Int32) (r : Int32) (Az : Nat → Nat → Int32) (hf : fX7_rests N I A x1 x2 x3 x4 = some (r, Az)) : CtI l yX7_rests cX7_rests 8 .int rmX7_rests G cI cZ cO [.ref (q 0), .int x1, .int x2, .int x3, .int x4] (wX7 q cI cZ cO I A L) (wX7 q cI cZ cO I Az L) r := by
  refine mkCI (by decide) (Nat.le_of_ble_eq_true rfl) ?_
  intro p e s m below meth cd Q Z hC hP hE hD hA fin ls hl
  obtain ⟨hx, hb, hml, hown, hts⟩ := hC
  have hown : s.vm.findClass RX7 = some m.cls := hown
  have hl : lv_has ls 8 [(0, .ref (q 0)), (1, .int x1), (2, .int x2), (3, .int x3), (4, .int x4)] := hl
  have b_131 : ∀ (A : Nat → Nat → Int32) (y0 : Int32), ∀ (H : Heap) (locs : List Loc), va_P G vwCl (wX7 q cI cZ cO I A L) H → va_D Z (wX7 q cI cZ cO I A L) → va_S Z s.heap H locs → ∀ ls : Array Slot, lv_has ls 8 [] → fX7_rests_131 N I A y0 = some (r, Az) → W p l e rmX7_rests s m [.ref (q 0), .int x1, .int x2, .int x3, .int x4].toArray below meth cd H locs 0 0 Q (F0 m 131 ls [.int y0]) := by
    intro A y0 H locs hP hD hS ls hl hf
    unfold fX7_rests_131 at hf
    have e9 := Option.some.inj hf
    exact fin H locs 131 ls _ (Prod.mk.inj e9).1 (nar_i _) (by rw [← (Prod.mk.inj e9).2]; exact hP) hS dX7_rests_131
  have b_113 : ∀ (k_66 : (Nat → Int32) → (Nat → Nat → Int32) → Int32 → Int32 → Int32 → Int32 → Int32 → Int32 → Option (Int32 × (Nat → Nat → Int32))) (hk_66 : ∀ (A : Nat → Nat → Int32) (u1 : Int32) (u2 : Int32) (u4 : Int32) (u5 : Int32) (u6 : Int32) (u7 : Int32), ∀ (H : Heap) (locs : List Loc), va_P G vwCl (wX7 q cI cZ cO I A L) H → va_D Z (wX7 q cI cZ cO I A L) → va_S Z s.heap H locs → ∀ ls : Array Slot, lv_has ls 8 [(0, .ref (q 0)), (1, .int u1), (2, .int u2), (4, .int u4), (5, .int u5), (6, .int u6), (7, .int u7)] → k_66 I A u1 u2 u4 u5 u6 u7 = some (r, Az) → W p l e rmX7_rests s m [.ref (q 0), .int x1, .int x2, .int x3, .int x4].toArray below meth cd H locs 0 0 Q (F0 m 66 ls [])), ∀ (A : Nat → Nat → Int32) (u1 : Int32) (u2 : Int32) (u4 : Int32) (u5 : Int32) (u6 : Int32) (u7 : Int32), ∀ (H : Heap) (locs : List Loc), va_P G vwCl (wX7 q cI cZ cO I A L) H → va_D Z (wX7 q cI cZ cO I A L) → va_S Z s.heap H locs → ∀ ls : Array Slot, lv_has ls 8 [(0, .ref (q 0)), (1, .int u1), (2, .int u2), (4, .int u4), (5, .int u5), (6, .int u6), (7, .int u7)] → fX7_rests_113 N k_66 I A u1 u2 u4 u5 u6 u7 = some (r, Az) → W p l e rmX7_rests s m [.ref (q 0), .int x1, .int x2, .int x3, .int x4].toArray below meth cd H locs 0 0 Q (F0 m 113 ls []) := by
    intro k_66 hk_66 A u1 u2 u4 u5 u6 u7 H locs hP hD hS ls hl hf
    unfold fX7_rests_113 at hf
    refine lv_iinc (v := u7 + 1) (lv' := [(7, .int (u7 + 1)), (0, .ref (q 0)), (1, .int u1), (2, .int u2), (4, .int u4), (5, .int u5), (6, .int u6)]) hx hb dX7_rests_113 hl (k := 6) rfl rfl (by decide) rfl (fun ls hl => ?_)
    refine lv_goto (tgt := 66) hx hb dX7_rests_116 (by decide) ?_
    exact hk_66 A u1 u2 u4 u5 u6 (u7 + 1) H locs hP hD hS ls (lv_sub hl [1, 2, 3, 4, 5, 6, 0] rfl) hf
  have b_108 : ∀ (k_66 : (Nat → Int32) → (Nat → Nat → Int32) → Int32 → Int32 → Int32 → Int32 → Int32 → Int32 → Option (Int32 × (Nat → Nat → Int32))) (hk_66 : ∀ (A : Nat → Nat → Int32) (u1 : Int32) (u2 : Int32) (u4 : Int32) (u5 : Int32) (u6 : Int32) (u7 : Int32), ∀ (H : Heap) (locs : List Loc), va_P G vwCl (wX7 q cI cZ cO I A L) H → va_D Z (wX7 q cI cZ cO I A L) → va_S Z s.heap H locs → ∀ ls : Array Slot, lv_has ls 8 [(0, .ref (q 0)), (1, .int u1), (2, .int u2), (4, .int u4), (5, .int u5), (6, .int u6), (7, .int u7)] → k_66 I A u1 u2 u4 u5 u6 u7 = some (r, Az) → W p l e rmX7_rests s m [.ref (q 0), .int x1, .int x2, .int x3, .int x4].toArray below meth cd H locs 0 0 Q (F0 m 66 ls [])), ∀ (A : Nat → Nat → Int32) (u1 : Int32) (u2 : Int32) (u4 : Int32) (u5 : Int32) (u7 : Int32) (y0 : Int32), ∀ (H : Heap) (locs : List Loc), va_P G vwCl (wX7 q cI cZ cO I A L) H → va_D Z (wX7 q cI cZ cO I A L) → va_S Z s.heap H locs → ∀ ls : Array Slot, lv_has ls 8 [(0, .ref (q 0)), (1, .int u1), (2, .int u2), (4, .int u4), (5, .int u5), (7, .int u7)] → fX7_rests_108 N k_66 I A u1 u2 u4 u5 u7 y0 = some (r, Az) → W p l e rmX7_rests s m [.ref (q 0), .int x1, .int x2, .int x3, .int x4].toArray below meth cd H locs 0 0 Q (F0 m 108 ls [.int y0]) := by
    intro k_66 hk_66 A u1 u2 u4 u5 u7 y0 H locs hP hD hS ls hl hf
    unfold fX7_rests_108 at hf
    refine lv_istore (lv' := [(6, .int y0), (0, .ref (q 0)), (1, .int u1), (2, .int u2), (4, .int u4), (5, .int u5), (7, .int u7)]) hx hb dX7_rests_108 hl (by decide) rfl (fun ls hl => ?_)
    refine lv_iinc (v := u5 + 1) (lv' := [(5, .int (u5 + 1)), (6, .int y0), (0, .ref (q 0)), (1, .int u1), (2, .int u2), (4, .int u4), (7, .int u7)]) hx hb dX7_rests_110 hl (k := 5) rfl rfl (by decide) rfl (fun ls hl => ?_)
    exact b_113 k_66 hk_66 A u1 u2 u4 (u5 + 1) y0 u7 H locs hP hD hS ls (lv_sub hl [2, 3, 4, 5, 0, 1, 6] rfl) hf
  have b_66 : ∀ n : Nat, ∀ (A : Nat → Nat → Int32) (u1 : Int32) (u2 : Int32) (u4 : Int32) (u5 : Int32) (u6 : Int32) (u7 : Int32), ∀ (H : Heap) (locs : List Loc), va_P G vwCl (wX7 q cI cZ cO I A L) H → va_D Z (wX7 q cI cZ cO I A L) → va_S Z s.heap H locs → ∀ ls : Array Slot, lv_has ls 8 [(0, .ref (q 0)), (1, .int u1), (2, .int u2), (4, .int u4), (5, .int u5), (6, .int u6), (7, .int u7)] → fX7_rests_66 N n I A u1 u2 u4 u5 u6 u7 = some (r, Az) → W p l e rmX7_rests s m [.ref (q 0), .int x1, .int x2, .int x3, .int x4].toArray below meth cd H locs 0 0 Q (F0 m 66 ls []) := by
    intro n
    induction n with
    | zero =>
      intro A u1 u2 u4 u5 u6 u7 H locs hP hD hS ls hl hf
      cases hf
    | succ n hk_66 =>
      intro A u1 u2 u4 u5 u6 u7 H locs hP hD hS ls hl hf
      replace hf : fX7_rests_66s N (fX7_rests_66 N n) I A u1 u2 u4 u5 u6 u7 = some (r, Az) := hf
      generalize fX7_rests_66 N n = k_66 at hf hk_66
      unfold fX7_rests_66s at hf
      refine lv_iload hx hb dX7_rests_66 (lv_at hl 6 rfl) ?_
      refine lv_bipush (v := 36) hx hb dX7_rests_68 (by decide) ?_
      refine lv_icmp_ge (tgt := 119) hx hb dX7_rests_70 (by decide) (fun c1 => ?_) (fun c1 => ?_)
      · rw [if_pos c1] at hf
        refine lv_iload hx hb dX7_rests_119 (lv_at hl 3 rfl) ?_
        refine lv_if_ne (tgt := 129) hx hb dX7_rests_121 (by decide) (fun c2 => ?_) (fun c2 => ?_)
        · rw [if_neg c2] at hf
          refine lv_iload hx hb dX7_rests_129 (lv_at hl 5 rfl) ?_
          exact b_131 A u6 H locs hP hD hS ls (lv_sub hl [] rfl) hf
        · rw [if_pos c2] at hf
          refine lv_iload hx hb dX7_rests_124 (lv_at hl 4 rfl) ?_
          refine lv_goto (tgt := 131) hx hb dX7_rests_126 (by decide) ?_
          exact b_131 A u5 H locs hP hD hS ls (lv_sub hl [] rfl) hf
      · rw [if_neg c1] at hf
        refine lv_aload_n hx hb dX7_rests_73 rfl (lv_at hl 0 rfl) ?_
        refine lv_iload_n hx hb dX7_rests_74 rfl (lv_at hl 1 rfl) ?_
        refine lv_iload_n hx hb dX7_rests_75 rfl (lv_at hl 2 rfl) ?_
        refine lv_iload hx hb dX7_rests_76 (lv_at hl 6 rfl) ?_
        obtain ⟨z3, hz3, hf⟩ := bnd hf
        refine x_rdV (C := RX7) (n := 3) (ci := 7) hx hb hml hown hts hE (ct_X7_isRest N l G cI cZ cO q I A L u1 u2 u7 z3 hz3) (bg 34 2 rfl) mb_X7_isRest.1 mb_X7_isRest.2.1 mb_X7_isRest.2.2.1 mb_X7_isRest.2.2.2 hd_X7_isRest rfl (by decide) hP rfl rfl rfl rfl hl.1 (Nat.le_of_ble_eq_true rfl) ⟨Nat.zero_le _, Nat.zero_le _⟩ dX7_rests_78 ?_
        refine lv_if_eq (tgt := 113) hx hb dX7_rests_81 (by decide) (fun c4 => ?_) (fun c4 => ?_)
        · rw [if_pos c4] at hf
          exact b_113 k_66 hk_66 A u1 u2 u4 u5 u6 u7 H locs hP hD hS ls (lv_sub hl [0, 1, 2, 3, 4, 5, 6] rfl) hf
        · rw [if_neg c4] at hf
          refine lv_iload hx hb dX7_rests_84 (lv_at hl 4 rfl) ?_
          refine lv_if_ne (tgt := 106) hx hb dX7_rests_86 (by decide) (fun c5 => ?_) (fun c5 => ?_)
          · rw [if_neg c5] at hf
            refine lv_iload hx hb dX7_rests_106 (lv_at hl 5 rfl) ?_
            exact b_108 k_66 hk_66 A u1 u2 u4 u5 u7 u6 H locs hP hD hS ls (lv_sub hl [0, 1, 2, 3, 4, 6] rfl) hf
          · rw [if_pos c5] at hf
            refine lv_bipush (v := 10) hx hb dX7_rests_89 (by decide) ?_
            refine lv_iload hx hb dX7_rests_91 (lv_at hl 6 rfl) ?_
            refine lv_bipush (v := 6) hx hb dX7_rests_93 (by decide) ?_
            refine lv_idiv hx hb dX7_rests_95 (by decide) ?_
            refine lv_imul hx hb dX7_rests_96 ?_
            refine lv_iload hx hb dX7_rests_97 (lv_at hl 6 rfl) ?_
            refine lv_bipush (v := 6) hx hb dX7_rests_99 (by decide) ?_
            refine x_irem hx hb dX7_rests_101 (by decide) ?_
            refine lv_iadd hx hb dX7_rests_102 ?_
            refine lv_goto (tgt := 108) hx hb dX7_rests_103 (by decide) ?_
            exact b_108 k_66 hk_66 A u1 u2 u4 u5 u7 ((10 * (u7 / 6)) + (rem u7 6)) H locs hP hD hS ls (lv_sub hl [0, 1, 2, 3, 4, 6] rfl) hf
  have b_46 : ∀ (A : Nat → Nat → Int32), ∀ (H : Heap) (locs : List Loc), va_P G vwCl (wX7 q cI cZ cO I A L) H → va_D Z (wX7 q cI cZ cO I A L) → va_S Z s.heap H locs → ∀ ls : Array Slot, lv_has ls 8 [] → fX7_rests_46 N I A = some (r, Az) → W p l e rmX7_rests s m [.ref (q 0), .int x1, .int x2, .int x3, .int x4].toArray below meth cd H locs 0 0 Q (F0 m 46 ls []) := by
    intro A H locs hP hD hS ls hl hf
    unfold fX7_rests_46 at hf
    refine lv_bipush (v := (-2)) hx hb dX7_rests_46 (by decide) ?_
    have e9 := Option.some.inj hf
    exact fin H locs 48 ls _ (Prod.mk.inj e9).1 (nar_i _) (by rw [← (Prod.mk.inj e9).2]; exact hP) hS dX7_rests_48
  have b_16 : ∀ (A : Nat → Nat → Int32), ∀ (H : Heap) (locs : List Loc), va_P G vwCl (wX7 q cI cZ cO I A L) H → va_D Z (wX7 q cI cZ cO I A L) → va_S Z s.heap H locs → ∀ ls : Array Slot, lv_has ls 8 [] → fX7_rests_16 N I A = some (r, Az) → W p l e rmX7_rests s m [.ref (q 0), .int x1, .int x2, .int x3, .int x4].toArray below meth cd H locs 0 0 Q (F0 m 16 ls []) := by
    intro A H locs hP hD hS ls hl hf
    unfold fX7_rests_16 at hf
    refine lv_iconst (v := (-1)) hx hb dX7_rests_16 (by decide) ?_
    have e9 := Option.some.inj hf
    exact fin H locs 17 ls _ (Prod.mk.inj e9).1 (nar_i _) (by rw [← (Prod.mk.inj e9).2]; exact hP) hS dX7_rests_17
  unfold fX7_rests at hf
  have hS : va_S Z s.heap s.heap [] := va_S.rf
  obtain ⟨H, hH⟩ : ∃ H, H = s.heap := ⟨_, rfl⟩
  obtain ⟨locs, hlocs⟩ : ∃ locs : List Loc, locs = [] := ⟨_, rfl⟩
  rw [← hlocs]
  rw [← hlocs] at hS
  suffices hW : ∀ H : Heap, va_P G vwCl (wX7 q cI cZ cO I A L) H → va_S Z s.heap H locs → W p l e rmX7_rests s m [.ref (q 0), .int x1, .int x2, .int x3, .int x4].toArray below meth cd H locs 0 0 Q (F0 m 0 ls []) from hW s.heap hP hS
  clear hP hS hH H
  intro H hP hS
  refine lv_aload_n hx hb dX7_rests_0 rfl (lv_at hl 0 rfl) ?_
  refine lv_iload_n hx hb dX7_rests_1 rfl (lv_at hl 1 rfl) ?_
  obtain ⟨z1, hz1, hf⟩ := bnd hf
  refine x_rdV (C := RX7) (n := 1) (ci := 7) hx hb hml hown hts hE (ct_X7_isPerson N l G cI cZ cO q I A L x1 z1 hz1) (bg 14 3 rfl) mb_X7_isPerson.1 mb_X7_isPerson.2.1 mb_X7_isPerson.2.2.1 mb_X7_isPerson.2.2.2 hd_X7_isPerson rfl (by decide) hP rfl rfl rfl rfl hl.1 (Nat.le_of_ble_eq_true rfl) ⟨Nat.zero_le _, Nat.zero_le _⟩ dX7_rests_2 ?_
  refine lv_if_eq (tgt := 16) hx hb dX7_rests_5 (by decide) (fun c2 => ?_) (fun c2 => ?_)
  · rw [if_pos c2] at hf
    exact b_16 A H locs hP hD hS ls (lv_sub hl [] rfl) hf
  · rw [if_neg c2] at hf
    refine lv_aload_n hx hb dX7_rests_8 rfl (lv_at hl 0 rfl) ?_
    refine lv_iload_n hx hb dX7_rests_9 rfl (lv_at hl 2 rfl) ?_
    obtain ⟨z3, hz3, hf⟩ := bnd hf
    refine x_rdV (C := RX7) (n := 1) (ci := 7) hx hb hml hown hts hE (ct_X7_isPerson N l G cI cZ cO q I A L x2 z3 hz3) (bg 14 3 rfl) mb_X7_isPerson.1 mb_X7_isPerson.2.1 mb_X7_isPerson.2.2.1 mb_X7_isPerson.2.2.2 hd_X7_isPerson rfl (by decide) hP rfl rfl rfl rfl hl.1 (Nat.le_of_ble_eq_true rfl) ⟨Nat.zero_le _, Nat.zero_le _⟩ dX7_rests_10 ?_
    refine lv_if_ne (tgt := 18) hx hb dX7_rests_13 (by decide) (fun c4 => ?_) (fun c4 => ?_)
    · rw [if_neg c4] at hf
      refine lv_iload_n hx hb dX7_rests_18 rfl (lv_at hl 1 rfl) ?_
      refine lv_iload_n hx hb dX7_rests_19 rfl (lv_at hl 2 rfl) ?_
      refine lv_icmp_eq (tgt := 46) hx hb dX7_rests_20 (by decide) (fun c5 => ?_) (fun c5 => ?_)
      · rw [if_pos c5] at hf
        exact b_46 A H locs hP hD hS ls (lv_sub hl [] rfl) hf
      · rw [if_neg c5] at hf
        refine lv_iload_n hx hb dX7_rests_23 rfl (lv_at hl 3 rfl) ?_
        refine lv_i2l (v := Int32.toInt64 x3) hx hb dX7_rests_24 rfl ?_
        refine lv_lconst (v := 0) hx hb dX7_rests_25 (by decide) ?_
        refine lv_ldc2 hx hb hown (hts _ (bg 23 1 rfl)) dX7_rests_26 ?_
        obtain ⟨z6, hz6, hf⟩ := bnd hf
        refine x_rdS (n := 3) hx hb hml hown hts hE (ct_X7_in N l G cI cZ cO (Int32.toInt64 x3) 0 8 z6 hz6) (bg 5 9 rfl) mb_X7_in.1 mb_X7_in.2.1 mb_X7_in.2.2 hd_X7_in rfl (by decide) va_P_nil rfl hl.1 (Nat.le_of_ble_eq_true rfl) ⟨Nat.zero_le _, Nat.zero_le _⟩ dX7_rests_29 ?_
        refine lv_if_eq (tgt := 46) hx hb dX7_rests_32 (by decide) (fun c7 => ?_) (fun c7 => ?_)
        · rw [if_pos c7] at hf
          exact b_46 A H locs hP hD hS ls (lv_sub hl [] rfl) hf
        · rw [if_neg c7] at hf
          refine lv_iload hx hb dX7_rests_35 (lv_at hl 4 rfl) ?_
          refine lv_i2l (v := Int32.toInt64 x4) hx hb dX7_rests_37 rfl ?_
          refine lv_lconst (v := 0) hx hb dX7_rests_38 (by decide) ?_
          refine lv_lconst (v := 1) hx hb dX7_rests_39 (by decide) ?_
          obtain ⟨z8, hz8, hf⟩ := bnd hf
          refine x_rdS (n := 3) hx hb hml hown hts hE (ct_X7_in N l G cI cZ cO (Int32.toInt64 x4) 0 1 z8 hz8) (bg 5 9 rfl) mb_X7_in.1 mb_X7_in.2.1 mb_X7_in.2.2 hd_X7_in rfl (by decide) va_P_nil rfl hl.1 (Nat.le_of_ble_eq_true rfl) ⟨Nat.zero_le _, Nat.zero_le _⟩ dX7_rests_40 ?_
          refine lv_if_ne (tgt := 49) hx hb dX7_rests_43 (by decide) (fun c9 => ?_) (fun c9 => ?_)
          · rw [if_neg c9] at hf
            refine lv_aload_n hx hb dX7_rests_49 rfl (lv_at hl 0 rfl) ?_
            refine lv_iload_n hx hb dX7_rests_50 rfl (lv_at hl 1 rfl) ?_
            refine lv_iload_n hx hb dX7_rests_51 rfl (lv_at hl 2 rfl) ?_
            refine lv_iload_n hx hb dX7_rests_52 rfl (lv_at hl 3 rfl) ?_
            obtain ⟨z10, hz10, hf⟩ := bnd hf
            refine x_wwVv (C := RX7) (n := 3) (ci := 7) hx hb hml hown hts hE (ct_X7_layPairs N l G cI cZ cO q I A L x1 x2 x3 z10 hz10) (bg 33 18 rfl) mb_X7_layPairs.1 mb_X7_layPairs.2.1 mb_X7_layPairs.2.2.1 mb_X7_layPairs.2.2.2 hd_X7_layPairs rfl (by decide) hP hD hS hA rfl rfl rfl rfl rfl hl.1 (Nat.le_of_ble_eq_true rfl) ⟨Nat.zero_le _, Nat.zero_le _⟩ dX7_rests_53 (fun H locs hP hD hS => ?_)
            have hP : va_P G vwCl (wX7 q cI cZ cO I z10 L) H := hP
            have hD : va_D Z (wX7 q cI cZ cO I z10 L) := hD
            refine lv_iconst (v := 0) hx hb dX7_rests_56 (by decide) ?_
            refine lv_istore (lv' := [(5, .int 0), (0, .ref (q 0)), (1, .int x1), (2, .int x2), (3, .int x3), (4, .int x4)]) hx hb dX7_rests_57 hl (by decide) rfl (fun ls hl => ?_)
            refine lv_bipush (v := (-9)) hx hb dX7_rests_59 (by decide) ?_
            refine lv_istore (lv' := [(6, .int (-9)), (5, .int 0), (0, .ref (q 0)), (1, .int x1), (2, .int x2), (3, .int x3), (4, .int x4)]) hx hb dX7_rests_61 hl (by decide) rfl (fun ls hl => ?_)
            refine lv_iconst (v := 0) hx hb dX7_rests_63 (by decide) ?_
            refine lv_istore (lv' := [(7, .int 0), (6, .int (-9)), (5, .int 0), (0, .ref (q 0)), (1, .int x1), (2, .int x2), (3, .int x3), (4, .int x4)]) hx hb dX7_rests_64 hl (by decide) rfl (fun ls hl => ?_)
            exact b_66 N z10 x1 x2 x4 0 (-9) 0 H locs hP hD hS ls (lv_sub hl [3, 4, 5, 7, 2, 1, 0] rfl) hf
          · rw [if_pos c9] at hf
            exact b_46 A H locs hP hD hS ls (lv_sub hl [] rfl) hf
    · rw [if_pos c4] at hf
      exact b_16 A H locs hP hD hS ls (lv_sub hl [] rfl) hf
def fX7_chance_238 (N : Nat) (I : Nat → Int32) (A : Nat → Nat → Int32) (y0 : Int32) : Option (Int32 × (Nat → Nat → Int32)) := some (y0, A)
def fX7_chance_205 (N : Nat) (k_76 : (Nat → Int32) → (Nat → Nat → Int32) → Int32 → Int32 → Int32 → Int32 → Int32 → Int32 → Int32 → Int32 → Option (Int32 × (Nat → Nat → Int32))) (I : Nat → Int32) (A : Nat → Nat → Int32) (u1 : Int32) (u2 : Int32) (u3 : Int32) (u4 : Int32) (u5 : Int32) (u6 : Int32) (u7 : Int32) (u8 : Int32) : Option (Int32 × (Nat → Nat → Int32)) := k_76 I A u1 u2 u3 u4 u5 u6 u7 (u8 + 1)
def fX7_chance_202 (N : Nat) (k_76 : (Nat → Int32) → (Nat → Nat → Int32) → Int32 → Int32 → Int32 → Int32 → Int32 → Int32 → Int32 → Int32 → Option (Int32 × (Nat → Nat → Int32))) (I : Nat → Int32) (A : Nat → Nat → Int32) (u1 : Int32) (u2 : Int32) (u3 : Int32) (u4 : Int32) (u5 : Int32) (u7 : Int32) (u8 : Int32) (y0 : Int32) (y1 : Int32) : Option (Int32 × (Nat → Nat → Int32)) := fX7_chance_205 N k_76 I A u1 u2 u3 u4 u5 (y0 + y1) u7 u8
def fX7_chance_165 (N : Nat) (k_76 : (Nat → Int32) → (Nat → Nat → Int32) → Int32 → Int32 → Int32 → Int32 → Int32 → Int32 → Int32 → Int32 → Option (Int32 × (Nat → Nat → Int32))) (k_103 : (Nat → Int32) → (Nat → Nat → Int32) → Int32 → Int32 → Int32 → Int32 → Int32 → Int32 → Int32 → Int32 → Int32 → Int32 → Option (Int32 × (Nat → Nat → Int32))) (I : Nat → Int32) (A : Nat → Nat → Int32) (u1 : Int32) (u2 : Int32) (u3 : Int32) (u4 : Int32) (u5 : Int32) (u6 : Int32) (u7 : Int32) (u8 : Int32) (u9 : Int32) (u10 : Int32) : Option (Int32 × (Nat → Nat → Int32)) := k_103 I A u1 u2 u3 u4 u5 u6 u7 u8 u9 (u10 + 1)
def fX7_chance_144 (N : Nat) (k_76 : (Nat → Int32) → (Nat → Nat → Int32) → Int32 → Int32 → Int32 → Int32 → Int32 → Int32 → Int32 → Int32 → Option (Int32 × (Nat → Nat → Int32))) (k_103 : (Nat → Int32) → (Nat → Nat → Int32) → Int32 → Int32 → Int32 → Int32 → Int32 → Int32 → Int32 → Int32 → Int32 → Int32 → Option (Int32 × (Nat → Nat → Int32))) (I : Nat → Int32) (A : Nat → Nat → Int32) (u1 : Int32) (u2 : Int32) (u3 : Int32) (u4 : Int32) (u5 : Int32) (u6 : Int32) (u7 : Int32) (u8 : Int32) (u10 : Int32) (y0 : Int32) (y1 : Int32) : Option (Int32 × (Nat → Nat → Int32)) := (fX7_has N u8 u10).bind fun z1 => if z1 = 0 then fX7_chance_165 N k_76 k_103 I A u1 u2 u3 u4 u5 u6 u7 u8 (y0 * y1) u10 else (fX7_denyOn N A 1 u1 u10).bind fun z3 => fX7_chance_165 N k_76 k_103 I z3 u1 u2 u3 u4 u5 u6 u7 u8 (y0 * y1) u10
def fX7_chance_103s (N : Nat) (k_76 : (Nat → Int32) → (Nat → Nat → Int32) → Int32 → Int32 → Int32 → Int32 → Int32 → Int32 → Int32 → Int32 → Option (Int32 × (Nat → Nat → Int32))) (k_103 : (Nat → Int32) → (Nat → Nat → Int32) → Int32 → Int32 → Int32 → Int32 → Int32 → Int32 → Int32 → Int32 → Int32 → Int32 → Option (Int32 × (Nat → Nat → Int32))) (I : Nat → Int32) (A : Nat → Nat → Int32) (u1 : Int32) (u2 : Int32) (u3 : Int32) (u4 : Int32) (u5 : Int32) (u6 : Int32) (u7 : Int32) (u8 : Int32) (u9 : Int32) (u10 : Int32) : Option (Int32 × (Nat → Nat → Int32)) := if 6 ≤ u10 then (fX7_dawnOn N I A 1).bind fun z2 => (fX7_worthOf N z2.2 1 u1).bind fun z3 => if z3 < u2 then fX7_chance_202 N k_76 I z2.2 u1 u2 u3 u4 u5 (u7 + u9) u8 u6 0 else fX7_chance_202 N k_76 I z2.2 u1 u2 u3 u4 u5 (u7 + u9) u8 u6 u9 else (fX7_has N u5 u10).bind fun z5 => if z5 = 0 then fX7_chance_144 N k_76 k_103 I A u1 u2 u3 u4 u5 u6 u7 u8 u10 u9 1 else (fX7_has N u8 u10).bind fun z7 => if z7 = 0 then fX7_chance_144 N k_76 k_103 I A u1 u2 u3 u4 u5 u6 u7 u8 u10 u9 (10 - u3) else fX7_chance_144 N k_76 k_103 I A u1 u2 u3 u4 u5 u6 u7 u8 u10 u9 u3
def fX7_chance_103 (N : Nat) (k_76 : (Nat → Int32) → (Nat → Nat → Int32) → Int32 → Int32 → Int32 → Int32 → Int32 → Int32 → Int32 → Int32 → Option (Int32 × (Nat → Nat → Int32))) : Nat → (Nat → Int32) → (Nat → Nat → Int32) → Int32 → Int32 → Int32 → Int32 → Int32 → Int32 → Int32 → Int32 → Int32 → Int32 → Option (Int32 × (Nat → Nat → Int32))
  | 0 => fun _ _ _ _ _ _ _ _ _ _ _ _ => none
  | n + 1 => fX7_chance_103s N k_76 (fX7_chance_103 N k_76 n)
def fX7_chance_76s (N : Nat) (k_76 : (Nat → Int32) → (Nat → Nat → Int32) → Int32 → Int32 → Int32 → Int32 → Int32 → Int32 → Int32 → Int32 → Option (Int32 × (Nat → Nat → Int32))) (I : Nat → Int32) (A : Nat → Nat → Int32) (u1 : Int32) (u2 : Int32) (u3 : Int32) (u4 : Int32) (u5 : Int32) (u6 : Int32) (u7 : Int32) (u8 : Int32) : Option (Int32 × (Nat → Nat → Int32)) := if 63 < u8 then (fX7_common N u6 u7).bind fun z2 => if u4 = 0 then (nz z2).bind fun v4 => fX7_chance_238 N I A (u7 / v4) else (nz z2).bind fun v5 => fX7_chance_238 N I A (u6 / v5) else if (u8 &&& (u5 ^^^ (-1))) = 0 then (fX7_layTrial N A).bind fun z7 => fX7_chance_103 N k_76 N I z7 u1 u2 u3 u4 u5 u6 u7 u8 1 0 else fX7_chance_205 N k_76 I A u1 u2 u3 u4 u5 u6 u7 u8
def fX7_chance_76 (N : Nat) : Nat → (Nat → Int32) → (Nat → Nat → Int32) → Int32 → Int32 → Int32 → Int32 → Int32 → Int32 → Int32 → Int32 → Option (Int32 × (Nat → Nat → Int32))
  | 0 => fun _ _ _ _ _ _ _ _ _ _ => none
  | n + 1 => fX7_chance_76s N (fX7_chance_76 N n)
def fX7_chance_65 (N : Nat) (I : Nat → Int32) (A : Nat → Nat → Int32) (u1 : Int32) (u2 : Int32) (u3 : Int32) (u4 : Int32) (y0 : Int32) : Option (Int32 × (Nat → Nat → Int32)) := fX7_chance_76 N N I A u1 u2 u3 u4 y0 0 0 0
def fX7_chance_59 (N : Nat) (I : Nat → Int32) (A : Nat → Nat → Int32) (u1 : Int32) (u2 : Int32) (u3 : Int32) (u4 : Int32) : Option (Int32 × (Nat → Nat → Int32)) := (rd 62 (A 5) u1).bind fun v1 => fX7_chance_65 N I A u1 u2 u3 u4 v1
def fX7_chance_34 (N : Nat) (I : Nat → Int32) (A : Nat → Nat → Int32) : Option (Int32 × (Nat → Nat → Int32)) := some ((-2), A)
def fX7_chance (N : Nat) (I : Nat → Int32) (A : Nat → Nat → Int32) (x1 : Int32) (x2 : Int32) (x3 : Int32) (x4 : Int32) : Option (Int32 × (Nat → Nat → Int32)) := (fX7_isRumour N I x1).bind fun z1 => if z1 = 0 then some ((-1), A) else (fX7_in N (Int32.toInt64 x2) 0 20).bind fun z3 => if z3 = 0 then fX7_chance_34 N I A else (fX7_in N (Int32.toInt64 x3) 0 10).bind fun z5 => if z5 = 0 then fX7_chance_34 N I A else (fX7_isProved N A 0 x1).bind fun z7 => if z7 = 0 then fX7_chance_59 N I A x1 x2 x3 x4 else (rd 5 (A 1) x1).bind fun v9 => if v9 = 0 then fX7_chance_65 N I A x1 x2 x3 x4 0 else fX7_chance_59 N I A x1 x2 x3 x4
def rmX7_chance : Room := { frames := 2, cells := 0, slots := 0, locals := 49 }
theorem mb_X7_chance : Cond.instanceMethod yX7_chance ∈ wsL_law ∧ Cond.selects RX7 yX7_chance yX7_chance ∈ wsL_law ∧ Cond.initialized RX7 ∈ wsL_law ∧ Cond.code yX7_chance cX7_chance 11 (some .int) ∈ wsL_law := ⟨(bg 34 19 rfl), (bg 34 20 rfl), (bg 0 5 rfl), (bg 34 21 rfl)⟩
theorem hd_X7_chance : yX7_chance.cls = RX7 ∧ yX7_chance.cls ≠ "java/lang/invoke/MethodHandle" ∧ yX7_chance.cls ≠ "java/lang/invoke/VarHandle" ∧ (parseMethodDescriptor yX7_chance.desc).map (fun d => d.parameters.length) = some 4 := by decide +kernel
set_option maxRecDepth 100000 in
set_option maxHeartbeats 4000000 in
theorem ct_X7_chance (N : Nat) (l : Launch) (G : va_G) (cI cZ cO : ClassId) (q : Nat → Nat) (I : Nat → Int32) (A : Nat → Nat → Int32) (L : Int64) (x1 : Int32) (x2 : Int32) (x3 : Int32) (x4 : Int32) (r : Int32) (Az : Nat → Nat → Int32) (hf : fX7_chance N I A x1 x2 x3 x4 = some (r, Az)) : CtI l yX7_chance cX7_chance 11 .int rmX7_chance G cI cZ cO [.ref (q 0), .int x1, .int x2, .int x3, .int x4] (wX7 q cI cZ cO I A L) (wX7 q cI cZ cO I Az L) r := by
  refine mkCI (by decide) (Nat.le_of_ble_eq_true rfl) ?_
  intro p e s m below meth cd Q Z hC hP hE hD hA fin ls hl
  obtain ⟨hx, hb, hml, hown, hts⟩ := hC
  have hown : s.vm.findClass RX7 = some m.cls := hown
  have hl : lv_has ls 11 [(0, .ref (q 0)), (1, .int x1), (2, .int x2), (3, .int x3), (4, .int x4)] := hl
  have b_238 : ∀ (A : Nat → Nat → Int32) (y0 : Int32), ∀ (H : Heap) (locs : List Loc), va_P G vwCl (wX7 q cI cZ cO I A L) H → va_D Z (wX7 q cI cZ cO I A L) → va_S Z s.heap H locs → ∀ ls : Array Slot, lv_has ls 11 [] → fX7_chance_238 N I A y0 = some (r, Az) → W p l e rmX7_chance s m [.ref (q 0), .int x1, .int x2, .int x3, .int x4].toArray below meth cd H locs 0 0 Q (F0 m 238 ls [.int y0]) := by
    intro A y0 H locs hP hD hS ls hl hf
    unfold fX7_chance_238 at hf
    have e9 := Option.some.inj hf
    exact fin H locs 238 ls _ (Prod.mk.inj e9).1 (nar_i _) (by rw [← (Prod.mk.inj e9).2]; exact hP) hS dX7_chance_238
  have b_205 : ∀ (k_76 : (Nat → Int32) → (Nat → Nat → Int32) → Int32 → Int32 → Int32 → Int32 → Int32 → Int32 → Int32 → Int32 → Option (Int32 × (Nat → Nat → Int32))) (hk_76 : ∀ (A : Nat → Nat → Int32) (u1 : Int32) (u2 : Int32) (u3 : Int32) (u4 : Int32) (u5 : Int32) (u6 : Int32) (u7 : Int32) (u8 : Int32), ∀ (H : Heap) (locs : List Loc), va_P G vwCl (wX7 q cI cZ cO I A L) H → va_D Z (wX7 q cI cZ cO I A L) → va_S Z s.heap H locs → ∀ ls : Array Slot, lv_has ls 11 [(0, .ref (q 0)), (1, .int u1), (2, .int u2), (3, .int u3), (4, .int u4), (5, .int u5), (6, .int u6), (7, .int u7), (8, .int u8)] → k_76 I A u1 u2 u3 u4 u5 u6 u7 u8 = some (r, Az) → W p l e rmX7_chance s m [.ref (q 0), .int x1, .int x2, .int x3, .int x4].toArray below meth cd H locs 0 0 Q (F0 m 76 ls [])), ∀ (A : Nat → Nat → Int32) (u1 : Int32) (u2 : Int32) (u3 : Int32) (u4 : Int32) (u5 : Int32) (u6 : Int32) (u7 : Int32) (u8 : Int32), ∀ (H : Heap) (locs : List Loc), va_P G vwCl (wX7 q cI cZ cO I A L) H → va_D Z (wX7 q cI cZ cO I A L) → va_S Z s.heap H locs → ∀ ls : Array Slot, lv_has ls 11 [(0, .ref (q 0)), (1, .int u1), (2, .int u2), (3, .int u3), (4, .int u4), (5, .int u5), (6, .int u6), (7, .int u7), (8, .int u8)] → fX7_chance_205 N k_76 I A u1 u2 u3 u4 u5 u6 u7 u8 = some (r, Az) → W p l e rmX7_chance s m [.ref (q 0), .int x1, .int x2, .int x3, .int x4].toArray below meth cd H locs 0 0 Q (F0 m 205 ls []) := by
    intro k_76 hk_76 A u1 u2 u3 u4 u5 u6 u7 u8 H locs hP hD hS ls hl hf
    unfold fX7_chance_205 at hf
    refine lv_iinc (v := u8 + 1) (lv' := [(8, .int (u8 + 1)), (0, .ref (q 0)), (1, .int u1), (2, .int u2), (3, .int u3), (4, .int u4), (5, .int u5), (6, .int u6), (7, .int u7)]) hx hb dX7_chance_205 hl (k := 8) rfl rfl (by decide) rfl (fun ls hl => ?_)
    refine lv_goto (tgt := 76) hx hb dX7_chance_208 (by decide) ?_
    exact hk_76 A u1 u2 u3 u4 u5 u6 u7 (u8 + 1) H locs hP hD hS ls (lv_sub hl [1, 2, 3, 4, 5, 6, 7, 8, 0] rfl) hf
  have b_202 : ∀ (k_76 : (Nat → Int32) → (Nat → Nat → Int32) → Int32 → Int32 → Int32 → Int32 → Int32 → Int32 → Int32 → Int32 → Option (Int32 × (Nat → Nat → Int32))) (hk_76 : ∀ (A : Nat → Nat → Int32) (u1 : Int32) (u2 : Int32) (u3 : Int32) (u4 : Int32) (u5 : Int32) (u6 : Int32) (u7 : Int32) (u8 : Int32), ∀ (H : Heap) (locs : List Loc), va_P G vwCl (wX7 q cI cZ cO I A L) H → va_D Z (wX7 q cI cZ cO I A L) → va_S Z s.heap H locs → ∀ ls : Array Slot, lv_has ls 11 [(0, .ref (q 0)), (1, .int u1), (2, .int u2), (3, .int u3), (4, .int u4), (5, .int u5), (6, .int u6), (7, .int u7), (8, .int u8)] → k_76 I A u1 u2 u3 u4 u5 u6 u7 u8 = some (r, Az) → W p l e rmX7_chance s m [.ref (q 0), .int x1, .int x2, .int x3, .int x4].toArray below meth cd H locs 0 0 Q (F0 m 76 ls [])), ∀ (A : Nat → Nat → Int32) (u1 : Int32) (u2 : Int32) (u3 : Int32) (u4 : Int32) (u5 : Int32) (u7 : Int32) (u8 : Int32) (y0 : Int32) (y1 : Int32), ∀ (H : Heap) (locs : List Loc), va_P G vwCl (wX7 q cI cZ cO I A L) H → va_D Z (wX7 q cI cZ cO I A L) → va_S Z s.heap H locs → ∀ ls : Array Slot, lv_has ls 11 [(0, .ref (q 0)), (1, .int u1), (2, .int u2), (3, .int u3), (4, .int u4), (5, .int u5), (7, .int u7), (8, .int u8)] → fX7_chance_202 N k_76 I A u1 u2 u3 u4 u5 u7 u8 y0 y1 = some (r, Az) → W p l e rmX7_chance s m [.ref (q 0), .int x1, .int x2, .int x3, .int x4].toArray below meth cd H locs 0 0 Q (F0 m 202 ls [.int y1, .int y0]) := by
    intro k_76 hk_76 A u1 u2 u3 u4 u5 u7 u8 y0 y1 H locs hP hD hS ls hl hf
    unfold fX7_chance_202 at hf
    refine lv_iadd hx hb dX7_chance_202 ?_
    refine lv_istore (lv' := [(6, .int (y0 + y1)), (0, .ref (q 0)), (1, .int u1), (2, .int u2), (3, .int u3), (4, .int u4), (5, .int u5), (7, .int u7), (8, .int u8)]) hx hb dX7_chance_203 hl (by decide) rfl (fun ls hl => ?_)
    exact b_205 k_76 hk_76 A u1 u2 u3 u4 u5 (y0 + y1) u7 u8 H locs hP hD hS ls (lv_sub hl [1, 2, 3, 4, 5, 6, 0, 7, 8] rfl) hf
  have b_165 : ∀ (k_76 : (Nat → Int32) → (Nat → Nat → Int32) → Int32 → Int32 → Int32 → Int32 → Int32 → Int32 → Int32 → Int32 → Option (Int32 × (Nat → Nat → Int32))) (hk_76 : ∀ (A : Nat → Nat → Int32) (u1 : Int32) (u2 : Int32) (u3 : Int32) (u4 : Int32) (u5 : Int32) (u6 : Int32) (u7 : Int32) (u8 : Int32), ∀ (H : Heap) (locs : List Loc), va_P G vwCl (wX7 q cI cZ cO I A L) H → va_D Z (wX7 q cI cZ cO I A L) → va_S Z s.heap H locs → ∀ ls : Array Slot, lv_has ls 11 [(0, .ref (q 0)), (1, .int u1), (2, .int u2), (3, .int u3), (4, .int u4), (5, .int u5), (6, .int u6), (7, .int u7), (8, .int u8)] → k_76 I A u1 u2 u3 u4 u5 u6 u7 u8 = some (r, Az) → W p l e rmX7_chance s m [.ref (q 0), .int x1, .int x2, .int x3, .int x4].toArray below meth cd H locs 0 0 Q (F0 m 76 ls [])), ∀ (k_103 : (Nat → Int32) → (Nat → Nat → Int32) → Int32 → Int32 → Int32 → Int32 → Int32 → Int32 → Int32 → Int32 → Int32 → Int32 → Option (Int32 × (Nat → Nat → Int32))) (hk_103 : ∀ (A : Nat → Nat → Int32) (u1 : Int32) (u2 : Int32) (u3 : Int32) (u4 : Int32) (u5 : Int32) (u6 : Int32) (u7 : Int32) (u8 : Int32) (u9 : Int32) (u10 : Int32), ∀ (H : Heap) (locs : List Loc), va_P G vwCl (wX7 q cI cZ cO I A L) H → va_D Z (wX7 q cI cZ cO I A L) → va_S Z s.heap H locs → ∀ ls : Array Slot, lv_has ls 11 [(0, .ref (q 0)), (1, .int u1), (2, .int u2), (3, .int u3), (4, .int u4), (5, .int u5), (6, .int u6), (7, .int u7), (8, .int u8), (9, .int u9), (10, .int u10)] → k_103 I A u1 u2 u3 u4 u5 u6 u7 u8 u9 u10 = some (r, Az) → W p l e rmX7_chance s m [.ref (q 0), .int x1, .int x2, .int x3, .int x4].toArray below meth cd H locs 0 0 Q (F0 m 103 ls [])), ∀ (A : Nat → Nat → Int32) (u1 : Int32) (u2 : Int32) (u3 : Int32) (u4 : Int32) (u5 : Int32) (u6 : Int32) (u7 : Int32) (u8 : Int32) (u9 : Int32) (u10 : Int32), ∀ (H : Heap) (locs : List Loc), va_P G vwCl (wX7 q cI cZ cO I A L) H → va_D Z (wX7 q cI cZ cO I A L) → va_S Z s.heap H locs → ∀ ls : Array Slot, lv_has ls 11 [(0, .ref (q 0)), (1, .int u1), (2, .int u2), (3, .int u3), (4, .int u4), (5, .int u5), (6, .int u6), (7, .int u7), (8, .int u8), (9, .int u9), (10, .int u10)] → fX7_chance_165 N k_76 k_103 I A u1 u2 u3 u4 u5 u6 u7 u8 u9 u10 = some (r, Az) → W p l e rmX7_chance s m [.ref (q 0), .int x1, .int x2, .int x3, .int x4].toArray below meth cd H locs 0 0 Q (F0 m 165 ls []) := by
    intro k_76 hk_76 k_103 hk_103 A u1 u2 u3 u4 u5 u6 u7 u8 u9 u10 H locs hP hD hS ls hl hf
    unfold fX7_chance_165 at hf
    refine lv_iinc (v := u10 + 1) (lv' := [(10, .int (u10 + 1)), (0, .ref (q 0)), (1, .int u1), (2, .int u2), (3, .int u3), (4, .int u4), (5, .int u5), (6, .int u6), (7, .int u7), (8, .int u8), (9, .int u9)]) hx hb dX7_chance_165 hl (k := 10) rfl rfl (by decide) rfl (fun ls hl => ?_)
    refine lv_goto (tgt := 103) hx hb dX7_chance_168 (by decide) ?_
    exact hk_103 A u1 u2 u3 u4 u5 u6 u7 u8 u9 (u10 + 1) H locs hP hD hS ls (lv_sub hl [1, 2, 3, 4, 5, 6, 7, 8, 9, 10, 0] rfl) hf
  have b_144 : ∀ (k_76 : (Nat → Int32) → (Nat → Nat → Int32) → Int32 → Int32 → Int32 → Int32 → Int32 → Int32 → Int32 → Int32 → Option (Int32 × (Nat → Nat → Int32))) (hk_76 : ∀ (A : Nat → Nat → Int32) (u1 : Int32) (u2 : Int32) (u3 : Int32) (u4 : Int32) (u5 : Int32) (u6 : Int32) (u7 : Int32) (u8 : Int32), ∀ (H : Heap) (locs : List Loc), va_P G vwCl (wX7 q cI cZ cO I A L) H → va_D Z (wX7 q cI cZ cO I A L) → va_S Z s.heap H locs → ∀ ls : Array Slot, lv_has ls 11 [(0, .ref (q 0)), (1, .int u1), (2, .int u2), (3, .int u3), (4, .int u4), (5, .int u5), (6, .int u6), (7, .int u7), (8, .int u8)] → k_76 I A u1 u2 u3 u4 u5 u6 u7 u8 = some (r, Az) → W p l e rmX7_chance s m [.ref (q 0), .int x1, .int x2, .int x3, .int x4].toArray below meth cd H locs 0 0 Q (F0 m 76 ls [])), ∀ (k_103 : (Nat → Int32) → (Nat → Nat → Int32) → Int32 → Int32 → Int32 → Int32 → Int32 → Int32 → Int32 → Int32 → Int32 → Int32 → Option (Int32 × (Nat → Nat → Int32))) (hk_103 : ∀ (A : Nat → Nat → Int32) (u1 : Int32) (u2 : Int32) (u3 : Int32) (u4 : Int32) (u5 : Int32) (u6 : Int32) (u7 : Int32) (u8 : Int32) (u9 : Int32) (u10 : Int32), ∀ (H : Heap) (locs : List Loc), va_P G vwCl (wX7 q cI cZ cO I A L) H → va_D Z (wX7 q cI cZ cO I A L) → va_S Z s.heap H locs → ∀ ls : Array Slot, lv_has ls 11 [(0, .ref (q 0)), (1, .int u1), (2, .int u2), (3, .int u3), (4, .int u4), (5, .int u5), (6, .int u6), (7, .int u7), (8, .int u8), (9, .int u9), (10, .int u10)] → k_103 I A u1 u2 u3 u4 u5 u6 u7 u8 u9 u10 = some (r, Az) → W p l e rmX7_chance s m [.ref (q 0), .int x1, .int x2, .int x3, .int x4].toArray below meth cd H locs 0 0 Q (F0 m 103 ls [])), ∀ (A : Nat → Nat → Int32) (u1 : Int32) (u2 : Int32) (u3 : Int32) (u4 : Int32) (u5 : Int32) (u6 : Int32) (u7 : Int32) (u8 : Int32) (u10 : Int32) (y0 : Int32) (y1 : Int32), ∀ (H : Heap) (locs : List Loc), va_P G vwCl (wX7 q cI cZ cO I A L) H → va_D Z (wX7 q cI cZ cO I A L) → va_S Z s.heap H locs → ∀ ls : Array Slot, lv_has ls 11 [(0, .ref (q 0)), (1, .int u1), (2, .int u2), (3, .int u3), (4, .int u4), (5, .int u5), (6, .int u6), (7, .int u7), (8, .int u8), (10, .int u10)] → fX7_chance_144 N k_76 k_103 I A u1 u2 u3 u4 u5 u6 u7 u8 u10 y0 y1 = some (r, Az) → W p l e rmX7_chance s m [.ref (q 0), .int x1, .int x2, .int x3, .int x4].toArray below meth cd H locs 0 0 Q (F0 m 144 ls [.int y1, .int y0]) := by
    intro k_76 hk_76 k_103 hk_103 A u1 u2 u3 u4 u5 u6 u7 u8 u10 y0 y1 H locs hP hD hS ls hl hf
    unfold fX7_chance_144 at hf
    refine lv_imul hx hb dX7_chance_144 ?_
    refine lv_istore (lv' := [(9, .int (y0 * y1)), (0, .ref (q 0)), (1, .int u1), (2, .int u2), (3, .int u3), (4, .int u4), (5, .int u5), (6, .int u6), (7, .int u7), (8, .int u8), (10, .int u10)]) hx hb dX7_chance_145 hl (by decide) rfl (fun ls hl => ?_)
    refine lv_iload hx hb dX7_chance_147 (lv_at hl 9 rfl) ?_
    refine lv_iload hx hb dX7_chance_149 (lv_at hl 10 rfl) ?_
    obtain ⟨z1, hz1, hf⟩ := bnd hf
    refine x_rdS (n := 2) hx hb hml hown hts hE (ct_X7_has N l G cI cZ cO u8 u10 z1 hz1) (bg 10 12 rfl) mb_X7_has.1 mb_X7_has.2.1 mb_X7_has.2.2 hd_X7_has rfl (by decide) va_P_nil rfl hl.1 (Nat.le_of_ble_eq_true rfl) ⟨Nat.zero_le _, Nat.zero_le _⟩ dX7_chance_151 ?_
    refine lv_if_eq (tgt := 165) hx hb dX7_chance_154 (by decide) (fun c2 => ?_) (fun c2 => ?_)
    · rw [if_pos c2] at hf
      exact b_165 k_76 hk_76 k_103 hk_103 A u1 u2 u3 u4 u5 u6 u7 u8 (y0 * y1) u10 H locs hP hD hS ls (lv_sub hl [1, 2, 3, 4, 5, 6, 7, 8, 9, 0, 10] rfl) hf
    · rw [if_neg c2] at hf
      refine lv_aload_n hx hb dX7_chance_157 rfl (lv_at hl 1 rfl) ?_
      refine lv_iconst (v := 1) hx hb dX7_chance_158 (by decide) ?_
      refine lv_iload_n hx hb dX7_chance_159 rfl (lv_at hl 2 rfl) ?_
      refine lv_iload hx hb dX7_chance_160 (lv_at hl 10 rfl) ?_
      obtain ⟨z3, hz3, hf⟩ := bnd hf
      refine x_wwVv (C := RX7) (n := 3) (ci := 7) hx hb hml hown hts hE (ct_X7_denyOn N l G cI cZ cO q I A L 1 u1 u10 z3 hz3) (bg 20 0 rfl) mb_X7_denyOn.1 mb_X7_denyOn.2.1 mb_X7_denyOn.2.2.1 mb_X7_denyOn.2.2.2 hd_X7_denyOn rfl (by decide) hP hD hS hA rfl rfl rfl rfl rfl hl.1 (Nat.le_of_ble_eq_true rfl) ⟨Nat.zero_le _, Nat.zero_le _⟩ dX7_chance_162 (fun H locs hP hD hS => ?_)
      have hP : va_P G vwCl (wX7 q cI cZ cO I z3 L) H := hP
      have hD : va_D Z (wX7 q cI cZ cO I z3 L) := hD
      exact b_165 k_76 hk_76 k_103 hk_103 z3 u1 u2 u3 u4 u5 u6 u7 u8 (y0 * y1) u10 H locs hP hD hS ls (lv_sub hl [1, 2, 3, 4, 5, 6, 7, 8, 9, 0, 10] rfl) hf
  have b_103 : ∀ (k_76 : (Nat → Int32) → (Nat → Nat → Int32) → Int32 → Int32 → Int32 → Int32 → Int32 → Int32 → Int32 → Int32 → Option (Int32 × (Nat → Nat → Int32))) (hk_76 : ∀ (A : Nat → Nat → Int32) (u1 : Int32) (u2 : Int32) (u3 : Int32) (u4 : Int32) (u5 : Int32) (u6 : Int32) (u7 : Int32) (u8 : Int32), ∀ (H : Heap) (locs : List Loc), va_P G vwCl (wX7 q cI cZ cO I A L) H → va_D Z (wX7 q cI cZ cO I A L) → va_S Z s.heap H locs → ∀ ls : Array Slot, lv_has ls 11 [(0, .ref (q 0)), (1, .int u1), (2, .int u2), (3, .int u3), (4, .int u4), (5, .int u5), (6, .int u6), (7, .int u7), (8, .int u8)] → k_76 I A u1 u2 u3 u4 u5 u6 u7 u8 = some (r, Az) → W p l e rmX7_chance s m [.ref (q 0), .int x1, .int x2, .int x3, .int x4].toArray below meth cd H locs 0 0 Q (F0 m 76 ls [])), ∀ n : Nat, ∀ (A : Nat → Nat → Int32) (u1 : Int32) (u2 : Int32) (u3 : Int32) (u4 : Int32) (u5 : Int32) (u6 : Int32) (u7 : Int32) (u8 : Int32) (u9 : Int32) (u10 : Int32), ∀ (H : Heap) (locs : List Loc), va_P G vwCl (wX7 q cI cZ cO I A L) H → va_D Z (wX7 q cI cZ cO I A L) → va_S Z s.heap H locs → ∀ ls : Array Slot, lv_has ls 11 [(0, .ref (q 0)), (1, .int u1), (2, .int u2), (3, .int u3), (4, .int u4), (5, .int u5), (6, .int u6), (7, .int u7), (8, .int u8), (9, .int u9), (10, .int u10)] → fX7_chance_103 N k_76 n I A u1 u2 u3 u4 u5 u6 u7 u8 u9 u10 = some (r, Az) → W p l e rmX7_chance s m [.ref (q 0), .int x1, .int x2, .int x3, .int x4].toArray below meth cd H locs 0 0 Q (F0 m 103 ls []) := by
    intro k_76 hk_76
    intro n
    induction n with
    | zero =>
      intro A u1 u2 u3 u4 u5 u6 u7 u8 u9 u10 H locs hP hD hS ls hl hf
      cases hf
    | succ n hk_103 =>
      intro A u1 u2 u3 u4 u5 u6 u7 u8 u9 u10 H locs hP hD hS ls hl hf
      replace hf : fX7_chance_103s N k_76 (fX7_chance_103 N k_76 n) I A u1 u2 u3 u4 u5 u6 u7 u8 u9 u10 = some (r, Az) := hf
      generalize fX7_chance_103 N k_76 n = k_103 at hf hk_103
      unfold fX7_chance_103s at hf
      refine lv_iload hx hb dX7_chance_103 (lv_at hl 10 rfl) ?_
      refine lv_bipush (v := 6) hx hb dX7_chance_105 (by decide) ?_
      refine lv_icmp_ge (tgt := 171) hx hb dX7_chance_107 (by decide) (fun c1 => ?_) (fun c1 => ?_)
      · rw [if_pos c1] at hf
        refine lv_aload_n hx hb dX7_chance_171 rfl (lv_at hl 0 rfl) ?_
        refine lv_iconst (v := 1) hx hb dX7_chance_172 (by decide) ?_
        obtain ⟨z2, hz2, hf⟩ := bnd hf
        refine x_wwV (C := RX7) (n := 1) (ci := 7) hx hb hml hown hts hE (ct_X7_dawnOn N l G cI cZ cO q I A L 1 z2.1 z2.2 hz2) (bg 17 7 rfl) mb_X7_dawnOn.1 mb_X7_dawnOn.2.1 mb_X7_dawnOn.2.2.1 mb_X7_dawnOn.2.2.2 hd_X7_dawnOn rfl (by decide) hP hD hS hA rfl rfl rfl rfl rfl hl.1 (Nat.le_of_ble_eq_true rfl) ⟨Nat.zero_le _, Nat.zero_le _⟩ dX7_chance_173 (fun H locs hP hD hS => ?_)
        have hP : va_P G vwCl (wX7 q cI cZ cO I z2.2 L) H := hP
        have hD : va_D Z (wX7 q cI cZ cO I z2.2 L) := hD
        refine lv_pop hx hb dX7_chance_176 rfl ?_
        refine lv_iload hx hb dX7_chance_177 (lv_at hl 7 rfl) ?_
        refine lv_iload hx hb dX7_chance_179 (lv_at hl 9 rfl) ?_
        refine lv_iadd hx hb dX7_chance_181 ?_
        refine lv_istore (lv' := [(7, .int (u7 + u9)), (0, .ref (q 0)), (1, .int u1), (2, .int u2), (3, .int u3), (4, .int u4), (5, .int u5), (6, .int u6), (8, .int u8), (9, .int u9), (10, .int u10)]) hx hb dX7_chance_182 hl (by decide) rfl (fun ls hl => ?_)
        refine lv_iload hx hb dX7_chance_184 (lv_at hl 7 rfl) ?_
        refine lv_aload_n hx hb dX7_chance_186 rfl (lv_at hl 1 rfl) ?_
        refine lv_iconst (v := 1) hx hb dX7_chance_187 (by decide) ?_
        refine lv_iload_n hx hb dX7_chance_188 rfl (lv_at hl 2 rfl) ?_
        obtain ⟨z3, hz3, hf⟩ := bnd hf
        refine x_rdV (C := RX7) (n := 2) (ci := 7) hx hb hml hown hts hE (ct_X7_worthOf N l G cI cZ cO q I z2.2 L 1 u1 z3 hz3) (bg 21 15 rfl) mb_X7_worthOf.1 mb_X7_worthOf.2.1 mb_X7_worthOf.2.2.1 mb_X7_worthOf.2.2.2 hd_X7_worthOf rfl (by decide) hP rfl rfl rfl rfl hl.1 (Nat.le_of_ble_eq_true rfl) ⟨Nat.zero_le _, Nat.zero_le _⟩ dX7_chance_189 ?_
        refine lv_iload_n hx hb dX7_chance_192 rfl (lv_at hl 3 rfl) ?_
        refine lv_icmp_lt (tgt := 201) hx hb dX7_chance_193 (by decide) (fun c4 => ?_) (fun c4 => ?_)
        · rw [if_pos c4] at hf
          refine lv_iconst (v := 0) hx hb dX7_chance_201 (by decide) ?_
          exact b_202 k_76 hk_76 z2.2 u1 u2 u3 u4 u5 (u7 + u9) u8 u6 0 H locs hP hD hS ls (lv_sub hl [1, 2, 3, 4, 5, 6, 0, 8] rfl) hf
        · rw [if_neg c4] at hf
          refine lv_iload hx hb dX7_chance_196 (lv_at hl 9 rfl) ?_
          refine lv_goto (tgt := 202) hx hb dX7_chance_198 (by decide) ?_
          exact b_202 k_76 hk_76 z2.2 u1 u2 u3 u4 u5 (u7 + u9) u8 u6 u9 H locs hP hD hS ls (lv_sub hl [1, 2, 3, 4, 5, 6, 0, 8] rfl) hf
      · rw [if_neg c1] at hf
        refine lv_iload hx hb dX7_chance_110 (lv_at hl 9 rfl) ?_
        refine lv_iload hx hb dX7_chance_112 (lv_at hl 5 rfl) ?_
        refine lv_iload hx hb dX7_chance_114 (lv_at hl 10 rfl) ?_
        obtain ⟨z5, hz5, hf⟩ := bnd hf
        refine x_rdS (n := 2) hx hb hml hown hts hE (ct_X7_has N l G cI cZ cO u5 u10 z5 hz5) (bg 10 12 rfl) mb_X7_has.1 mb_X7_has.2.1 mb_X7_has.2.2 hd_X7_has rfl (by decide) va_P_nil rfl hl.1 (Nat.le_of_ble_eq_true rfl) ⟨Nat.zero_le _, Nat.zero_le _⟩ dX7_chance_116 ?_
        refine lv_if_ne (tgt := 126) hx hb dX7_chance_119 (by decide) (fun c6 => ?_) (fun c6 => ?_)
        · rw [if_neg c6] at hf
          refine lv_iload hx hb dX7_chance_126 (lv_at hl 8 rfl) ?_
          refine lv_iload hx hb dX7_chance_128 (lv_at hl 10 rfl) ?_
          obtain ⟨z7, hz7, hf⟩ := bnd hf
          refine x_rdS (n := 2) hx hb hml hown hts hE (ct_X7_has N l G cI cZ cO u8 u10 z7 hz7) (bg 10 12 rfl) mb_X7_has.1 mb_X7_has.2.1 mb_X7_has.2.2 hd_X7_has rfl (by decide) va_P_nil rfl hl.1 (Nat.le_of_ble_eq_true rfl) ⟨Nat.zero_le _, Nat.zero_le _⟩ dX7_chance_130 ?_
          refine lv_if_eq (tgt := 140) hx hb dX7_chance_133 (by decide) (fun c8 => ?_) (fun c8 => ?_)
          · rw [if_pos c8] at hf
            refine lv_bipush (v := 10) hx hb dX7_chance_140 (by decide) ?_
            refine lv_iload_n hx hb dX7_chance_142 rfl (lv_at hl 3 rfl) ?_
            refine lv_isub hx hb dX7_chance_143 ?_
            exact b_144 k_76 hk_76 k_103 hk_103 A u1 u2 u3 u4 u5 u6 u7 u8 u10 u9 (10 - u3) H locs hP hD hS ls (lv_sub hl [0, 1, 2, 3, 4, 5, 6, 7, 8, 10] rfl) hf
          · rw [if_neg c8] at hf
            refine lv_iload_n hx hb dX7_chance_136 rfl (lv_at hl 3 rfl) ?_
            refine lv_goto (tgt := 144) hx hb dX7_chance_137 (by decide) ?_
            exact b_144 k_76 hk_76 k_103 hk_103 A u1 u2 u3 u4 u5 u6 u7 u8 u10 u9 u3 H locs hP hD hS ls (lv_sub hl [0, 1, 2, 3, 4, 5, 6, 7, 8, 10] rfl) hf
        · rw [if_pos c6] at hf
          refine lv_iconst (v := 1) hx hb dX7_chance_122 (by decide) ?_
          refine lv_goto (tgt := 144) hx hb dX7_chance_123 (by decide) ?_
          exact b_144 k_76 hk_76 k_103 hk_103 A u1 u2 u3 u4 u5 u6 u7 u8 u10 u9 1 H locs hP hD hS ls (lv_sub hl [0, 1, 2, 3, 4, 5, 6, 7, 8, 10] rfl) hf
  have b_76 : ∀ n : Nat, ∀ (A : Nat → Nat → Int32) (u1 : Int32) (u2 : Int32) (u3 : Int32) (u4 : Int32) (u5 : Int32) (u6 : Int32) (u7 : Int32) (u8 : Int32), ∀ (H : Heap) (locs : List Loc), va_P G vwCl (wX7 q cI cZ cO I A L) H → va_D Z (wX7 q cI cZ cO I A L) → va_S Z s.heap H locs → ∀ ls : Array Slot, lv_has ls 11 [(0, .ref (q 0)), (1, .int u1), (2, .int u2), (3, .int u3), (4, .int u4), (5, .int u5), (6, .int u6), (7, .int u7), (8, .int u8)] → fX7_chance_76 N n I A u1 u2 u3 u4 u5 u6 u7 u8 = some (r, Az) → W p l e rmX7_chance s m [.ref (q 0), .int x1, .int x2, .int x3, .int x4].toArray below meth cd H locs 0 0 Q (F0 m 76 ls []) := by
    intro n
    induction n with
    | zero =>
      intro A u1 u2 u3 u4 u5 u6 u7 u8 H locs hP hD hS ls hl hf
      cases hf
    | succ n hk_76 =>
      intro A u1 u2 u3 u4 u5 u6 u7 u8 H locs hP hD hS ls hl hf
      replace hf : fX7_chance_76s N (fX7_chance_76 N n) I A u1 u2 u3 u4 u5 u6 u7 u8 = some (r, Az) := hf
      generalize fX7_chance_76 N n = k_76 at hf hk_76
      unfold fX7_chance_76s at hf
      refine lv_iload hx hb dX7_chance_76 (lv_at hl 8 rfl) ?_
      refine lv_bipush (v := 63) hx hb dX7_chance_78 (by decide) ?_
      refine lv_icmp_gt (tgt := 211) hx hb dX7_chance_80 (by decide) (fun c1 => ?_) (fun c1 => ?_)
      · rw [if_pos c1] at hf
        refine lv_iload hx hb dX7_chance_211 (lv_at hl 6 rfl) ?_
        refine lv_iload hx hb dX7_chance_213 (lv_at hl 7 rfl) ?_
        obtain ⟨z2, hz2, hf⟩ := bnd hf
        refine x_rdS (n := 2) hx hb hml hown hts hE (ct_X7_common N l G cI cZ cO u6 u7 z2 hz2) (bg 32 16 rfl) mb_X7_common.1 mb_X7_common.2.1 mb_X7_common.2.2 hd_X7_common rfl (by decide) va_P_nil rfl hl.1 (Nat.le_of_ble_eq_true rfl) ⟨Nat.zero_le _, Nat.zero_le _⟩ dX7_chance_215 ?_
        refine lv_istore (lv' := [(8, .int z2), (0, .ref (q 0)), (1, .int u1), (2, .int u2), (3, .int u3), (4, .int u4), (5, .int u5), (6, .int u6), (7, .int u7)]) hx hb dX7_chance_218 hl (by decide) rfl (fun ls hl => ?_)
        refine lv_iload hx hb dX7_chance_220 (lv_at hl 5 rfl) ?_
        refine lv_if_eq (tgt := 233) hx hb dX7_chance_222 (by decide) (fun c3 => ?_) (fun c3 => ?_)
        · rw [if_pos c3] at hf
          refine lv_iload hx hb dX7_chance_233 (lv_at hl 8 rfl) ?_
          refine lv_iload hx hb dX7_chance_235 (lv_at hl 0 rfl) ?_
          obtain ⟨v4, hv4, hf⟩ := bnd hf
          obtain ⟨ev4, hv4⟩ := nz_in hv4
          rw [ev4]
          refine lv_idiv hx hb dX7_chance_237 hv4 ?_
          exact b_238 A (u7 / v4) H locs hP hD hS ls (lv_sub hl [] rfl) hf
        · rw [if_neg c3] at hf
          refine lv_iload hx hb dX7_chance_225 (lv_at hl 7 rfl) ?_
          refine lv_iload hx hb dX7_chance_227 (lv_at hl 0 rfl) ?_
          obtain ⟨v5, hv5, hf⟩ := bnd hf
          obtain ⟨ev5, hv5⟩ := nz_in hv5
          rw [ev5]
          refine lv_idiv hx hb dX7_chance_229 hv5 ?_
          refine lv_goto (tgt := 238) hx hb dX7_chance_230 (by decide) ?_
          exact b_238 A (u6 / v5) H locs hP hD hS ls (lv_sub hl [] rfl) hf
      · rw [if_neg c1] at hf
        refine lv_iload hx hb dX7_chance_83 (lv_at hl 8 rfl) ?_
        refine lv_iload hx hb dX7_chance_85 (lv_at hl 5 rfl) ?_
        refine lv_iconst (v := (-1)) hx hb dX7_chance_87 (by decide) ?_
        refine lv_ixor hx hb dX7_chance_88 ?_
        refine lv_iand hx hb dX7_chance_89 ?_
        refine lv_if_ne (tgt := 205) hx hb dX7_chance_90 (by decide) (fun c6 => ?_) (fun c6 => ?_)
        · rw [if_neg c6] at hf
          exact b_205 k_76 hk_76 A u1 u2 u3 u4 u5 u6 u7 u8 H locs hP hD hS ls (lv_sub hl [0, 1, 2, 3, 4, 5, 6, 7, 8] rfl) hf
        · rw [if_pos c6] at hf
          refine lv_iconst (v := 1) hx hb dX7_chance_93 (by decide) ?_
          refine lv_istore (lv' := [(9, .int 1), (0, .ref (q 0)), (1, .int u1), (2, .int u2), (3, .int u3), (4, .int u4), (5, .int u5), (6, .int u6), (7, .int u7), (8, .int u8)]) hx hb dX7_chance_94 hl (by decide) rfl (fun ls hl => ?_)
          refine lv_aload_n hx hb dX7_chance_96 rfl (lv_at hl 1 rfl) ?_
          obtain ⟨z7, hz7, hf⟩ := bnd hf
          refine x_wwVv (C := RX7) (n := 0) (ci := 7) hx hb hml hown hts hE (ct_X7_layTrial N l G cI cZ cO q I A L z7 hz7) (bg 23 2 rfl) mb_X7_layTrial.1 mb_X7_layTrial.2.1 mb_X7_layTrial.2.2.1 mb_X7_layTrial.2.2.2 hd_X7_layTrial rfl (by decide) hP hD hS hA rfl rfl rfl rfl rfl hl.1 (Nat.le_of_ble_eq_true rfl) ⟨Nat.zero_le _, Nat.zero_le _⟩ dX7_chance_97 (fun H locs hP hD hS => ?_)
          have hP : va_P G vwCl (wX7 q cI cZ cO I z7 L) H := hP
          have hD : va_D Z (wX7 q cI cZ cO I z7 L) := hD
          refine lv_iconst (v := 0) hx hb dX7_chance_100 (by decide) ?_
          refine lv_istore (lv' := [(10, .int 0), (9, .int 1), (0, .ref (q 0)), (1, .int u1), (2, .int u2), (3, .int u3), (4, .int u4), (5, .int u5), (6, .int u6), (7, .int u7), (8, .int u8)]) hx hb dX7_chance_101 hl (by decide) rfl (fun ls hl => ?_)
          exact b_103 k_76 hk_76 N z7 u1 u2 u3 u4 u5 u6 u7 u8 1 0 H locs hP hD hS ls (lv_sub hl [2, 3, 4, 5, 6, 7, 8, 9, 10, 1, 0] rfl) hf
  have b_65 : ∀ (A : Nat → Nat → Int32) (u1 : Int32) (u2 : Int32) (u3 : Int32) (u4 : Int32) (y0 : Int32), ∀ (H : Heap) (locs : List Loc), va_P G vwCl (wX7 q cI cZ cO I A L) H → va_D Z (wX7 q cI cZ cO I A L) → va_S Z s.heap H locs → ∀ ls : Array Slot, lv_has ls 11 [(0, .ref (q 0)), (1, .int u1), (2, .int u2), (3, .int u3), (4, .int u4)] → fX7_chance_65 N I A u1 u2 u3 u4 y0 = some (r, Az) → W p l e rmX7_chance s m [.ref (q 0), .int x1, .int x2, .int x3, .int x4].toArray below meth cd H locs 0 0 Q (F0 m 65 ls [.int y0]) := by
    intro A u1 u2 u3 u4 y0 H locs hP hD hS ls hl hf
    unfold fX7_chance_65 at hf
    refine lv_istore (lv' := [(5, .int y0), (0, .ref (q 0)), (1, .int u1), (2, .int u2), (3, .int u3), (4, .int u4)]) hx hb dX7_chance_65 hl (by decide) rfl (fun ls hl => ?_)
    refine lv_iconst (v := 0) hx hb dX7_chance_67 (by decide) ?_
    refine lv_istore (lv' := [(6, .int 0), (5, .int y0), (0, .ref (q 0)), (1, .int u1), (2, .int u2), (3, .int u3), (4, .int u4)]) hx hb dX7_chance_68 hl (by decide) rfl (fun ls hl => ?_)
    refine lv_iconst (v := 0) hx hb dX7_chance_70 (by decide) ?_
    refine lv_istore (lv' := [(7, .int 0), (6, .int 0), (5, .int y0), (0, .ref (q 0)), (1, .int u1), (2, .int u2), (3, .int u3), (4, .int u4)]) hx hb dX7_chance_71 hl (by decide) rfl (fun ls hl => ?_)
    refine lv_iconst (v := 0) hx hb dX7_chance_73 (by decide) ?_
    refine lv_istore (lv' := [(8, .int 0), (7, .int 0), (6, .int 0), (5, .int y0), (0, .ref (q 0)), (1, .int u1), (2, .int u2), (3, .int u3), (4, .int u4)]) hx hb dX7_chance_74 hl (by decide) rfl (fun ls hl => ?_)
    exact b_76 N A u1 u2 u3 u4 y0 0 0 0 H locs hP hD hS ls (lv_sub hl [4, 5, 6, 7, 8, 3, 2, 1, 0] rfl) hf
  have b_59 : ∀ (A : Nat → Nat → Int32) (u1 : Int32) (u2 : Int32) (u3 : Int32) (u4 : Int32), ∀ (H : Heap) (locs : List Loc), va_P G vwCl (wX7 q cI cZ cO I A L) H → va_D Z (wX7 q cI cZ cO I A L) → va_S Z s.heap H locs → ∀ ls : Array Slot, lv_has ls 11 [(0, .ref (q 0)), (1, .int u1), (2, .int u2), (3, .int u3), (4, .int u4)] → fX7_chance_59 N I A u1 u2 u3 u4 = some (r, Az) → W p l e rmX7_chance s m [.ref (q 0), .int x1, .int x2, .int x3, .int x4].toArray below meth cd H locs 0 0 Q (F0 m 59 ls []) := by
    intro A u1 u2 u3 u4 H locs hP hD hS ls hl hf
    unfold fX7_chance_59 at hf
    refine lv_aload_n hx hb dX7_chance_59 rfl (lv_at hl 0 rfl) ?_
    refine va_get (D := G) (ci := 7) (v := .ref (q 6)) (C := RX7) (T := TX7) (N := 33) hx hb hts inlX7 hown hE.1 hP 0 rfl rfl 7 (by decide) (hts _ (bg 3 19 rfl)) (fun _ h9 => h9) rfl dX7_chance_60 ?_
    refine lv_iload_n hx hb dX7_chance_63 rfl (lv_at hl 1 rfl) ?_
    obtain ⟨v1, hv1, hf⟩ := bnd hf
    refine x_iald hx hb hE.1 hP 6 0 rfl rfl hv1 dX7_chance_64 ?_
    exact b_65 A u1 u2 u3 u4 v1 H locs hP hD hS ls (lv_sub hl [0, 1, 2, 3, 4] rfl) hf
  have b_34 : ∀ (A : Nat → Nat → Int32), ∀ (H : Heap) (locs : List Loc), va_P G vwCl (wX7 q cI cZ cO I A L) H → va_D Z (wX7 q cI cZ cO I A L) → va_S Z s.heap H locs → ∀ ls : Array Slot, lv_has ls 11 [] → fX7_chance_34 N I A = some (r, Az) → W p l e rmX7_chance s m [.ref (q 0), .int x1, .int x2, .int x3, .int x4].toArray below meth cd H locs 0 0 Q (F0 m 34 ls []) := by
    intro A H locs hP hD hS ls hl hf
    unfold fX7_chance_34 at hf
    refine lv_bipush (v := (-2)) hx hb dX7_chance_34 (by decide) ?_
    have e9 := Option.some.inj hf
    exact fin H locs 36 ls _ (Prod.mk.inj e9).1 (nar_i _) (by rw [← (Prod.mk.inj e9).2]; exact hP) hS dX7_chance_36
  unfold fX7_chance at hf
  have hS : va_S Z s.heap s.heap [] := va_S.rf
  obtain ⟨H, hH⟩ : ∃ H, H = s.heap := ⟨_, rfl⟩
  obtain ⟨locs, hlocs⟩ : ∃ locs : List Loc, locs = [] := ⟨_, rfl⟩
  rw [← hlocs]
  rw [← hlocs] at hS
  suffices hW : ∀ H : Heap, va_P G vwCl (wX7 q cI cZ cO I A L) H → va_S Z s.heap H locs → W p l e rmX7_chance s m [.ref (q 0), .int x1, .int x2, .int x3, .int x4].toArray below meth cd H locs 0 0 Q (F0 m 0 ls []) from hW s.heap hP hS
  clear hP hS hH H
  intro H hP hS
  refine lv_aload_n hx hb dX7_chance_0 rfl (lv_at hl 0 rfl) ?_
  refine lv_iload_n hx hb dX7_chance_1 rfl (lv_at hl 1 rfl) ?_
  obtain ⟨z1, hz1, hf⟩ := bnd hf
  refine x_rdV (C := RX7) (n := 1) (ci := 7) hx hb hml hown hts hE (ct_X7_isRumour N l G cI cZ cO q I A L x1 z1 hz1) (bg 13 6 rfl) mb_X7_isRumour.1 mb_X7_isRumour.2.1 mb_X7_isRumour.2.2.1 mb_X7_isRumour.2.2.2 hd_X7_isRumour rfl (by decide) hP rfl rfl rfl rfl hl.1 (Nat.le_of_ble_eq_true rfl) ⟨Nat.zero_le _, Nat.zero_le _⟩ dX7_chance_2 ?_
  refine lv_if_ne (tgt := 10) hx hb dX7_chance_5 (by decide) (fun c2 => ?_) (fun c2 => ?_)
  · rw [if_neg c2] at hf
    refine lv_iload_n hx hb dX7_chance_10 rfl (lv_at hl 2 rfl) ?_
    refine lv_i2l (v := Int32.toInt64 x2) hx hb dX7_chance_11 rfl ?_
    refine lv_lconst (v := 0) hx hb dX7_chance_12 (by decide) ?_
    refine lv_ldc2 hx hb hown (hts _ (bg 34 22 rfl)) dX7_chance_13 ?_
    obtain ⟨z3, hz3, hf⟩ := bnd hf
    refine x_rdS (n := 3) hx hb hml hown hts hE (ct_X7_in N l G cI cZ cO (Int32.toInt64 x2) 0 20 z3 hz3) (bg 5 9 rfl) mb_X7_in.1 mb_X7_in.2.1 mb_X7_in.2.2 hd_X7_in rfl (by decide) va_P_nil rfl hl.1 (Nat.le_of_ble_eq_true rfl) ⟨Nat.zero_le _, Nat.zero_le _⟩ dX7_chance_16 ?_
    refine lv_if_eq (tgt := 34) hx hb dX7_chance_19 (by decide) (fun c4 => ?_) (fun c4 => ?_)
    · rw [if_pos c4] at hf
      exact b_34 A H locs hP hD hS ls (lv_sub hl [] rfl) hf
    · rw [if_neg c4] at hf
      refine lv_iload_n hx hb dX7_chance_22 rfl (lv_at hl 3 rfl) ?_
      refine lv_i2l (v := Int32.toInt64 x3) hx hb dX7_chance_23 rfl ?_
      refine lv_lconst (v := 0) hx hb dX7_chance_24 (by decide) ?_
      refine lv_ldc2 hx hb hown (hts _ (bg 29 8 rfl)) dX7_chance_25 ?_
      obtain ⟨z5, hz5, hf⟩ := bnd hf
      refine x_rdS (n := 3) hx hb hml hown hts hE (ct_X7_in N l G cI cZ cO (Int32.toInt64 x3) 0 10 z5 hz5) (bg 5 9 rfl) mb_X7_in.1 mb_X7_in.2.1 mb_X7_in.2.2 hd_X7_in rfl (by decide) va_P_nil rfl hl.1 (Nat.le_of_ble_eq_true rfl) ⟨Nat.zero_le _, Nat.zero_le _⟩ dX7_chance_28 ?_
      refine lv_if_ne (tgt := 37) hx hb dX7_chance_31 (by decide) (fun c6 => ?_) (fun c6 => ?_)
      · rw [if_neg c6] at hf
        refine lv_aload_n hx hb dX7_chance_37 rfl (lv_at hl 0 rfl) ?_
        refine lv_iconst (v := 0) hx hb dX7_chance_38 (by decide) ?_
        refine lv_iload_n hx hb dX7_chance_39 rfl (lv_at hl 1 rfl) ?_
        obtain ⟨z7, hz7, hf⟩ := bnd hf
        refine x_rdV (C := RX7) (n := 2) (ci := 7) hx hb hml hown hts hE (ct_X7_isProved N l G cI cZ cO q I A L 0 x1 z7 hz7) (bg 13 10 rfl) mb_X7_isProved.1 mb_X7_isProved.2.1 mb_X7_isProved.2.2.1 mb_X7_isProved.2.2.2 hd_X7_isProved rfl (by decide) hP rfl rfl rfl rfl hl.1 (Nat.le_of_ble_eq_true rfl) ⟨Nat.zero_le _, Nat.zero_le _⟩ dX7_chance_40 ?_
        refine lv_if_eq (tgt := 59) hx hb dX7_chance_43 (by decide) (fun c8 => ?_) (fun c8 => ?_)
        · rw [if_pos c8] at hf
          exact b_59 A x1 x2 x3 x4 H locs hP hD hS ls (lv_sub hl [0, 1, 2, 3, 4] rfl) hf
        · rw [if_neg c8] at hf
          refine lv_aload_n hx hb dX7_chance_46 rfl (lv_at hl 0 rfl) ?_
          refine va_get (D := G) (ci := 7) (v := .ref (q 2)) (C := RX7) (T := TX7) (N := 33) hx hb hts inlX7 hown hE.1 hP 0 rfl rfl 3 (by decide) (hts _ (bg 3 15 rfl)) (fun _ h9 => h9) rfl dX7_chance_47 ?_
          refine lv_iload_n hx hb dX7_chance_50 rfl (lv_at hl 1 rfl) ?_
          obtain ⟨v9, hv9, hf⟩ := bnd hf
          refine x_iald hx hb hE.1 hP 2 0 rfl rfl hv9 dX7_chance_51 ?_
          refine lv_if_ne (tgt := 59) hx hb dX7_chance_52 (by decide) (fun c10 => ?_) (fun c10 => ?_)
          · rw [if_neg c10] at hf
            exact b_59 A x1 x2 x3 x4 H locs hP hD hS ls (lv_sub hl [0, 1, 2, 3, 4] rfl) hf
          · rw [if_pos c10] at hf
            refine lv_iconst (v := 0) hx hb dX7_chance_55 (by decide) ?_
            refine lv_goto (tgt := 65) hx hb dX7_chance_56 (by decide) ?_
            exact b_65 A x1 x2 x3 x4 0 H locs hP hD hS ls (lv_sub hl [0, 1, 2, 3, 4] rfl) hf
      · rw [if_pos c6] at hf
        exact b_34 A H locs hP hD hS ls (lv_sub hl [] rfl) hf
  · rw [if_pos c2] at hf
    refine lv_iconst (v := (-1)) hx hb dX7_chance_8 (by decide) ?_
    have e9 := Option.some.inj hf
    exact fin H locs 9 ls _ (Prod.mk.inj e9).1 (nar_i _) (by rw [← (Prod.mk.inj e9).2]; exact hP) hS dX7_chance_9
