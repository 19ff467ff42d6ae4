def R_law : String := "DawnCoinLaw"
def lw_P (b : Addr) (xs : List Int32) (args : Array Value) (s : State) : Prop := args = #[.ref b] ∧ s.IntsAt b xs ∧ xs.length ≤ 320 ∧ (Jvm.Cond.and given_1 narrow_1).before args s = true
def lw_Q (_ : Array Value) (s : State) (o : Outcome) (t : State) : Prop := o = .returned (some (.int 1)) ∧ Framed s o t [] 600000 7302250
def lw_Z (below : List Frame) (a : Array Value) (s : State) : State → Prop := fun t => ∃ o, t.status = .running ∧ Ended t below o ∧ lw_Q a s o t
/-- the law's own end, with 1 on the stack, nothing written that was there before, its room as the claim has it -/
theorem lw_ret {p : Program} {l : Launch} {e : Env} {s : State} {m : MethodId} {below : List Frame} {meth : Method} {c : Code} {b : Nat} (hx : p.tables.exec = Jvm.exec) (hb : c.code = code) (hr : meth.sig.returnType = ret) (hlocks : meth.locks = false) {pc : Nat} {H : Heap} {ls : Array Slot} (hdg : decode code pc = .ok (.ireturn, 1)) : W p l e room_1 s m #[Value.ref b] below meth c H [] 600000 7302250 (lw_Z below #[Value.ref b] s) (F0 m pc ls [.int 1]) := by
  intro T hT X
  obtain ⟨fs, hret, hrun, hended, hW, hframe⟩ := X.leave (v := some (.int 1)) (hlocks := hlocks) (fun h => by rw [hr] at h; cases h)
  have hmeth' : T.vm.method? m = some meth := X.method'
  refine ⟨T.setFrames fs, ?_, .returned (some (.int 1)), hrun, hended, rfl, ⟨_, rfl⟩, hW, hframe⟩
  jvm_step X.here [X.here.top, hx, hb, hdg, hmeth', hr, ret, narrow_b1]
  (try refine ⟨rfl, ?_⟩); (try refine ⟨rfl, ?_⟩)
  first | (intro acts; rw [hret _ acts rfl rfl rfl]) | rw [hret _ _ rfl rfl rfl]
  exact Steps.refl _
/-- what holds at the law's entry: the machine, the code, the tables' words (any of lw_tbl by 'hts w (by decide +kernel)'), the script of L ints xs at the cell b, what the Statement gives of the start (any of its parts by flat_of_before) -/
def lw_At (p : Program) (s : State) (m : MethodId) (meth : Method) (c : Code) (b L : Nat) (xs : Nat → Int32) : Prop :=
  p.tables.exec = Jvm.exec ∧ c.code = code ∧ meth.sig.returnType = ret ∧ c.maxLocals = 4 ∧ s.vm.findClass R_law = some m.cls ∧ (∀ w ∈ lw_tbl, w.before #[Value.ref b] s = true) ∧ va_X b L xs s s.heap ∧ b < s.heap.size ∧ meth.locks = false ∧ (Jvm.Cond.and given_1 narrow_1).before #[Value.ref b] s = true

-- the law: rows
theorem w6_fst (q : Nat → Nat) (cI cZ cO : ClassId) (A : Nat → Nat → Int32) (L : Int64) (rI : Nat → Int32) (rA : Nat → Nat → Int32) (tI : Nat → Int32) (tA : Nat → Nat → Int32) (dI : Nat → Int32) (dA : Nat → Nat → Int32) (wI : Nat → Int32) (wA : Nat → Nat → Int32) (uI : Nat → Int32) (uA : Nat → Nat → Int32) (aI : Nat → Int32) (aS : Nat → Nat → Int32) (aT : Nat → Nat → Nat → Int32) (eI : Nat → Int32) (eA : Nat → Nat → Int32) (sS : Nat → Nat → Int32) (sT : Nat → Nat → Nat → Int32) (bI : Nat → Int32) : (wX6 q cI cZ cO A L rI rA tI tA dI dA wI wA uI uA aI aS aT eI eA sS sT bI).map Prod.fst = (List.range 103).map q := rfl
theorem w7_fst (q : Nat → Nat) (cI cZ cO : ClassId) (I : Nat → Int32) (A : Nat → Nat → Int32) (L : Int64) : (wX7 q cI cZ cO I A L).map Prod.fst = (List.range 23).map q := rfl
def Ap (u v : va_W) : Prop := ∀ (i j : Nat) (x z : Nat × va_E), u[i]? = some x → v[j]? = some z → x.1 ≠ z.1
theorem Ap.sym {u v : va_W} (h : Ap u v) : Ap v u := fun i j x z hx hz e => h j i z x hz hx e.symm
theorem rng_at {w : va_W} {q : Nat → Nat} {n i : Nat} {x : Nat × va_E} (hw : w.map Prod.fst = (List.range n).map q) (h : w[i]? = some x) : i < n ∧ x.1 = q i := by
  have h2 : (w.map Prod.fst)[i]? = some x.1 := by rw [List.getElem?_map, h]; rfl
  rw [hw, List.getElem?_map] at h2
  cases h3 : (List.range n)[i]? with
  | none => rw [h3] at h2; cases h2
  | some j =>
    rw [h3] at h2
    obtain ⟨hl, he⟩ := List.getElem?_eq_some_iff.mp h3
    rw [List.getElem_range] at he
    rw [List.length_range] at hl
    exact ⟨hl, by rw [he]; exact (Option.some.inj h2).symm⟩
def Aq (q6 q7 : Nat → Nat) : Prop := ∀ i j : Nat, i < 103 → j < 23 → q6 i ≠ q7 j
theorem ap_of {u v : va_W} {q6 q7 : Nat → Nat} (hq : Aq q6 q7) (h6 : u.map Prod.fst = (List.range 103).map q6) (h7 : v.map Prod.fst = (List.range 23).map q7) : Ap u v := by
  intro i j x z hx hz
  obtain ⟨a1, a2⟩ := rng_at h6 hx
  obtain ⟨b1, b2⟩ := rng_at h7 hz
  rw [a2, b2]
  exact hq i j a1 b1
section LAWR
variable {p : Program} {l : Launch} {e : Env} {R : Room} {s : State} {m : MethodId} {args : Array Value} {below : List Frame} {meth : Method} {c : Code} {H : Heap} {locs : List Loc} {cells slots : Nat} {Q : State → Prop}
variable {cc : ByteArray} {pc : Nat} {ls : Array Slot} {rest : List Value} {A : Nat → Prop}
variable {G : va_G} {cI cZ cO : ClassId} {own C : String} {idx mL nL n ci : Nat} {y : MethodName} {cy : ByteArray} {ty : FieldType} {rm : Room} {b : Nat} {As st0 : List Value} {r : Int32} {fs : List Value} {q : vw_C}
theorem x_keep {wc wo : va_W} {H1 : Heap} (hO : va_P G vwCl wo H) (hap : Ap wc wo) (hk : ∀ q : Nat, q < H.size → ¬ va_A wc H.size q → H1[q]? = H[q]?) : va_P G vwCl wo H1 := by
  intro i q h
  have hlt := (hO i q h).lt
  refine (hO i q h).kept (hk q.1 hlt ?_)
  rintro (⟨k2, e2, h5⟩ | h5)
  · exact hap k2 i _ q h5 h rfl
  · omega
theorem x_cW {wc w1 wo : va_W} (hx : p.tables.exec = Jvm.exec) (hb : c.code = cc) (hml : c.maxLocals = nL) (hown : s.vm.findClass own = some m.cls) (hts : ∀ w ∈ wsL_law, w.before args s = true) (hE : EnvO G cI cZ cO s) (hM : CtI l y cy mL ty rm G cI cZ cO (.ref b :: As) wc w1 r)
    (h1 : Cond.methodLink own idx y ∈ wsL_law) (h2 : Cond.instanceMethod y ∈ wsL_law) (h3 : Cond.selects C y y ∈ wsL_law) (h4 : Cond.initialized C ∈ wsL_law) (h5 : Cond.code y cy mL (some ty) ∈ wsL_law)
    (hd : y.cls = C ∧ y.cls ≠ "java/lang/invoke/MethodHandle" ∧ y.cls ≠ "java/lang/invoke/VarHandle" ∧ (parseMethodDescriptor y.desc).map (fun d => d.parameters.length) = some n) (hn : As.length = n) (hR : rm.cells = 0 ∧ rm.slots = 0 ∧ rm.frames + 1 ≤ R.frames ∧ 8 + (mL + 11) + rm.locals ≤ R.locals)
    (hP : va_P G vwCl wc H) (hO : va_P G vwCl wo H) (hap : Ap wc wo) (hD : va_D A wc) (hS : va_S A s.heap H locs) (hA : ∀ q : Nat, s.heap.size ≤ q → A q) (hfst : w1.map Prod.fst = wc.map Prod.fst)
    (hw0 : wc[0]? = some (b, .inr (ci, fs))) (hci : vwCl[ci]? = some q) (hq : q.1 = C) (hst : st0 = As.reverse ++ .ref b :: rest) (hsize : ls.size = nL) (hW : (rest.map fun v => v.category).sum ≤ 8) (hcs : cells ≤ R.cells ∧ slots ≤ R.slots) (hdg : decode cc pc = .ok (.invokevirtual idx, 3))
    (kk : ∀ (H1 : Heap) (locs1 : List Loc), va_P G vwCl w1 H1 → va_P G vwCl wo H1 → va_D A w1 → va_S A s.heap H1 locs1 → W p l e R s m args below meth c H1 locs1 cells slots Q (F0 m (pc + 3) ls (.int r :: rest))) : W p l e R s m args below meth c H locs cells slots Q (F0 m pc ls st0) := by
  subst hst
  subst hq
  have hFc : ∀ q, va_A wc H.size q → A q := by
    rintro q (⟨k, e, h⟩ | h)
    · exact hD.2 k (q, e) h
    · exact hA q (Nat.le_trans hS.1 h)
  refine va_calli (va_runV (As := As) (rest := rest) ⟨hx, hb, hml, hown, hts⟩ (hM H.size) (cwV n hts (gdV h1 h2 h3 h4 h5) rfl hR.1 hR.2.1 hd ⟨hR.2.2.1, hR.2.2.2⟩) ⟨PreW.blind, va_recv hE.1 hP (ci := ci) (q0 := 0) hci hw0, fun U hU hW => ⟨rfl, by rw [hU], by rw [hU]; exact hP, hE.warm hW, hD.weaken (fun _ _ _ _ => trivial)⟩⟩ rfl hn hsize rfl (lv_room hW) hdg ⟨hcs.1, hcs.2⟩) hS (fun q _ h => hFc q h) hFc (fun r' u t H1 locs1 ht hvm hw hB hz1 hk1 hS => ?_)
  have hP1 : va_P G vwCl w1 t.heap := hB
  rw [ht] at hP1
  rw [hw]
  exact kk H1 locs1 hP1 (x_keep hO hap hk1) (fst_D hfst hD) hS
theorem x_cWL {r : Int64} {wc w1 wo : va_W} (hx : p.tables.exec = Jvm.exec) (hb : c.code = cc) (hml : c.maxLocals = nL) (hown : s.vm.findClass own = some m.cls) (hts : ∀ w ∈ wsL_law, w.before args s = true) (hE : EnvO G cI cZ cO s) (hM : CtL l y cy mL rm G cI cZ cO (.ref b :: As) wc w1 r)
    (h1 : Cond.methodLink own idx y ∈ wsL_law) (h2 : Cond.instanceMethod y ∈ wsL_law) (h3 : Cond.selects C y y ∈ wsL_law) (h4 : Cond.initialized C ∈ wsL_law) (h5 : Cond.code y cy mL (some .long) ∈ wsL_law)
    (hd : y.cls = C ∧ y.cls ≠ "java/lang/invoke/MethodHandle" ∧ y.cls ≠ "java/lang/invoke/VarHandle" ∧ (parseMethodDescriptor y.desc).map (fun d => d.parameters.length) = some n) (hn : As.length = n) (hR : rm.cells = 0 ∧ rm.slots = 0 ∧ rm.frames + 1 ≤ R.frames ∧ 8 + (mL + 11) + rm.locals ≤ R.locals)
    (hP : va_P G vwCl wc H) (hO : va_P G vwCl wo H) (hap : Ap wc wo) (hD : va_D A wc) (hS : va_S A s.heap H locs) (hA : ∀ q : Nat, s.heap.size ≤ q → A q) (hfst : w1.map Prod.fst = wc.map Prod.fst)
    (hw0 : wc[0]? = some (b, .inr (ci, fs))) (hci : vwCl[ci]? = some q) (hq : q.1 = C) (hst : st0 = As.reverse ++ .ref b :: rest) (hsize : ls.size = nL) (hW : (rest.map fun v => v.category).sum ≤ 8) (hcs : cells ≤ R.cells ∧ slots ≤ R.slots) (hdg : decode cc pc = .ok (.invokevirtual idx, 3))
    (kk : ∀ (H1 : Heap) (locs1 : List Loc), va_P G vwCl w1 H1 → va_P G vwCl wo H1 → va_D A w1 → va_S A s.heap H1 locs1 → W p l e R s m args below meth c H1 locs1 cells slots Q (F0 m (pc + 3) ls (.long r :: rest))) : W p l e R s m args below meth c H locs cells slots Q (F0 m pc ls st0) := by
  subst hst
  subst hq
  have hFc : ∀ q, va_A wc H.size q → A q := by
    rintro q (⟨k, e, h⟩ | h)
    · exact hD.2 k (q, e) h
    · exact hA q (Nat.le_trans hS.1 h)
  refine va_calll (va_runV (As := As) (rest := rest) ⟨hx, hb, hml, hown, hts⟩ (hM H.size) (cwV n hts (gdV h1 h2 h3 h4 h5) rfl hR.1 hR.2.1 hd ⟨hR.2.2.1, hR.2.2.2⟩) ⟨PreW.blind, va_recv hE.1 hP (ci := ci) (q0 := 0) hci hw0, fun U hU hW => ⟨rfl, by rw [hU], by rw [hU]; exact hP, hE.warm hW, hD.weaken (fun _ _ _ _ => trivial)⟩⟩ rfl hn hsize rfl (lv_room hW) hdg ⟨hcs.1, hcs.2⟩) hS (fun q _ h => hFc q h) hFc (fun r' u t H1 locs1 ht hvm hw hB hz1 hk1 hS => ?_)
  have hP1 : va_P G vwCl w1 t.heap := hB
  rw [ht] at hP1
  rw [hw]
  exact kk H1 locs1 hP1 (x_keep hO hap hk1) (fst_D hfst hD) hS
theorem x_bool {v : Int32} (hx : p.tables.exec = Jvm.exec) (hb : c.code = cc) (d0 : decode cc pc = .ok (.ifCond .eq 7, 3)) (d1 : decode cc (pc + 3) = .ok (.iconst 1, 1)) (d2 : decode cc (pc + 4) = .ok (.goto 4, 3)) (d3 : decode cc (pc + 7) = .ok (.iconst 0, 1))
    (kk : W p l e R s m args below meth c H locs cells slots Q (F0 m (pc + 8) ls (.int (if v = 0 then 0 else 1) :: rest))) : W p l e R s m args below meth c H locs cells slots Q (F0 m pc ls (.int v :: rest)) := by
  refine lv_if_eq (tgt := pc + 7) hx hb d0 (by omega) (fun h => ?_) (fun h => ?_)
  · rw [if_pos h] at kk
    exact lv_iconst (v := 0) hx hb d3 (by decide) kk
  · rw [if_neg h] at kk
    refine lv_iconst (v := 1) hx hb d1 (by decide) ?_
    exact lv_goto (tgt := pc + 8) hx hb d2 (by omega) kk
end LAWR
/-- what holds at the law's head: class and reference stand alike -/
def LI (G : va_G) (cI cZ cO : ClassId) (s : State) (q6 q7 : Nat → Nat) (H : Heap) (locs : List Loc) : Prop := ∃ (I : Nat → Int32) (A7 : Nat → Nat → Int32) (L7 : Int64) (A6 : Nat → Nat → Int32) (L6 : Int64) (rI : Nat → Int32) (rA : Nat → Nat → Int32) (tI : Nat → Int32) (tA : Nat → Nat → Int32) (dI : Nat → Int32) (dA : Nat → Nat → Int32) (wI : Nat → Int32) (wA : Nat → Nat → Int32) (uI : Nat → Int32) (uA : Nat → Nat → Int32) (aI : Nat → Int32) (aS : Nat → Nat → Int32) (aT : Nat → Nat → Nat → Int32) (eI : Nat → Int32) (eA : Nat → Nat → Int32) (sS : Nat → Nat → Int32) (sT : Nat → Nat → Nat → Int32) (bI : Nat → Int32), Rel I A7 L7 A6 L6 rI rA tI tA wI wA aI aS aT eI eA sS sT ∧ va_P G vwCl (wX6 q6 cI cZ cO A6 L6 rI rA tI tA dI dA wI wA uI uA aI aS aT eI eA sS sT bI) H ∧ va_P G vwCl (wX7 q7 cI cZ cO I A7 L7) H ∧ va_D (fun q : Nat => s.heap.size ≤ q) (wX6 q6 cI cZ cO A6 L6 rI rA tI tA dI dA wI wA uI uA aI aS aT eI eA sS sT bI) ∧ va_D (fun q : Nat => s.heap.size ≤ q) (wX7 q7 cI cZ cO I A7 L7) ∧ Aq q6 q7 ∧ va_S (fun q : Nat => s.heap.size ≤ q) s.heap H locs
theorem lg_self (x : Int64) : lg_cmp x x = 0 := Int32.le_antisymm (Int32.not_lt.mp (fun h => Int64.lt_irrefl ((lg_cmp_gt _ _).mp h))) (Int32.not_lt.mp (fun h => Int64.lt_irrefl ((lg_cmp_lt _ _).mp h)))
theorem b01 (v : Int32) : (if v = 0 then (0 : Int32) else 1) = 0 ∨ (if v = 0 then (0 : Int32) else 1) = 1 := by
  split
  · exact Or.inl rfl
  · exact Or.inr rfl
