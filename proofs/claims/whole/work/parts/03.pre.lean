-- words: every method's words are its own code and wsL_law
def bgL : List (List Cond) := [wsL_law_r1, wsL_law_r2, wsL_law_r3, wsL_law_r4, wsL_law_r5, wsL_law_r6, wsL_law_r7, wsL_law_r8, wsL_law_r9, wsL_law_r10, wsL_law_r11, wsL_law_r12, wsL_law_r13, wsL_law_r14, wsL_law_r15, wsL_law_r16, wsL_law_r17, wsL_law_r18, wsL_law_r19, wsL_law_r20, wsL_law_r21, wsL_law_r22, wsL_law_r23, wsL_law_r24, wsL_law_r25, wsL_law_r26, wsL_law_r27, wsL_law_r28, wsL_law_r29, wsL_law_r30, wsL_law_r31, wsL_law_r32, wsL_law_r33, wsL_law_r34, wsL_law_r35, wsL_law_r36, wsL_law_r37, wsL_law_r38]
theorem bg_in : ∀ r ∈ bgL, ∀ w ∈ r, w ∈ wsL_law := by
  intro r hr w hw
  simp only [bgL, List.mem_cons, List.not_mem_nil, or_false] at hr
  simp only [wsL_law, List.mem_append]
  rcases hr with rfl | rfl | rfl | rfl | rfl | rfl | rfl | rfl | rfl | rfl | rfl | rfl | rfl | rfl | rfl | rfl | rfl | rfl | rfl | rfl | rfl | rfl | rfl | rfl | rfl | rfl | rfl | rfl | rfl | rfl | rfl | rfl | rfl | rfl | rfl | rfl | rfl | rfl <;> simp [hw]
theorem bg {w : Cond} (j i : Nat) (h : (bgL[j]?).bind (fun r => r[i]?) = some w) : w ∈ wsL_law := by
  cases hj : bgL[j]? with
  | none => rw [hj] at h; cases h
  | some r => rw [hj] at h; exact bg_in r (List.mem_of_getElem? hj) w (List.mem_of_getElem? h)
def bg_ok : Bool := wsL_law.all goodWord
theorem bg_good : bg_ok = true := by decide +kernel
theorem bg_gd {w : Cond} (h : w ∈ wsL_law) : w ∈ wsL_law ∧ ((w.onTables && w.keeps) = true ∨ ∃ ty, w = .arrayClass ty) := ⟨h, good_of_word (List.all_eq_true.mp bg_good w h)⟩
theorem gdW {y : MethodName} {c : ByteArray} {mL : Nat} {ret : Option FieldType} (h5 : Cond.code y c mL ret ∈ wsL_law) : GoodIn wsL_law (.code y c mL ret :: wsL_law) := by
  intro w hw
  rcases List.mem_cons.mp hw with rfl | hw
  · exact bg_gd h5
  · exact bg_gd hw
theorem gdV {own C : String} {idx : Nat} {y : MethodName} {c : ByteArray} {mL : Nat} {ret : Option FieldType} (h1 : Cond.methodLink own idx y ∈ wsL_law) (h2 : Cond.instanceMethod y ∈ wsL_law) (h3 : Cond.selects C y y ∈ wsL_law) (h4 : Cond.initialized C ∈ wsL_law) (h5 : Cond.code y c mL ret ∈ wsL_law) : GoodIn wsL_law (wsV own idx C y (.code y c mL ret :: wsL_law)) := by
  intro w hw
  rcases List.mem_append.mp hw with hw | hw
  · simp only [List.mem_cons, List.not_mem_nil, or_false] at hw
    rcases hw with rfl | rfl | rfl | rfl
    · exact bg_gd h1
    · exact bg_gd h2
    · exact bg_gd h3
    · exact bg_gd h4
  · exact gdW h5 w hw
theorem gdS {own : String} {idx : Nat} {y : MethodName} {c : ByteArray} {mL : Nat} {ret : Option FieldType} (h1 : Cond.methodLink own idx y ∈ wsL_law) (h2 : Cond.static y ∈ wsL_law) (h4 : Cond.initialized y.cls ∈ wsL_law) (h5 : Cond.code y c mL ret ∈ wsL_law) : GoodIn wsL_law (va_wsS own idx y (.code y c mL ret :: wsL_law)) := by
  intro w hw
  rcases List.mem_append.mp hw with hw | hw
  · simp only [List.mem_cons, List.not_mem_nil, or_false] at hw
    rcases hw with rfl | rfl | rfl
    · exact bg_gd h1
    · exact bg_gd h2
    · exact bg_gd h4
  · exact gdW h5 w hw
-- nest mates' links
def nsL : List (String × Nat × MethodName) := [(RX6, 11, yX3_init), (RX6, 18, yX5_init), (RX6, 28, yX4_init), (RX0, 17, yX4_init), (RX6, 45, yX2_init), (RX6, 60, yX1_init), (RX3, 19, yX6_isIndex), (RX3, 69, yX6_isOutside), (RX5, 68, yX6_isIndex), (RX3, 87, yX6_hasBit), (RX3, 94, yX6_isTable), (RX4, 40, yX6_at), (RX5, 38, yX6_at), (RX0, 22, yX6_isIndex), (RX4, 61, yX6_hasBit), (RX4, 44, yX6_isIndex), (RX4, 48, yX6_isTable), (RX5, 65, yX6_hasBit), (RX2, 29, yX6_isIndex)]
-- pure words
def sh {α : Type} (f : Nat → α) (b : Nat) : Nat → α := fun k => f (b + k)
def pt {α : Type} (f : Nat → α) (b n : Nat) (g : Nat → α) : Nat → α := fun k => if b ≤ k ∧ k < b + n then g (k - b) else f k
def rd (n : Nat) (f : Nat → Int32) (i : Int32) : Option Int32 := if i < 0 ∨ n ≤ i.toNatClampNeg then none else some (f i.toNatClampNeg)
def wr (n : Nat) (f : Nat → Int32) (i x : Int32) : Option (Nat → Int32) := if i < 0 ∨ n ≤ i.toNatClampNeg then none else some (upd f i.toNatClampNeg x)
def bz (v : Int32) : Option Int32 := if v = 0 ∨ v = 1 then some v else none
def nz (v : Int32) : Option Int32 := if v = 0 then none else some v
def nzL (v : Int64) : Option Int64 := if v = 0 then none else some v
theorem rd_in {n : Nat} {f : Nat → Int32} {i v : Int32} (h : rd n f i = some v) : vp_in i n ∧ f i.toNatClampNeg = v := by
  unfold rd at h
  split at h
  · cases h
  · rename_i h2; exact ⟨h2, Option.some.inj h⟩
theorem wr_in {n : Nat} {f g : Nat → Int32} {i x : Int32} (h : wr n f i x = some g) : vp_in i n ∧ upd f i.toNatClampNeg x = g := by
  unfold wr at h
  split at h
  · cases h
  · rename_i h2; exact ⟨h2, Option.some.inj h⟩
theorem bz_in {v w : Int32} (h : bz v = some w) : v = w ∧ (w = 0 ∨ w = 1) := by
  unfold bz at h
  split at h
  · rename_i h2; cases h; exact ⟨rfl, h2⟩
  · cases h
theorem nz_in {v w : Int32} (h : nz v = some w) : v = w ∧ ¬ w = 0 := by
  unfold nz at h
  split at h
  · cases h
  · rename_i h2; cases h; exact ⟨rfl, h2⟩
theorem nzL_in {v w : Int64} (h : nzL v = some w) : v = w ∧ ¬ w = 0 := by
  unfold nzL at h
  split at h
  · cases h
  · rename_i h2; cases h; exact ⟨rfl, h2⟩
theorem bnd {α β : Type} {x : Option α} {f : α → Option β} {r : β} (h : x.bind f = some r) : ∃ v, x = some v ∧ f v = some r := by
  cases x with
  | none => cases h
  | some v => exact ⟨v, rfl, h⟩
-- the surroundings that every contract has
def tyG (cI cZ cO : ClassId) : List (ClassId × FieldType) := [(cI, .int), (cZ, .boolean), (cO, .object "DawnCoin$Standing")]
def EnvO (D : va_G) (cI cZ cO : ClassId) (U : State) : Prop := va_K D vwCl (tyG cI cZ cO) U ∧ ∀ q ∈ nsL, va_Nw (.methodLinkNest q.1 q.2.1 q.2.2 "DawnCoin") U
theorem EnvO.warm {D : va_G} {cI cZ cO : ClassId} {s U : State} (hW : s.WarmedH U.vm) (h : EnvO D cI cZ cO s) : EnvO D cI cZ cO U := ⟨va_K.moved hW.alike h.1, fun q hq => va_Nw.warmM hW (h.2 q hq)⟩
theorem EnvO.call {D : va_G} {cI cZ cO : ClassId} {U : State} (g : JFrame) (mk : MethodId) (a : Array Value) (h : EnvO D cI cZ cO U) : EnvO D cI cZ cO (U.calling g mk a) := ⟨va_K.moved (u := U) (U := U.calling g mk a) (Vm.Alike.refl U.vm) h.1, fun q hq => va_Nw.same rfl rfl (h.2 q hq)⟩
def PreR (D : va_G) (cI cZ cO : ClassId) (ws : va_W) (U : State) : Prop := va_P D vwCl ws U.heap ∧ EnvO D cI cZ cO U
def PreW (D : va_G) (cI cZ cO : ClassId) (ws : va_W) (sz : Nat) (U : State) : Prop := U.heap.size = sz ∧ va_P D vwCl ws U.heap ∧ EnvO D cI cZ cO U ∧ va_D (fun _ => True) ws
def PosW (D : va_G) (ws1 : va_W) : Unit → State → Prop := fun _ t => va_P D vwCl ws1 t.heap
theorem PreR.blind {D : va_G} {cI cZ cO : ClassId} {av : List Value} {ws : va_W} : FrameBlind (va_Pc av (PreR D cI cZ cO ws)) := fun a U g mk q => ⟨q.1, q.2.1, q.2.2.call g mk a⟩
theorem PreW.blind {D : va_G} {cI cZ cO : ClassId} {av : List Value} {ws : va_W} {sz : Nat} : FrameBlind (va_Pc av (PreW D cI cZ cO ws sz)) := fun a U g mk q => ⟨q.1, q.2.1, q.2.2.1, q.2.2.2.1.call g mk a, q.2.2.2.2⟩
/-- a method that reads: its answer -/
def RtI (l : Launch) (y : MethodName) (c : ByteArray) (mL : Nat) (ty : FieldType) (rm : Room) (D : va_G) (cI cZ cO : ClassId) (av : List Value) (ws : va_W) (r : Int32) : Prop := Met l y (.code y c mL (some ty) :: wsL_law) rm (va_Pc av (PreR D cI cZ cO ws)) (vp_Si (fun r' => r' = r)) 0 0 (fun _ => False)
def RtL (l : Launch) (y : MethodName) (c : ByteArray) (mL : Nat) (rm : Room) (D : va_G) (cI cZ cO : ClassId) (av : List Value) (ws : va_W) (r : Int64) : Prop := Met l y (.code y c mL (some .long) :: wsL_law) rm (va_Pc av (PreR D cI cZ cO ws)) (vp_Sl (fun r' => r' = r)) 0 0 (fun _ => False)
/-- a method that writes: its answer, its world -/
def CtI (l : Launch) (y : MethodName) (c : ByteArray) (mL : Nat) (ty : FieldType) (rm : Room) (D : va_G) (cI cZ cO : ClassId) (av : List Value) (ws ws1 : va_W) (r : Int32) : Prop := ∀ sz : Nat, Met l y (.code y c mL (some ty) :: wsL_law) rm (va_Pc av (PreW D cI cZ cO ws sz)) (va_Qi (fun r' (_ : Unit) => r' = r) (PosW D ws1) (va_A ws sz)) 0 0 (va_A ws sz)
def CtL (l : Launch) (y : MethodName) (c : ByteArray) (mL : Nat) (rm : Room) (D : va_G) (cI cZ cO : ClassId) (av : List Value) (ws ws1 : va_W) (r : Int64) : Prop := ∀ sz : Nat, Met l y (.code y c mL (some .long) :: wsL_law) rm (va_Pc av (PreW D cI cZ cO ws sz)) (va_Ql (fun r' (_ : Unit) => r' = r) (PosW D ws1) (va_A ws sz)) 0 0 (va_A ws sz)
def CtV (l : Launch) (y : MethodName) (c : ByteArray) (mL : Nat) (rm : Room) (D : va_G) (cI cZ cO : ClassId) (av : List Value) (ws ws1 : va_W) : Prop := ∀ sz : Nat, Met l y (.code y c mL none :: wsL_law) rm (va_Pc av (PreW D cI cZ cO ws sz)) (va_Qv (fun (_ : Unit) => True) (PosW D ws1) (va_A ws sz)) 0 0 (va_A ws sz)
/-- what a walk of a method knows -/
def CxO (p : Program) (s : State) (m : MethodId) (meth : Method) (cd : Code) (c : ByteArray) (mL : Nat) (own : String) (args : Array Value) : Prop := p.tables.exec = Jvm.exec ∧ cd.code = c ∧ cd.maxLocals = mL ∧ s.vm.findClass own = some m.cls ∧ (∀ w ∈ wsL_law, w.before args s = true)
theorem mkRI {l : Launch} {y : MethodName} {c : ByteArray} {mL : Nat} {ty : FieldType} {rm : Room} {D : va_G} {cI cZ cO : ClassId} {av : List Value} {ws : va_W} {r : Int32} (hy : plainName y.cls = true) (hlen : (lg_sl av).length ≤ mL)
    (body : ∀ (p : Program) (e : Env) (s : State) (m : MethodId) (below : List Frame) (meth : Method) (cd : Code) (Q : State → Prop), CxO p s m meth cd c mL y.cls av.toArray → va_P D vwCl ws s.heap → EnvO D cI cZ cO s → (∀ (pc : Nat) (ls : Array Slot) (v : Int32), v = r → narrow ty (.int r) = .int r → decode c pc = .ok (.ireturn, 1) → W p l e rm s m av.toArray below meth cd s.heap [] 0 0 Q (F0 m pc ls [.int v])) → ∀ ls : Array Slot, lv_has ls mL (lv_args 0 av) → W p l e rm s m av.toArray below meth cd s.heap [] 0 0 Q (F0 m 0 ls [])) : RtI l y c mL ty rm D cI cZ cO av ws r := by
  refine Met.ofW (cc := c) (maxL := mL) (ret := some ty) hy rfl ?_
  intro p e s m args below meth cd s₁ B hml hv
  obtain ⟨rfl, hP, hE⟩ := hv
  have hl := lv_entry av (n := mL) hlen
  rw [lg_entry_eq]
  have hts := atoms_spec B.pre
  refine body p e s m below meth cd _ ⟨B.exec, B.bytes, hml, findClass_of_methodNamed B.named, fun w h => hts w (List.mem_cons_of_mem _ h)⟩ hP hE ?_ _ hl
  intro pc ls v hv hty hd
  subst hv
  exact W.zret B.exec B.bytes B.returns hty (fun t ht hW => ⟨v, rfl, rfl, ht⟩) (fun q h => by cases h) hd B.notSynchronized
theorem mkRL {l : Launch} {y : MethodName} {c : ByteArray} {mL : Nat} {rm : Room} {D : va_G} {cI cZ cO : ClassId} {av : List Value} {ws : va_W} {r : Int64} (hy : plainName y.cls = true) (hlen : (lg_sl av).length ≤ mL)
    (body : ∀ (p : Program) (e : Env) (s : State) (m : MethodId) (below : List Frame) (meth : Method) (cd : Code) (Q : State → Prop), CxO p s m meth cd c mL y.cls av.toArray → va_P D vwCl ws s.heap → EnvO D cI cZ cO s → (∀ (pc : Nat) (ls : Array Slot) (v : Int64), v = r → decode c pc = .ok (.lreturn, 1) → W p l e rm s m av.toArray below meth cd s.heap [] 0 0 Q (F0 m pc ls [.long v])) → ∀ ls : Array Slot, lv_has ls mL (lv_args 0 av) → W p l e rm s m av.toArray below meth cd s.heap [] 0 0 Q (F0 m 0 ls [])) : RtL l y c mL rm D cI cZ cO av ws r := by
  refine Met.ofW (cc := c) (maxL := mL) (ret := some .long) hy rfl ?_
  intro p e s m args below meth cd s₁ B hml hv
  obtain ⟨rfl, hP, hE⟩ := hv
  have hl := lv_entry av (n := mL) hlen
  rw [lg_entry_eq]
  have hts := atoms_spec B.pre
  refine body p e s m below meth cd _ ⟨B.exec, B.bytes, hml, findClass_of_methodNamed B.named, fun w h => hts w (List.mem_cons_of_mem _ h)⟩ hP hE ?_ _ hl
  intro pc ls v hv hd
  subst hv
  exact W.lret B.exec B.bytes B.returns (fun t ht hW => ⟨v, rfl, rfl, ht⟩) (fun q h => by cases h) hd B.notSynchronized
theorem mkCI {l : Launch} {y : MethodName} {c : ByteArray} {mL : Nat} {ty : FieldType} {rm : Room} {D : va_G} {cI cZ cO : ClassId} {av : List Value} {ws ws1 : va_W} {r : Int32} (hy : plainName y.cls = true) (hlen : (lg_sl av).length ≤ mL)
    (body : ∀ (p : Program) (e : Env) (s : State) (m : MethodId) (below : List Frame) (meth : Method) (cd : Code) (Q : State → Prop) (A : Nat → Prop), CxO p s m meth cd c mL y.cls av.toArray → va_P D vwCl ws s.heap → EnvO D cI cZ cO s → va_D A ws → (∀ q : Nat, s.heap.size ≤ q → A q) → (∀ (H : Heap) (locs : List Loc) (pc : Nat) (ls : Array Slot) (v : Int32), v = r → narrow ty (.int r) = .int r → va_P D vwCl ws1 H → va_S A s.heap H locs → decode c pc = .ok (.ireturn, 1) → W p l e rm s m av.toArray below meth cd H locs 0 0 Q (F0 m pc ls [.int v])) → ∀ ls : Array Slot, lv_has ls mL (lv_args 0 av) → W p l e rm s m av.toArray below meth cd s.heap [] 0 0 Q (F0 m 0 ls [])) : CtI l y c mL ty rm D cI cZ cO av ws ws1 r := by
  intro sz
  refine Met.ofW (cc := c) (maxL := mL) (ret := some ty) hy rfl ?_
  intro p e s m args below meth cd s₁ B hml hv
  obtain ⟨rfl, hsz, hP, hE, hD0⟩ := hv
  subst hsz
  have hl := lv_entry av (n := mL) hlen
  rw [lg_entry_eq]
  have hts := atoms_spec B.pre
  refine body p e s m below meth cd _ (va_A ws s.heap.size) ⟨B.exec, B.bytes, hml, findClass_of_methodNamed B.named, fun w h => hts w (List.mem_cons_of_mem _ h)⟩ hP hE (hD0.self (sz := s.heap.size)) (fun q h => Or.inr h) ?_ _ hl
  intro H locs pc ls v hv hty hP1 hS hd
  subst hv
  exact W.zret B.exec B.bytes B.returns hty (fun t ht hW => ⟨⟨v, (), rfl, rfl, by show va_P D vwCl ws1 t.heap; rw [ht]; exact hP1⟩, hS.F ht⟩) hS.2.2 hd B.notSynchronized
theorem mkCL {l : Launch} {y : MethodName} {c : ByteArray} {mL : Nat} {rm : Room} {D : va_G} {cI cZ cO : ClassId} {av : List Value} {ws ws1 : va_W} {r : Int64} (hy : plainName y.cls = true) (hlen : (lg_sl av).length ≤ mL)
    (body : ∀ (p : Program) (e : Env) (s : State) (m : MethodId) (below : List Frame) (meth : Method) (cd : Code) (Q : State → Prop) (A : Nat → Prop), CxO p s m meth cd c mL y.cls av.toArray → va_P D vwCl ws s.heap → EnvO D cI cZ cO s → va_D A ws → (∀ q : Nat, s.heap.size ≤ q → A q) → (∀ (H : Heap) (locs : List Loc) (pc : Nat) (ls : Array Slot) (v : Int64), v = r → va_P D vwCl ws1 H → va_S A s.heap H locs → decode c pc = .ok (.lreturn, 1) → W p l e rm s m av.toArray below meth cd H locs 0 0 Q (F0 m pc ls [.long v])) → ∀ ls : Array Slot, lv_has ls mL (lv_args 0 av) → W p l e rm s m av.toArray below meth cd s.heap [] 0 0 Q (F0 m 0 ls [])) : CtL l y c mL rm D cI cZ cO av ws ws1 r := by
  intro sz
  refine Met.ofW (cc := c) (maxL := mL) (ret := some .long) hy rfl ?_
  intro p e s m args below meth cd s₁ B hml hv
  obtain ⟨rfl, hsz, hP, hE, hD0⟩ := hv
  subst hsz
  have hl := lv_entry av (n := mL) hlen
  rw [lg_entry_eq]
  have hts := atoms_spec B.pre
  refine body p e s m below meth cd _ (va_A ws s.heap.size) ⟨B.exec, B.bytes, hml, findClass_of_methodNamed B.named, fun w h => hts w (List.mem_cons_of_mem _ h)⟩ hP hE (hD0.self (sz := s.heap.size)) (fun q h => Or.inr h) ?_ _ hl
  intro H locs pc ls v hv hP1 hS hd
  subst hv
  exact W.lret B.exec B.bytes B.returns (fun t ht hW => ⟨⟨v, (), rfl, rfl, by show va_P D vwCl ws1 t.heap; rw [ht]; exact hP1⟩, hS.F ht⟩) hS.2.2 hd B.notSynchronized
theorem mkCV {l : Launch} {y : MethodName} {c : ByteArray} {mL : Nat} {rm : Room} {D : va_G} {cI cZ cO : ClassId} {av : List Value} {ws ws1 : va_W} (hy : plainName y.cls = true) (hlen : (lg_sl av).length ≤ mL)
    (body : ∀ (p : Program) (e : Env) (s : State) (m : MethodId) (below : List Frame) (meth : Method) (cd : Code) (Q : State → Prop) (A : Nat → Prop), CxO p s m meth cd c mL y.cls av.toArray → va_P D vwCl ws s.heap → EnvO D cI cZ cO s → va_D A ws → (∀ q : Nat, s.heap.size ≤ q → A q) → (∀ (H : Heap) (locs : List Loc) (pc : Nat) (ls : Array Slot), va_P D vwCl ws1 H → va_S A s.heap H locs → decode c pc = .ok (.return_, 1) → W p l e rm s m av.toArray below meth cd H locs 0 0 Q (F0 m pc ls [])) → ∀ ls : Array Slot, lv_has ls mL (lv_args 0 av) → W p l e rm s m av.toArray below meth cd s.heap [] 0 0 Q (F0 m 0 ls [])) : CtV l y c mL rm D cI cZ cO av ws ws1 := by
  intro sz
  refine Met.ofW (cc := c) (maxL := mL) (ret := none) hy rfl ?_
  intro p e s m args below meth cd s₁ B hml hv
  obtain ⟨rfl, hsz, hP, hE, hD0⟩ := hv
  subst hsz
  have hl := lv_entry av (n := mL) hlen
  rw [lg_entry_eq]
  have hts := atoms_spec B.pre
  refine body p e s m below meth cd _ (va_A ws s.heap.size) ⟨B.exec, B.bytes, hml, findClass_of_methodNamed B.named, fun w h => hts w (List.mem_cons_of_mem _ h)⟩ hP hE (hD0.self (sz := s.heap.size)) (fun q h => Or.inr h) ?_ _ hl
  intro H locs pc ls hP1 hS hd
  exact W.vret B.exec B.bytes B.returns (fun t ht hW => ⟨⟨(), rfl, trivial, by show va_P D vwCl ws1 t.heap; rw [ht]; exact hP1⟩, hS.F ht⟩) hS.2.2 hd B.notSynchronized
theorem nar_i (r : Int32) : narrow .int (.int r) = .int r := vp_nar_int r
theorem nar_z {r : Int32} (h : r = 0 ∨ r = 1) : narrow .boolean (.int r) = .int r := by rcases h with rfl | rfl <;> decide +kernel
