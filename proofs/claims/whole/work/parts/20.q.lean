def RtQ (l : Launch) (y : MethodName) (c : ByteArray) (mL : Nat) (rm : Room) (D : va_G) (cI cZ cO : ClassId) (av : List Value) (ws : va_W) (rr : Option Nat) : Prop := Met l y (.code y c mL (some (.object "DawnCoin$Standing")) :: wsL_law) rm (va_Pc av (PreR D cI cZ cO ws)) (va_Sq (fun r' => r' = rr)) 0 0 (fun _ => False)
theorem rf_or (rr : Option Nat) : va_rf rr = .null ∨ ∃ a, va_rf rr = .ref a := by cases rr with
  | none => exact Or.inl rfl
  | some a => exact Or.inr ⟨a, rfl⟩
theorem mkRQ {l : Launch} {y : MethodName} {c : ByteArray} {mL : Nat} {rm : Room} {D : va_G} {cI cZ cO : ClassId} {av : List Value} {ws : va_W} {rr : Option Nat} (hy : plainName y.cls = true) (hlen : (lg_sl av).length ≤ mL)
    (body : ∀ (p : Program) (e : Env) (s : State) (m : MethodId) (below : List Frame) (meth : Method) (cd : Code) (Q : State → Prop), CxO p s m meth cd c mL y.cls av.toArray → va_P D vwCl ws s.heap → EnvO D cI cZ cO s → (∀ (pc : Nat) (ls : Array Slot) (v : Value), va_rf rr = v → decode c pc = .ok (.areturn, 1) → W p l e rm s m av.toArray below meth cd s.heap [] 0 0 Q (F0 m pc ls [v])) → ∀ ls : Array Slot, lv_has ls mL (lv_args 0 av) → W p l e rm s m av.toArray below meth cd s.heap [] 0 0 Q (F0 m 0 ls [])) : RtQ l y c mL rm D cI cZ cO av ws rr := by
  refine Met.ofW (cc := c) (maxL := mL) (ret := some (.object "DawnCoin$Standing")) hy rfl ?_
  intro p e s m args below meth cd s₁ B hml hv
  obtain ⟨rfl, hP, hE⟩ := hv
  have hl := lv_entry av (n := mL) hlen
  rw [lg_entry_eq]
  have hts := atoms_spec B.pre
  refine body p e s m below meth cd _ ⟨B.exec, B.bytes, hml, findClass_of_methodNamed B.named, fun w h => hts w (List.mem_cons_of_mem _ h)⟩ hP hE ?_ _ hl
  intro pc ls v hv hd
  subst hv
  exact W.aret B.exec B.bytes B.returns (Or.inl ⟨_, rfl⟩) (rf_or rr) (fun t ht hW => ⟨rr, rfl, rfl, ht⟩) (fun q h => by cases h) hd B.notSynchronized
section XQ
variable {p : Program} {l : Launch} {e : Env} {R : Room} {s : State} {m : MethodId} {args : Array Value} {below : List Frame} {meth : Method} {c : Code} {H : Heap} {locs : List Loc} {cells slots : Nat} {Q : State → Prop}
variable {cc : ByteArray} {pc : Nat} {ls : Array Slot} {rest : List Value}
theorem x_csq {post : Option Nat → Prop} {aa : Array Value} {st0 : List Value} (hr : va_Run p l e R s m args below meth c H locs cells slots 0 0 (F0 m pc ls st0) rest (va_Sq post aa) (fun _ => False))
    (kk : ∀ r : Option Nat, post r → W p l e R s m args below meth c H locs cells slots Q (F0 m (pc + 3) ls (va_rf r :: rest))) : W p l e R s m args below meth c H locs cells slots Q (F0 m pc ls st0) := by
  intro T hT X
  obtain ⟨v, st₀, t, T', L, h0, X', hL, e1, e2, ⟨r, hv, hp, hh⟩, st⟩ := hr T hT X
  cases hv
  obtain ⟨t2, a1, b1⟩ := kk r hp T' (by rw [e1, hh, h0]) (Stand.forget X' (fun q h => (hL q h).elim))
  exact ⟨t2, st t2 a1, b1⟩
variable {G : va_G} {cI cZ cO : ClassId} {own C : String} {idx mL nL n ci : Nat} {y : MethodName} {cy : ByteArray} {ty : FieldType} {rm : Room} {b : Nat} {As st0 : List Value} {wc : va_W} {fs : List Value} {q : vw_C}
theorem x_rdVq {rr : Option Nat} {v : Value} (hx : p.tables.exec = Jvm.exec) (hb : c.code = cc) (hml : c.maxLocals = nL) (hown : s.vm.findClass own = some m.cls) (hts : ∀ w ∈ wsL_law, w.before args s = true) (hE : EnvO G cI cZ cO s) (hM : RtQ l y cy mL rm G cI cZ cO (.ref b :: As) wc rr)
    (h1 : Cond.methodLink own idx y ∈ wsL_law) (h2 : Cond.instanceMethod y ∈ wsL_law) (h3 : Cond.selects C y y ∈ wsL_law) (h4 : Cond.initialized C ∈ wsL_law) (h5 : Cond.code y cy mL (some (.object "DawnCoin$Standing")) ∈ wsL_law)
    (hd : y.cls = C ∧ y.cls ≠ "java/lang/invoke/MethodHandle" ∧ y.cls ≠ "java/lang/invoke/VarHandle" ∧ (parseMethodDescriptor y.desc).map (fun d => d.parameters.length) = some n) (hn : As.length = n) (hR : rm.cells = 0 ∧ rm.slots = 0 ∧ rm.frames + 1 ≤ R.frames ∧ 8 + (mL + 11) + rm.locals ≤ R.locals)
    (hP : va_P G vwCl wc H) (hw0 : wc[0]? = some (b, .inr (ci, fs))) (hci : vwCl[ci]? = some q) (hq : q.1 = C) (hst : st0 = As.reverse ++ .ref b :: rest) (hsize : ls.size = nL) (hW : (rest.map fun v => v.category).sum ≤ 8) (hcs : cells ≤ R.cells ∧ slots ≤ R.slots) (hdg : decode cc pc = .ok (.invokevirtual idx, 3)) (hv : va_rf rr = v)
    (kk : W p l e R s m args below meth c H locs cells slots Q (F0 m (pc + 3) ls (v :: rest))) : W p l e R s m args below meth c H locs cells slots Q (F0 m pc ls st0) := by
  subst hst
  subst hq
  exact x_csq (va_runV (As := As) (rest := rest) ⟨hx, hb, hml, hown, hts⟩ hM (cwV n hts (gdV h1 h2 h3 h4 h5) rfl hR.1 hR.2.1 hd ⟨hR.2.2.1, hR.2.2.2⟩) ⟨PreR.blind, va_recv hE.1 hP (ci := ci) (q0 := 0) hci hw0, fun U hU hW => ⟨rfl, by rw [hU]; exact hP, hE.warm hW⟩⟩ rfl hn hsize rfl (lv_room hW) hdg ⟨hcs.1, hcs.2⟩) (fun r' hr' => by rw [hr', hv]; exact kk)
end XQ
