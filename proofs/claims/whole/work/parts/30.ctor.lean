abbrev ZI : Nat → Int32 := fun _ => 0
abbrev ZA : Nat → Nat → Int32 := fun _ _ => 0
abbrev ZT : Nat → Nat → Nat → Int32 := fun _ _ _ => 0
theorem RA_one {U : State} {a b : ClassId} {ty : FieldType} (h1 : va_RA U a ty) (h2 : va_RA U b ty) : a = b := by
  cases ty with
  | object C =>
    obtain ⟨_, _, _, _, _, h3⟩ := h1
    obtain ⟨_, _, _, _, _, h4⟩ := h2
    exact Option.some.inj (h3.symm.trans h4)
  | _ => exact Option.some.inj (Eq.trans (Eq.symm h1) h2)
def PreN (G : va_G) (cI cZ cO : ClassId) (ws : va_W) (sz : Nat) (U : State) : Prop := PreW G cI cZ cO ws sz U ∧ va_AO "DawnCoin$Standing" U
theorem PreN.blind {D : va_G} {cI cZ cO : ClassId} {av : List Value} {ws : va_W} {sz : Nat} : FrameBlind (va_Pc av (PreN D cI cZ cO ws sz)) := fun a U g mk q => ⟨q.1, ⟨q.2.1.1, q.2.1.2.1, q.2.1.2.2.1.call g mk a, q.2.1.2.2.2⟩, va_AO.moved (u := U) (U := U.calling g mk a) (Vm.Alike.refl U.vm) q.2.2⟩
def CtN (l : Launch) (y : MethodName) (c : ByteArray) (mL : Nat) (rm : Room) (G : va_G) (cI cZ cO : ClassId) (K : Nat) (fs : List Value) (wf : (Nat → Nat) → va_W) (mc ms : Nat) : Prop := ∀ (h0 sz : Nat), Met l y (.code y c mL none :: wsL_law) rm (va_Pc [.ref h0] (PreN G cI cZ cO [(h0, .inr (K, fs))] sz)) (va_Qv (fun q : Nat → Nat => q 0 = h0) (fun q t => va_P G vwCl (wf q) t.heap ∧ va_D (va_A [(h0, .inr (K, fs))] sz) (wf q)) (va_A [(h0, .inr (K, fs))] sz)) mc ms (va_A [(h0, .inr (K, fs))] sz)
theorem mkCN {l : Launch} {y : MethodName} {c : ByteArray} {mL : Nat} {rm : Room} {G : va_G} {cI cZ cO : ClassId} {K : Nat} {fs : List Value} {wf : (Nat → Nat) → va_W} {mc ms : Nat} (hy : plainName y.cls = true) (hyn : y.name = "<init>") (hlen : 1 ≤ mL)
    (body : ∀ (h0 : Nat) (p : Program) (e : Env) (s : State) (m : MethodId) (below : List Frame) (meth : Method) (cd : Code) (Q : State → Prop) (A : Nat → Prop), CxO p s m meth cd c mL y.cls #[.ref h0] → meth.name = "<init>" → va_P G vwCl [(h0, .inr (K, fs))] s.heap → EnvO G cI cZ cO s → va_AO "DawnCoin$Standing" s → va_D A [(h0, .inr (K, fs))] → (∀ q : Nat, s.heap.size ≤ q → A q) → (∀ (H : Heap) (locs : List Loc) (pc : Nat) (ls : Array Slot) (q : Nat → Nat), q 0 = h0 → va_P G vwCl (wf q) H → va_D A (wf q) → va_S A s.heap H locs → decode c pc = .ok (.return_, 1) → W p l e rm s m #[.ref h0] below meth cd H locs mc ms Q (F0 m pc ls [])) → ∀ ls : Array Slot, lv_has ls mL [(0, .ref h0)] → va_S A s.heap s.heap [] → W p l e rm s m #[.ref h0] below meth cd s.heap [] 0 0 Q (F0 m 0 ls [])) : CtN l y c mL rm G cI cZ cO K fs wf mc ms := by
  intro h0 sz
  refine Met.ofW (cc := c) (maxL := mL) (ret := none) hy rfl ?_
  intro p e s m args below meth cd s₁ B hml hv
  obtain ⟨rfl, ⟨hsz, hP, hE, hD0⟩, hO⟩ := hv
  subst hsz
  have hl := lv_entry ([.ref h0]) (n := mL) hlen
  rw [lg_entry_eq]
  have hts := atoms_spec B.pre
  have hin : meth.name = "<init>" := by rw [← hyn]; exact (name_of_methodNamed B.named B.method).1
  refine body h0 p e s m below meth cd _ (va_A [(h0, .inr (K, fs))] s.heap.size) ⟨B.exec, B.bytes, hml, findClass_of_methodNamed B.named, fun w h => hts w (List.mem_cons_of_mem _ h)⟩ hin hP hE hO (hD0.self (sz := s.heap.size)) (fun q h => Or.inr h) ?_ _ hl va_S.rf
  intro H locs pc ls q hq hP1 hD1 hS hd
  exact W.vret B.exec B.bytes B.returns (fun t ht hW => ⟨⟨q, rfl, hq, by rw [ht]; exact hP1, hD1⟩, hS.F ht⟩) hS.2.2 hd B.notSynchronized
section XN
variable {p : Program} {l : Launch} {e : Env} {R : Room} {s : State} {m : MethodId} {args : Array Value} {below : List Frame} {meth : Method} {c : Code} {H : Heap} {locs : List Loc} {cells slots : Nat} {Q : State → Prop}
variable {cc : ByteArray} {pc : Nat} {ls : Array Slot} {rest : List Value} {A : Nat → Prop} {ws : va_W} {G : va_G} {cI cZ cO : ClassId}
theorem x_newa (hexec : p.tables.exec = Jvm.exec) (hb : c.code = cc) {atype : ArrayType} (harr : (Cond.arrayClass (newarray.typeOf atype)).before args s = true) {ty : FieldType} (hty : newarray.typeOf atype = ty) (hE : EnvO G cI cZ cO s) (hP : va_P G vwCl ws H) (hD : va_D A ws) (hS : va_S A s.heap H locs) (hA : ∀ q, s.heap.size ≤ q → A q)
    (t0 : Nat) {cK : ClassId} (ht : (tyG cI cZ cO)[t0]? = some (cK, ty)) {n : Int32} {N' : Nat} (hdv : defaultValue ty = .int 0) (hn : ¬ n < 0) (hN : n.toNatClampNeg = N') (hbytes : N' * componentBytes ty ≤ 536870912) (hcells : cells + 1 ≤ R.cells) (hslots : slots + N' ≤ R.slots) (hdg : decode cc pc = .ok (.newarray atype, 2))
    (kk : ∀ (q : Nat) (H1 : Heap), va_P G vwCl (ws ++ [(q, .inl (cK, N', .inl (fun _ => 0)))]) H1 → va_D A (ws ++ [(q, .inl (cK, N', .inl (fun _ => 0)))]) → va_S A s.heap H1 locs →
      W p l e R s m args below meth c H1 locs (cells + 1) (slots + N') Q (F0 m (pc + 2) ls (.ref q :: rest))) : W p l e R s m args below meth c H locs cells slots Q (F0 m pc ls (.int n :: rest)) := by
  refine va_newa (a0 := (N', .inl (fun _ => 0))) hexec hb harr hty hE.1 hP hD hS hA (fun cA => by rw [vp_cell_i, hdv]) hn hN hbytes hcells hslots hdg (fun q cA H1 hK hP hD hS => ?_)
  have h1 := (hK.2 3 (cA, ty) rfl).2
  have h2 := (hE.1.2 t0 (cK, ty) ht).2
  have e1 := RA_one h1 h2
  subst e1
  exact kk q H1 hP hD hS
theorem x_newq (hexec : p.tables.exec = Jvm.exec) (hb : c.code = cc) {own : String} {index : Nat} (hown : s.vm.findClass own = some m.cls) (hclink : (Cond.classLink own index "DawnCoin$Standing").before args s = true) (hover : va_AO "DawnCoin$Standing" s) (hE : EnvO G cI cZ cO s) (hP : va_P G vwCl ws H) (hD : va_D A ws) (hS : va_S A s.heap H locs) (hA : ∀ q, s.heap.size ≤ q → A q)
    {n : Int32} {N' : Nat} (hn : ¬ n < 0) (hN : n.toNatClampNeg = N') (hbytes : N' * 4 ≤ 536870912) (hcells : cells + 1 ≤ R.cells) (hslots : slots + N' ≤ R.slots) (hdg : decode cc pc = .ok (.anewarray index, 3))
    (kk : ∀ (q : Nat) (H1 : Heap), va_P G vwCl (ws ++ [(q, .inl (cO, N', .inr (.inr (.inr (.inr (fun _ => none))))))]) H1 → va_D A (ws ++ [(q, .inl (cO, N', .inr (.inr (.inr (.inr (fun _ => none))))))]) → va_S A s.heap H1 locs →
      W p l e R s m args below meth c H1 locs (cells + 1) (slots + N') Q (F0 m (pc + 3) ls (.ref q :: rest))) : W p l e R s m args below meth c H locs cells slots Q (F0 m pc ls (.int n :: rest)) := by
  refine va_newq hexec hb hown hclink hover hE.1 hP hD hS hA hn hN hbytes hcells hslots hdg (fun q cA H1 hK hP hD hS => ?_)
  have h1 := (hK.2 3 (cA, .object "DawnCoin$Standing") rfl).2
  have h2 := (hE.1.2 2 (cO, .object "DawnCoin$Standing") rfl).2
  have e1 := RA_one h1 h2
  subst e1
  exact kk q H1 hP hD hS
/-- the last cell's constructor has run: the others stay -/
theorem x_last {wr w1 : va_W} {b : Nat} {ee : va_E} {H1 : Heap} (hP : va_P G vwCl (wr ++ [(b, ee)]) H) (hD : va_D A (wr ++ [(b, ee)])) (hk : ∀ q : Nat, q < H.size → ¬ va_A [(b, ee)] H.size q → H1[q]? = H[q]?) (hF : ∀ q, va_A [(b, ee)] H.size q → A q) (hP1 : va_P G vwCl w1 H1) (hD1 : va_D (va_A [(b, ee)] H.size) w1) : va_P G vwCl (wr ++ w1) H1 ∧ va_D A (wr ++ w1) := by
  have at1 : ∀ (i : Nat) (q : Nat × va_E), wr[i]? = some q → (wr ++ [(b, ee)])[i]? = some q := fun i q h => by
    rw [List.getElem?_append_left (List.getElem?_eq_some_iff.mp h).1]; exact h
  have at2 : (wr ++ [(b, ee)])[wr.length]? = some (b, ee) := by simp
  have apart : ∀ (i : Nat) (q : Nat × va_E), wr[i]? = some q → q.1 < H.size ∧ ¬ va_A [(b, ee)] H.size q.1 := by
    intro i q h
    have hlt := (hP i q (at1 i q h)).lt
    refine ⟨hlt, ?_⟩
    rintro (⟨k, e2, h2⟩ | h2)
    · have hk0 : k = 0 := by
        have := (List.getElem?_eq_some_iff.mp h2).1
        simp at this
        exact this
      subst hk0
      simp at h2
      have h3 := hD.1 i wr.length q (b, ee) (at1 i q h) at2 h2.1.symm
      have h4 := (List.getElem?_eq_some_iff.mp h).1
      omega
    · omega
  refine ⟨va_P.app (fun i q h => ?_) hP1, va_D.app ⟨fun i j x z hx hz hxz => ?_, fun k q h => ?_⟩ (hD1.weaken (fun k q _ h => hF q.1 h)) (fun i j x z hx hz hxz => ?_)⟩
  · exact (hP i q (at1 i q h)).kept (hk q.1 (apart i q h).1 (apart i q h).2)
  · exact hD.1 i j x z (at1 i x hx) (at1 j z hz) hxz
  · exact hD.2 k q (at1 k q h)
  · exact (apart i x hx).2 (by rw [hxz]; exact hD1.2 j z hz)
variable {own : String} {idx mL nL mc ms K : Nat} {y : MethodName} {cy : ByteArray} {rm : Room} {b : Nat} {st0 : List Value} {fs : List Value} {wf : (Nat → Nat) → va_W} {wr : va_W}
theorem x_ctN (hx : p.tables.exec = Jvm.exec) (hb : c.code = cc) (hml : c.maxLocals = nL) (hown : s.vm.findClass own = some m.cls) (hts : ∀ w ∈ wsL_law, w.before args s = true) (hE : EnvO G cI cZ cO s) (hO : va_AO "DawnCoin$Standing" s) (hM : CtN l y cy mL rm G cI cZ cO K fs wf mc ms)
    (h1 : (own, idx, y) ∈ nsL) (h2 : Cond.instanceMethod y ∈ wsL_law) (h4 : Cond.initialized y.cls ∈ wsL_law) (h5 : Cond.code y cy mL none ∈ wsL_law) (hyn : y.name = "<init>")
    (hd : y.cls ≠ "java/lang/invoke/MethodHandle" ∧ y.cls ≠ "java/lang/invoke/VarHandle" ∧ (parseMethodDescriptor y.desc).map (fun d => d.parameters.length) = some 0) (hR : rm.cells = mc ∧ rm.slots = ms ∧ rm.frames + 1 ≤ R.frames ∧ 8 + (mL + 11) + rm.locals ≤ R.locals)
    (hP : va_P G vwCl (wr ++ [(b, .inr (K, fs))]) H) (hD : va_D A (wr ++ [(b, .inr (K, fs))])) (hS : va_S A s.heap H locs) (hA : ∀ q : Nat, s.heap.size ≤ q → A q) (restf : Nat → List Value) (hst : st0 = .ref b :: restf b) (hsize : ls.size = nL) (hW : ((restf b).map fun v => v.category).sum ≤ 8) (hcs : cells + mc ≤ R.cells ∧ slots + ms ≤ R.slots) (hdg : decode cc pc = .ok (.invokespecial idx, 3))
    (kk : ∀ (q : Nat → Nat) (H1 : Heap) (locs1 : List Loc), va_P G vwCl (wr ++ wf q) H1 → va_D A (wr ++ wf q) → va_S A s.heap H1 locs1 → W p l e R s m args below meth c H1 locs1 (cells + mc) (slots + ms) Q (F0 m (pc + 3) ls (restf (q 0)))) : W p l e R s m args below meth c H locs cells slots Q (F0 m pc ls st0) := by
  subst hst
  have at2 : (wr ++ [(b, .inr (K, fs))])[wr.length]? = some (b, (.inr (K, fs) : va_E)) := by simp
  have hPc : va_P G vwCl [(b, .inr (K, fs))] H := fun k q h => by
    have hk0 : k = 0 := by
      have := (List.getElem?_eq_some_iff.mp h).1
      simp at this
      exact this
    subst hk0
    simp at h
    rw [← h]
    exact hP _ _ at2
  have hDc : va_D (fun _ => True) [(b, (.inr (K, fs) : va_E))] := ⟨fun i j x z hi hj _ => by
    have h1 := (List.getElem?_eq_some_iff.mp hi).1
    have h2 := (List.getElem?_eq_some_iff.mp hj).1
    simp at h1 h2
    omega, fun _ _ _ => trivial⟩
  have hFc : ∀ q, va_A [(b, (.inr (K, fs) : va_E))] H.size q → A q := by
    rintro q (⟨k, e2, h⟩ | h)
    · have hk0 : k = 0 := by
        have := (List.getElem?_eq_some_iff.mp h).1
        simp at this
        exact this
      subst hk0
      simp at h
      rw [← h.1]
      exact hD.2 _ _ at2
    · exact hA q (Nat.le_trans hS.1 h)
  refine va_callv (va_runIN (As := []) (rest := restf b) ⟨hx, hb, hml, hown, hts⟩ (hM b H.size) ⟨va_cnB 0 hts (gdW h5) rfl hR.1 hR.2.1 (hE.2 _ h1) (hts _ h4) hd ⟨hR.2.2.1, hR.2.2.2⟩, hyn, hts _ h2⟩ ⟨PreN.blind, fun U hU hW => ⟨rfl, ⟨by rw [hU], by rw [hU]; exact hPc, hE.warm hW, hDc⟩, va_AO.moved hW.alike hO⟩⟩ rfl rfl hsize rfl (lv_room hW) hdg hcs) hS (fun q _ h => hFc q h) hFc (fun u t H1 locs1 ht hvm hw hB hz1 hk1 hS => ?_)
  obtain ⟨hP1, hD1⟩ := hB
  rw [ht] at hP1
  obtain ⟨hP2, hD2⟩ := x_last hP hD hk1 hFc hP1 hD1
  have kk1 := kk u H1 locs1 hP2 hD2 hS
  rw [hw] at kk1
  exact kk1
theorem x_ctS (hx : p.tables.exec = Jvm.exec) (hb : c.code = cc) (hml : c.maxLocals = nL) (hown : s.vm.findClass own = some m.cls) (hts : ∀ w ∈ wsL_law, w.before args s = true) (hE : EnvO G cI cZ cO s) (hO : va_AO "DawnCoin$Standing" s) (hM : CtN l y cy mL rm G cI cZ cO K fs wf mc ms)
    (h1 : Cond.methodLink own idx y ∈ wsL_law) (h2 : Cond.instanceMethod y ∈ wsL_law) (h4 : Cond.initialized y.cls ∈ wsL_law) (h5 : Cond.code y cy mL none ∈ wsL_law) (hyn : y.name = "<init>")
    (hd : y.cls ≠ "java/lang/invoke/MethodHandle" ∧ y.cls ≠ "java/lang/invoke/VarHandle" ∧ (parseMethodDescriptor y.desc).map (fun d => d.parameters.length) = some 0) (hR : rm.cells = mc ∧ rm.slots = ms ∧ rm.frames + 1 ≤ R.frames ∧ 8 + (mL + 11) + rm.locals ≤ R.locals)
    (hP : va_P G vwCl (wr ++ [(b, .inr (K, fs))]) H) (hD : va_D A (wr ++ [(b, .inr (K, fs))])) (hS : va_S A s.heap H locs) (hA : ∀ q : Nat, s.heap.size ≤ q → A q) (restf : Nat → List Value) (hst : st0 = .ref b :: restf b) (hsize : ls.size = nL) (hW : ((restf b).map fun v => v.category).sum ≤ 8) (hcs : cells + mc ≤ R.cells ∧ slots + ms ≤ R.slots) (hdg : decode cc pc = .ok (.invokespecial idx, 3))
    (kk : ∀ (q : Nat → Nat) (H1 : Heap) (locs1 : List Loc), va_P G vwCl (wr ++ wf q) H1 → va_D A (wr ++ wf q) → va_S A s.heap H1 locs1 → W p l e R s m args below meth c H1 locs1 (cells + mc) (slots + ms) Q (F0 m (pc + 3) ls (restf (q 0)))) : W p l e R s m args below meth c H locs cells slots Q (F0 m pc ls st0) := by
  subst hst
  have at2 : (wr ++ [(b, .inr (K, fs))])[wr.length]? = some (b, (.inr (K, fs) : va_E)) := by simp
  have hPc : va_P G vwCl [(b, .inr (K, fs))] H := fun k q h => by
    have hk0 : k = 0 := by
      have := (List.getElem?_eq_some_iff.mp h).1
      simp at this
      exact this
    subst hk0
    simp at h
    rw [← h]
    exact hP _ _ at2
  have hDc : va_D (fun _ => True) [(b, (.inr (K, fs) : va_E))] := ⟨fun i j x z hi hj _ => by
    have h1 := (List.getElem?_eq_some_iff.mp hi).1
    have h2 := (List.getElem?_eq_some_iff.mp hj).1
    simp at h1 h2
    omega, fun _ _ _ => trivial⟩
  have hFc : ∀ q, va_A [(b, (.inr (K, fs) : va_E))] H.size q → A q := by
    rintro q (⟨k, e2, h⟩ | h)
    · have hk0 : k = 0 := by
        have := (List.getElem?_eq_some_iff.mp h).1
        simp at this
        exact this
      subst hk0
      simp at h
      rw [← h.1]
      exact hD.2 _ _ at2
    · exact hA q (Nat.le_trans hS.1 h)
  refine va_callv (va_runI (As := []) (rest := restf b) ⟨hx, hb, hml, hown, hts⟩ (hM b H.size) (cwI 0 hts (gdW h5) rfl hR.1 hR.2.1 (hts _ h4) (hts _ h1) (hts _ h2) hyn hd ⟨hR.2.2.1, hR.2.2.2⟩) ⟨PreN.blind, fun U hU hW => ⟨rfl, ⟨by rw [hU], by rw [hU]; exact hPc, hE.warm hW, hDc⟩, va_AO.moved hW.alike hO⟩⟩ rfl rfl hsize rfl (lv_room hW) hdg hcs) hS (fun q _ h => hFc q h) hFc (fun u t H1 locs1 ht hvm hw hB hz1 hk1 hS => ?_)
  obtain ⟨hP1, hD1⟩ := hB
  rw [ht] at hP1
  obtain ⟨hP2, hD2⟩ := x_last hP hD hk1 hFc hP1 hD1
  have kk1 := kk u H1 locs1 hP2 hD2 hS
  rw [hw] at kk1
  exact kk1
end XN
/-- an array of references, told by its places -/
theorem q_congr {G : va_G} {ws : va_W} {H : Heap} {k a n : Nat} {cA : ClassId} {f g : Nat → Option Nat} (hP : va_P G vwCl ws H) (hk : ws[k]? = some (a, .inl (cA, n, .inr (.inr (.inr (.inr f)))))) (h : ∀ j, j < n → f j = g j) : va_P G vwCl (ws.set k (a, .inl (cA, n, .inr (.inr (.inr (.inr g)))))) H := by
  have hc : vp_cell cA (n, .inr (.inr (.inr (.inr f)))) = vp_cell cA (n, .inr (.inr (.inr (.inr g)))) := by
    rw [vp_cell_q, vp_cell_q]
    unfold arrV
    congr 1
    apply Array.ext
    · simp
    · intro i h1 h2
      simp at h1 ⊢
      rw [h i h1]
  intro i q hq
  by_cases hi : i = k
  · subst hi
    have hl : i < ws.length := (List.getElem?_eq_some_iff.mp hk).1
    rw [List.getElem?_set_self hl] at hq
    cases hq
    have := hP i _ hk
    show H[a]? = some (vp_cell _ _)
    rw [← hc]
    exact this
  · rw [List.getElem?_set_ne (Ne.symm hi)] at hq
    exact hP i q hq
