/-! an exception of a callee is caught: the method's one handler names a class that may not be resolved yet -/
section KXA
theorem kx_find {e : Env} {s : State} {f : JFrame} {a : Addr} {meth : Method} {code : Code} {x : ExceptionTableEntry} {c : ClassId} {cell : Cell} (hm : s.vm.method? f.method = some meth) (hc : meth.code = some code) (hx1 : code.exceptionTable.toList = [x])
    (hx : covers x f.pc = true) (h0 : x.catchType ≠ 0) (hl : s.vm.ClassLinks e.platform f.method.cls x.catchType c) (hcell : s.heap[a]? = some cell) (hobj : ∀ k, cell.vm ≠ .statics k)
    (hk : ∃ k, s.vm.classes[cell.cls]? = some k) (hcl : ∃ k, s.vm.classes[c]? = some k) (hfit : s.vm.assignable cell.cls c = true) (Q : Handler → Pre) (E : CtlPost) (d : Bool) (acts : List Action) :
    wp (findHandler f a) Q E e d acts s ↔ Q (.found x.handlerPc) d acts (s.setVm (s.vm.noted f.method.cls x.catchType (.cls c))) := by
  rw [W.findHandler_eq hm hc, hx1]
  simp only [covers] at hx
  obtain ⟨ha, ht⟩ := (resolveClass_links e.toSetting hl).op (op := VmOp.resolveClass f.method.cls x.catchType) rfl
  have hal : s.vm.Alike (s.vm.noted f.method.cls x.catchType (.cls c)) := (Vm.Alike.refl s.vm).noted _ _ _
  obtain ⟨k1, hk1⟩ := hk
  obtain ⟨k2, hk2⟩ := hcl
  obtain ⟨k1', hk1', -⟩ := hal.2.2 _ _ hk1
  obtain ⟨k2', hk2', -⟩ := hal.2.2 _ _ hk2
  have hfit' : (s.vm.noted f.method.cls x.catchType (.cls c)).assignable cell.cls c = true := by rw [hal.assignable]; exact hfit
  simp [findHandler.go, hx, h0, ha, ht, hcell, hobj, hk1', hk2', hfit', VmOp.dirties, VmOp.acts]
theorem kx_self (vm : Vm) (c : ClassId) : vm.assignable c c = true := by
  show vm.assignableAux (255 + 1) c c = true
  rw [Vm.assignableAux]
  simp
theorem kx_steps {tb : Tables} {e : Env} {s target : State} {g : JFrame} {c : Code} {below : List Frame} {a : Addr} (h : At s g.method c below) {pc : Nat} {vm' : Vm}
    (hfind : ∀ (Q : Handler → Pre) (E : CtlPost) (d : Bool) (acts : List Action), wp (findHandler g a) Q E e d acts ((s.setTop g).pushFrame (.throwing a)) ↔ Q (.found pc) d acts (((s.setTop g).pushFrame (.throwing a)).setVm vm'))
    (hrest : Steps tb e below ((s.setVm vm').setTop { g with pc := pc, stack := [.ref a] }) target) : Steps tb e below ((s.setTop g).pushFrame (.throwing a)) target := by
  obtain ⟨hgo, hw⟩ := h.throwing a
  refine Steps.head hgo hw ?_
  have hst : ∀ r : List Frame, (stepThrowing e ((s.setTop g).pushFrame (.throwing a)) a (.java g :: r)).Is ((((s.setTop g).pushFrame (.throwing a)).setVm vm').setFrames (.java { g with pc := pc, stack := [.ref a] } :: r)) [] := by
    intro r
    simp only [stepThrowing, searchFrame, vmDo]
    generalize hr : Sem.go _ e false [] ((s.setTop g).pushFrame (.throwing a)) = res
    obtain ⟨as, rfl, ha⟩ := Sem.eq_ok_of hr (a := Handler.found pc) (s' := ((s.setTop g).pushFrame (.throwing a)).setVm vm') (acts' := []) (by simp [hfind _ _ _ _])
    exact ⟨rfl, ha⟩
  rw [stepThread_throwing (frames_entered h.top _), (hst _).1]
  obtain ⟨g₀, hg⟩ := Option.isSome_iff_exists.mp h.top
  obtain ⟨r, hr⟩ := State.topJava?_eq_some.mp hg
  have hr' : (s.setVm vm').frames = .java g₀ :: r := hr
  have two : ∀ (u : State) (F G : List Frame), ((u.setFrames F).setVm vm').setFrames G = (u.setVm vm').setFrames G := by
    intro u F G
    have h1 : (u.setFrames F).setVm vm' = (u.setVm vm').setFrames F := rfl
    rw [h1, State.setFrames_setFrames]
  rw [State.setTop_of_frames _ hr'] at hrest
  rw [hr, List.tail_cons, State.pushFrame, two, State.setTop_of_frames _ hr, two]
  exact hrest
end KXA
section KXB
variable {p : Program} {l : Launch} {e : Env} {R : Room} {s : State} {m : MethodId} {args : Array Value} {below : List Frame} {meth : Method} {c : Code} {H : Heap} {locs : List Loc} {cells slots : Nat} {Q : State → Prop}
theorem kx_at {T : State} {g : JFrame} {a : Addr} {own name : String} {x : ExceptionTableEntry} {cT : ClassId} {cell : Cell} (X : Stand p l e R s m args below meth c T locs cells slots) (hg : g.method = m) (hown : s.vm.findClass own = some m.cls)
    (hx1 : c.exceptionTable.toList = [x]) (hx : covers x g.pc = true) (h0 : x.catchType ≠ 0) (hlink : (Cond.classLink own x.catchType name).before args s = true) (hcT : s.vm.findClass name = some cT) (hcell : T.heap[a]? = some cell) (hobj : cell.vm.isStatics = false) (hcl : cell.cls = cT) :
    ∃ vm', Stand p l e R s m args below meth c (T.setVm vm') locs cells slots ∧
      ∀ target, Steps p.tables e below ((T.setVm vm').setTop { g with pc := x.handlerPc, stack := [.ref a] }) target → Steps p.tables e below ((T.setTop g).pushFrame (.throwing a)) target := by
  have hpl : e.platform.magicAccessors = ({} : Platform).magicAccessors := by rw [X.admits.platform]
  obtain ⟨c', hc', hlk⟩ := Cond.classLink_spec hown hlink e.platform hpl
  cases hcT.symm.trans hc'
  obtain ⟨dk, _, _, kt, hd, _, _, _, _, hkt, _, hopen⟩ := hlk.here
  have hcl₀ := X.warmed.classLinks hlk
  have hW' : s.WarmedH (T.vm.noted m.cls x.catchType (.cls cT)) := X.warmed.noted hd hopen (State.rightAt_cls hlk)
  have hal := X.warmed.alike
  obtain ⟨kt', hkt', -⟩ := hal.2.2 _ _ hkt
  have hfit' : T.vm.assignable cell.cls cT = true := by rw [hcl]; exact kx_self _ _
  refine ⟨_, X.noted hW', fun target hrest => ?_⟩
  subst hg
  exact kx_steps X.here (kx_find (s := (T.setTop g).pushFrame (.throwing a)) (meth := meth) (code := c) X.method' X.code hx1 hx h0 (c := cT) (cell := cell) hcl₀ hcell (VmData.ne_statics_of hobj)
    (Vm.classAt_of_assignable hfit' ⟨kt', hkt'⟩) ⟨kt', hkt'⟩ hfit') hrest
variable {D : va_G} {cl : List vw_C} {A : Nat → Prop} {L : List Nat} {pc mc ms : Nat} {ls : Array Slot} {st0 rest : List Value} {a : Array Value}
theorem kx_thrown {xN own : String} {x : ExceptionTableEntry} {T T' st₀ t : State} {L2 : List Loc} {q : Addr} (hT : T.heap = s.heap) (h0' : st₀.heap = s.heap) (hw0 : s.WarmedH st₀.vm) (X' : Stand p l e R s m args below meth c T' ([] ++ L2) (cells + mc) (slots + ms)) (hL2 : ∀ z ∈ L2, kA L s.heap.size z.base) (e1 : T'.heap = t.heap) (hX : kt_X xN st₀ q t)
    (hst : Steps p.tables e below (T.setTop (F0 m pc ls st0)) ((T'.setTop (F0 m pc ls rest)).pushFrame (.throwing q)))
    (hA : ∀ z, s.heap.size ≤ z → A z) (hL : ∀ z ∈ L, A z) (hown : s.vm.findClass own = some m.cls) (hx1 : c.exceptionTable.toList = [x]) (hx : covers x pc = true) (h0 : x.catchType ≠ 0) (hlink : (Cond.classLink own x.catchType xN).before args s = true)
    (kx : ∀ (q : Addr) (H1 : Heap) (locs1 : List Loc), s.heap.size ≤ H1.size → (∀ z : Nat, z < s.heap.size → H1[z]? = s.heap[z]?) → va_S A s.heap H1 locs1 → W p l e R s m args below meth c H1 locs1 (cells + mc) (slots + ms) Q (F0 m x.handlerPc ls [.ref q])) :
    ∃ t2, Steps p.tables e below (T.setTop (F0 m pc ls st0)) t2 ∧ Q t2 := by
  obtain ⟨g1, g2, ce, g3, g4, g5⟩ := hX
  have hcl : s.vm.findClass xN = some ce.cls := by rw [← hw0.alike.findClass]; exact g5
  obtain ⟨vm', X2, st⟩ := kx_at (g := F0 m pc ls rest) (a := q) X' rfl hown hx1 hx h0 hlink hcl (cell := ce) (by rw [e1]; exact g3) (by rw [g4]; rfl) rfl
  have hz : s.heap.size ≤ T'.heap.size := by rw [e1, ← h0']; exact g1
  have hk : ∀ z : Nat, z < s.heap.size → T'.heap[z]? = s.heap[z]? := fun z hz => by rw [e1, g2 z (by rw [h0']; exact hz), h0']
  obtain ⟨t2, a1, b1⟩ := kx q T'.heap ([] ++ L2) hz hk ⟨hz, fun z h1 _ => hk z h1, fun z h => (hL2 z (by simpa using h)).elim (hL z.base) (hA z.base)⟩ (T'.setVm vm') rfl X2
  exact ⟨t2, hst.trans (st _ a1), b1⟩
theorem kx_calli {σ : Type} {post : Int32 → σ → Prop} {Wd : σ → va_W} {xN own : String} {thr : Prop} {x : ExceptionTableEntry}
    (hr : kt_Run p l e R s m args below meth c s.heap [] cells slots mc ms (F0 m pc ls st0) rest (kt_Or xN (va_Qi post (fun u t => va_P D cl (Wd u) t.heap) (kA L s.heap.size)) thr a) (kA L s.heap.size))
    (hA : ∀ q, s.heap.size ≤ q → A q) (hL : ∀ q ∈ L, A q) (hown : s.vm.findClass own = some m.cls) (hx1 : c.exceptionTable.toList = [x]) (hx : covers x pc = true) (h0 : x.catchType ≠ 0) (hlink : (Cond.classLink own x.catchType xN).before args s = true)
    (kx : ∀ (q : Addr) (H1 : Heap) (locs1 : List Loc), thr → s.heap.size ≤ H1.size → (∀ z : Nat, z < s.heap.size → H1[z]? = s.heap[z]?) → va_S A s.heap H1 locs1 → W p l e R s m args below meth c H1 locs1 (cells + mc) (slots + ms) Q (F0 m x.handlerPc ls [.ref q]))
    (kk : ∀ (r : Int32) (u : σ) (H1 : Heap) (locs1 : List Loc), post r u → va_P D cl (Wd u) H1 → s.heap.size ≤ H1.size → (∀ q : Nat, q < s.heap.size → q ∉ L → H1[q]? = s.heap[q]?) → va_S A s.heap H1 locs1 → W p l e R s m args below meth c H1 locs1 (cells + mc) (slots + ms) Q (F0 m (pc + 3) ls (.int r :: rest))) : W p l e R s m args below meth c s.heap [] cells slots Q (F0 m pc ls st0) := by
  intro T hT X
  obtain ⟨o, st₀, t, T', L2, h0', hw0, X', hL2, e1, e2, hq, hret, hthr⟩ := hr T hT X
  rcases hq with ⟨⟨r, u, rfl, hp, hB⟩, hz, hk⟩ | ⟨q, rfl, ht, hX⟩
  · rw [h0'] at hz hk
    obtain ⟨t2, a1, b1⟩ := kk r u T'.heap ([] ++ L2) hp (by rw [e1]; exact hB) (by rw [e1]; exact hz) (fun q h1 h2 => by rw [e1]; exact hk q h1 (fun h => h.elim h2 (fun z => absurd h1 (Nat.not_lt.mpr z))))
      ⟨by rw [e1]; exact hz, fun q h1 h2 => by rw [e1]; exact hk q h1 (fun h => h2 (h.elim (hL q) (hA q))), fun z h => (hL2 z (by simpa using h)).elim (hL z.base) (hA z.base)⟩ T' rfl X'
    exact ⟨t2, hret _ rfl t2 a1, b1⟩
  · exact kx_thrown hT h0' hw0 X' hL2 e1 hX (hthr q rfl) hA hL hown hx1 hx h0 hlink (fun q H1 locs1 => kx q H1 locs1 ht)
theorem kx_calll {σ : Type} {post : Int64 → σ → Prop} {Wd : σ → va_W} {xN own : String} {thr : Prop} {x : ExceptionTableEntry}
    (hr : kt_Run p l e R s m args below meth c s.heap [] cells slots mc ms (F0 m pc ls st0) rest (kt_Or xN (va_Ql post (fun u t => va_P D cl (Wd u) t.heap) (kA L s.heap.size)) thr a) (kA L s.heap.size))
    (hA : ∀ q, s.heap.size ≤ q → A q) (hL : ∀ q ∈ L, A q) (hown : s.vm.findClass own = some m.cls) (hx1 : c.exceptionTable.toList = [x]) (hx : covers x pc = true) (h0 : x.catchType ≠ 0) (hlink : (Cond.classLink own x.catchType xN).before args s = true)
    (kx : ∀ (q : Addr) (H1 : Heap) (locs1 : List Loc), thr → s.heap.size ≤ H1.size → (∀ z : Nat, z < s.heap.size → H1[z]? = s.heap[z]?) → va_S A s.heap H1 locs1 → W p l e R s m args below meth c H1 locs1 (cells + mc) (slots + ms) Q (F0 m x.handlerPc ls [.ref q]))
    (kk : ∀ (r : Int64) (u : σ) (H1 : Heap) (locs1 : List Loc), post r u → va_P D cl (Wd u) H1 → s.heap.size ≤ H1.size → (∀ q : Nat, q < s.heap.size → q ∉ L → H1[q]? = s.heap[q]?) → va_S A s.heap H1 locs1 → W p l e R s m args below meth c H1 locs1 (cells + mc) (slots + ms) Q (F0 m (pc + 3) ls (.long r :: rest))) : W p l e R s m args below meth c s.heap [] cells slots Q (F0 m pc ls st0) := by
  intro T hT X
  obtain ⟨o, st₀, t, T', L2, h0', hw0, X', hL2, e1, e2, hq, hret, hthr⟩ := hr T hT X
  rcases hq with ⟨⟨r, u, rfl, hp, hB⟩, hz, hk⟩ | ⟨q, rfl, ht, hX⟩
  · rw [h0'] at hz hk
    obtain ⟨t2, a1, b1⟩ := kk r u T'.heap ([] ++ L2) hp (by rw [e1]; exact hB) (by rw [e1]; exact hz) (fun q h1 h2 => by rw [e1]; exact hk q h1 (fun h => h.elim h2 (fun z => absurd h1 (Nat.not_lt.mpr z))))
      ⟨by rw [e1]; exact hz, fun q h1 h2 => by rw [e1]; exact hk q h1 (fun h => h2 (h.elim (hL q) (hA q))), fun z h => (hL2 z (by simpa using h)).elim (hL z.base) (hA z.base)⟩ T' rfl X'
    exact ⟨t2, hret _ rfl t2 a1, b1⟩
  · exact kx_thrown hT h0' hw0 X' hL2 e1 hX (hthr q rfl) hA hL hown hx1 hx h0 hlink (fun q H1 locs1 => kx q H1 locs1 ht)
/-- a method with one handler: its table -/
theorem kx_table {y : MethodName} {bytes : ByteArray} {maxL : Nat} {ret : Option FieldType} {b0 b1 b2 b3 : Nat} (hn : s.methodNamed? y = some m) (hm : s.vm.method? m = some meth) (hc : meth.code = some c) (h : (Cond.codeWith y bytes maxL ret [(b0, b1, b2, b3)]).before args s = true) : ∃ x : ExceptionTableEntry, c.exceptionTable.toList = [x] ∧ x.startPc = b0 ∧ x.endPc = b1 ∧ x.handlerPc = b2 ∧ x.catchType = b3 := by
  obtain ⟨m9, meth9, c9, h1, h2, h3, -, -, h6, -⟩ := Cond.codeWith_spec h
  cases hn.symm.trans h1
  cases hm.symm.trans h2
  cases hc.symm.trans h3
  cases hL : c.exceptionTable.toList with
  | nil => rw [hL] at h6; cases h6
  | cons x xs =>
    rw [hL] at h6
    cases xs with
    | cons z zs => simp at h6
    | nil =>
      simp only [List.map_cons, List.map_nil, List.cons.injEq, Prod.mk.injEq, and_true] at h6
      exact ⟨x, rfl, h6.1, h6.2.1, h6.2.2.1, h6.2.2.2⟩
end KXB
