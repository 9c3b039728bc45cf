/-! methods that may throw: their contracts, a throw, a call that may throw, a catch -/
section KTA
variable {p : Program} {l : Launch} {e : Env} {R : Room} {s : State} {m : MethodId} {args : Array Value} {below : List Frame} {meth : Method} {c : Code} {H : Heap} {locs : List Loc} {cells slots : Nat} {Q : State → Prop}
/-- what has moved when a method is over, by an answer or by a throw -/
def kt_E (s t : State) (L : List Loc) (k n : Nat) : Prop := s.WarmedH t.vm ∧ s.sameButNew ({ t with vm := s.vm } : State) L k n
def kt_Q (below : List Frame) (Qc : Array Value → State → Outcome → State → Prop) (a : Array Value) (s : State) (mc ms : Nat) (free : Addr → Prop) : State → Prop := fun t =>
  ∃ o, t.status = .running ∧ Ended t below o ∧ Qc a s o t ∧ ∃ L, kt_E s t L mc ms ∧ ∀ q ∈ L, free q.base
/-- a contract of a method that answers or throws -/
def MetT (l : Launch) (y : MethodName) (ws : List Cond) (rm : Room) (Pc : Array Value → State → Prop) (Qc : Array Value → State → Outcome → State → Prop) (mc ms : Nat) (free : Addr → Prop) : Prop :=
  MetFree l y (headSpec ws rm) Pc (fun _ _ _ _ _ => True) (fun a st o t => Qc a st o t ∧ ∃ L, kt_E st t L mc ms ∧ ∀ q ∈ L, free q.base)
theorem kt_of {Qc : Array Value → State → Outcome → State → Prop} {free : Addr → Prop} {mc ms : Nat} {t : State} (h : MQ below Qc args s mc ms free t) : kt_Q below Qc args s mc ms free t := by
  obtain ⟨o, h1, h2, h3, L, ⟨-, h4, h5⟩, h6⟩ := h
  exact ⟨o, h1, h2, h3, L, ⟨h4, h5⟩, h6⟩
theorem kt_W {Q' : State → Prop} {g : JFrame} (h : ∀ t, Q t → Q' t) (k : W p l e R s m args below meth c H locs cells slots Q g) : W p l e R s m args below meth c H locs cells slots Q' g := by
  intro T hT X
  obtain ⟨t, a, b⟩ := k T hT X
  exact ⟨t, a, h t b⟩
theorem kt_ofW {y : MethodName} {ws ws' : List Cond} {rm : Room} {Pc : Array Value → State → Prop} {Qc : Array Value → State → Outcome → State → Prop} {mc ms : Nat} {free : Addr → Prop} {cc : ByteArray} {maxL : Nat} {ret : Option FieldType}
    (hy : plainName y.cls = true) (hw : ws = Cond.code y cc maxL ret :: ws')
    (body : ∀ p e s m args below meth c s₁, BodyLoose p l y (headSpec ws rm) cc maxL ret e s m args below meth c s₁ → c.maxLocals = maxL → Pc args s →
      W p l e (headSpec ws rm).room s m args below meth c s.heap [] 0 0 (kt_Q below Qc args s mc ms free) (entryFrame m args maxL)) : MetT l y ws rm Pc Qc mc ms free := by
  refine MetFree.of_bodyS (code := cc) (maxLocals := maxL) (ret := ret) hy ?_ ?_
  · intro args s m h hn
    obtain ⟨meth, c, h1, h2, h3, h4, h5, h6, -, -⟩ := Cond.code_spec hn (atoms_spec (ws := ws) h _ (by rw [hw]; exact List.mem_cons_self))
    exact ⟨meth, c, h1, h2, h3, h4, h5, h6⟩
  · intro p e s m args below meth c s₁ B hml hP _
    have hh0 : s₁.heap = s.heap := by rw [B.state]; rfl
    obtain ⟨t, a1, o, b1, b2, b3⟩ := body p e s m args below meth c s₁ B hml hP s₁ hh0 (Stand.of_body B)
    exact ⟨t, o, a1, b1, b2, b3⟩
/-- the call itself, of a method that answers or throws -/
theorem kt_back {ws : List Cond} {rm : Room} {Pc : Array Value → State → Prop} {Qc : Array Value → State → Outcome → State → Prop} {mc ms : Nat} {free : Addr → Prop} {bytes : ByteArray} {maxL : Nat} {ret : Option FieldType} {y : MethodName} {T : State}
    (X : Stand p l e R s m args below meth c T locs cells slots) (hM : MetT l y ws rm Pc Qc mc ms free)
    (hrc : rm.cells = mc) (hrs : rm.slots = ms) (hframes : rm.frames + 1 ≤ R.frames) (hlocals : 8 + (maxL + 11) + rm.locals ≤ R.locals)
    (hws : ∀ w ∈ ws, ∀ (a' : Array Value) (U : State), s.WarmedH U.vm → w.before a' U = true) (hcode : Cond.code y bytes maxL ret ∈ ws) (hini : (Cond.initialized y.cls).before args s = true)
    (hf : cells + mc ≤ R.cells ∧ slots + ms ≤ R.slots)
    {g : JFrame} (hg : g.method = m) (hsize : g.locals.size = c.maxLocals) {ig : Instr} {len : Nat} (hdg : decode c.code g.pc = .ok (ig, len)) (hW : 2 * g.monitorRoom + (g.stack.map fun v => v.category).sum ≤ 8)
    {mk : MethodId} (hn : T.methodNamed? y = some mk) {a : Array Value} (hP : Pc a (T.calling g mk a)) :
    ∃ (o : Outcome) (t T' : State) (L : List Loc), Stand p l e R s m args below meth c T' (locs ++ L) (cells + mc) (slots + ms) ∧ (∀ q ∈ L, free q.base) ∧ T'.heap = t.heap ∧ T'.vm = t.vm ∧ Qc a (T.calling g mk a) o t ∧
      (∀ v, o = .returned v → Steps p.tables e below (doInvoke e (T.setTop g) [] mk a).1 (T'.setTop { g with pc := g.pc + len, stack := v.toList ++ g.stack })) ∧
      (∀ x, o = .threw x → Steps p.tables e below (doInvoke e (T.setTop g) [] mk a).1 ((T'.setTop g).pushFrame (.throwing x))) := by
  have hpre : (headSpec ws rm).pre.before a T = true := atoms_intro fun w hw => hws w hw _ _ X.warmed
  have h2 : (Cond.code y bytes maxL ret).before a T = true := hws _ hcode _ _ X.warmed
  have h3 : (Cond.initialized y.cls).before a T = true := word_at X.warmed (Or.inl (by first | rfl | simp [Cond.onTables, Cond.keeps, Cond.steady])) hini
  obtain ⟨methY, cY, hmY, hcY, -, hlY, -⟩ := Cond.code_spec hn h2
  obtain ⟨kY, hkY, -⟩ := className_of_methodNamed hn
  have hinitY : kY.init = .initialized := Cond.initialized_spec (findClass_of_methodNamed hn) hkY h3
  have h : At T g.method c below := by rw [hg]; exact X.here
  have happ : (headSpec ws rm).appliesLoose y e.platform (T.calling g mk a) = true :=
    Spec.appliesLoose_calling (g := g) h hdg hn hkY hinitY
      (X.room_calling (g := g) (R' := (headSpec ws rm).room) hsize hmY hcY hframes (by rw [hlY]; show _ + (maxL + 11) + rm.locals ≤ _; omega) (by show cells + rm.cells ≤ _; rw [hrc]; exact hf.1) (by show slots + rm.slots ≤ _; rw [hrs]; exact hf.2)) hpre
  have hfr : (T.setTop g).frames = .java g :: below := by rw [State.frames_setTop' g h.top, X.tail]
  obtain ⟨o, t, hsteps, -, hend, hq0⟩ := Steps.callFree hM p X.admits X.cas X.clock (acts := []) (mid := [.java g]) (below := below) (by rw [hfr]; rfl) happ hP trivial
  obtain ⟨hq, L, ⟨hWt, hst⟩, hL⟩ := hq0
  rw [hfr] at hend
  cases o with
  | returned v =>
    obtain ⟨T', X', hW', hs', et⟩ := X.outOf hg hdg hend hWt hst
    refine ⟨.returned v, t, T', L, X', hL, ?_, ?_, hq, fun v' hv => ?_, fun x hx => ?_⟩
    · rw [et]; simp [State.setTop, State.modifyTopJava]
    · rw [et]; simp [State.setTop, State.modifyTopJava]
    · cases hv; rw [← et]; exact hsteps
    · cases hx
  | threw x =>
    obtain ⟨T', X', hW', hs', et⟩ := X.outOfThrown hg hend hWt hst
    refine ⟨.threw x, t, T', L, X', hL, ?_, ?_, hq, fun v' hv => ?_, fun x' hx => ?_⟩
    · rw [et]; exact (Stand.throwing_heap T' g x).symm
    · rw [et]; exact (Stand.throwing_vm T' g x).symm
    · cases hv
    · cases hx; rw [← et]; exact hsteps
/-- what comes back of a call that answers or throws -/
def kt_Run (p : Program) (l : Launch) (e : Env) (R : Room) (s : State) (m : MethodId) (args : Array Value) (below : List Frame) (meth : Method) (c : Code) (H : Heap) (locs : List Loc) (cells slots mc ms : Nat) (g : JFrame) (rest : List Value) (Qa : State → Outcome → State → Prop) (free : Addr → Prop) : Prop :=
  ∀ T : State, T.heap = H → Stand p l e R s m args below meth c T locs cells slots → ∃ (o : Outcome) (st₀ t T' : State) (L : List Loc), st₀.heap = H ∧ s.WarmedH st₀.vm ∧ Stand p l e R s m args below meth c T' (locs ++ L) (cells + mc) (slots + ms) ∧ (∀ q ∈ L, free q.base) ∧ T'.heap = t.heap ∧ T'.vm = t.vm ∧ Qa st₀ o t ∧
    (∀ v, o = .returned v → Goes p e below T g T' { g with pc := g.pc + 3, stack := v.toList ++ rest }) ∧ (∀ x, o = .threw x → Steps p.tables e below (T.setTop g) ((T'.setTop { g with stack := rest }).pushFrame (.throwing x)))
theorem kt_runV {y : MethodName} {bytes cc : ByteArray} {maxL nL mc ms n index : Nat} {ret : Option FieldType} {ws : List Cond} {rm : Room} {Pc : Array Value → State → Prop} {Qc : Array Value → State → Outcome → State → Prop} {free : Addr → Prop} {Ts : List Cond} {own C : String} {b : Addr} {As rest : List Value} {g : JFrame}
    (S : CallFix p m c cc nL s args Ts own) (hM : MetT l y ws rm Pc Qc mc ms free) (cw : CallW R s args own C index y bytes maxL ret ws rm mc ms n) (hp : PreV s H C b Pc As)
    (hg : g.method = m) (hn : As.length = n) (hsize : g.locals.size = nL) (hstack : g.stack = As.reverse ++ .ref b :: rest) (hW : 2 * g.monitorRoom + (rest.map fun v => v.category).sum ≤ 8) (hdg : decode cc g.pc = .ok (.invokevirtual index, 3)) (hf : cells + mc ≤ R.cells ∧ slots + ms ≤ R.slots) :
    kt_Run p l e R s m args below meth c H locs cells slots mc ms g rest (Qc (Value.ref b :: As).toArray) (free) := by
  obtain ⟨⟨hrc, hrs, hfr, hlo, hws, hcw, hcode, hini, hy, hlen, hl⟩, hin, hse⟩ := cw
  obtain ⟨hx, hb, hml, ho, -⟩ := S
  obtain ⟨hbl, ⟨cellB, hcB, hoB, hclB⟩, hPc⟩ := hp
  intro T hT X
  obtain ⟨mk, methM, hnamed, hmethM, hstM, habM⟩ := Cond.instanceMethod_spec hin
  obtain ⟨methM', cM, hmethM', -, -, -, -, -, -, hsigM⟩ := Cond.code_spec hnamed hcode
  cases hmethM.symm.trans hmethM'
  obtain ⟨c2, r2, m2, q1, q2, q3, q4, kP, hkP, hkPi⟩ := Cond.selects_spec hse
  cases hclB.symm.trans q1
  cases (State.methodFound?_of_named hnamed hy).symm.trans q2
  cases hnamed.symm.trans q3
  have hselP : selectMethod e.platform s.vm cellB.cls mk = .method mk := by rw [Launch.admits_selectMethod X.admits]; exact q4
  obtain ⟨vm₁, X₁, hstep₁⟩ := X.invokevirtual hx ho hl hnamed hmethM hstM hkP hkPi hy (a := b) (cell := cellB) (by rw [hT]; exact hcB)
    (fun z h => by rw [h] at hoB; cases hoB) hselP hmethM habM hkP hkPi (g := g) hg (argsL := As) (rest := rest) (hn.trans (hlen _ hsigM)) hstack (by rw [hb]; exact hdg)
  obtain ⟨o, t, T', L, X', hL, e1, e2, hq, hret, hthr⟩ := kt_back X₁ hM hrc hrs hfr hlo hws hcw hini hf (g := { g with stack := rest }) hg (hsize.trans hml.symm) (ig := .invokevirtual index) (len := 3) (by rw [hb]; exact hdg) hW (X₁.named hnamed) (a := (Value.ref b :: As).toArray)
    (hbl _ _ _ _ (hPc (T.setVm vm₁) hT X₁.warmed))
  refine ⟨o, (T.setVm vm₁).calling { g with stack := rest } mk (Value.ref b :: As).toArray, t, T', L, hT, X₁.warmed, X', hL, e1, e2, hq, fun v hv => ?_, fun x hx' => ?_⟩
  · intro target h
    exact hstep₁ _ fun acts => by rw [doInvoke_state]; exact (hret v hv).trans h
  · exact hstep₁ _ fun acts => by rw [doInvoke_state]; exact hthr x hx'
end KTA
/-! the exception: how it stands in the heap, and what a throw leaves as it was -/
def kt_X (xN : String) (st : State) (x : Addr) (t : State) : Prop :=
  st.heap.size ≤ t.heap.size ∧ (∀ q : Nat, q < st.heap.size → t.heap[q]? = st.heap[q]?) ∧ ∃ ce : Cell, t.heap[x]? = some ce ∧ ce.vm = .none ∧ st.vm.findClass xN = some ce.cls
/-- an end by an answer, or by a throw that changes nothing -/
def kt_Or (xN : String) (Qr : Array Value → State → Outcome → State → Prop) (thr : Prop) : Array Value → State → Outcome → State → Prop := fun a st oc t =>
  Qr a st oc t ∨ ∃ x, oc = .threw x ∧ thr ∧ kt_X xN st x t
/-- an answer that changes nothing -/
def kt_R (post : Option Value → Prop) : Array Value → State → Outcome → State → Prop := fun _ st oc t => ∃ v, oc = .returned v ∧ post v ∧ t.heap = st.heap
section KTB
variable {p : Program} {l : Launch} {e : Env} {R : Room} {s : State} {m : MethodId} {args : Array Value} {below : List Frame} {meth : Method} {c : Code} {H : Heap} {locs : List Loc} {cells slots : Nat} {Q : State → Prop}
theorem kt_same {t : State} {k n : Nat} (h : s.sameButNew ({ t with vm := s.vm } : State) [] k n) : s.heap.size ≤ t.heap.size ∧ ∀ q : Nat, q < s.heap.size → t.heap[q]? = s.heap[q]? := by
  obtain ⟨-, h1, -, -, -, h6⟩ := h
  refine ⟨h1, fun q hq => ?_⟩
  have hc : s.heap[q]? = some s.heap[q] := Array.getElem?_eq_getElem hq
  obtain ⟨c', g1, g2, g3, g4⟩ := h6 q _ hc
  have e1 : c'.slots = (s.heap[q]).slots := by
    apply Array.ext_getElem?
    intro i
    exact g4 i (by simp)
  have e2 : c' = s.heap[q] := by rw [g2, e1]
  rw [hc, ← e2]
  exact g1
/-- 'throw new X("text")', where nothing has been written yet -/
theorem kt_throw {cc : ByteArray} {own xN tx : String} {up : List String} {pc ia ib ic q : Nat} {ls : Array Slot} {Qc : Array Value → State → Outcome → State → Prop} {free : Addr → Prop}
    (hx : p.tables.exec = Jvm.exec) (htr : e.platform.stackTraces = false) (hb : c.code = cc) (hml : ls.size = c.maxLocals) (hown : s.vm.findClass own = some m.cls) (hne : c.exceptionTable.isEmpty = true) (hlocks : meth.locks = false)
    (hfit : Bundle.fit xN = true) (hup : ∀ n ∈ up, Bundle.fit n = true) (hat : ∀ w ∈ Bundle.ownAtoms own ic xN up, w.before args s = true)
    (hcl : (Cond.classLink own ia xN).before args s = true) (hins : (Cond.instantiable xN 6).before args s = true) (hini : (Cond.initialized xN).before args s = true) (hZ : vk_R own ib tx q s)
    (hH : s.heap.size ≤ H.size) (d0 : decode cc pc = .ok (.new ia, 3)) (d3 : decode cc (pc + 3) = .ok (.dup, 1)) (d4 : decode cc (pc + 4) = .ok (.ldc ib, 2)) (d6 : decode cc (pc + 6) = .ok (.invokespecial ic, 3)) (d9 : decode cc (pc + 9) = .ok (.athrow, 1))
    (hf : up.length + 3 < R.frames) (hlo : 1 + (13 * (up.length + 1) + 42) ≤ R.locals) (hc : cells + 1 ≤ R.cells) (hs : slots + 6 ≤ R.slots)
    (hq : ∀ (t : State) (x : Addr), s.WarmedH t.vm → kt_X xN s x t → Qc args s (.threw x) t) :
    W p l e R s m args below meth c H [] cells slots (kt_Q below Qc args s (cells + 1) (slots + 6) free) (F0 m pc ls []) := by
  refine W.newc hx hb hown hcl hins hini (g := F0 m pc ls []) rfl d0 hc hs ?_
  intro cC kC h1 h2 h3 h4
  refine lv_dup (pc := pc + 3) (ls := ls) (rest := []) hx hb d3 rfl ?_
  refine va_ldcS (pc := pc + 3 + 1) hx hb hown hZ d4 ?_
  intro T hT X
  have hcell : T.heap[H.size]? = some (freshCell cC kC) := by rw [hT]; simp [freshCell]
  obtain ⟨U, hsteps, hrun, hend, hW, hsame, ce, hce, K⟩ := X.ctorThrowS hx htr (own := own) (cls := xN) (names := up) (ic := ic) hown hfit hup hat (fun y hy => by cases hy) h1 h2 hcell hH (msg := .ref q) rfl
    (g := F0 m (pc + 6) ls [.ref q, .ref H.size, .ref H.size]) rfl hml rfl rfl (rest := []) rfl (by rw [hb]; exact d6) (by rw [hb]; exact d9) (covers_of_empty hne _) hf (by show 2 * 0 + _ + _ ≤ _; simp [Value.category]; omega) hlocks
  obtain ⟨k1, k2⟩ := kt_same hsame
  exact ⟨U, hsteps, .threw H.size, hrun, hend, hq U H.size hW ⟨k1, k2, ce, hce, K.vm, K.cls⟩, [], ⟨hW, hsame⟩, fun q hq => by cases hq⟩
/-- a call of a method that throws or changes nothing; the throw goes on to the caller's caller -/
theorem kt_callP {pc : Nat} {ls : Array Slot} {st0 rest : List Value} {a : Array Value} {mc ms mc' ms' : Nat} {xN : String} {post : Option Value → Prop} {thr : Prop} {Qc : Array Value → State → Outcome → State → Prop} {free : Addr → Prop}
    (hr : kt_Run p l e R s m args below meth c s.heap [] cells slots mc ms (F0 m pc ls st0) rest (kt_Or xN (kt_R post) thr a) (fun _ => False)) (hne : c.exceptionTable.isEmpty = true) (hlocks : meth.locks = false) (hc : cells + mc ≤ mc') (hs : slots + ms ≤ ms')
    (hq : ∀ (t : State) (x : Addr), thr → s.WarmedH t.vm → kt_X xN s x t → Qc args s (.threw x) t)
    (kk : ∀ v, post v → W p l e R s m args below meth c s.heap [] (cells + mc) (slots + ms) (kt_Q below Qc args s mc' ms' free) (F0 m (pc + 3) ls (v.toList ++ rest))) :
    W p l e R s m args below meth c s.heap [] cells slots (kt_Q below Qc args s mc' ms' free) (F0 m pc ls st0) := by
  intro T hT X
  obtain ⟨o, st₀, t, T', L, h0, hw0, X', hL, e1, e2, hqq, hret, hthr⟩ := hr T hT X
  have hL0 : L = [] := by
    cases L with
    | nil => rfl
    | cons z zs => exact (hL z List.mem_cons_self).elim
  subst hL0
  rcases hqq with ⟨v, rfl, hp, hh⟩ | ⟨x, rfl, ht, g1, g2, ce, g3, g4, g5⟩
  · obtain ⟨t2, a1, b1⟩ := kk v hp T' (by rw [e1, hh, h0]) X'
    exact ⟨t2, hret v rfl t2 a1, b1⟩
  · obtain ⟨w1, w2, w3, w4, w5⟩ := X'.leaveThrown x (g := F0 m pc ls rest) rfl rfl rfl (covers_of_empty hne _) hlocks
    refine ⟨_, (hthr x rfl).trans w1, .threw x, w2, w3, hq _ x ht w4 ⟨?_, ?_, ce, ?_, g4, ?_⟩, [], ⟨w4, w5.mono hc hs⟩, fun q hq => by cases hq⟩
    · show s.heap.size ≤ T'.heap.size
      rw [e1, ← h0]
      exact g1
    · intro q hq
      show T'.heap[q]? = _
      rw [e1, g2 q (by rw [h0]; exact hq), h0]
    · show T'.heap[x]? = _
      rw [e1]
      exact g3
    · rw [← hw0.alike.findClass]
      exact g5
end KTB
