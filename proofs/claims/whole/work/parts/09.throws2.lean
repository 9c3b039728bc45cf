/-! what a throw reads of the tables and of the heap: carried from state to state -/
def kt_N : String := "java/lang/IllegalArgumentException"
def kt_U : List String := ["java/lang/RuntimeException", "java/lang/Exception"]
/-- old cells are kept -/
def kt_H (s U : State) : Prop := ∀ (q : Nat) (cell : Cell), s.heap[q]? = some cell → U.heap[q]? = some cell
theorem kt_lays {C n d : String} {A A' : Array Value} {s U : State} (hv : s.vm = U.vm) (hh : kt_H s U) (h : (Cond.laysStatic C n d).before A s = true) : (Cond.laysStatic C n d).before A' U = true := by
  have hf : ∀ a b c, U.fieldFound? a b c = s.fieldFound? a b c := fun a b c => by simp only [State.fieldFound?, hv]
  simp only [Cond.before, Cond.holds, Cond.value, hf, ← hv] at h ⊢
  cases h1 : s.vm.findClass C with
  | none => simp [h1] at h
  | some c =>
    cases h2 : s.fieldFound? C n d with
    | none => simp [h1, h2] at h
    | some x =>
      obtain ⟨c', k, i, f⟩ := x
      cases h3 : k.statics with
      | none => simp [h1, h2, h3] at h
      | some a =>
        cases h4 : s.heap[a]? with
        | none => simp [h1, h2, h3, h4] at h
        | some cell => simpa [h1, h2, h3, h4, hh a cell h4] using h
theorem kt_isRef {C n d : String} {A A' : Array Value} {s U : State} (hv : s.vm = U.vm) (hh : kt_H s U) (h : (Cond.isRef (.static C n d)).before A s = true) : (Cond.isRef (.static C n d)).before A' U = true := by
  have hf : ∀ a b c z, U.fieldNamed? a b c z = s.fieldNamed? a b c z := fun a b c z => by simp only [State.fieldNamed?, State.fieldFound?, hv]
  have he : ∀ v, (Term.static C n d).eval A s none [] s = some v → (Term.static C n d).eval A' U none [] U = some v := by
    intro v hv2
    simp only [Term.eval, hf] at hv2 ⊢
    cases h1 : s.fieldNamed? C n d true with
    | none => simp [h1] at hv2
    | some x =>
      obtain ⟨c', k, i⟩ := x
      cases h3 : k.statics with
      | none => simp [h1, h3] at hv2
      | some a =>
        cases h4 : s.heap[a]? with
        | none => simp [h1, h3, h4] at hv2
        | some cell => simpa [h1, h3, h4, hh a cell h4] using hv2
  simp only [Cond.before, Cond.holds, Cond.value] at h ⊢
  cases h1 : (Term.static C n d).eval A s none [] s with
  | none => simp [h1] at h
  | some v => rw [he v h1]; rw [h1] at h; exact h
/-- a throw's own words, at the class's one entry for the exception's constructor -/
def kt_At (U : State) : Prop := ∀ a ∈ Bundle.ownAtoms "GroupDesk" 82 kt_N kt_U, a.before #[] U = true
theorem kt_At.use {s : State} {A : Array Value} (h : kt_At s) : ∀ a ∈ Bundle.ownAtoms "GroupDesk" 82 kt_N kt_U, a.before A s = true := by
  intro a ha
  have h0 := h a ha
  by_cases hT : a.onTables = true
  · exact va_any hT h0
  · simp only [Bundle.ownAtoms, Bundle.throwableAtoms, Bundle.throwableSAtoms, Bundle.chainSAtoms, Bundle.passSAtoms, kt_U, List.cons_append, List.nil_append, List.append_assoc, List.mem_cons, List.not_mem_nil, or_false] at ha
    rcases ha with rfl | rfl | rfl | rfl | rfl | rfl | rfl | rfl | rfl | rfl | rfl | rfl | rfl | rfl | rfl | rfl | rfl | rfl | rfl | rfl | rfl | rfl | rfl | rfl | rfl | rfl | rfl | rfl | rfl | rfl | rfl | rfl | rfl | rfl | rfl | rfl | rfl | rfl | rfl | rfl | rfl | rfl | rfl | rfl | rfl | rfl | rfl | rfl | rfl | rfl | rfl | rfl | rfl | rfl | rfl | rfl | rfl
    all_goals first | exact absurd rfl hT | exact kt_lays rfl (fun _ _ h => h) h0 | exact kt_isRef rfl (fun _ _ h => h) h0
theorem kt_At.to {s U : State} (h : kt_At s) (hW : s.WarmedH U.vm) (hh : kt_H s U) : kt_At U := by
  intro a ha
  have h0 : a.before #[] (s.setVm U.vm) = true := Cond.before_shiftedFace (State.Shifted.of_warmed hW) a (Bundle.ownAtoms_keepsFace a ha) (h a ha)
  have hv : (s.setVm U.vm).vm = U.vm := rfl
  have hh' : kt_H (s.setVm U.vm) U := hh
  by_cases hT : a.onTables = true
  · exact va_tabs hT hv h0
  · simp only [Bundle.ownAtoms, Bundle.throwableAtoms, Bundle.throwableSAtoms, Bundle.chainSAtoms, Bundle.passSAtoms, kt_U, List.cons_append, List.nil_append, List.append_assoc, List.mem_cons, List.not_mem_nil, or_false] at ha
    rcases ha with rfl | rfl | rfl | rfl | rfl | rfl | rfl | rfl | rfl | rfl | rfl | rfl | rfl | rfl | rfl | rfl | rfl | rfl | rfl | rfl | rfl | rfl | rfl | rfl | rfl | rfl | rfl | rfl | rfl | rfl | rfl | rfl | rfl | rfl | rfl | rfl | rfl | rfl | rfl | rfl | rfl | rfl | rfl | rfl | rfl | rfl | rfl | rfl | rfl | rfl | rfl | rfl | rfl | rfl | rfl | rfl | rfl
    all_goals first | exact absurd rfl hT | exact kt_lays hv hh' h0 | exact kt_isRef hv hh' h0
/-- the texts -/
def kt_T : List (Nat × String) := [(141, "there is no such group"), (143, "there is no such member"), (145, "there is no such log"), (80, "the offset is below 0"), (107, "what is not 0 .. 4"), (114, "n is not 0 .. 100000"), (127, "n is not 1 .. 200"), (130, "TIME would be above 1000000")]
def kt_St (U : State) : Prop := ∀ q ∈ kt_T, (Cond.stringRef "GroupDesk" q.1 q.2).before #[] U = true
theorem kt_St.to {s U : State} (h : kt_St s) (hW : s.WarmedH U.vm) : kt_St U := by
  intro q hq
  have h0 := Cond.stringRef_warmed hW (h q hq)
  exact h0
theorem kt_St.use {s : State} {cur : ClassId} (h : kt_St s) (hcur : s.vm.findClass "GroupDesk" = some cur) {k : Nat} {tx : String} (hq : (k, tx) ∈ kt_T) : ∃ q, vk_R "GroupDesk" k tx q s := by
  have h1 := h _ hq
  obtain ⟨k', cf, i, a, -, -, -, -, -, hev⟩ := Cond.stringRef_spec (args := #[]) (first := s) (o := none) (idx := []) hcur h1
  exact ⟨a, vk_R.of h1 hev⟩
def kt_Z (U : State) : Prop := kt_At U ∧ kt_St U
theorem kt_Z.to {s U : State} (h : kt_Z s) (hW : s.WarmedH U.vm) (hh : kt_H s U) : kt_Z U := ⟨h.1.to hW hh, h.2.to hW⟩
def kPreT (D : va_G) (cl : List vw_C) (tys : List (ClassId × FieldType)) (As : List Value) (sz : Nat) (ws : va_W) : Array Value → State → Prop := fun v U => kPre D cl tys As sz ws v U ∧ kt_Z U
theorem kPreT_blind {D : va_G} {cl : List vw_C} {tys : List (ClassId × FieldType)} {As : List Value} {sz : Nat} {ws : va_W} : FrameBlind (kPreT D cl tys As sz ws) := fun a U g mk q => ⟨kPre_blind a U g mk q.1, q.2.to (U := U.calling g mk a) (State.WarmedH.refl U) (fun _ _ h => h)⟩
theorem kPVT {s : State} {D : va_G} {cl : List vw_C} {tys : List (ClassId × FieldType)} {As : List Value} {ws : va_W} {b : Nat} {C : String} {H : Heap} (hr : ∃ cell : Cell, H[b]? = some cell ∧ cell.vm.isStatics = false ∧ s.vm.findClass C = some cell.cls) (hP : va_P D cl ws H) (hK : va_K D cl tys s) (hZ : kt_Z s) (hh : ∀ (q : Nat) (cell : Cell), s.heap[q]? = some cell → H[q]? = some cell) : PreV s H C b (kPreT D cl tys (.ref b :: As) H.size ws) As :=
  ⟨kPreT_blind, hr, fun U hU hW => ⟨⟨rfl, by rw [hU], by rw [hU]; exact hP, va_K.moved hW.alike hK⟩, hZ.to hW (fun q cell h => by rw [hU]; exact hh q cell h)⟩⟩
