set_option maxRecDepth 100000 in
theorem kt_own : ∀ a ∈ Bundle.ownAtoms "GroupDesk" 82 kt_N kt_U, a ∈ lw_tbl ∨ a ∈ flatC (Jvm.Cond.and given_1 narrow_1) := by decide +kernel
theorem kt_At.of {s : State} {A : Array Value} (h : ∀ a ∈ Bundle.ownAtoms "GroupDesk" 82 kt_N kt_U, a.before A s = true) : kt_At s := by
  intro a ha
  have h0 := h a ha
  by_cases hT : a.onTables = true
  · exact va_any hT h0
  · simp only [Bundle.ownAtoms, Bundle.throwableAtoms, Bundle.throwableSAtoms, Bundle.chainSAtoms, Bundle.passSAtoms, kt_U, List.cons_append, List.nil_append, List.append_assoc, List.mem_cons, List.not_mem_nil, or_false] at ha
    rcases ha with rfl | rfl | rfl | rfl | rfl | rfl | rfl | rfl | rfl | rfl | rfl | rfl | rfl | rfl | rfl | rfl | rfl | rfl | rfl | rfl | rfl | rfl | rfl | rfl | rfl | rfl | rfl | rfl | rfl | rfl | rfl | rfl | rfl | rfl | rfl | rfl | rfl | rfl | rfl | rfl | rfl | rfl | rfl | rfl | rfl | rfl | rfl | rfl | rfl | rfl | rfl | rfl | rfl | rfl | rfl | rfl | rfl
    all_goals first | exact absurd rfl hT | exact kt_lays rfl (fun _ _ h => h) h0 | exact kt_isRef rfl (fun _ _ h => h) h0
theorem kt_Tin : ∀ q ∈ kt_T, Cond.stringRef "GroupDesk" q.1 q.2 ∈ lw_tbl := by
  intro q hq
  simp only [kt_T, List.mem_cons, List.not_mem_nil, or_false] at hq
  rcases hq with rfl | rfl | rfl | rfl | rfl | rfl | rfl | rfl
  · exact kb_167
  · exact kb_198
  · exact kb_260
  · exact kb_261
  · exact kb_292
  · exact kb_309
  · exact kb_317
  · exact kb_319
theorem kt_Z.of {s : State} {A : Array Value} (h : ∀ w ∈ lw_tbl, w.before A s = true) (hg : (Jvm.Cond.and given_1 narrow_1).before A s = true) : kt_Z s :=
  ⟨kt_At.of (fun a ha => (kt_own a ha).elim (h a) (flat_of_before _ hg a)), fun q hq => h _ (kt_Tin q hq)⟩
/-! the classes and the arrays' classes -/
theorem ka_prim {s : State} {A : Array Value} {ty : FieldType} (hty : ∀ C, ty ≠ .object C) (h : (Cond.arrayClass ty).before A s = true) : ∃ cA : ClassId, ArrOfT s cA ty ∧ va_RA s cA ty := by
  obtain ⟨cA, kA, comp, h1, h2, h3⟩ := Cond.arrayClass_spec h
  refine ⟨cA, fun n z => ⟨fun k h => (by cases h), kA, h2, comp, h3⟩, ?_⟩
  cases ty with
  | object C => exact absurd rfl (hty C)
  | _ => exact h1
theorem ka_ref {s : State} {C : String} (h : va_AO C s) : ∃ cA : ClassId, ArrOfT s cA (.object C) ∧ va_RA s cA (.object C) := by
  obtain ⟨comp, cA, kA, h1, h2, h3, h4, h5⟩ := Cond.arrayOver_spec h
  exact ⟨cA, fun n z => ⟨fun k h => (by cases h), kA, h3, comp, h4⟩, kA, comp, h3, h4, h1, h5⟩
def ka_4 {α : Type} (a b c d : α) : Nat → α
  | 0 => a
  | 1 => b
  | 2 => c
  | _ => d
theorem ka_all {s : State} {A : Array Value} (hw : ∀ w ∈ kb_B, w.before A s = true) (hAO : va_AO "GroupDesk$Group" s) : ∃ (dC : Nat → ClassId) (dI : Nat → Nat → Nat) (cI cJ cR cZ : ClassId), va_K (dC, dI) vwCl (kty cI cJ cR) s ∧ va_K (dC, dI) vwCl (mty cI cJ cZ) s := by
  obtain ⟨c0, i0, k0⟩ := u_known hw i_D (hw _ kb_13)
  obtain ⟨c1, i1, k1⟩ := u_known hw i_N (hw _ kb_27)
  obtain ⟨c2, i2, k2⟩ := u_known hw i_G (hw _ kb_43)
  obtain ⟨c3, i3, k3⟩ := u_known hw i_M (hw _ kb_330)
  obtain ⟨cI, hI⟩ := ka_prim (ty := .int) (fun C h => by cases h) (hw _ kb_80)
  obtain ⟨cJ, hJ⟩ := ka_prim (ty := .long) (fun C h => by cases h) (hw _ kb_81)
  obtain ⟨cZ, hZ⟩ := ka_prim (ty := .boolean) (fun C h => by cases h) (hw _ kb_373)
  obtain ⟨cR, hR⟩ := ka_ref hAO
  have h1 : ∀ (c : Nat) (q : vw_C), vwCl[c]? = some q → u_Kn s q.1 q.2.1 q.2.2 (ka_4 c0 c1 c2 c3 c) (ka_4 i0 i1 i2 i3 c) := by
    intro c q hq
    match c, hq with
    | 0, hq => cases hq; exact k0
    | 1, hq => cases hq; exact k1
    | 2, hq => cases hq; exact k2
    | 3, hq => cases hq; exact k3
    | n + 4, hq => cases hq
  refine ⟨ka_4 c0 c1 c2 c3, ka_4 i0 i1 i2 i3, cI, cJ, cR, cZ, ⟨h1, fun k q hk => ?_⟩, ⟨h1, fun k q hk => ?_⟩⟩
  · match k, hk with
    | 0, hk => cases hk; exact hI
    | 1, hk => cases hk; exact hJ
    | 2, hk => cases hk; exact hR
    | n + 3, hk => cases hk
  · match k, hk with
    | 0, hk => cases hk; exact hI
    | 1, hk => cases hk; exact hJ
    | 2, hk => cases hk; exact hZ
    | n + 3, hk => cases hk
set_option maxHeartbeats 4000000 in
set_option maxRecDepth 100000 in
theorem c_L_cell (l : Launch) (b L : Nat) (xs : Nat → Int32) (hL : L < 2 ^ 31) : Met l y_L_cell w_L_cell ({ frames := 0, cells := 0, slots := 0, locals := 0 }) (fun v U => v = [Value.ref b, Value.int 0].toArray ∧ va_X b L xs U U.heap) (vp_Si (fun r => r = if L = 0 then 0 else xs 0)) 0 0 (fun _ => False) := by
  refine Met.ofW (cc := b_L_cell) (maxL := 2) (ret := (some .int)) (by decide) rfl ?_
  intro p e s m args below meth c s₁ B hml hv
  obtain ⟨rfl, hX⟩ := hv
  have hx := B.exec
  have hb := B.bytes
  have hr := B.returns
  have hts := atoms_spec (ws := w_L_cell) B.pre
  have hw := fun (w : Cond) (h : w ∈ kb_B) => hts w (List.mem_cons_of_mem _ h)
  have hown : s.vm.findClass R_L = some m.cls := findClass_of_methodNamed B.named
  have hlocks := B.notSynchronized
  have hl := lv_entry ([.ref b, .int 0]) (n := 2) (Nat.le_of_ble_eq_true rfl)
  rw [lg_entry_eq]
  generalize (lg_sl ([.ref b, .int 0]) ++ List.replicate (2 - (lg_sl ([.ref b, .int 0])).length) Slot.unset).toArray = ls at hl ⊢
  have hl : lv_has ls 2 [(0, .ref b), (1, .int 0)] := hl
  have hbl : b < s.heap.size := by
    obtain ⟨scr, h1, -⟩ := hX
    exact (Array.getElem?_eq_some_iff.mp h1).1
  have hS : va_S (fun _ => False) s.heap s.heap [] := va_S.rf
  refine lv_iload_n hx hb d_L_cell_0 rfl (lv_at hl 1 rfl) ?_
  refine lv_aload_n hx hb d_L_cell_1 rfl (lv_at hl 0 rfl) ?_
  refine va_slen hx hb hX hbl (fun h => h) hS d_L_cell_2 ?_
  refine lv_icmp_ge (tgt := 12) hx hb d_L_cell_3 (by decide) (fun c_1 => ?_) (fun c_1 => ?_)
  · refine lv_iconst (v := 0) hx hb d_L_cell_12 (by decide) ?_
    exact W.iret (v := 0) hx hb hr (fun t ht hW => ⟨_, rfl, (if_pos (Nat.le_zero.mp (Nat.le_of_not_lt (fun z => nI_ge (a := 0) (b := L) z hL c_1)))).symm, ht⟩) (fun q h => by cases h) d_L_cell_13
  · refine lv_aload_n hx hb d_L_cell_6 rfl (lv_at hl 0 rfl) ?_
    refine lv_iload_n hx hb d_L_cell_7 rfl (lv_at hl 1 rfl) ?_
    have hL0 : 0 < L := Nat.pos_of_ne_zero (fun z => c_1 (by subst z; decide))
    refine va_sld hx hb hX hbl (fun h => h) hS (vp_in_nI (n := 0) hL0 hL) d_L_cell_8 ?_
    refine lv_goto (tgt := 13) hx hb d_L_cell_9 (by decide) ?_
    exact W.iret (v := xs 0) hx hb hr (fun t ht hW => ⟨_, rfl, (if_neg (Nat.pos_iff_ne_zero.mp hL0)).symm, ht⟩) (fun q h => by cases h) d_L_cell_13
