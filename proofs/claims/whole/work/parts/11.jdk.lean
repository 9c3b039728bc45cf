set_option maxHeartbeats 4000000 in
set_option maxRecDepth 100000 in
theorem c_J_bitCount (l : Launch) (x : Int32) : Met l y_JI_bitCount w_JI_bitCount ({ frames := 0, cells := 0, slots := 0, locals := 0 }) (fun v _ => v = [Value.int x].toArray) (vp_Si (fun r => r = k_bc x)) 0 0 (fun _ => False) := by
  refine Met.ofW (cc := b_JI_bitCount) (maxL := 1) (ret := (some .int)) (by decide) rfl ?_
  intro p e s m args below meth c s₁ B hml hv
  obtain rfl := hv
  have hx := B.exec
  have hb := B.bytes
  have hr := B.returns
  have hts := atoms_spec (ws := w_JI_bitCount) B.pre
  have hw := fun (w : Cond) (h : w ∈ kb_B) => hts w (List.mem_cons_of_mem _ h)
  have hown : s.vm.findClass R_JI = some m.cls := findClass_of_methodNamed B.named
  have hlocks := B.notSynchronized
  have hl := lv_entry ([.int x]) (n := 1) (Nat.le_of_ble_eq_true rfl)
  rw [lg_entry_eq]
  generalize (lg_sl ([.int x]) ++ List.replicate (1 - (lg_sl ([.int x])).length) Slot.unset).toArray = ls at hl ⊢
  have hl : lv_has ls 1 [(0, .int x)] := hl
  refine lv_iload_n hx hb d_JI_bitCount_0 rfl (lv_at hl 0 rfl) ?_
  refine lv_iload_n hx hb d_JI_bitCount_1 rfl (lv_at hl 0 rfl) ?_
  refine lv_iconst (v := 1) hx hb d_JI_bitCount_2 (by decide) ?_
  refine lv_iushr hx hb d_JI_bitCount_3 rfl ?_
  refine lv_ldcw (v := 1431655765) hx hb hown (hw _ kb_102) d_JI_bitCount_4 ?_
  refine lv_iand hx hb d_JI_bitCount_7 ?_
  refine lv_isub hx hb d_JI_bitCount_8 ?_
  refine lv_istore_n (lv' := [(0, .int (k_bc1 x))]) hx hb d_JI_bitCount_9 rfl hl (by decide) rfl (fun ls hl => ?_)
  refine lv_iload_n hx hb d_JI_bitCount_10 rfl (lv_at hl 0 rfl) ?_
  refine lv_ldcw (v := 858993459) hx hb hown (hw _ kb_103) d_JI_bitCount_11 ?_
  refine lv_iand hx hb d_JI_bitCount_14 ?_
  refine lv_iload_n hx hb d_JI_bitCount_15 rfl (lv_at hl 0 rfl) ?_
  refine lv_iconst (v := 2) hx hb d_JI_bitCount_16 (by decide) ?_
  refine lv_iushr hx hb d_JI_bitCount_17 rfl ?_
  refine lv_ldcw (v := 858993459) hx hb hown (hw _ kb_103) d_JI_bitCount_18 ?_
  refine lv_iand hx hb d_JI_bitCount_21 ?_
  refine lv_iadd hx hb d_JI_bitCount_22 ?_
  refine lv_istore_n (lv' := [(0, .int (k_bc2 (k_bc1 x)))]) hx hb d_JI_bitCount_23 rfl hl (by decide) rfl (fun ls hl => ?_)
  refine lv_iload_n hx hb d_JI_bitCount_24 rfl (lv_at hl 0 rfl) ?_
  refine lv_iload_n hx hb d_JI_bitCount_25 rfl (lv_at hl 0 rfl) ?_
  refine lv_iconst (v := 4) hx hb d_JI_bitCount_26 (by decide) ?_
  refine lv_iushr hx hb d_JI_bitCount_27 rfl ?_
  refine lv_iadd hx hb d_JI_bitCount_28 ?_
  refine lv_ldcw (v := 252645135) hx hb hown (hw _ kb_104) d_JI_bitCount_29 ?_
  refine lv_iand hx hb d_JI_bitCount_32 ?_
  refine lv_istore_n (lv' := [(0, .int (k_bc3 (k_bc2 (k_bc1 x))))]) hx hb d_JI_bitCount_33 rfl hl (by decide) rfl (fun ls hl => ?_)
  refine lv_iload_n hx hb d_JI_bitCount_34 rfl (lv_at hl 0 rfl) ?_
  refine lv_iload_n hx hb d_JI_bitCount_35 rfl (lv_at hl 0 rfl) ?_
  refine lv_bipush (v := 8) hx hb d_JI_bitCount_36 (by decide) ?_
  refine lv_iushr hx hb d_JI_bitCount_38 rfl ?_
  refine lv_iadd hx hb d_JI_bitCount_39 ?_
  refine lv_istore_n (lv' := [(0, .int (k_bc4 (k_bc3 (k_bc2 (k_bc1 x)))))]) hx hb d_JI_bitCount_40 rfl hl (by decide) rfl (fun ls hl => ?_)
  refine lv_iload_n hx hb d_JI_bitCount_41 rfl (lv_at hl 0 rfl) ?_
  refine lv_iload_n hx hb d_JI_bitCount_42 rfl (lv_at hl 0 rfl) ?_
  refine lv_bipush (v := 16) hx hb d_JI_bitCount_43 (by decide) ?_
  refine lv_iushr hx hb d_JI_bitCount_45 rfl ?_
  refine lv_iadd hx hb d_JI_bitCount_46 ?_
  refine lv_istore_n (lv' := [(0, .int (k_bc5 (k_bc4 (k_bc3 (k_bc2 (k_bc1 x))))))]) hx hb d_JI_bitCount_47 rfl hl (by decide) rfl (fun ls hl => ?_)
  refine lv_iload_n hx hb d_JI_bitCount_48 rfl (lv_at hl 0 rfl) ?_
  refine lv_bipush (v := 63) hx hb d_JI_bitCount_49 (by decide) ?_
  refine lv_iand hx hb d_JI_bitCount_51 ?_
  exact W.iret hx hb hr (fun t ht hW => ⟨_, rfl, rfl, ht⟩) (fun q h => by cases h) d_JI_bitCount_52
set_option maxHeartbeats 4000000 in
set_option maxRecDepth 100000 in
theorem lp_J_fillI {p : Program} {l : Launch} {e : Env} {s : State} {m : MethodId} {args : Array Value} {below : List Frame} {meth : Method} {c : Code} {Q : State → Prop} {D : va_G} {tys : List (ClassId × FieldType)} {t0 : Nat} {cA : ClassId} {x n : Nat} {v : Int32} {A : Nat → Prop} (hx : p.tables.exec = Jvm.exec) (hb : c.code = b_JA_fillI) (hK : va_K D vwCl tys s) (ht : tys[t0]? = some (cA, .int)) (hn : n < 2 ^ 31) (hAL : ∀ q ∈ [x], A q)
    (kk : ∀ (H : Heap) (locs : List Loc) (ls : Array Slot), va_P D vwCl [(x, .inl (cA, n, .inl (fun _ => v)))] H → va_S A s.heap H locs → W p l e (headSpec w_JA_fillI ({ frames := 0, cells := 0, slots := 0, locals := 0 })).room s m args below meth c H locs 0 0 Q (F0 m 20 ls [])) :
    ∀ (k i : Nat) (f : Nat → Int32) (H : Heap) (locs : List Loc) (ls : Array Slot), i + k = n → (∀ q, q < i → f q = v) → va_P D vwCl [(x, .inl (cA, n, .inl f))] H → va_S A s.heap H locs → lv_has ls 4 [(3, .int (nI n)), (2, .int (nI i)), (0, .ref x), (1, .int v)] → W p l e (headSpec w_JA_fillI ({ frames := 0, cells := 0, slots := 0, locals := 0 })).room s m args below meth c H locs 0 0 Q (F0 m 5 ls []) := by
  intro k
  induction k with
  | zero =>
    intro i f H locs ls hi hf hP hS hl
    refine lv_iload_n hx hb d_JA_fillI_5 rfl (lv_at hl 1 rfl) ?_
    refine lv_iload_n hx hb d_JA_fillI_6 rfl (lv_at hl 0 rfl) ?_
    refine lv_icmp_ge (tgt := 20) hx hb d_JA_fillI_7 (by decide) (fun c_1 => ?_) (fun c_1 => ?_)
    · exact kk H locs ls (ka_Pi hP (fun q hq => hf q (by omega))) hS
    · exact absurd (nI_le (by omega) (by omega)) c_1
  | succ k ih =>
    intro i f H locs ls hi hf hP hS hl
    refine lv_iload_n hx hb d_JA_fillI_5 rfl (lv_at hl 1 rfl) ?_
    refine lv_iload_n hx hb d_JA_fillI_6 rfl (lv_at hl 0 rfl) ?_
    refine lv_icmp_ge (tgt := 20) hx hb d_JA_fillI_7 (by decide) (fun c_1 => ?_) (fun c_1 => ?_)
    · exact absurd c_1 (nI_ge (by omega) (by omega))
    · refine lv_aload_n hx hb d_JA_fillI_10 rfl (lv_at hl 2 rfl) ?_
      refine lv_iload_n hx hb d_JA_fillI_11 rfl (lv_at hl 1 rfl) ?_
      refine lv_iload_n hx hb d_JA_fillI_12 rfl (lv_at hl 3 rfl) ?_
      refine va_iast hx hb hK hP (kl_D (by simp) (fun q h => hAL q h)) hS 0 t0 rfl ht (vp_in_nI (by omega) hn) d_JA_fillI_13 (fun H locs hP _ hS => ?_)
      rw [nI_clamp (by omega)] at hP
      refine lv_iinc (v := (nI i) + 1) (lv' := [(2, .int ((nI i) + 1)), (3, .int (nI n)), (0, .ref x), (1, .int v)]) hx hb d_JA_fillI_14 hl (k := 1) rfl rfl (by decide) rfl (fun ls hl => ?_)
      refine lv_goto (tgt := 5) hx hb d_JA_fillI_17 (by decide) ?_
      refine ih (i + 1) (upd f i v) H locs ls (by omega) (fun q hq => ?_) hP hS ?_
      · by_cases hqi : q = i
        · rw [hqi]; exact pk_us
        · rw [pk_un hqi]; exact hf q (by omega)
      · rw [nI_succ]; exact lv_sub hl [1, 0, 2, 3] rfl
set_option maxHeartbeats 4000000 in
set_option maxRecDepth 100000 in
theorem c_J_fillI (l : Launch) {D : va_G} (tys : List (ClassId × FieldType)) (t0 : Nat) {cA : ClassId} (ht : tys[t0]? = some (cA, .int)) (x n : Nat) (f : Nat → Int32) (v : Int32) (hn : n < 2 ^ 31) (sz : Nat) : Met l y_JA_fillI w_JA_fillI ({ frames := 0, cells := 0, slots := 0, locals := 0 }) (kPre D vwCl tys [.ref x, .int v] sz [(x, .inl (cA, n, .inl f))]) (va_Qv (fun _ : Unit => True) (fun _ t => va_P D vwCl [(x, .inl (cA, n, .inl (fun _ => v)))] t.heap) (kA [x] sz)) 0 0 (kA [x] sz) := by
  refine Met.ofW (cc := b_JA_fillI) (maxL := 4) (ret := none) (by decide) rfl ?_
  intro p e s m args below meth c s₁ B hml hv
  obtain ⟨rfl, hsz, hP, hK⟩ := hv
  have hx := B.exec
  have hb := B.bytes
  have hr := B.returns
  have hts := atoms_spec (ws := w_JA_fillI) B.pre
  have hw := fun (w : Cond) (h : w ∈ kb_B) => hts w (List.mem_cons_of_mem _ h)
  have hown : s.vm.findClass R_JA = some m.cls := findClass_of_methodNamed B.named
  have hlocks := B.notSynchronized
  subst hsz
  generalize hAe : kA [x] s.heap.size = A
  have hAL : ∀ q ∈ [x], A q := fun q h => by rw [← hAe]; exact Or.inl h
  have hS : va_S A s.heap s.heap [] := va_S.rf
  have hl := lv_entry ([.ref x, .int v]) (n := 4) (Nat.le_of_ble_eq_true rfl)
  rw [lg_entry_eq]
  generalize (lg_sl ([.ref x, .int v]) ++ List.replicate (4 - (lg_sl ([.ref x, .int v])).length) Slot.unset).toArray = ls at hl ⊢
  have hl : lv_has ls 4 [(0, .ref x), (1, .int v)] := hl
  refine lv_iconst (v := 0) hx hb d_JA_fillI_0 (by decide) ?_
  refine lv_istore_n (lv' := [(2, .int 0), (0, .ref x), (1, .int v)]) hx hb d_JA_fillI_1 rfl hl (by decide) rfl (fun ls hl => ?_)
  refine lv_aload_n hx hb d_JA_fillI_2 rfl (lv_at hl 1 rfl) ?_
  refine va_alen (v := nI n) hx hb hK hP 0 t0 rfl ht rfl d_JA_fillI_3 ?_
  refine lv_istore_n (lv' := [(3, .int (nI n)), (2, .int 0), (0, .ref x), (1, .int v)]) hx hb d_JA_fillI_4 rfl hl (by decide) rfl (fun ls hl => ?_)
  refine lp_J_fillI hx hb hK ht hn hAL (fun H locs ls hP hS => ?_) n 0 f _ _ ls (Nat.zero_add n) (fun q h => absurd h (Nat.not_lt_zero q)) hP hS (lv_sub hl [0, 1, 2, 3] rfl)
  exact W.vret hx hb hr (fun t ht hW => ⟨⟨(), rfl, trivial, by show va_P _ _ _ t.heap; rw [ht]; exact hP⟩, hS.F ht⟩) hS.2.2 d_JA_fillI_20
set_option maxHeartbeats 4000000 in
set_option maxRecDepth 100000 in
theorem lp_J_fillL {p : Program} {l : Launch} {e : Env} {s : State} {m : MethodId} {args : Array Value} {below : List Frame} {meth : Method} {c : Code} {Q : State → Prop} {D : va_G} {tys : List (ClassId × FieldType)} {t0 : Nat} {cA : ClassId} {x n : Nat} {v : Int64} {A : Nat → Prop} (hx : p.tables.exec = Jvm.exec) (hb : c.code = b_JA_fillL) (hK : va_K D vwCl tys s) (ht : tys[t0]? = some (cA, .long)) (hn : n < 2 ^ 31) (hAL : ∀ q ∈ [x], A q)
    (kk : ∀ (H : Heap) (locs : List Loc) (ls : Array Slot), va_P D vwCl [(x, .inl (cA, n, .inr (.inl (fun _ => v))))] H → va_S A s.heap H locs → W p l e (headSpec w_JA_fillL ({ frames := 0, cells := 0, slots := 0, locals := 0 })).room s m args below meth c H locs 0 0 Q (F0 m 22 ls [])) :
    ∀ (k i : Nat) (f : Nat → Int64) (H : Heap) (locs : List Loc) (ls : Array Slot), i + k = n → (∀ q, q < i → f q = v) → va_P D vwCl [(x, .inl (cA, n, .inr (.inl f)))] H → va_S A s.heap H locs → lv_has ls 5 [(4, .int (nI n)), (3, .int (nI i)), (0, .ref x), (1, .long v)] → W p l e (headSpec w_JA_fillL ({ frames := 0, cells := 0, slots := 0, locals := 0 })).room s m args below meth c H locs 0 0 Q (F0 m 6 ls []) := by
  intro k
  induction k with
  | zero =>
    intro i f H locs ls hi hf hP hS hl
    refine lv_iload_n hx hb d_JA_fillL_6 rfl (lv_at hl 1 rfl) ?_
    refine lv_iload hx hb d_JA_fillL_7 (lv_at hl 0 rfl) ?_
    refine lv_icmp_ge (tgt := 22) hx hb d_JA_fillL_9 (by decide) (fun c_1 => ?_) (fun c_1 => ?_)
    · exact kk H locs ls (ka_Pl hP (fun q hq => hf q (by omega))) hS
    · exact absurd (nI_le (by omega) (by omega)) c_1
  | succ k ih =>
    intro i f H locs ls hi hf hP hS hl
    refine lv_iload_n hx hb d_JA_fillL_6 rfl (lv_at hl 1 rfl) ?_
    refine lv_iload hx hb d_JA_fillL_7 (lv_at hl 0 rfl) ?_
    refine lv_icmp_ge (tgt := 22) hx hb d_JA_fillL_9 (by decide) (fun c_1 => ?_) (fun c_1 => ?_)
    · exact absurd c_1 (nI_ge (by omega) (by omega))
    · refine lv_aload_n hx hb d_JA_fillL_12 rfl (lv_at hl 2 rfl) ?_
      refine lv_iload_n hx hb d_JA_fillL_13 rfl (lv_at hl 1 rfl) ?_
      refine lv_lload_n hx hb d_JA_fillL_14 rfl (lv_at hl 3 rfl) ?_
      refine va_last hx hb hK hP (kl_D (by simp) (fun q h => hAL q h)) hS 0 t0 rfl ht (vp_in_nI (by omega) hn) d_JA_fillL_15 (fun H locs hP _ hS => ?_)
      rw [nI_clamp (by omega)] at hP
      refine lv_iinc (v := (nI i) + 1) (lv' := [(3, .int ((nI i) + 1)), (4, .int (nI n)), (0, .ref x), (1, .long v)]) hx hb d_JA_fillL_16 hl (k := 1) rfl rfl (by decide) rfl (fun ls hl => ?_)
      refine lv_goto (tgt := 6) hx hb d_JA_fillL_19 (by decide) ?_
      refine ih (i + 1) (vp_updL f i v) H locs ls (by omega) (fun q hq => ?_) hP hS ?_
      · by_cases hqi : q = i
        · rw [hqi]; exact pk_uLs
        · rw [pk_uLn hqi]; exact hf q (by omega)
      · rw [nI_succ]; exact lv_sub hl [1, 0, 2, 3] rfl
set_option maxHeartbeats 4000000 in
set_option maxRecDepth 100000 in
theorem c_J_fillL (l : Launch) {D : va_G} (tys : List (ClassId × FieldType)) (t0 : Nat) {cA : ClassId} (ht : tys[t0]? = some (cA, .long)) (x n : Nat) (f : Nat → Int64) (v : Int64) (hn : n < 2 ^ 31) (sz : Nat) : Met l y_JA_fillL w_JA_fillL ({ frames := 0, cells := 0, slots := 0, locals := 0 }) (kPre D vwCl tys [.ref x, .long v] sz [(x, .inl (cA, n, .inr (.inl f)))]) (va_Qv (fun _ : Unit => True) (fun _ t => va_P D vwCl [(x, .inl (cA, n, .inr (.inl (fun _ => v))))] t.heap) (kA [x] sz)) 0 0 (kA [x] sz) := by
  refine Met.ofW (cc := b_JA_fillL) (maxL := 5) (ret := none) (by decide) rfl ?_
  intro p e s m args below meth c s₁ B hml hv
  obtain ⟨rfl, hsz, hP, hK⟩ := hv
  have hx := B.exec
  have hb := B.bytes
  have hr := B.returns
  have hts := atoms_spec (ws := w_JA_fillL) B.pre
  have hw := fun (w : Cond) (h : w ∈ kb_B) => hts w (List.mem_cons_of_mem _ h)
  have hown : s.vm.findClass R_JA = some m.cls := findClass_of_methodNamed B.named
  have hlocks := B.notSynchronized
  subst hsz
  generalize hAe : kA [x] s.heap.size = A
  have hAL : ∀ q ∈ [x], A q := fun q h => by rw [← hAe]; exact Or.inl h
  have hS : va_S A s.heap s.heap [] := va_S.rf
  have hl := lv_entry ([.ref x, .long v]) (n := 5) (Nat.le_of_ble_eq_true rfl)
  rw [lg_entry_eq]
  generalize (lg_sl ([.ref x, .long v]) ++ List.replicate (5 - (lg_sl ([.ref x, .long v])).length) Slot.unset).toArray = ls at hl ⊢
  have hl : lv_has ls 5 [(0, .ref x), (1, .long v)] := hl
  refine lv_iconst (v := 0) hx hb d_JA_fillL_0 (by decide) ?_
  refine lv_istore_n (lv' := [(3, .int 0), (0, .ref x), (1, .long v)]) hx hb d_JA_fillL_1 rfl hl (by decide) rfl (fun ls hl => ?_)
  refine lv_aload_n hx hb d_JA_fillL_2 rfl (lv_at hl 1 rfl) ?_
  refine va_alen (v := nI n) hx hb hK hP 0 t0 rfl ht rfl d_JA_fillL_3 ?_
  refine lv_istore (lv' := [(4, .int (nI n)), (3, .int 0), (0, .ref x), (1, .long v)]) hx hb d_JA_fillL_4 hl (by decide) rfl (fun ls hl => ?_)
  refine lp_J_fillL hx hb hK ht hn hAL (fun H locs ls hP hS => ?_) n 0 f _ _ ls (Nat.zero_add n) (fun q h => absurd h (Nat.not_lt_zero q)) hP hS (lv_sub hl [0, 1, 2, 3] rfl)
  exact W.vret hx hb hr (fun t ht hW => ⟨⟨(), rfl, trivial, by show va_P _ _ _ t.heap; rw [ht]; exact hP⟩, hS.F ht⟩) hS.2.2 d_JA_fillL_22
