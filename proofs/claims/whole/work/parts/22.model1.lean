set_option maxHeartbeats 4000000 in
set_option maxRecDepth 100000 in
theorem c_M_isOne (l : Launch) (x : Int32) : Met l y_M_isOne w_M_isOne ({ frames := 0, cells := 0, slots := 0, locals := 0 }) (fun v _ => v = [Value.int x].toArray) (vp_Si (fun r => (r = 1 ∧ vp_in x 8) ∨ (r = 0 ∧ ¬ vp_in x 8))) 0 0 (fun _ => False) := by
  refine Met.ofW (cc := b_M_isOne) (maxL := 1) (ret := (some .boolean)) (by decide) rfl ?_
  intro p e s m args below meth c s₁ B hml hv
  obtain rfl := hv
  have hx := B.exec
  have hb := B.bytes
  have hr := B.returns
  have hts := atoms_spec (ws := w_M_isOne) B.pre
  have hw := fun (w : Cond) (h : w ∈ kb_B) => hts w (List.mem_cons_of_mem _ h)
  have hown : s.vm.findClass R_M = some m.cls := findClass_of_methodNamed B.named
  have hlocks := B.notSynchronized
  have hl := lv_entry ([.int x]) (n := 1) (Nat.le_of_ble_eq_true rfl)
  rw [lg_entry_eq]
  generalize (lg_sl ([.int x]) ++ List.replicate (1 - (lg_sl ([.int x])).length) Slot.unset).toArray = ls at hl ⊢
  have hl : lv_has ls 1 [(0, .int x)] := hl
  refine lv_iload_n hx hb d_M_isOne_0 rfl (lv_at hl 0 rfl) ?_
  refine lv_if_lt (tgt := 14) hx hb d_M_isOne_1 (by decide) (fun c_1 => ?_) (fun c_1 => ?_)
  · refine lv_iconst (v := 0) hx hb d_M_isOne_14 (by decide) ?_
    exact W.zret (v := 0) hx hb hr (by decide) (fun t ht hW => ⟨_, rfl, Or.inr ⟨rfl, kn_no0 c_1⟩, ht⟩) (fun q h => by cases h) d_M_isOne_15
  · refine lv_iload_n hx hb d_M_isOne_4 rfl (lv_at hl 0 rfl) ?_
    refine lv_bipush (v := 8) hx hb d_M_isOne_5 (by decide) ?_
    refine lv_icmp_ge (tgt := 14) hx hb d_M_isOne_7 (by decide) (fun c_2 => ?_) (fun c_2 => ?_)
    · refine lv_iconst (v := 0) hx hb d_M_isOne_14 (by decide) ?_
      exact W.zret (v := 0) hx hb hr (by decide) (fun t ht hW => ⟨_, rfl, Or.inr ⟨rfl, kn_ge (y := 8) (by decide) (Int32.not_lt.mpr c_2)⟩, ht⟩) (fun q h => by cases h) d_M_isOne_15
    · refine lv_iconst (v := 1) hx hb d_M_isOne_10 (by decide) ?_
      refine lv_goto (tgt := 15) hx hb d_M_isOne_11 (by decide) ?_
      exact W.zret (v := 1) hx hb hr (by decide) (fun t ht hW => ⟨_, rfl, Or.inl ⟨rfl, kn_lt (y := 8) (by decide) c_1 (Int32.not_le.mp c_2)⟩, ht⟩) (fun q h => by cases h) d_M_isOne_15
set_option maxHeartbeats 4000000 in
set_option maxRecDepth 100000 in
theorem c_M_thrown (l : Launch) {dC : Nat → ClassId} {dI : Nat → Nat → Nat} {cI cJ cZ : ClassId} {a : Nat → Nat} (hnd : (mad a).Nodup) (co lg tm rm no : Int32) (M : Nat → mGV) (sz : Nat) : Met l y_M_thrown w_M_thrown ({ frames := 0, cells := 0, slots := 0, locals := 0 }) (kPre (dC, dI) vwCl (mty cI cJ cZ) [.ref (a 0)] sz (mw cI cJ cZ a co lg tm rm no M)) (vp_Si (fun r => r = co)) 0 0 (fun _ => False) := by
  refine Met.ofW (cc := b_M_thrown) (maxL := 1) (ret := (some .int)) (by decide) rfl ?_
  intro p e s m args below meth c s₁ B hml hv
  obtain ⟨rfl, hsz, hP, hK⟩ := hv
  have hx := B.exec
  have hb := B.bytes
  have hr := B.returns
  have hts := atoms_spec (ws := w_M_thrown) B.pre
  have hw := fun (w : Cond) (h : w ∈ kb_B) => hts w (List.mem_cons_of_mem _ h)
  have hown : s.vm.findClass R_M = some m.cls := findClass_of_methodNamed B.named
  have hlocks := B.notSynchronized
  subst hsz
  have hl := lv_entry ([.ref (a 0)]) (n := 1) (Nat.le_of_ble_eq_true rfl)
  rw [lg_entry_eq]
  generalize (lg_sl ([.ref (a 0)]) ++ List.replicate (1 - (lg_sl ([.ref (a 0)])).length) Slot.unset).toArray = ls at hl ⊢
  have hl : lv_has ls 1 [(0, .ref (a 0))] := hl
  refine lv_aload_n hx hb d_M_thrown_0 rfl (lv_at hl 0 rfl) ?_
  refine va_get (D := (dC, dI)) (ci := 3) (v := .int co) (C := R_M) (T := F_M) (N := 12) hx hb hw i_M hown hK hP 0 rfl rfl 0 (by decide) (hw _ kb_336) (fun _ h9 => h9) rfl d_M_thrown_1 ?_
  exact W.iret (v := co) hx hb hr (fun t ht hW => ⟨_, rfl, by first | (simp only []; done) | (simp []; done), ht⟩) (fun q h => by cases h) d_M_thrown_4
set_option maxHeartbeats 4000000 in
set_option maxRecDepth 100000 in
theorem c_M_goes0 (l : Launch) {dC : Nat → ClassId} {dI : Nat → Nat → Nat} {cI cJ cZ : ClassId} {a : Nat → Nat} (hnd : (mad a).Nodup) (co lg tm rm no : Int32) (M : Nat → mGV) (sz : Nat) : Met l y_M_goes w_M_goes ({ frames := 0, cells := 0, slots := 0, locals := 0 }) (kPre (dC, dI) vwCl (mty cI cJ cZ) [.ref (a 0), .int 0] sz (mw cI cJ cZ a co lg tm rm no M)) (va_Qi (fun (r : Int32) (u : mDV) => r = 0 ∧ u = (1, lg, tm, rm, no, M)) (fun u t => va_P (dC, dI) vwCl (mwv cI cJ cZ a u) t.heap) (kA (mad a) sz)) 0 0 (kA (mad a) sz) := by
  refine Met.ofW (cc := b_M_goes) (maxL := 2) (ret := (some .boolean)) (by decide) rfl ?_
  intro p e s m args below meth c s₁ B hml hv
  obtain ⟨rfl, hsz, hP, hK⟩ := hv
  have hx := B.exec
  have hb := B.bytes
  have hr := B.returns
  have hts := atoms_spec (ws := w_M_goes) B.pre
  have hw := fun (w : Cond) (h : w ∈ kb_B) => hts w (List.mem_cons_of_mem _ h)
  have hown : s.vm.findClass R_M = some m.cls := findClass_of_methodNamed B.named
  have hlocks := B.notSynchronized
  subst hsz
  generalize hAe : kA (mad a) s.heap.size = A
  have hA : ∀ q : Nat, s.heap.size ≤ q → A q := fun q h => by rw [← hAe]; exact Or.inr h
  have hAL : ∀ q ∈ (mad a), A q := fun q h => by rw [← hAe]; exact Or.inl h
  have hS : va_S A s.heap s.heap [] := va_S.rf
  have hl := lv_entry ([.ref (a 0), .int 0]) (n := 2) (Nat.le_of_ble_eq_true rfl)
  rw [lg_entry_eq]
  generalize (lg_sl ([.ref (a 0), .int 0]) ++ List.replicate (2 - (lg_sl ([.ref (a 0), .int 0])).length) Slot.unset).toArray = ls at hl ⊢
  have hl : lv_has ls 2 [(0, .ref (a 0)), (1, .int 0)] := hl
  refine lv_aload_n hx hb d_M_goes_0 rfl (lv_at hl 0 rfl) ?_
  refine lv_iload_n hx hb d_M_goes_1 rfl (lv_at hl 1 rfl) ?_
  refine lv_if_eq (tgt := 9) hx hb d_M_goes_2 (by decide) (fun c_1 => ?_) (fun c_1 => (c_1 (by decide)).elim)
  refine lv_iconst (v := 1) hx hb d_M_goes_9 (by decide) ?_
  refine va_put (D := (dC, dI)) (ci := 3) (v := .int 1) (ty := .int) (C := R_M) (T := F_M) (N := 12) hx hb hw i_M t_M t_M_ok n_M hown hK hP (mw_D hnd hAL) hS 0 rfl rfl 0 (by decide) (hw _ kb_336) (fun _ h9 => h9) rfl (by decide +kernel) rfl rfl (Nat.le_of_ble_eq_true rfl) d_M_goes_10 (fun H locs hP _ hS => ?_)
  have hP : va_P (dC, dI) vwCl (mw cI cJ cZ a 1 lg tm rm no M) _ := hP
  refine lv_iload_n hx hb d_M_goes_13 rfl (lv_at hl 1 rfl) ?_
  exact W.zret (v := 0) hx hb hr (by decide) (fun t ht hW => ⟨⟨_, (1, lg, tm, rm, no, M), rfl, ⟨by first | (simp only []; done) | (simp []; done), by first | (simp only []; done) | (simp []; done)⟩, by show va_P _ _ _ t.heap; rw [ht]; exact hP⟩, hS.F ht⟩) hS.2.2 d_M_goes_14
set_option maxHeartbeats 4000000 in
set_option maxRecDepth 100000 in
theorem c_M_goes1 (l : Launch) {dC : Nat → ClassId} {dI : Nat → Nat → Nat} {cI cJ cZ : ClassId} {a : Nat → Nat} (hnd : (mad a).Nodup) (co lg tm rm no : Int32) (M : Nat → mGV) (sz : Nat) : Met l y_M_goes w_M_goes ({ frames := 0, cells := 0, slots := 0, locals := 0 }) (kPre (dC, dI) vwCl (mty cI cJ cZ) [.ref (a 0), .int 1] sz (mw cI cJ cZ a co lg tm rm no M)) (va_Qi (fun (r : Int32) (u : mDV) => r = 1 ∧ u = (0, lg, tm, rm, no, M)) (fun u t => va_P (dC, dI) vwCl (mwv cI cJ cZ a u) t.heap) (kA (mad a) sz)) 0 0 (kA (mad a) sz) := by
  refine Met.ofW (cc := b_M_goes) (maxL := 2) (ret := (some .boolean)) (by decide) rfl ?_
  intro p e s m args below meth c s₁ B hml hv
  obtain ⟨rfl, hsz, hP, hK⟩ := hv
  have hx := B.exec
  have hb := B.bytes
  have hr := B.returns
  have hts := atoms_spec (ws := w_M_goes) B.pre
  have hw := fun (w : Cond) (h : w ∈ kb_B) => hts w (List.mem_cons_of_mem _ h)
  have hown : s.vm.findClass R_M = some m.cls := findClass_of_methodNamed B.named
  have hlocks := B.notSynchronized
  subst hsz
  generalize hAe : kA (mad a) s.heap.size = A
  have hA : ∀ q : Nat, s.heap.size ≤ q → A q := fun q h => by rw [← hAe]; exact Or.inr h
  have hAL : ∀ q ∈ (mad a), A q := fun q h => by rw [← hAe]; exact Or.inl h
  have hS : va_S A s.heap s.heap [] := va_S.rf
  have hl := lv_entry ([.ref (a 0), .int 1]) (n := 2) (Nat.le_of_ble_eq_true rfl)
  rw [lg_entry_eq]
  generalize (lg_sl ([.ref (a 0), .int 1]) ++ List.replicate (2 - (lg_sl ([.ref (a 0), .int 1])).length) Slot.unset).toArray = ls at hl ⊢
  have hl : lv_has ls 2 [(0, .ref (a 0)), (1, .int 1)] := hl
  refine lv_aload_n hx hb d_M_goes_0 rfl (lv_at hl 0 rfl) ?_
  refine lv_iload_n hx hb d_M_goes_1 rfl (lv_at hl 1 rfl) ?_
  refine lv_if_eq (tgt := 9) hx hb d_M_goes_2 (by decide) (fun c_1 => absurd c_1 (by decide)) (fun c_1 => ?_)
  refine lv_iconst (v := 0) hx hb d_M_goes_5 (by decide) ?_
  refine lv_goto (tgt := 10) hx hb d_M_goes_6 (by decide) ?_
  refine va_put (D := (dC, dI)) (ci := 3) (v := .int 0) (ty := .int) (C := R_M) (T := F_M) (N := 12) hx hb hw i_M t_M t_M_ok n_M hown hK hP (mw_D hnd hAL) hS 0 rfl rfl 0 (by decide) (hw _ kb_336) (fun _ h9 => h9) rfl (by decide +kernel) rfl rfl (Nat.le_of_ble_eq_true rfl) d_M_goes_10 (fun H locs hP _ hS => ?_)
  have hP : va_P (dC, dI) vwCl (mw cI cJ cZ a 0 lg tm rm no M) _ := hP
  refine lv_iload_n hx hb d_M_goes_13 rfl (lv_at hl 1 rfl) ?_
  exact W.zret (v := 1) hx hb hr (by decide) (fun t ht hW => ⟨⟨_, (0, lg, tm, rm, no, M), rfl, ⟨by first | (simp only []; done) | (simp []; done), by first | (simp only []; done) | (simp []; done)⟩, by show va_P _ _ _ t.heap; rw [ht]; exact hP⟩, hS.F ht⟩) hS.2.2 d_M_goes_14
set_option maxHeartbeats 4000000 in
set_option maxRecDepth 100000 in
theorem c_M_takesNote (l : Launch) {dC : Nat → ClassId} {dI : Nat → Nat → Nat} {cI cJ cZ : ClassId} {a : Nat → Nat} (hnd : (mad a).Nodup) (co lg tm rm no : Int32) (M : Nat → mGV) (sz : Nat) : Met l y_M_takesNote w_M_takesNote ({ frames := 0, cells := 0, slots := 0, locals := 0 }) (kPre (dC, dI) vwCl (mty cI cJ cZ) [.ref (a 0)] sz (mw cI cJ cZ a co lg tm rm no M)) (va_Qi (fun (r : Int32) (u : mDV) => r = (mn_take rm no).1 ∧ u = (co, lg, tm, (mn_take rm no).2.1, (mn_take rm no).2.2, M)) (fun u t => va_P (dC, dI) vwCl (mwv cI cJ cZ a u) t.heap) (kA (mad a) sz)) 0 0 (kA (mad a) sz) := by
  refine Met.ofW (cc := b_M_takesNote) (maxL := 1) (ret := (some .boolean)) (by decide) rfl ?_
  intro p e s m args below meth c s₁ B hml hv
  obtain ⟨rfl, hsz, hP, hK⟩ := hv
  have hx := B.exec
  have hb := B.bytes
  have hr := B.returns
  have hts := atoms_spec (ws := w_M_takesNote) B.pre
  have hw := fun (w : Cond) (h : w ∈ kb_B) => hts w (List.mem_cons_of_mem _ h)
  have hown : s.vm.findClass R_M = some m.cls := findClass_of_methodNamed B.named
  have hlocks := B.notSynchronized
  subst hsz
  generalize hAe : kA (mad a) s.heap.size = A
  have hA : ∀ q : Nat, s.heap.size ≤ q → A q := fun q h => by rw [← hAe]; exact Or.inr h
  have hAL : ∀ q ∈ (mad a), A q := fun q h => by rw [← hAe]; exact Or.inl h
  have hS : va_S A s.heap s.heap [] := va_S.rf
  have hl := lv_entry ([.ref (a 0)]) (n := 1) (Nat.le_of_ble_eq_true rfl)
  rw [lg_entry_eq]
  generalize (lg_sl ([.ref (a 0)]) ++ List.replicate (1 - (lg_sl ([.ref (a 0)])).length) Slot.unset).toArray = ls at hl ⊢
  have hl : lv_has ls 1 [(0, .ref (a 0))] := hl
  refine lv_aload_n hx hb d_M_takesNote_0 rfl (lv_at hl 0 rfl) ?_
  refine va_get (D := (dC, dI)) (ci := 3) (v := .int rm) (C := R_M) (T := F_M) (N := 12) hx hb hw i_M hown hK hP 0 rfl rfl 3 (by decide) (hw _ kb_339) (fun _ h9 => h9) rfl d_M_takesNote_1 ?_
  refine lv_if_ne (tgt := 9) hx hb d_M_takesNote_4 (by decide) (fun c_1 => ?_) (fun c_1 => ?_)
  · refine lv_aload_n hx hb d_M_takesNote_9 rfl (lv_at hl 0 rfl) ?_
    refine lv_dup hx hb d_M_takesNote_10 rfl ?_
    refine va_get (D := (dC, dI)) (ci := 3) (v := .int rm) (C := R_M) (T := F_M) (N := 12) hx hb hw i_M hown hK hP 0 rfl rfl 3 (by decide) (hw _ kb_339) (fun _ h9 => h9) rfl d_M_takesNote_11 ?_
    refine lv_iconst (v := 1) hx hb d_M_takesNote_14 (by decide) ?_
    refine lv_isub hx hb d_M_takesNote_15 ?_
    refine va_put (D := (dC, dI)) (ci := 3) (v := .int (rm - (1 : Int32))) (ty := .int) (C := R_M) (T := F_M) (N := 12) hx hb hw i_M t_M t_M_ok n_M hown hK hP (mw_D hnd hAL) hS 0 rfl rfl 3 (by decide) (hw _ kb_339) (fun _ h9 => h9) rfl (by decide +kernel) rfl rfl (Nat.le_of_ble_eq_true rfl) d_M_takesNote_16 (fun H locs hP _ hS => ?_)
    have hP : va_P (dC, dI) vwCl (mw cI cJ cZ a co lg tm (rm - (1 : Int32)) no M) _ := hP
    refine lv_aload_n hx hb d_M_takesNote_19 rfl (lv_at hl 0 rfl) ?_
    refine lv_dup hx hb d_M_takesNote_20 rfl ?_
    refine va_get (D := (dC, dI)) (ci := 3) (v := .int no) (C := R_M) (T := F_M) (N := 12) hx hb hw i_M hown hK hP 0 rfl rfl 4 (by decide) (hw _ kb_340) (fun _ h9 => h9) rfl d_M_takesNote_21 ?_
    refine lv_iconst (v := 1) hx hb d_M_takesNote_24 (by decide) ?_
    refine lv_iadd hx hb d_M_takesNote_25 ?_
    refine va_put (D := (dC, dI)) (ci := 3) (v := .int (no + (1 : Int32))) (ty := .int) (C := R_M) (T := F_M) (N := 12) hx hb hw i_M t_M t_M_ok n_M hown hK hP (mw_D hnd hAL) hS 0 rfl rfl 4 (by decide) (hw _ kb_340) (fun _ h9 => h9) rfl (by decide +kernel) rfl rfl (Nat.le_of_ble_eq_true rfl) d_M_takesNote_26 (fun H locs hP _ hS => ?_)
    have hP : va_P (dC, dI) vwCl (mw cI cJ cZ a co lg tm (rm - (1 : Int32)) (no + (1 : Int32)) M) _ := hP
    refine lv_iconst (v := 1) hx hb d_M_takesNote_29 (by decide) ?_
    exact W.zret (v := 1) hx hb hr (by decide) (fun t ht hW => ⟨⟨_, (co, lg, tm, rm - (1 : Int32), no + (1 : Int32), M), rfl, ⟨by first | (simp only [mn_take, if_neg c_1]; done) | (simp [mn_take, c_1]; done), by first | (simp only [mn_take, if_neg c_1]; done) | (simp [mn_take, c_1]; done)⟩, by show va_P _ _ _ t.heap; rw [ht]; exact hP⟩, hS.F ht⟩) hS.2.2 d_M_takesNote_30
  · refine lv_iconst (v := 0) hx hb d_M_takesNote_7 (by decide) ?_
    exact W.zret (v := 0) hx hb hr (by decide) (fun t ht hW => ⟨⟨_, (co, lg, tm, rm, no, M), rfl, ⟨by first | (simp only [mn_take, if_pos c_1]; done) | (simp [mn_take, c_1]; done), by first | (simp only [mn_take, if_pos c_1]; done) | (simp [mn_take, c_1]; done)⟩, by show va_P _ _ _ t.heap; rw [ht]; exact hP⟩, hS.F ht⟩) hS.2.2 d_M_takesNote_8
set_option maxHeartbeats 4000000 in
set_option maxRecDepth 100000 in
theorem lp_M_count {p : Program} {l : Launch} {e : Env} {s : State} {m : MethodId} {args : Array Value} {below : List Frame} {meth : Method} {c : Code} {Q : State → Prop} {dC : Nat → ClassId} {dI : Nat → Nat → Nat} {cI cJ cZ : ClassId} {a : Nat → Nat} (hnd : (mad a).Nodup) {co lg tm rm no : Int32} {M : Nat → mGV} {g : Nat} (hg : g < 8) {x0 x1 x2 : Int32} {x3 x4 x5 : Nat → Int32} {x6 : Nat → Int64} {H : Heap} {locs : List Loc} (hx : p.tables.exec = Jvm.exec) (hb : c.code = b_M_count) (hml : c.maxLocals = 4) (hown : s.vm.findClass R_M = some m.cls) (hw : ∀ w ∈ kb_B, w.before args s = true) (hK : va_K (dC, dI) vwCl (mty cI cJ cZ) s)  (hP : va_P (dC, dI) vwCl (mw cI cJ cZ a co lg tm rm no (va_up M g (x0, x1, x2, x3, x4, x5, x6))) H)
    (kk : ∀ ls : Array Slot, lv_has ls 4 [(3, .int (nI 8)), (2, .int (mg_cnt x3 8)), (0, .ref (a 0)), (1, .int (nI g))] → W p l e (headSpec w_M_count ({ frames := 0, cells := 0, slots := 0, locals := 0 })).room s m args below meth c H locs 0 0 Q (F0 m 38 ls [])) :
    ∀ (k i : Nat) (ls : Array Slot), i + k = 8 → lv_has ls 4 [(3, .int (nI i)), (2, .int (mg_cnt x3 i)), (0, .ref (a 0)), (1, .int (nI g))] → W p l e (headSpec w_M_count ({ frames := 0, cells := 0, slots := 0, locals := 0 })).room s m args below meth c H locs 0 0 Q (F0 m 4 ls []) := by
  intro k
  induction k with
  | zero =>
    intro i ls hi hl
    have hi8 : i = 8 := by omega
    subst hi8
    refine lv_iload_n hx hb d_M_count_4 rfl (lv_at hl 0 rfl) ?_
    refine lv_bipush (v := 8) hx hb d_M_count_5 (by decide) ?_
    refine lv_icmp_ge (tgt := 38) hx hb d_M_count_7 (by decide) (fun c_1 => ?_) (fun c_1 => ?_)
    · exact kk ls hl
    · exact absurd (nI_le (Nat.le_refl 8) (by decide)) c_1
  | succ k ih =>
    intro i ls hi hl
    refine lv_iload_n hx hb d_M_count_4 rfl (lv_at hl 0 rfl) ?_
    refine lv_bipush (v := 8) hx hb d_M_count_5 (by decide) ?_
    refine lv_icmp_ge (tgt := 38) hx hb d_M_count_7 (by decide) (fun c_1 => ?_) (fun c_1 => ?_)
    · exact absurd c_1 (nI_ge (a := i) (b := 8) (by omega) (by decide))
    · refine lv_iload_n hx hb d_M_count_10 rfl (lv_at hl 1 rfl) ?_
      refine lv_aload_n hx hb d_M_count_11 rfl (lv_at hl 2 rfl) ?_
      refine va_get (D := (dC, dI)) (ci := 3) (v := .ref (a 4)) (C := R_M) (T := F_M) (N := 12) hx hb hw i_M hown hK hP 0 rfl rfl 8 (by decide) (hw _ kb_344) (fun _ h9 => h9) rfl d_M_count_12 ?_
      refine lv_bipush (v := 8) hx hb d_M_count_15 (by decide) ?_
      refine lv_iload_n hx hb d_M_count_17 rfl (lv_at hl 3 rfl) ?_
      refine lv_imul hx hb d_M_count_18 ?_
      refine lv_iload_n hx hb d_M_count_19 rfl (lv_at hl 0 rfl) ?_
      refine lv_iadd hx hb d_M_count_20 ?_
      refine ml_me (i := i) hx hb hK hP hg (show i < 8 by omega) d_M_count_21 ?_
      refine lv_if_eq (tgt := 29) hx hb d_M_count_22 (by decide) (fun c_2 => ?_) (fun c_2 => ?_)
      · refine lv_iconst (v := 0) hx hb d_M_count_29 (by decide) ?_
        refine lv_iadd hx hb d_M_count_30 ?_
        refine lv_istore_n (lv' := [(2, .int ((mg_cnt x3 i) + (0 : Int32))), (3, .int (nI i)), (0, .ref (a 0)), (1, .int (nI g))]) hx hb d_M_count_31 rfl hl (by decide) rfl (fun ls hl => ?_)
        refine lv_iinc (v := (nI i) + 1) (lv' := [(3, .int ((nI i) + 1)), (2, .int ((mg_cnt x3 i) + (0 : Int32))), (0, .ref (a 0)), (1, .int (nI g))]) hx hb d_M_count_32 hl (k := 1) rfl rfl (by decide) rfl (fun ls hl => ?_)
        refine lv_goto (tgt := 4) hx hb d_M_count_35 (by decide) ?_
        have hs0 : mg_cnt x3 (i + 1) = (mg_cnt x3 i) + (0 : Int32) := by simp only [mg_cnt, if_pos c_2]
        refine ih (i + 1) ls (by omega) ?_
        rw [nI_succ, hs0]; exact lv_sub hl [0, 1, 2, 3] rfl
      · refine lv_iconst (v := 1) hx hb d_M_count_25 (by decide) ?_
        refine lv_goto (tgt := 30) hx hb d_M_count_26 (by decide) ?_
        refine lv_iadd hx hb d_M_count_30 ?_
        refine lv_istore_n (lv' := [(2, .int ((mg_cnt x3 i) + (1 : Int32))), (3, .int (nI i)), (0, .ref (a 0)), (1, .int (nI g))]) hx hb d_M_count_31 rfl hl (by decide) rfl (fun ls hl => ?_)
        refine lv_iinc (v := (nI i) + 1) (lv' := [(3, .int ((nI i) + 1)), (2, .int ((mg_cnt x3 i) + (1 : Int32))), (0, .ref (a 0)), (1, .int (nI g))]) hx hb d_M_count_32 hl (k := 1) rfl rfl (by decide) rfl (fun ls hl => ?_)
        refine lv_goto (tgt := 4) hx hb d_M_count_35 (by decide) ?_
        have hs0 : mg_cnt x3 (i + 1) = (mg_cnt x3 i) + (1 : Int32) := by simp only [mg_cnt, if_neg c_2]
        refine ih (i + 1) ls (by omega) ?_
        rw [nI_succ, hs0]; exact lv_sub hl [0, 1, 2, 3] rfl
set_option maxHeartbeats 4000000 in
set_option maxRecDepth 100000 in
theorem c_M_count (l : Launch) {dC : Nat → ClassId} {dI : Nat → Nat → Nat} {cI cJ cZ : ClassId} {a : Nat → Nat} (hnd : (mad a).Nodup) (co lg tm rm no : Int32) (M : Nat → mGV) {g : Nat} (hg : g < 8) (x0 x1 x2 : Int32) (x3 x4 x5 : Nat → Int32) (x6 : Nat → Int64) (sz : Nat) : Met l y_M_count w_M_count ({ frames := 0, cells := 0, slots := 0, locals := 0 }) (kPre (dC, dI) vwCl (mty cI cJ cZ) [.ref (a 0), .int (nI g)] sz (mw cI cJ cZ a co lg tm rm no (va_up M g (x0, x1, x2, x3, x4, x5, x6)))) (vp_Si (fun r => r = mg_cnt x3 8)) 0 0 (fun _ => False) := by
  refine Met.ofW (cc := b_M_count) (maxL := 4) (ret := (some .int)) (by decide) rfl ?_
  intro p e s m args below meth c s₁ B hml hv
  obtain ⟨rfl, hsz, hP, hK⟩ := hv
  have hx := B.exec
  have hb := B.bytes
  have hr := B.returns
  have hts := atoms_spec (ws := w_M_count) B.pre
  have hw := fun (w : Cond) (h : w ∈ kb_B) => hts w (List.mem_cons_of_mem _ h)
  have hown : s.vm.findClass R_M = some m.cls := findClass_of_methodNamed B.named
  have hlocks := B.notSynchronized
  subst hsz
  have hl := lv_entry ([.ref (a 0), .int (nI g)]) (n := 4) (Nat.le_of_ble_eq_true rfl)
  rw [lg_entry_eq]
  generalize (lg_sl ([.ref (a 0), .int (nI g)]) ++ List.replicate (4 - (lg_sl ([.ref (a 0), .int (nI g)])).length) Slot.unset).toArray = ls at hl ⊢
  have hl : lv_has ls 4 [(0, .ref (a 0)), (1, .int (nI g))] := hl
  refine lv_iconst (v := 0) hx hb d_M_count_0 (by decide) ?_
  refine lv_istore_n (lv' := [(2, .int 0), (0, .ref (a 0)), (1, .int (nI g))]) hx hb d_M_count_1 rfl hl (by decide) rfl (fun ls hl => ?_)
  refine lv_iconst (v := 0) hx hb d_M_count_2 (by decide) ?_
  refine lv_istore_n (lv' := [(3, .int 0), (2, .int 0), (0, .ref (a 0)), (1, .int (nI g))]) hx hb d_M_count_3 rfl hl (by decide) rfl (fun ls hl => ?_)
  refine lp_M_count (x0 := x0) (x1 := x1) (x2 := x2) (x3 := x3) (x4 := x4) (x5 := x5) (x6 := x6) hnd hg hx hb hml hown hw hK hP (fun ls hl => ?_) 8 0 ls rfl (lv_sub hl [0, 1, 2, 3] rfl)
  refine lv_iload_n hx hb d_M_count_38 rfl (lv_at hl 1 rfl) ?_
  exact W.iret (v := (mg_cnt x3 8)) hx hb hr (fun t ht hW => ⟨_, rfl, by first | (simp only []; done) | (simp []; done), ht⟩) (fun q h => by cases h) d_M_count_39
set_option maxHeartbeats 4000000 in
set_option maxRecDepth 100000 in
theorem lp_M_joinedOf {p : Program} {l : Launch} {e : Env} {s : State} {m : MethodId} {args : Array Value} {below : List Frame} {meth : Method} {c : Code} {Q : State → Prop} {dC : Nat → ClassId} {dI : Nat → Nat → Nat} {cI cJ cZ : ClassId} {a : Nat → Nat} (hnd : (mad a).Nodup) {co lg tm rm no : Int32} {M : Nat → mGV} {g : Nat} (hg : g < 8) {x0 x1 x2 : Int32} {x3 x4 x5 : Nat → Int32} {x6 : Nat → Int64} {H : Heap} {locs : List Loc} (hx : p.tables.exec = Jvm.exec) (hb : c.code = b_M_joinedOf) (hml : c.maxLocals = 4) (hown : s.vm.findClass R_M = some m.cls) (hw : ∀ w ∈ kb_B, w.before args s = true) (hK : va_K (dC, dI) vwCl (mty cI cJ cZ) s)  (hP : va_P (dC, dI) vwCl (mw cI cJ cZ a co lg tm rm no (va_up M g (x0, x1, x2, x3, x4, x5, x6))) H)
    (kk : ∀ ls : Array Slot, lv_has ls 4 [(3, .int (nI 8)), (2, .int (mg_jn x3 x4 8)), (0, .ref (a 0)), (1, .int (nI g))] → W p l e (headSpec w_M_joinedOf ({ frames := 0, cells := 0, slots := 0, locals := 0 })).room s m args below meth c H locs 0 0 Q (F0 m 52 ls [])) :
    ∀ (k i : Nat) (ls : Array Slot), i + k = 8 → lv_has ls 4 [(3, .int (nI i)), (2, .int (mg_jn x3 x4 i)), (0, .ref (a 0)), (1, .int (nI g))] → W p l e (headSpec w_M_joinedOf ({ frames := 0, cells := 0, slots := 0, locals := 0 })).room s m args below meth c H locs 0 0 Q (F0 m 4 ls []) := by
  intro k
  induction k with
  | zero =>
    intro i ls hi hl
    have hi8 : i = 8 := by omega
    subst hi8
    refine lv_iload_n hx hb d_M_joinedOf_4 rfl (lv_at hl 0 rfl) ?_
    refine lv_bipush (v := 8) hx hb d_M_joinedOf_5 (by decide) ?_
    refine lv_icmp_ge (tgt := 52) hx hb d_M_joinedOf_7 (by decide) (fun c_1 => ?_) (fun c_1 => ?_)
    · exact kk ls hl
    · exact absurd (nI_le (Nat.le_refl 8) (by decide)) c_1
  | succ k ih =>
    intro i ls hi hl
    refine lv_iload_n hx hb d_M_joinedOf_4 rfl (lv_at hl 0 rfl) ?_
    refine lv_bipush (v := 8) hx hb d_M_joinedOf_5 (by decide) ?_
    refine lv_icmp_ge (tgt := 52) hx hb d_M_joinedOf_7 (by decide) (fun c_1 => ?_) (fun c_1 => ?_)
    · exact absurd c_1 (nI_ge (a := i) (b := 8) (by omega) (by decide))
    · refine lv_iload_n hx hb d_M_joinedOf_10 rfl (lv_at hl 1 rfl) ?_
      refine lv_aload_n hx hb d_M_joinedOf_11 rfl (lv_at hl 2 rfl) ?_
      refine va_get (D := (dC, dI)) (ci := 3) (v := .ref (a 4)) (C := R_M) (T := F_M) (N := 12) hx hb hw i_M hown hK hP 0 rfl rfl 8 (by decide) (hw _ kb_344) (fun _ h9 => h9) rfl d_M_joinedOf_12 ?_
      refine lv_bipush (v := 8) hx hb d_M_joinedOf_15 (by decide) ?_
      refine lv_iload_n hx hb d_M_joinedOf_17 rfl (lv_at hl 3 rfl) ?_
      refine lv_imul hx hb d_M_joinedOf_18 ?_
      refine lv_iload_n hx hb d_M_joinedOf_19 rfl (lv_at hl 0 rfl) ?_
      refine lv_iadd hx hb d_M_joinedOf_20 ?_
      refine ml_me (i := i) hx hb hK hP hg (show i < 8 by omega) d_M_joinedOf_21 ?_
      refine lv_if_eq (tgt := 43) hx hb d_M_joinedOf_22 (by decide) (fun c_2 => ?_) (fun c_2 => ?_)
      · refine lv_iconst (v := 0) hx hb d_M_joinedOf_43 (by decide) ?_
        refine lv_iadd hx hb d_M_joinedOf_44 ?_
        refine lv_istore_n (lv' := [(2, .int ((mg_jn x3 x4 i) + (0 : Int32))), (3, .int (nI i)), (0, .ref (a 0)), (1, .int (nI g))]) hx hb d_M_joinedOf_45 rfl hl (by decide) rfl (fun ls hl => ?_)
        refine lv_iinc (v := (nI i) + 1) (lv' := [(3, .int ((nI i) + 1)), (2, .int ((mg_jn x3 x4 i) + (0 : Int32))), (0, .ref (a 0)), (1, .int (nI g))]) hx hb d_M_joinedOf_46 hl (k := 1) rfl rfl (by decide) rfl (fun ls hl => ?_)
        refine lv_goto (tgt := 4) hx hb d_M_joinedOf_49 (by decide) ?_
        have hs0 : mg_jn x3 x4 (i + 1) = (mg_jn x3 x4 i) + (0 : Int32) := by simp only [mg_jn, if_pos c_2]
        refine ih (i + 1) ls (by omega) ?_
        rw [nI_succ, hs0]; exact lv_sub hl [0, 1, 2, 3] rfl
      · refine lv_aload_n hx hb d_M_joinedOf_25 rfl (lv_at hl 2 rfl) ?_
        refine va_get (D := (dC, dI)) (ci := 3) (v := .ref (a 5)) (C := R_M) (T := F_M) (N := 12) hx hb hw i_M hown hK hP 0 rfl rfl 9 (by decide) (hw _ kb_345) (fun _ h9 => h9) rfl d_M_joinedOf_26 ?_
        refine lv_bipush (v := 8) hx hb d_M_joinedOf_29 (by decide) ?_
        refine lv_iload_n hx hb d_M_joinedOf_31 rfl (lv_at hl 3 rfl) ?_
        refine lv_imul hx hb d_M_joinedOf_32 ?_
        refine lv_iload_n hx hb d_M_joinedOf_33 rfl (lv_at hl 0 rfl) ?_
        refine lv_iadd hx hb d_M_joinedOf_34 ?_
        refine ml_jo (i := i) hx hb hK hP hg (show i < 8 by omega) d_M_joinedOf_35 ?_
        refine lv_if_eq (tgt := 43) hx hb d_M_joinedOf_36 (by decide) (fun c_3 => ?_) (fun c_3 => ?_)
        · refine lv_iconst (v := 0) hx hb d_M_joinedOf_43 (by decide) ?_
          refine lv_iadd hx hb d_M_joinedOf_44 ?_
          refine lv_istore_n (lv' := [(2, .int ((mg_jn x3 x4 i) + (0 : Int32))), (3, .int (nI i)), (0, .ref (a 0)), (1, .int (nI g))]) hx hb d_M_joinedOf_45 rfl hl (by decide) rfl (fun ls hl => ?_)
          refine lv_iinc (v := (nI i) + 1) (lv' := [(3, .int ((nI i) + 1)), (2, .int ((mg_jn x3 x4 i) + (0 : Int32))), (0, .ref (a 0)), (1, .int (nI g))]) hx hb d_M_joinedOf_46 hl (k := 1) rfl rfl (by decide) rfl (fun ls hl => ?_)
          refine lv_goto (tgt := 4) hx hb d_M_joinedOf_49 (by decide) ?_
          have hs0 : mg_jn x3 x4 (i + 1) = (mg_jn x3 x4 i) + (0 : Int32) := by simp only [mg_jn, if_neg c_2, if_pos c_3]
          refine ih (i + 1) ls (by omega) ?_
          rw [nI_succ, hs0]; exact lv_sub hl [0, 1, 2, 3] rfl
        · refine lv_iconst (v := 1) hx hb d_M_joinedOf_39 (by decide) ?_
          refine lv_goto (tgt := 44) hx hb d_M_joinedOf_40 (by decide) ?_
          refine lv_iadd hx hb d_M_joinedOf_44 ?_
          refine lv_istore_n (lv' := [(2, .int ((mg_jn x3 x4 i) + (1 : Int32))), (3, .int (nI i)), (0, .ref (a 0)), (1, .int (nI g))]) hx hb d_M_joinedOf_45 rfl hl (by decide) rfl (fun ls hl => ?_)
          refine lv_iinc (v := (nI i) + 1) (lv' := [(3, .int ((nI i) + 1)), (2, .int ((mg_jn x3 x4 i) + (1 : Int32))), (0, .ref (a 0)), (1, .int (nI g))]) hx hb d_M_joinedOf_46 hl (k := 1) rfl rfl (by decide) rfl (fun ls hl => ?_)
          refine lv_goto (tgt := 4) hx hb d_M_joinedOf_49 (by decide) ?_
          have hs0 : mg_jn x3 x4 (i + 1) = (mg_jn x3 x4 i) + (1 : Int32) := by simp only [mg_jn, if_neg c_2, if_neg c_3]
          refine ih (i + 1) ls (by omega) ?_
          rw [nI_succ, hs0]; exact lv_sub hl [0, 1, 2, 3] rfl
set_option maxHeartbeats 4000000 in
set_option maxRecDepth 100000 in
theorem c_M_joinedOf (l : Launch) {dC : Nat → ClassId} {dI : Nat → Nat → Nat} {cI cJ cZ : ClassId} {a : Nat → Nat} (hnd : (mad a).Nodup) (co lg tm rm no : Int32) (M : Nat → mGV) {g : Nat} (hg : g < 8) (x0 x1 x2 : Int32) (x3 x4 x5 : Nat → Int32) (x6 : Nat → Int64) (sz : Nat) : Met l y_M_joinedOf w_M_joinedOf ({ frames := 0, cells := 0, slots := 0, locals := 0 }) (kPre (dC, dI) vwCl (mty cI cJ cZ) [.ref (a 0), .int (nI g)] sz (mw cI cJ cZ a co lg tm rm no (va_up M g (x0, x1, x2, x3, x4, x5, x6)))) (vp_Si (fun r => r = mg_jn x3 x4 8)) 0 0 (fun _ => False) := by
  refine Met.ofW (cc := b_M_joinedOf) (maxL := 4) (ret := (some .int)) (by decide) rfl ?_
  intro p e s m args below meth c s₁ B hml hv
  obtain ⟨rfl, hsz, hP, hK⟩ := hv
  have hx := B.exec
  have hb := B.bytes
  have hr := B.returns
  have hts := atoms_spec (ws := w_M_joinedOf) B.pre
  have hw := fun (w : Cond) (h : w ∈ kb_B) => hts w (List.mem_cons_of_mem _ h)
  have hown : s.vm.findClass R_M = some m.cls := findClass_of_methodNamed B.named
  have hlocks := B.notSynchronized
  subst hsz
  have hl := lv_entry ([.ref (a 0), .int (nI g)]) (n := 4) (Nat.le_of_ble_eq_true rfl)
  rw [lg_entry_eq]
  generalize (lg_sl ([.ref (a 0), .int (nI g)]) ++ List.replicate (4 - (lg_sl ([.ref (a 0), .int (nI g)])).length) Slot.unset).toArray = ls at hl ⊢
  have hl : lv_has ls 4 [(0, .ref (a 0)), (1, .int (nI g))] := hl
  refine lv_iconst (v := 0) hx hb d_M_joinedOf_0 (by decide) ?_
  refine lv_istore_n (lv' := [(2, .int 0), (0, .ref (a 0)), (1, .int (nI g))]) hx hb d_M_joinedOf_1 rfl hl (by decide) rfl (fun ls hl => ?_)
  refine lv_iconst (v := 0) hx hb d_M_joinedOf_2 (by decide) ?_
  refine lv_istore_n (lv' := [(3, .int 0), (2, .int 0), (0, .ref (a 0)), (1, .int (nI g))]) hx hb d_M_joinedOf_3 rfl hl (by decide) rfl (fun ls hl => ?_)
  refine lp_M_joinedOf (x0 := x0) (x1 := x1) (x2 := x2) (x3 := x3) (x4 := x4) (x5 := x5) (x6 := x6) hnd hg hx hb hml hown hw hK hP (fun ls hl => ?_) 8 0 ls rfl (lv_sub hl [0, 1, 2, 3] rfl)
  refine lv_iload_n hx hb d_M_joinedOf_52 rfl (lv_at hl 1 rfl) ?_
  exact W.iret (v := (mg_jn x3 x4 8)) hx hb hr (fun t ht hW => ⟨_, rfl, by first | (simp only []; done) | (simp []; done), ht⟩) (fun q h => by cases h) d_M_joinedOf_53
set_option maxHeartbeats 4000000 in
set_option maxRecDepth 100000 in
theorem lp_M_mixes {p : Program} {l : Launch} {e : Env} {s : State} {m : MethodId} {args : Array Value} {below : List Frame} {meth : Method} {c : Code} {Q : State → Prop} {dC : Nat → ClassId} {dI : Nat → Nat → Nat} {cI cJ cZ : ClassId} {a : Nat → Nat} (hnd : (mad a).Nodup) {co lg tm rm no : Int32} {M : Nat → mGV} {g : Nat} (hg : g < 8) {x0 x1 x2 : Int32} {x3 x4 x5 : Nat → Int32} {x6 : Nat → Int64} {A : Nat → Prop} (hx : p.tables.exec = Jvm.exec) (hb : c.code = b_M_mixes) (hml : c.maxLocals = 3) (hown : s.vm.findClass R_M = some m.cls) (hw : ∀ w ∈ kb_B, w.before args s = true) (hK : va_K (dC, dI) vwCl (mty cI cJ cZ) s) (hA : ∀ q : Nat, s.heap.size ≤ q → A q) (hAL : ∀ q ∈ mad a, A q) 
    (kk : ∀ (H : Heap) (locs : List Loc) (ls : Array Slot), va_P (dC, dI) vwCl (mw cI cJ cZ a co lg tm rm no (va_up M g (1, x1, tm + 20, x3, mz x4 8, x5, x6))) H → va_S A s.heap H locs → lv_has ls 3 [(2, .int (nI 8)), (0, .ref (a 0)), (1, .int (nI g))] → W p l e (headSpec w_M_mixes ({ frames := 0, cells := 0, slots := 0, locals := 0 })).room s m args below meth c H locs 0 0 Q (F0 m 46 ls [])) :
    ∀ (k i : Nat) (H : Heap) (locs : List Loc) (ls : Array Slot), i + k = 8 → va_P (dC, dI) vwCl (mw cI cJ cZ a co lg tm rm no (va_up M g (1, x1, tm + 20, x3, mz x4 i, x5, x6))) H → va_S A s.heap H locs → lv_has ls 3 [(2, .int (nI i)), (0, .ref (a 0)), (1, .int (nI g))] → W p l e (headSpec w_M_mixes ({ frames := 0, cells := 0, slots := 0, locals := 0 })).room s m args below meth c H locs 0 0 Q (F0 m 22 ls []) := by
  intro k
  induction k with
  | zero =>
    intro i H locs ls hi hP hS hl
    have hi8 : i = 8 := by omega
    subst hi8
    refine lv_iload_n hx hb d_M_mixes_22 rfl (lv_at hl 0 rfl) ?_
    refine lv_bipush (v := 8) hx hb d_M_mixes_23 (by decide) ?_
    refine lv_icmp_ge (tgt := 46) hx hb d_M_mixes_25 (by decide) (fun c_1 => ?_) (fun c_1 => ?_)
    · exact kk H locs ls hP hS hl
    · exact absurd (nI_le (Nat.le_refl 8) (by decide)) c_1
  | succ k ih =>
    intro i H locs ls hi hP hS hl
    refine lv_iload_n hx hb d_M_mixes_22 rfl (lv_at hl 0 rfl) ?_
    refine lv_bipush (v := 8) hx hb d_M_mixes_23 (by decide) ?_
    refine lv_icmp_ge (tgt := 46) hx hb d_M_mixes_25 (by decide) (fun c_1 => ?_) (fun c_1 => ?_)
    · exact absurd c_1 (nI_ge (a := i) (b := 8) (by omega) (by decide))
    · refine lv_aload_n hx hb d_M_mixes_28 rfl (lv_at hl 1 rfl) ?_
      refine va_get (D := (dC, dI)) (ci := 3) (v := .ref (a 5)) (C := R_M) (T := F_M) (N := 12) hx hb hw i_M hown hK hP 0 rfl rfl 9 (by decide) (hw _ kb_345) (fun _ h9 => h9) rfl d_M_mixes_29 ?_
      refine lv_bipush (v := 8) hx hb d_M_mixes_32 (by decide) ?_
      refine lv_iload_n hx hb d_M_mixes_34 rfl (lv_at hl 2 rfl) ?_
      refine lv_imul hx hb d_M_mixes_35 ?_
      refine lv_iload_n hx hb d_M_mixes_36 rfl (lv_at hl 0 rfl) ?_
      refine lv_iadd hx hb d_M_mixes_37 ?_
      refine lv_iconst (v := 0) hx hb d_M_mixes_38 (by decide) ?_
      refine ms_jo (i := i) (v := 0) hx hb hK hP hnd hAL hS hg (show i < 8 by omega) d_M_mixes_39 (fun H locs hP hS => ?_)
      rw [vz0] at hP
      refine lv_iinc (v := (nI i) + 1) (lv' := [(2, .int ((nI i) + 1)), (0, .ref (a 0)), (1, .int (nI g))]) hx hb d_M_mixes_40 hl (k := 0) rfl rfl (by decide) rfl (fun ls hl => ?_)
      refine lv_goto (tgt := 22) hx hb d_M_mixes_43 (by decide) ?_
      refine ih (i + 1) H locs ls (by omega) ?_ hS ?_
      · exact hP
      · rw [nI_succ]; exact lv_sub hl [0, 1, 2] rfl
set_option maxHeartbeats 4000000 in
set_option maxRecDepth 100000 in
theorem c_M_mixes (l : Launch) {dC : Nat → ClassId} {dI : Nat → Nat → Nat} {cI cJ cZ : ClassId} {a : Nat → Nat} (hnd : (mad a).Nodup) (co lg tm rm no : Int32) (M : Nat → mGV) {g : Nat} (hg : g < 8) (x0 x1 x2 : Int32) (x3 x4 x5 : Nat → Int32) (x6 : Nat → Int64) (sz : Nat) : Met l y_M_mixes w_M_mixes ({ frames := 0, cells := 0, slots := 0, locals := 0 }) (kPre (dC, dI) vwCl (mty cI cJ cZ) [.ref (a 0), .int (nI g)] sz (mw cI cJ cZ a co lg tm rm no (va_up M g (x0, x1, x2, x3, x4, x5, x6)))) (va_Qv (fun u : mDV => u = (co, lg, tm, rm, no, va_up M g (mg_mix tm (x0, x1, x2, x3, x4, x5, x6)))) (fun u t => va_P (dC, dI) vwCl (mwv cI cJ cZ a u) t.heap) (kA (mad a) sz)) 0 0 (kA (mad a) sz) := by
  refine Met.ofW (cc := b_M_mixes) (maxL := 3) (ret := none) (by decide) rfl ?_
  intro p e s m args below meth c s₁ B hml hv
  obtain ⟨rfl, hsz, hP, hK⟩ := hv
  have hx := B.exec
  have hb := B.bytes
  have hr := B.returns
  have hts := atoms_spec (ws := w_M_mixes) B.pre
  have hw := fun (w : Cond) (h : w ∈ kb_B) => hts w (List.mem_cons_of_mem _ h)
  have hown : s.vm.findClass R_M = some m.cls := findClass_of_methodNamed B.named
  have hlocks := B.notSynchronized
  subst hsz
  generalize hAe : kA (mad a) s.heap.size = A
  have hA : ∀ q : Nat, s.heap.size ≤ q → A q := fun q h => by rw [← hAe]; exact Or.inr h
  have hAL : ∀ q ∈ (mad a), A q := fun q h => by rw [← hAe]; exact Or.inl h
  have hS : va_S A s.heap s.heap [] := va_S.rf
  have hl := lv_entry ([.ref (a 0), .int (nI g)]) (n := 3) (Nat.le_of_ble_eq_true rfl)
  rw [lg_entry_eq]
  generalize (lg_sl ([.ref (a 0), .int (nI g)]) ++ List.replicate (3 - (lg_sl ([.ref (a 0), .int (nI g)])).length) Slot.unset).toArray = ls at hl ⊢
  have hl : lv_has ls 3 [(0, .ref (a 0)), (1, .int (nI g))] := hl
  refine lv_aload_n hx hb d_M_mixes_0 rfl (lv_at hl 0 rfl) ?_
  refine va_get (D := (dC, dI)) (ci := 3) (v := .ref (a 1)) (C := R_M) (T := F_M) (N := 12) hx hb hw i_M hown hK hP 0 rfl rfl 5 (by decide) (hw _ kb_341) (fun _ h9 => h9) rfl d_M_mixes_1 ?_
  refine lv_iload_n hx hb d_M_mixes_4 rfl (lv_at hl 1 rfl) ?_
  refine lv_iconst (v := 1) hx hb d_M_mixes_5 (by decide) ?_
  refine ms_st (v := 1) hx hb hK hP hnd hAL hS hg d_M_mixes_6 (fun H locs hP hS => ?_)
  refine lv_aload_n hx hb d_M_mixes_7 rfl (lv_at hl 0 rfl) ?_
  refine va_get (D := (dC, dI)) (ci := 3) (v := .ref (a 3)) (C := R_M) (T := F_M) (N := 12) hx hb hw i_M hown hK hP 0 rfl rfl 7 (by decide) (hw _ kb_343) (fun _ h9 => h9) rfl d_M_mixes_8 ?_
  refine lv_iload_n hx hb d_M_mixes_11 rfl (lv_at hl 1 rfl) ?_
  refine lv_aload_n hx hb d_M_mixes_12 rfl (lv_at hl 0 rfl) ?_
  refine va_get (D := (dC, dI)) (ci := 3) (v := .int tm) (C := R_M) (T := F_M) (N := 12) hx hb hw i_M hown hK hP 0 rfl rfl 2 (by decide) (hw _ kb_338) (fun _ h9 => h9) rfl d_M_mixes_13 ?_
  refine lv_bipush (v := 20) hx hb d_M_mixes_16 (by decide) ?_
  refine lv_iadd hx hb d_M_mixes_18 ?_
  refine ms_li (v := tm + (20 : Int32)) hx hb hK hP hnd hAL hS hg d_M_mixes_19 (fun H locs hP hS => ?_)
  refine lv_iconst (v := 0) hx hb d_M_mixes_20 (by decide) ?_
  refine lv_istore_n (lv' := [(2, .int 0), (0, .ref (a 0)), (1, .int (nI g))]) hx hb d_M_mixes_21 rfl hl (by decide) rfl (fun ls hl => ?_)
  refine lp_M_mixes (x0 := x0) (x1 := x1) (x2 := x2) (x3 := x3) (x4 := x4) (x5 := x5) (x6 := x6) hnd hg hx hb hml hown hw hK hA hAL (fun H locs ls hP hS hl => ?_) 8 0 _ _ ls rfl hP hS (lv_sub hl [0, 1, 2] rfl)
  exact W.vret hx hb hr (fun t ht hW => ⟨⟨(co, lg, tm, rm, no, (va_up M g (1, x1, tm + 20, x3, mz x4 8, x5, x6))), rfl, by first | (simp only [mg_mix]; done) | (simp [mg_mix]; done), by show va_P _ _ _ t.heap; rw [ht]; exact hP⟩, hS.F ht⟩) hS.2.2 d_M_mixes_46
set_option maxHeartbeats 4000000 in
set_option maxRecDepth 100000 in
theorem lp_M_empties {p : Program} {l : Launch} {e : Env} {s : State} {m : MethodId} {args : Array Value} {below : List Frame} {meth : Method} {c : Code} {Q : State → Prop} {dC : Nat → ClassId} {dI : Nat → Nat → Nat} {cI cJ cZ : ClassId} {a : Nat → Nat} (hnd : (mad a).Nodup) {co lg tm rm no : Int32} {M : Nat → mGV} {g : Nat} (hg : g < 8) {x0 x1 x2 : Int32} {x3 x4 x5 : Nat → Int32} {x6 : Nat → Int64} {A : Nat → Prop} (hx : p.tables.exec = Jvm.exec) (hb : c.code = b_M_empties) (hml : c.maxLocals = 3) (hown : s.vm.findClass R_M = some m.cls) (hw : ∀ w ∈ kb_B, w.before args s = true) (hK : va_K (dC, dI) vwCl (mty cI cJ cZ) s) (hA : ∀ q : Nat, s.heap.size ≤ q → A q) (hAL : ∀ q ∈ mad a, A q) 
    (kk : ∀ (H : Heap) (locs : List Loc) (ls : Array Slot), va_P (dC, dI) vwCl (mw cI cJ cZ a co lg tm rm no (va_up M g (0, x1, x2, mz x3 8, mz x4 8, x5, x6))) H → va_S A s.heap H locs → lv_has ls 3 [(2, .int (nI 8)), (0, .ref (a 0)), (1, .int (nI g))] → W p l e (headSpec w_M_empties ({ frames := 0, cells := 0, slots := 0, locals := 0 })).room s m args below meth c H locs 0 0 Q (F0 m 45 ls [])) :
    ∀ (k i : Nat) (H : Heap) (locs : List Loc) (ls : Array Slot), i + k = 8 → va_P (dC, dI) vwCl (mw cI cJ cZ a co lg tm rm no (va_up M g (0, x1, x2, mz x3 i, mz x4 i, x5, x6))) H → va_S A s.heap H locs → lv_has ls 3 [(2, .int (nI i)), (0, .ref (a 0)), (1, .int (nI g))] → W p l e (headSpec w_M_empties ({ frames := 0, cells := 0, slots := 0, locals := 0 })).room s m args below meth c H locs 0 0 Q (F0 m 9 ls []) := by
  intro k
  induction k with
  | zero =>
    intro i H locs ls hi hP hS hl
    have hi8 : i = 8 := by omega
    subst hi8
    refine lv_iload_n hx hb d_M_empties_9 rfl (lv_at hl 0 rfl) ?_
    refine lv_bipush (v := 8) hx hb d_M_empties_10 (by decide) ?_
    refine lv_icmp_ge (tgt := 45) hx hb d_M_empties_12 (by decide) (fun c_1 => ?_) (fun c_1 => ?_)
    · exact kk H locs ls hP hS hl
    · exact absurd (nI_le (Nat.le_refl 8) (by decide)) c_1
  | succ k ih =>
    intro i H locs ls hi hP hS hl
    refine lv_iload_n hx hb d_M_empties_9 rfl (lv_at hl 0 rfl) ?_
    refine lv_bipush (v := 8) hx hb d_M_empties_10 (by decide) ?_
    refine lv_icmp_ge (tgt := 45) hx hb d_M_empties_12 (by decide) (fun c_1 => ?_) (fun c_1 => ?_)
    · exact absurd c_1 (nI_ge (a := i) (b := 8) (by omega) (by decide))
    · refine lv_aload_n hx hb d_M_empties_15 rfl (lv_at hl 1 rfl) ?_
      refine va_get (D := (dC, dI)) (ci := 3) (v := .ref (a 4)) (C := R_M) (T := F_M) (N := 12) hx hb hw i_M hown hK hP 0 rfl rfl 8 (by decide) (hw _ kb_344) (fun _ h9 => h9) rfl d_M_empties_16 ?_
      refine lv_bipush (v := 8) hx hb d_M_empties_19 (by decide) ?_
      refine lv_iload_n hx hb d_M_empties_21 rfl (lv_at hl 2 rfl) ?_
      refine lv_imul hx hb d_M_empties_22 ?_
      refine lv_iload_n hx hb d_M_empties_23 rfl (lv_at hl 0 rfl) ?_
      refine lv_iadd hx hb d_M_empties_24 ?_
      refine lv_iconst (v := 0) hx hb d_M_empties_25 (by decide) ?_
      refine ms_me (i := i) (v := 0) hx hb hK hP hnd hAL hS hg (show i < 8 by omega) d_M_empties_26 (fun H locs hP hS => ?_)
      rw [vz0] at hP
      refine lv_aload_n hx hb d_M_empties_27 rfl (lv_at hl 1 rfl) ?_
      refine va_get (D := (dC, dI)) (ci := 3) (v := .ref (a 5)) (C := R_M) (T := F_M) (N := 12) hx hb hw i_M hown hK hP 0 rfl rfl 9 (by decide) (hw _ kb_345) (fun _ h9 => h9) rfl d_M_empties_28 ?_
      refine lv_bipush (v := 8) hx hb d_M_empties_31 (by decide) ?_
      refine lv_iload_n hx hb d_M_empties_33 rfl (lv_at hl 2 rfl) ?_
      refine lv_imul hx hb d_M_empties_34 ?_
      refine lv_iload_n hx hb d_M_empties_35 rfl (lv_at hl 0 rfl) ?_
      refine lv_iadd hx hb d_M_empties_36 ?_
      refine lv_iconst (v := 0) hx hb d_M_empties_37 (by decide) ?_
      refine ms_jo (i := i) (v := 0) hx hb hK hP hnd hAL hS hg (show i < 8 by omega) d_M_empties_38 (fun H locs hP hS => ?_)
      rw [vz0] at hP
      refine lv_iinc (v := (nI i) + 1) (lv' := [(2, .int ((nI i) + 1)), (0, .ref (a 0)), (1, .int (nI g))]) hx hb d_M_empties_39 hl (k := 0) rfl rfl (by decide) rfl (fun ls hl => ?_)
      refine lv_goto (tgt := 9) hx hb d_M_empties_42 (by decide) ?_
      refine ih (i + 1) H locs ls (by omega) ?_ hS ?_
      · exact hP
      · rw [nI_succ]; exact lv_sub hl [0, 1, 2] rfl
set_option maxHeartbeats 4000000 in
set_option maxRecDepth 100000 in
theorem c_M_empties (l : Launch) {dC : Nat → ClassId} {dI : Nat → Nat → Nat} {cI cJ cZ : ClassId} {a : Nat → Nat} (hnd : (mad a).Nodup) (co lg tm rm no : Int32) (M : Nat → mGV) {g : Nat} (hg : g < 8) (x0 x1 x2 : Int32) (x3 x4 x5 : Nat → Int32) (x6 : Nat → Int64) (sz : Nat) : Met l y_M_empties w_M_empties ({ frames := 0, cells := 0, slots := 0, locals := 0 }) (kPre (dC, dI) vwCl (mty cI cJ cZ) [.ref (a 0), .int (nI g)] sz (mw cI cJ cZ a co lg tm rm no (va_up M g (x0, x1, x2, x3, x4, x5, x6)))) (va_Qv (fun u : mDV => u = (co, lg, tm, rm, no, va_up M g (mg_emp (x0, x1, x2, x3, x4, x5, x6)))) (fun u t => va_P (dC, dI) vwCl (mwv cI cJ cZ a u) t.heap) (kA (mad a) sz)) 0 0 (kA (mad a) sz) := by
  refine Met.ofW (cc := b_M_empties) (maxL := 3) (ret := none) (by decide) rfl ?_
  intro p e s m args below meth c s₁ B hml hv
  obtain ⟨rfl, hsz, hP, hK⟩ := hv
  have hx := B.exec
  have hb := B.bytes
  have hr := B.returns
  have hts := atoms_spec (ws := w_M_empties) B.pre
  have hw := fun (w : Cond) (h : w ∈ kb_B) => hts w (List.mem_cons_of_mem _ h)
  have hown : s.vm.findClass R_M = some m.cls := findClass_of_methodNamed B.named
  have hlocks := B.notSynchronized
  subst hsz
  generalize hAe : kA (mad a) s.heap.size = A
  have hA : ∀ q : Nat, s.heap.size ≤ q → A q := fun q h => by rw [← hAe]; exact Or.inr h
  have hAL : ∀ q ∈ (mad a), A q := fun q h => by rw [← hAe]; exact Or.inl h
  have hS : va_S A s.heap s.heap [] := va_S.rf
  have hl := lv_entry ([.ref (a 0), .int (nI g)]) (n := 3) (Nat.le_of_ble_eq_true rfl)
  rw [lg_entry_eq]
  generalize (lg_sl ([.ref (a 0), .int (nI g)]) ++ List.replicate (3 - (lg_sl ([.ref (a 0), .int (nI g)])).length) Slot.unset).toArray = ls at hl ⊢
  have hl : lv_has ls 3 [(0, .ref (a 0)), (1, .int (nI g))] := hl
  refine lv_aload_n hx hb d_M_empties_0 rfl (lv_at hl 0 rfl) ?_
  refine va_get (D := (dC, dI)) (ci := 3) (v := .ref (a 1)) (C := R_M) (T := F_M) (N := 12) hx hb hw i_M hown hK hP 0 rfl rfl 5 (by decide) (hw _ kb_341) (fun _ h9 => h9) rfl d_M_empties_1 ?_
  refine lv_iload_n hx hb d_M_empties_4 rfl (lv_at hl 1 rfl) ?_
  refine lv_iconst (v := 0) hx hb d_M_empties_5 (by decide) ?_
  refine ms_st (v := 0) hx hb hK hP hnd hAL hS hg d_M_empties_6 (fun H locs hP hS => ?_)
  refine lv_iconst (v := 0) hx hb d_M_empties_7 (by decide) ?_
  refine lv_istore_n (lv' := [(2, .int 0), (0, .ref (a 0)), (1, .int (nI g))]) hx hb d_M_empties_8 rfl hl (by decide) rfl (fun ls hl => ?_)
  refine lp_M_empties (x0 := x0) (x1 := x1) (x2 := x2) (x3 := x3) (x4 := x4) (x5 := x5) (x6 := x6) hnd hg hx hb hml hown hw hK hA hAL (fun H locs ls hP hS hl => ?_) 8 0 _ _ ls rfl hP hS (lv_sub hl [0, 1, 2] rfl)
  exact W.vret hx hb hr (fun t ht hW => ⟨⟨(co, lg, tm, rm, no, (va_up M g (0, x1, x2, mz x3 8, mz x4 8, x5, x6))), rfl, by first | (simp only [mg_emp]; done) | (simp [mg_emp]; done), by show va_P _ _ _ t.heap; rw [ht]; exact hP⟩, hS.F ht⟩) hS.2.2 d_M_empties_45
set_option maxHeartbeats 4000000 in
set_option maxRecDepth 100000 in
theorem c_M_without (l : Launch) {dC : Nat → ClassId} {dI : Nat → Nat → Nat} {cI cJ cZ : ClassId} {a : Nat → Nat} (hnd : (mad a).Nodup) (co lg tm rm no : Int32) (M : Nat → mGV) {g : Nat} (hg : g < 8) (x0 x1 x2 : Int32) (x3 x4 x5 : Nat → Int32) (x6 : Nat → Int64) (sz : Nat) : Met l y_M_without w_M_without ({ frames := 1, cells := 0, slots := 0, locals := 30 }) (kPre (dC, dI) vwCl (mty cI cJ cZ) [.ref (a 0), .int (nI g)] sz (mw cI cJ cZ a co lg tm rm no (va_up M g (x0, x1, x2, x3, x4, x5, x6)))) (va_Qv (fun u : mDV => u = (co, lg, tm, rm, no, va_up M g (mg_wo tm (x0, x1, x2, x3, x4, x5, x6)))) (fun u t => va_P (dC, dI) vwCl (mwv cI cJ cZ a u) t.heap) (kA (mad a) sz)) 0 0 (kA (mad a) sz) := by
  refine Met.ofW (cc := b_M_without) (maxL := 2) (ret := none) (by decide) rfl ?_
  intro p e s m args below meth c s₁ B hml hv
  obtain ⟨rfl, hsz, hP, hK⟩ := hv
  have hx := B.exec
  have hb := B.bytes
  have hr := B.returns
  have hts := atoms_spec (ws := w_M_without) B.pre
  have hw := fun (w : Cond) (h : w ∈ kb_B) => hts w (List.mem_cons_of_mem _ h)
  have hown : s.vm.findClass R_M = some m.cls := findClass_of_methodNamed B.named
  have hlocks := B.notSynchronized
  subst hsz
  generalize hAe : kA (mad a) s.heap.size = A
  have hA : ∀ q : Nat, s.heap.size ≤ q → A q := fun q h => by rw [← hAe]; exact Or.inr h
  have hAL : ∀ q ∈ (mad a), A q := fun q h => by rw [← hAe]; exact Or.inl h
  have hS : va_S A s.heap s.heap [] := va_S.rf
  have hl := lv_entry ([.ref (a 0), .int (nI g)]) (n := 2) (Nat.le_of_ble_eq_true rfl)
  rw [lg_entry_eq]
  generalize (lg_sl ([.ref (a 0), .int (nI g)]) ++ List.replicate (2 - (lg_sl ([.ref (a 0), .int (nI g)])).length) Slot.unset).toArray = ls at hl ⊢
  have hl : lv_has ls 2 [(0, .ref (a 0)), (1, .int (nI g))] := hl
  refine lv_aload_n hx hb d_M_without_0 rfl (lv_at hl 0 rfl) ?_
  refine lv_iload_n hx hb d_M_without_1 rfl (lv_at hl 1 rfl) ?_
  refine vp_callSi (W.runV (As := [.int (nI g)]) (rest := []) ⟨hx, hb, hml, hown, hw⟩ (c_M_count l hnd co lg tm rm no M hg x0 x1 x2 x3 x4 x5 x6 _) (cwV 1 hw (kb_V kb_397 kb_399 kb_s8 kb_6 kb_400) rfl rfl rfl (by decide +kernel) ⟨Nat.le_of_ble_eq_true rfl, Nat.le_of_ble_eq_true rfl⟩) (kPV (va_recv hK hP (ci := 3) (q0 := 0) rfl rfl) hP hK) rfl rfl hl.1 rfl (lv_room (Nat.le_of_ble_eq_true rfl)) d_M_without_2 ⟨Nat.le_of_ble_eq_true rfl, Nat.le_of_ble_eq_true rfl⟩) (fun r_1 er_1 => ?_)
  subst er_1
  refine lv_if_ne (tgt := 16) hx hb d_M_without_5 (by decide) (fun c_1 => ?_) (fun c_1 => ?_)
  · refine lv_aload_n hx hb d_M_without_16 rfl (lv_at hl 0 rfl) ?_
    refine va_get (D := (dC, dI)) (ci := 3) (v := .ref (a 1)) (C := R_M) (T := F_M) (N := 12) hx hb hw i_M hown hK hP 0 rfl rfl 5 (by decide) (hw _ kb_341) (fun _ h9 => h9) rfl d_M_without_17 ?_
    refine lv_iload_n hx hb d_M_without_20 rfl (lv_at hl 1 rfl) ?_
    refine ml_st hx hb hK hP hg d_M_without_21 ?_
    refine lv_iconst (v := 2) hx hb d_M_without_22 (by decide) ?_
    refine lv_icmp_ne (tgt := 31) hx hb d_M_without_23 (by decide) (fun c_2 => ?_) (fun c_2 => ?_)
    · exact W.vret hx hb hr (fun t ht hW => ⟨⟨(co, lg, tm, rm, no, (va_up M g (x0, x1, x2, x3, x4, x5, x6))), rfl, by first | (simp only [mg_wo, mg_emp, mg_mix, if_neg c_1, if_neg c_2]; done) | (simp [mg_wo, mg_emp, mg_mix, c_1, c_2]; done), by show va_P _ _ _ t.heap; rw [ht]; exact hP⟩, hS.F ht⟩) hS.2.2 d_M_without_31
    · refine lv_aload_n hx hb d_M_without_26 rfl (lv_at hl 0 rfl) ?_
      refine lv_iload_n hx hb d_M_without_27 rfl (lv_at hl 1 rfl) ?_
      refine kc_v (Wd := mwv cI cJ cZ a) (va_runV (As := [.int (nI g)]) (rest := []) ⟨hx, hb, hml, hown, hw⟩ (c_M_mixes l hnd co lg tm rm no M hg x0 x1 x2 x3 x4 x5 x6 _) (cwV 1 hw (kb_V kb_389 kb_391 kb_s6 kb_6 kb_392) rfl rfl rfl (by decide +kernel) ⟨Nat.le_of_ble_eq_true rfl, Nat.le_of_ble_eq_true rfl⟩) (kPV (va_recv hK hP (ci := 3) (q0 := 0) rfl rfl) hP hK) rfl rfl hl.1 rfl (lv_room (Nat.le_of_ble_eq_true rfl)) d_M_without_28 ⟨Nat.le_of_ble_eq_true rfl, Nat.le_of_ble_eq_true rfl⟩) hS hA hAL (fun u_2 H locs hw9 hP _ _ hS => ?_)
      subst hw9
      have hP : va_P (dC, dI) vwCl (mw cI cJ cZ a co lg tm rm no (va_up M g (1, x1, tm + 20, x3, mz x4 8, x5, x6))) _ := hP
      exact W.vret hx hb hr (fun t ht hW => ⟨⟨(co, lg, tm, rm, no, (va_up M g (1, x1, tm + 20, x3, mz x4 8, x5, x6))), rfl, by first | (simp only [mg_wo, mg_emp, mg_mix, if_neg c_1, if_pos c_2]; done) | (simp [mg_wo, mg_emp, mg_mix, c_1, c_2]; done), by show va_P _ _ _ t.heap; rw [ht]; exact hP⟩, hS.F ht⟩) hS.2.2 d_M_without_31
  · refine lv_aload_n hx hb d_M_without_8 rfl (lv_at hl 0 rfl) ?_
    refine lv_iload_n hx hb d_M_without_9 rfl (lv_at hl 1 rfl) ?_
    refine kc_v (Wd := mwv cI cJ cZ a) (va_runV (As := [.int (nI g)]) (rest := []) ⟨hx, hb, hml, hown, hw⟩ (c_M_empties l hnd co lg tm rm no M hg x0 x1 x2 x3 x4 x5 x6 _) (cwV 1 hw (kb_V kb_405 kb_407 kb_s10 kb_6 kb_408) rfl rfl rfl (by decide +kernel) ⟨Nat.le_of_ble_eq_true rfl, Nat.le_of_ble_eq_true rfl⟩) (kPV (va_recv hK hP (ci := 3) (q0 := 0) rfl rfl) hP hK) rfl rfl hl.1 rfl (lv_room (Nat.le_of_ble_eq_true rfl)) d_M_without_10 ⟨Nat.le_of_ble_eq_true rfl, Nat.le_of_ble_eq_true rfl⟩) hS hA hAL (fun u_4 H locs hw9 hP _ _ hS => ?_)
    subst hw9
    have hP : va_P (dC, dI) vwCl (mw cI cJ cZ a co lg tm rm no (va_up M g (0, x1, x2, mz x3 8, mz x4 8, x5, x6))) _ := hP
    refine lv_goto (tgt := 31) hx hb d_M_without_13 (by decide) ?_
    exact W.vret hx hb hr (fun t ht hW => ⟨⟨(co, lg, tm, rm, no, (va_up M g (0, x1, x2, mz x3 8, mz x4 8, x5, x6))), rfl, by first | (simp only [mg_wo, mg_emp, mg_mix, if_pos c_1]; done) | (simp [mg_wo, mg_emp, mg_mix, c_1]; done), by show va_P _ _ _ t.heap; rw [ht]; exact hP⟩, hS.F ht⟩) hS.2.2 d_M_without_31
