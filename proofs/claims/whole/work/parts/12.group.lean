set_option maxHeartbeats 4000000 in
set_option maxRecDepth 100000 in
theorem c_N_write (l : Launch) {dC : Nat → ClassId} {dI : Nat → Nat → Nat} {cI cJ cR : ClassId} {d ar nb : Nat} {ga ha oa : Nat → Nat} (hnd : (kad d ar nb ga ha oa).Nodup) (lg tm lf wr : Int32) (G : Nat → kGV) (sz : Nat) : Met l y_N_write w_N_write ({ frames := 0, cells := 0, slots := 0, locals := 0 }) (kPre (dC, dI) vwCl (kty cI cJ cR) [.ref nb] sz (kw cI cJ cR d ar nb ga ha oa lg tm lf wr G)) (va_Qi (fun (r : Int32) (u : kDV) => r = (kn_write lf wr).1 ∧ u = (lg, tm, (kn_write lf wr).2.1, (kn_write lf wr).2.2, G)) (fun u t => va_P (dC, dI) vwCl (kwv cI cJ cR d ar nb ga ha oa u) t.heap) (kA (kad d ar nb ga ha oa) sz)) 0 0 (kA (kad d ar nb ga ha oa) sz) := by
  refine Met.ofW (cc := b_N_write) (maxL := 1) (ret := (some .boolean)) (by decide) rfl ?_
  intro p e s m args below meth c s₁ B hml hv
  obtain ⟨rfl, hsz, hP, hK⟩ := hv
  have hx := B.exec
  have hb := B.bytes
  have hr := B.returns
  have hts := atoms_spec (ws := w_N_write) B.pre
  have hw := fun (w : Cond) (h : w ∈ kb_B) => hts w (List.mem_cons_of_mem _ h)
  have hown : s.vm.findClass R_N = some m.cls := findClass_of_methodNamed B.named
  have hlocks := B.notSynchronized
  subst hsz
  generalize hAe : kA (kad d ar nb ga ha oa) s.heap.size = A
  have hA : ∀ q : Nat, s.heap.size ≤ q → A q := fun q h => by rw [← hAe]; exact Or.inr h
  have hAL : ∀ q ∈ (kad d ar nb ga ha oa), A q := fun q h => by rw [← hAe]; exact Or.inl h
  have hS : va_S A s.heap s.heap [] := va_S.rf
  have hl := lv_entry ([.ref nb]) (n := 1) (Nat.le_of_ble_eq_true rfl)
  rw [lg_entry_eq]
  generalize (lg_sl ([.ref nb]) ++ List.replicate (1 - (lg_sl ([.ref nb])).length) Slot.unset).toArray = ls at hl ⊢
  have hl : lv_has ls 1 [(0, .ref nb)] := hl
  refine lv_aload_n hx hb d_N_write_0 rfl (lv_at hl 0 rfl) ?_
  refine va_get (D := (dC, dI)) (ci := 1) (v := .int lf) (C := R_N) (T := F_N) (N := 2) hx hb hw i_N hown hK hP 2 rfl rfl 0 (by decide) (hw _ kb_32) (fun _ h9 => h9) rfl d_N_write_1 ?_
  refine lv_iconst (v := 1) hx hb d_N_write_4 (by decide) ?_
  refine lv_icmp_ge (tgt := 10) hx hb d_N_write_5 (by decide) (fun c_1 => ?_) (fun c_1 => ?_)
  · refine lv_aload_n hx hb d_N_write_10 rfl (lv_at hl 0 rfl) ?_
    refine lv_dup hx hb d_N_write_11 rfl ?_
    refine va_get (D := (dC, dI)) (ci := 1) (v := .int lf) (C := R_N) (T := F_N) (N := 2) hx hb hw i_N hown hK hP 2 rfl rfl 0 (by decide) (hw _ kb_32) (fun _ h9 => h9) rfl d_N_write_12 ?_
    refine lv_iconst (v := 1) hx hb d_N_write_15 (by decide) ?_
    refine lv_isub hx hb d_N_write_16 ?_
    refine va_put (D := (dC, dI)) (ci := 1) (v := .int (lf - (1 : Int32))) (ty := .int) (C := R_N) (T := F_N) (N := 2) hx hb hw i_N t_N t_N_ok n_N hown hK hP (kw_D hnd hAL) hS 2 rfl rfl 0 (by decide) (hw _ kb_32) (fun _ h9 => h9) rfl (by decide +kernel) rfl rfl (Nat.le_of_ble_eq_true rfl) d_N_write_17 (fun H locs hP _ hS => ?_)
    have hP : va_P (dC, dI) vwCl (kw cI cJ cR d ar nb ga ha oa lg tm (lf - (1 : Int32)) wr G) _ := hP
    refine lv_aload_n hx hb d_N_write_20 rfl (lv_at hl 0 rfl) ?_
    refine lv_dup hx hb d_N_write_21 rfl ?_
    refine va_get (D := (dC, dI)) (ci := 1) (v := .int wr) (C := R_N) (T := F_N) (N := 2) hx hb hw i_N hown hK hP 2 rfl rfl 1 (by decide) (hw _ kb_34) (fun _ h9 => h9) rfl d_N_write_22 ?_
    refine lv_iconst (v := 1) hx hb d_N_write_25 (by decide) ?_
    refine lv_iadd hx hb d_N_write_26 ?_
    refine va_put (D := (dC, dI)) (ci := 1) (v := .int (wr + (1 : Int32))) (ty := .int) (C := R_N) (T := F_N) (N := 2) hx hb hw i_N t_N t_N_ok n_N hown hK hP (kw_D hnd hAL) hS 2 rfl rfl 1 (by decide) (hw _ kb_34) (fun _ h9 => h9) rfl (by decide +kernel) rfl rfl (Nat.le_of_ble_eq_true rfl) d_N_write_27 (fun H locs hP _ hS => ?_)
    have hP : va_P (dC, dI) vwCl (kw cI cJ cR d ar nb ga ha oa lg tm (lf - (1 : Int32)) (wr + (1 : Int32)) G) _ := hP
    refine lv_iconst (v := 1) hx hb d_N_write_30 (by decide) ?_
    exact W.zret (v := 1) hx hb hr (by decide) (fun t ht hW => ⟨⟨_, (lg, tm, lf - (1 : Int32), wr + (1 : Int32), G), rfl, ⟨by first | (simp only [kn_write, if_pos c_1]; done) | (simp [kn_write, c_1]; done), by first | (simp only [kn_write, if_pos c_1]; done) | (simp [kn_write, c_1]; done)⟩, by show va_P _ _ _ t.heap; rw [ht]; exact hP⟩, hS.F ht⟩) hS.2.2 d_N_write_31
  · refine lv_iconst (v := 0) hx hb d_N_write_8 (by decide) ?_
    exact W.zret (v := 0) hx hb hr (by decide) (fun t ht hW => ⟨⟨_, (lg, tm, lf, wr, G), rfl, ⟨by first | (simp only [kn_write, if_neg c_1]; done) | (simp [kn_write, c_1]; done), by first | (simp only [kn_write, if_neg c_1]; done) | (simp [kn_write, c_1]; done)⟩, by show va_P _ _ _ t.heap; rw [ht]; exact hP⟩, hS.F ht⟩) hS.2.2 d_N_write_9
set_option maxHeartbeats 4000000 in
set_option maxRecDepth 100000 in
theorem c_G_has (l : Launch) {dC : Nat → ClassId} {dI : Nat → Nat → Nat} {cI cJ cR : ClassId} {d ar nb : Nat} {ga ha oa : Nat → Nat} (hnd : (kad d ar nb ga ha oa).Nodup) (lg tm lf wr : Int32) (G : Nat → kGV) {j : Nat} (hj : j < 8) (x0 x1 x2 x3 x4 : Int32) (x5 : Nat → Int32) (x6 : Nat → Int64) (p0 : Int32) (sz : Nat) : Met l y_G_has w_G_has ({ frames := 0, cells := 0, slots := 0, locals := 0 }) (kPre (dC, dI) vwCl (kty cI cJ cR) [.ref (ga j), .int p0] sz (kw cI cJ cR d ar nb ga ha oa lg tm lf wr (va_up G j (x0, x1, x2, x3, x4, x5, x6)))) (vp_Si (fun r => r = kg_has x2 p0)) 0 0 (fun _ => False) := by
  refine Met.ofW (cc := b_G_has) (maxL := 2) (ret := (some .boolean)) (by decide) rfl ?_
  intro p e s m args below meth c s₁ B hml hv
  obtain ⟨rfl, hsz, hP, hK⟩ := hv
  have hx := B.exec
  have hb := B.bytes
  have hr := B.returns
  have hts := atoms_spec (ws := w_G_has) B.pre
  have hw := fun (w : Cond) (h : w ∈ kb_B) => hts w (List.mem_cons_of_mem _ h)
  have hown : s.vm.findClass R_G = some m.cls := findClass_of_methodNamed B.named
  have hlocks := B.notSynchronized
  subst hsz
  have hl := lv_entry ([.ref (ga j), .int p0]) (n := 2) (Nat.le_of_ble_eq_true rfl)
  rw [lg_entry_eq]
  generalize (lg_sl ([.ref (ga j), .int p0]) ++ List.replicate (2 - (lg_sl ([.ref (ga j), .int p0])).length) Slot.unset).toArray = ls at hl ⊢
  have hl : lv_has ls 2 [(0, .ref (ga j)), (1, .int p0)] := hl
  refine lv_aload_n hx hb d_G_has_0 rfl (lv_at hl 0 rfl) ?_
  refine va_get (D := (dC, dI)) (ci := 2) (v := .int x2) (C := R_G) (T := F_G) (N := 7) hx hb hw i_G hown hK hP (3 * j + 3) (kw_gG hj) rfl 2 (by decide) (hw _ kb_56) (fun _ h9 => h9) rfl d_G_has_1 ?_
  refine lv_iconst (v := 1) hx hb d_G_has_4 (by decide) ?_
  refine lv_iload_n hx hb d_G_has_5 rfl (lv_at hl 1 rfl) ?_
  refine lv_ishl hx hb d_G_has_6 ?_
  refine lv_iand hx hb d_G_has_7 ?_
  refine lv_if_eq (tgt := 15) hx hb d_G_has_8 (by decide) (fun c_1 => ?_) (fun c_1 => ?_)
  · refine lv_iconst (v := 0) hx hb d_G_has_15 (by decide) ?_
    exact W.zret (v := 0) hx hb hr (by decide) (fun t ht hW => ⟨_, rfl, by first | (simp only [kg_has, if_pos c_1]; done) | (simp [kg_has, c_1]; done), ht⟩) (fun q h => by cases h) d_G_has_16
  · refine lv_iconst (v := 1) hx hb d_G_has_11 (by decide) ?_
    refine lv_goto (tgt := 16) hx hb d_G_has_12 (by decide) ?_
    exact W.zret (v := 1) hx hb hr (by decide) (fun t ht hW => ⟨_, rfl, by first | (simp only [kg_has, if_neg c_1]; done) | (simp [kg_has, c_1]; done), ht⟩) (fun q h => by cases h) d_G_has_16
set_option maxHeartbeats 4000000 in
set_option maxRecDepth 100000 in
theorem c_G_hasJoined (l : Launch) {dC : Nat → ClassId} {dI : Nat → Nat → Nat} {cI cJ cR : ClassId} {d ar nb : Nat} {ga ha oa : Nat → Nat} (hnd : (kad d ar nb ga ha oa).Nodup) (lg tm lf wr : Int32) (G : Nat → kGV) {j : Nat} (hj : j < 8) (x0 x1 x2 x3 x4 : Int32) (x5 : Nat → Int32) (x6 : Nat → Int64) (p0 : Int32) (sz : Nat) : Met l y_G_hasJoined w_G_hasJoined ({ frames := 0, cells := 0, slots := 0, locals := 0 }) (kPre (dC, dI) vwCl (kty cI cJ cR) [.ref (ga j), .int p0] sz (kw cI cJ cR d ar nb ga ha oa lg tm lf wr (va_up G j (x0, x1, x2, x3, x4, x5, x6)))) (vp_Si (fun r => r = kg_has x3 p0)) 0 0 (fun _ => False) := by
  refine Met.ofW (cc := b_G_hasJoined) (maxL := 2) (ret := (some .boolean)) (by decide) rfl ?_
  intro p e s m args below meth c s₁ B hml hv
  obtain ⟨rfl, hsz, hP, hK⟩ := hv
  have hx := B.exec
  have hb := B.bytes
  have hr := B.returns
  have hts := atoms_spec (ws := w_G_hasJoined) B.pre
  have hw := fun (w : Cond) (h : w ∈ kb_B) => hts w (List.mem_cons_of_mem _ h)
  have hown : s.vm.findClass R_G = some m.cls := findClass_of_methodNamed B.named
  have hlocks := B.notSynchronized
  subst hsz
  have hl := lv_entry ([.ref (ga j), .int p0]) (n := 2) (Nat.le_of_ble_eq_true rfl)
  rw [lg_entry_eq]
  generalize (lg_sl ([.ref (ga j), .int p0]) ++ List.replicate (2 - (lg_sl ([.ref (ga j), .int p0])).length) Slot.unset).toArray = ls at hl ⊢
  have hl : lv_has ls 2 [(0, .ref (ga j)), (1, .int p0)] := hl
  refine lv_aload_n hx hb d_G_hasJoined_0 rfl (lv_at hl 0 rfl) ?_
  refine va_get (D := (dC, dI)) (ci := 2) (v := .int x3) (C := R_G) (T := F_G) (N := 7) hx hb hw i_G hown hK hP (3 * j + 3) (kw_gG hj) rfl 3 (by decide) (hw _ kb_58) (fun _ h9 => h9) rfl d_G_hasJoined_1 ?_
  refine lv_iconst (v := 1) hx hb d_G_hasJoined_4 (by decide) ?_
  refine lv_iload_n hx hb d_G_hasJoined_5 rfl (lv_at hl 1 rfl) ?_
  refine lv_ishl hx hb d_G_hasJoined_6 ?_
  refine lv_iand hx hb d_G_hasJoined_7 ?_
  refine lv_if_eq (tgt := 15) hx hb d_G_hasJoined_8 (by decide) (fun c_1 => ?_) (fun c_1 => ?_)
  · refine lv_iconst (v := 0) hx hb d_G_hasJoined_15 (by decide) ?_
    exact W.zret (v := 0) hx hb hr (by decide) (fun t ht hW => ⟨_, rfl, by first | (simp only [kg_has, if_pos c_1]; done) | (simp [kg_has, c_1]; done), ht⟩) (fun q h => by cases h) d_G_hasJoined_16
  · refine lv_iconst (v := 1) hx hb d_G_hasJoined_11 (by decide) ?_
    refine lv_goto (tgt := 16) hx hb d_G_hasJoined_12 (by decide) ?_
    exact W.zret (v := 1) hx hb hr (by decide) (fun t ht hW => ⟨_, rfl, by first | (simp only [kg_has, if_neg c_1]; done) | (simp [kg_has, c_1]; done), ht⟩) (fun q h => by cases h) d_G_hasJoined_16
set_option maxHeartbeats 4000000 in
set_option maxRecDepth 100000 in
theorem c_G_clear (l : Launch) {dC : Nat → ClassId} {dI : Nat → Nat → Nat} {cI cJ cR : ClassId} {d ar nb : Nat} {ga ha oa : Nat → Nat} (hnd : (kad d ar nb ga ha oa).Nodup) (lg tm lf wr : Int32) (G : Nat → kGV) {j : Nat} (hj : j < 8) (x0 x1 x2 x3 x4 : Int32) (x5 : Nat → Int32) (x6 : Nat → Int64) (sz : Nat) : Met l y_G_clear w_G_clear ({ frames := 0, cells := 0, slots := 0, locals := 0 }) (kPre (dC, dI) vwCl (kty cI cJ cR) [.ref (ga j)] sz (kw cI cJ cR d ar nb ga ha oa lg tm lf wr (va_up G j (x0, x1, x2, x3, x4, x5, x6)))) (va_Qv (fun u : kDV => u = (lg, tm, lf, wr, va_up G j (kg_clear (x0, x1, x2, x3, x4, x5, x6)))) (fun u t => va_P (dC, dI) vwCl (kwv cI cJ cR d ar nb ga ha oa u) t.heap) (kA (kad d ar nb ga ha oa) sz)) 0 0 (kA (kad d ar nb ga ha oa) sz) := by
  refine Met.ofW (cc := b_G_clear) (maxL := 1) (ret := none) (by decide) rfl ?_
  intro p e s m args below meth c s₁ B hml hv
  obtain ⟨rfl, hsz, hP, hK⟩ := hv
  have hx := B.exec
  have hb := B.bytes
  have hr := B.returns
  have hts := atoms_spec (ws := w_G_clear) B.pre
  have hw := fun (w : Cond) (h : w ∈ kb_B) => hts w (List.mem_cons_of_mem _ h)
  have hown : s.vm.findClass R_G = some m.cls := findClass_of_methodNamed B.named
  have hlocks := B.notSynchronized
  subst hsz
  generalize hAe : kA (kad d ar nb ga ha oa) s.heap.size = A
  have hA : ∀ q : Nat, s.heap.size ≤ q → A q := fun q h => by rw [← hAe]; exact Or.inr h
  have hAL : ∀ q ∈ (kad d ar nb ga ha oa), A q := fun q h => by rw [← hAe]; exact Or.inl h
  have hS : va_S A s.heap s.heap [] := va_S.rf
  have hl := lv_entry ([.ref (ga j)]) (n := 1) (Nat.le_of_ble_eq_true rfl)
  rw [lg_entry_eq]
  generalize (lg_sl ([.ref (ga j)]) ++ List.replicate (1 - (lg_sl ([.ref (ga j)])).length) Slot.unset).toArray = ls at hl ⊢
  have hl : lv_has ls 1 [(0, .ref (ga j))] := hl
  refine lv_aload_n hx hb d_G_clear_0 rfl (lv_at hl 0 rfl) ?_
  refine lv_iconst (v := 0) hx hb d_G_clear_1 (by decide) ?_
  refine va_put (D := (dC, dI)) (ci := 2) (v := .int 0) (ty := .int) (C := R_G) (T := F_G) (N := 7) hx hb hw i_G t_G t_G_ok n_G hown hK hP (kw_D hnd hAL) hS (3 * j + 3) (kw_gG hj) rfl 1 (by decide) (hw _ kb_54) (fun _ h9 => h9) rfl (by decide +kernel) rfl rfl (Nat.le_of_ble_eq_true rfl) d_G_clear_2 (fun H locs hP _ hS => ?_)
  have hP : va_P (dC, dI) vwCl (kw cI cJ cR d ar nb ga ha oa lg tm lf wr (va_up G j (x0, 0, x2, x3, x4, x5, x6))) H := by rw [← kw_sG hj]; exact hP
  refine lv_aload_n hx hb d_G_clear_5 rfl (lv_at hl 0 rfl) ?_
  refine lv_iconst (v := 0) hx hb d_G_clear_6 (by decide) ?_
  refine va_put (D := (dC, dI)) (ci := 2) (v := .int 0) (ty := .int) (C := R_G) (T := F_G) (N := 7) hx hb hw i_G t_G t_G_ok n_G hown hK hP (kw_D hnd hAL) hS (3 * j + 3) (kw_gG hj) rfl 2 (by decide) (hw _ kb_56) (fun _ h9 => h9) rfl (by decide +kernel) rfl rfl (Nat.le_of_ble_eq_true rfl) d_G_clear_7 (fun H locs hP _ hS => ?_)
  have hP : va_P (dC, dI) vwCl (kw cI cJ cR d ar nb ga ha oa lg tm lf wr (va_up G j (x0, 0, 0, x3, x4, x5, x6))) H := by rw [← kw_sG hj]; exact hP
  refine lv_aload_n hx hb d_G_clear_10 rfl (lv_at hl 0 rfl) ?_
  refine lv_iconst (v := 0) hx hb d_G_clear_11 (by decide) ?_
  refine va_put (D := (dC, dI)) (ci := 2) (v := .int 0) (ty := .int) (C := R_G) (T := F_G) (N := 7) hx hb hw i_G t_G t_G_ok n_G hown hK hP (kw_D hnd hAL) hS (3 * j + 3) (kw_gG hj) rfl 3 (by decide) (hw _ kb_58) (fun _ h9 => h9) rfl (by decide +kernel) rfl rfl (Nat.le_of_ble_eq_true rfl) d_G_clear_12 (fun H locs hP _ hS => ?_)
  have hP : va_P (dC, dI) vwCl (kw cI cJ cR d ar nb ga ha oa lg tm lf wr (va_up G j (x0, 0, 0, 0, x4, x5, x6))) H := by rw [← kw_sG hj]; exact hP
  exact W.vret hx hb hr (fun t ht hW => ⟨⟨(lg, tm, lf, wr, (va_up G j (x0, 0, 0, 0, x4, x5, x6))), rfl, by first | (simp only [kg_clear]; done) | (simp [kg_clear]; done), by show va_P _ _ _ t.heap; rw [ht]; exact hP⟩, hS.F ht⟩) hS.2.2 d_G_clear_15
set_option maxHeartbeats 4000000 in
set_option maxRecDepth 100000 in
theorem c_G_mix (l : Launch) {dC : Nat → ClassId} {dI : Nat → Nat → Nat} {cI cJ cR : ClassId} {d ar nb : Nat} {ga ha oa : Nat → Nat} (hnd : (kad d ar nb ga ha oa).Nodup) (lg tm lf wr : Int32) (G : Nat → kGV) {j : Nat} (hj : j < 8) (x0 x1 x2 x3 x4 : Int32) (x5 : Nat → Int32) (x6 : Nat → Int64) (p0 : Int32) (sz : Nat) : Met l y_G_mix w_G_mix ({ frames := 0, cells := 0, slots := 0, locals := 0 }) (kPre (dC, dI) vwCl (kty cI cJ cR) [.ref (ga j), .int p0] sz (kw cI cJ cR d ar nb ga ha oa lg tm lf wr (va_up G j (x0, x1, x2, x3, x4, x5, x6)))) (va_Qv (fun u : kDV => u = (lg, tm, lf, wr, va_up G j (kg_mix p0 (x0, x1, x2, x3, x4, x5, x6)))) (fun u t => va_P (dC, dI) vwCl (kwv cI cJ cR d ar nb ga ha oa u) t.heap) (kA (kad d ar nb ga ha oa) sz)) 0 0 (kA (kad d ar nb ga ha oa) sz) := by
  refine Met.ofW (cc := b_G_mix) (maxL := 2) (ret := none) (by decide) rfl ?_
  intro p e s m args below meth c s₁ B hml hv
  obtain ⟨rfl, hsz, hP, hK⟩ := hv
  have hx := B.exec
  have hb := B.bytes
  have hr := B.returns
  have hts := atoms_spec (ws := w_G_mix) B.pre
  have hw := fun (w : Cond) (h : w ∈ kb_B) => hts w (List.mem_cons_of_mem _ h)
  have hown : s.vm.findClass R_G = some m.cls := findClass_of_methodNamed B.named
  have hlocks := B.notSynchronized
  subst hsz
  generalize hAe : kA (kad d ar nb ga ha oa) s.heap.size = A
  have hA : ∀ q : Nat, s.heap.size ≤ q → A q := fun q h => by rw [← hAe]; exact Or.inr h
  have hAL : ∀ q ∈ (kad d ar nb ga ha oa), A q := fun q h => by rw [← hAe]; exact Or.inl h
  have hS : va_S A s.heap s.heap [] := va_S.rf
  have hl := lv_entry ([.ref (ga j), .int p0]) (n := 2) (Nat.le_of_ble_eq_true rfl)
  rw [lg_entry_eq]
  generalize (lg_sl ([.ref (ga j), .int p0]) ++ List.replicate (2 - (lg_sl ([.ref (ga j), .int p0])).length) Slot.unset).toArray = ls at hl ⊢
  have hl : lv_has ls 2 [(0, .ref (ga j)), (1, .int p0)] := hl
  refine lv_aload_n hx hb d_G_mix_0 rfl (lv_at hl 0 rfl) ?_
  refine lv_iconst (v := 1) hx hb d_G_mix_1 (by decide) ?_
  refine va_put (D := (dC, dI)) (ci := 2) (v := .int 1) (ty := .int) (C := R_G) (T := F_G) (N := 7) hx hb hw i_G t_G t_G_ok n_G hown hK hP (kw_D hnd hAL) hS (3 * j + 3) (kw_gG hj) rfl 1 (by decide) (hw _ kb_54) (fun _ h9 => h9) rfl (by decide +kernel) rfl rfl (Nat.le_of_ble_eq_true rfl) d_G_mix_2 (fun H locs hP _ hS => ?_)
  have hP : va_P (dC, dI) vwCl (kw cI cJ cR d ar nb ga ha oa lg tm lf wr (va_up G j (x0, 1, x2, x3, x4, x5, x6))) H := by rw [← kw_sG hj]; exact hP
  refine lv_aload_n hx hb d_G_mix_5 rfl (lv_at hl 0 rfl) ?_
  refine lv_iconst (v := 0) hx hb d_G_mix_6 (by decide) ?_
  refine va_put (D := (dC, dI)) (ci := 2) (v := .int 0) (ty := .int) (C := R_G) (T := F_G) (N := 7) hx hb hw i_G t_G t_G_ok n_G hown hK hP (kw_D hnd hAL) hS (3 * j + 3) (kw_gG hj) rfl 3 (by decide) (hw _ kb_58) (fun _ h9 => h9) rfl (by decide +kernel) rfl rfl (Nat.le_of_ble_eq_true rfl) d_G_mix_7 (fun H locs hP _ hS => ?_)
  have hP : va_P (dC, dI) vwCl (kw cI cJ cR d ar nb ga ha oa lg tm lf wr (va_up G j (x0, 1, x2, 0, x4, x5, x6))) H := by rw [← kw_sG hj]; exact hP
  refine lv_aload_n hx hb d_G_mix_10 rfl (lv_at hl 0 rfl) ?_
  refine lv_iload_n hx hb d_G_mix_11 rfl (lv_at hl 1 rfl) ?_
  refine lv_bipush (v := 20) hx hb d_G_mix_12 (by decide) ?_
  refine lv_iadd hx hb d_G_mix_14 ?_
  refine va_put (D := (dC, dI)) (ci := 2) (v := .int (p0 + (20 : Int32))) (ty := .int) (C := R_G) (T := F_G) (N := 7) hx hb hw i_G t_G t_G_ok n_G hown hK hP (kw_D hnd hAL) hS (3 * j + 3) (kw_gG hj) rfl 4 (by decide) (hw _ kb_60) (fun _ h9 => h9) rfl (by decide +kernel) rfl rfl (Nat.le_of_ble_eq_true rfl) d_G_mix_15 (fun H locs hP _ hS => ?_)
  have hP : va_P (dC, dI) vwCl (kw cI cJ cR d ar nb ga ha oa lg tm lf wr (va_up G j (x0, 1, x2, 0, p0 + (20 : Int32), x5, x6))) H := by rw [← kw_sG hj]; exact hP
  exact W.vret hx hb hr (fun t ht hW => ⟨⟨(lg, tm, lf, wr, (va_up G j (x0, 1, x2, 0, p0 + (20 : Int32), x5, x6))), rfl, by first | (simp only [kg_mix]; done) | (simp [kg_mix]; done), by show va_P _ _ _ t.heap; rw [ht]; exact hP⟩, hS.F ht⟩) hS.2.2 d_G_mix_18
set_option maxHeartbeats 4000000 in
set_option maxRecDepth 100000 in
theorem c_G_takeIn (l : Launch) {dC : Nat → ClassId} {dI : Nat → Nat → Nat} {cI cJ cR : ClassId} {d ar nb : Nat} {ga ha oa : Nat → Nat} (hnd : (kad d ar nb ga ha oa).Nodup) (lg tm lf wr : Int32) (G : Nat → kGV) {j : Nat} (hj : j < 8) (x0 x1 x2 x3 x4 : Int32) (x5 : Nat → Int32) (x6 : Nat → Int64) (p0 : Int32) (p1 : Int32) (hp0 : vp_in p0 8) (sz : Nat) : Met l y_G_takeIn w_G_takeIn ({ frames := 1, cells := 0, slots := 0, locals := 30 }) (kPre (dC, dI) vwCl (kty cI cJ cR) [.ref (ga j), .int p0, .int p1] sz (kw cI cJ cR d ar nb ga ha oa lg tm lf wr (va_up G j (x0, x1, x2, x3, x4, x5, x6)))) (va_Qv (fun u : kDV => u = (lg, tm, lf, wr, va_up G j (kg_take p0 p1 (x0, x1, x2, x3, x4, x5, x6)))) (fun u t => va_P (dC, dI) vwCl (kwv cI cJ cR d ar nb ga ha oa u) t.heap) (kA (kad d ar nb ga ha oa) sz)) 0 0 (kA (kad d ar nb ga ha oa) sz) := by
  refine Met.ofW (cc := b_G_takeIn) (maxL := 3) (ret := none) (by decide) rfl ?_
  intro p e s m args below meth c s₁ B hml hv
  obtain ⟨rfl, hsz, hP, hK⟩ := hv
  have hx := B.exec
  have hb := B.bytes
  have hr := B.returns
  have hts := atoms_spec (ws := w_G_takeIn) B.pre
  have hw := fun (w : Cond) (h : w ∈ kb_B) => hts w (List.mem_cons_of_mem _ h)
  have hown : s.vm.findClass R_G = some m.cls := findClass_of_methodNamed B.named
  have hlocks := B.notSynchronized
  subst hsz
  generalize hAe : kA (kad d ar nb ga ha oa) s.heap.size = A
  have hA : ∀ q : Nat, s.heap.size ≤ q → A q := fun q h => by rw [← hAe]; exact Or.inr h
  have hAL : ∀ q ∈ (kad d ar nb ga ha oa), A q := fun q h => by rw [← hAe]; exact Or.inl h
  have hS : va_S A s.heap s.heap [] := va_S.rf
  have hl := lv_entry ([.ref (ga j), .int p0, .int p1]) (n := 3) (Nat.le_of_ble_eq_true rfl)
  rw [lg_entry_eq]
  generalize (lg_sl ([.ref (ga j), .int p0, .int p1]) ++ List.replicate (3 - (lg_sl ([.ref (ga j), .int p0, .int p1])).length) Slot.unset).toArray = ls at hl ⊢
  have hl : lv_has ls 3 [(0, .ref (ga j)), (1, .int p0), (2, .int p1)] := hl
  refine lv_aload_n hx hb d_G_takeIn_0 rfl (lv_at hl 0 rfl) ?_
  refine va_get (D := (dC, dI)) (ci := 2) (v := .int x1) (C := R_G) (T := F_G) (N := 7) hx hb hw i_G hown hK hP (3 * j + 3) (kw_gG hj) rfl 1 (by decide) (hw _ kb_54) (fun _ h9 => h9) rfl d_G_takeIn_1 ?_
  refine lv_iconst (v := 1) hx hb d_G_takeIn_4 (by decide) ?_
  refine lv_icmp_eq (tgt := 13) hx hb d_G_takeIn_5 (by decide) (fun c_1 => ?_) (fun c_1 => ?_)
  · refine lv_aload_n hx hb d_G_takeIn_13 rfl (lv_at hl 0 rfl) ?_
    refine lv_dup hx hb d_G_takeIn_14 rfl ?_
    refine va_get (D := (dC, dI)) (ci := 2) (v := .int x2) (C := R_G) (T := F_G) (N := 7) hx hb hw i_G hown hK hP (3 * j + 3) (kw_gG hj) rfl 2 (by decide) (hw _ kb_56) (fun _ h9 => h9) rfl d_G_takeIn_15 ?_
    refine lv_iconst (v := 1) hx hb d_G_takeIn_18 (by decide) ?_
    refine lv_iload_n hx hb d_G_takeIn_19 rfl (lv_at hl 1 rfl) ?_
    refine lv_ishl hx hb d_G_takeIn_20 ?_
    refine lv_ior hx hb d_G_takeIn_21 ?_
    refine va_put (D := (dC, dI)) (ci := 2) (v := .int (x2 ||| ((1 : Int32) <<< (p0 &&& 31)))) (ty := .int) (C := R_G) (T := F_G) (N := 7) hx hb hw i_G t_G t_G_ok n_G hown hK hP (kw_D hnd hAL) hS (3 * j + 3) (kw_gG hj) rfl 2 (by decide) (hw _ kb_56) (fun _ h9 => h9) rfl (by decide +kernel) rfl rfl (Nat.le_of_ble_eq_true rfl) d_G_takeIn_22 (fun H locs hP _ hS => ?_)
    have hP : va_P (dC, dI) vwCl (kw cI cJ cR d ar nb ga ha oa lg tm lf wr (va_up G j (x0, x1, x2 ||| ((1 : Int32) <<< (p0 &&& 31)), x3, x4, x5, x6))) H := by rw [← kw_sG hj]; exact hP
    refine lv_aload_n hx hb d_G_takeIn_25 rfl (lv_at hl 0 rfl) ?_
    refine lv_dup hx hb d_G_takeIn_26 rfl ?_
    refine va_get (D := (dC, dI)) (ci := 2) (v := .int x3) (C := R_G) (T := F_G) (N := 7) hx hb hw i_G hown hK hP (3 * j + 3) (kw_gG hj) rfl 3 (by decide) (hw _ kb_58) (fun _ h9 => h9) rfl d_G_takeIn_27 ?_
    refine lv_iconst (v := 1) hx hb d_G_takeIn_30 (by decide) ?_
    refine lv_iload_n hx hb d_G_takeIn_31 rfl (lv_at hl 1 rfl) ?_
    refine lv_ishl hx hb d_G_takeIn_32 ?_
    refine lv_ior hx hb d_G_takeIn_33 ?_
    refine va_put (D := (dC, dI)) (ci := 2) (v := .int (x3 ||| ((1 : Int32) <<< (p0 &&& 31)))) (ty := .int) (C := R_G) (T := F_G) (N := 7) hx hb hw i_G t_G t_G_ok n_G hown hK hP (kw_D hnd hAL) hS (3 * j + 3) (kw_gG hj) rfl 3 (by decide) (hw _ kb_58) (fun _ h9 => h9) rfl (by decide +kernel) rfl rfl (Nat.le_of_ble_eq_true rfl) d_G_takeIn_34 (fun H locs hP _ hS => ?_)
    have hP : va_P (dC, dI) vwCl (kw cI cJ cR d ar nb ga ha oa lg tm lf wr (va_up G j (x0, x1, x2 ||| ((1 : Int32) <<< (p0 &&& 31)), x3 ||| ((1 : Int32) <<< (p0 &&& 31)), x4, x5, x6))) H := by rw [← kw_sG hj]; exact hP
    refine lv_aload_n hx hb d_G_takeIn_37 rfl (lv_at hl 0 rfl) ?_
    refine va_get (D := (dC, dI)) (ci := 2) (v := .ref (ha j)) (C := R_G) (T := F_G) (N := 7) hx hb hw i_G hown hK hP (3 * j + 3) (kw_gG hj) rfl 5 (by decide) (hw _ kb_61) (fun _ h9 => h9) rfl d_G_takeIn_38 ?_
    refine lv_iload_n hx hb d_G_takeIn_41 rfl (lv_at hl 1 rfl) ?_
    refine lv_iload_n hx hb d_G_takeIn_42 rfl (lv_at hl 2 rfl) ?_
    refine va_iast hx hb hK hP (kw_D hnd hAL) hS (3 * j + 4) 0 (kw_gH hj) rfl hp0 d_G_takeIn_43 (fun H locs hP _ hS => ?_)
    have hP : va_P (dC, dI) vwCl (kw cI cJ cR d ar nb ga ha oa lg tm lf wr (va_up G j (x0, x1, x2 ||| ((1 : Int32) <<< (p0 &&& 31)), x3 ||| ((1 : Int32) <<< (p0 &&& 31)), x4, upd x5 p0.toNatClampNeg p1, x6))) H := by rw [← kw_sH hj]; exact hP
    exact W.vret hx hb hr (fun t ht hW => ⟨⟨(lg, tm, lf, wr, (va_up G j (x0, x1, x2 ||| ((1 : Int32) <<< (p0 &&& 31)), x3 ||| ((1 : Int32) <<< (p0 &&& 31)), x4, upd x5 p0.toNatClampNeg p1, x6))), rfl, by first | (simp only [kg_take, kg_in, kg_mix, if_pos c_1]; done) | (simp [kg_take, kg_in, kg_mix, c_1]; done), by show va_P _ _ _ t.heap; rw [ht]; exact hP⟩, hS.F ht⟩) hS.2.2 d_G_takeIn_44
  · refine lv_aload_n hx hb d_G_takeIn_8 rfl (lv_at hl 0 rfl) ?_
    refine lv_iload_n hx hb d_G_takeIn_9 rfl (lv_at hl 2 rfl) ?_
    refine kc_v (Wd := kwv cI cJ cR d ar nb ga ha oa) (va_runV (As := [.int p1]) (rest := []) ⟨hx, hb, hml, hown, hw⟩ (c_G_mix l hnd lg tm lf wr G hj x0 x1 x2 x3 x4 x5 x6 p1 _) (cwV 1 hw (kb_V kb_203 kb_204 kb_205 kb_4 kb_206) rfl rfl rfl (by decide +kernel) ⟨Nat.le_of_ble_eq_true rfl, Nat.le_of_ble_eq_true rfl⟩) (kPV (va_recv hK hP (ci := 2) (q0 := (3 * j + 3)) rfl (kw_gG hj)) hP hK) rfl rfl hl.1 rfl (lv_room (Nat.le_of_ble_eq_true rfl)) d_G_takeIn_10 ⟨Nat.le_of_ble_eq_true rfl, Nat.le_of_ble_eq_true rfl⟩) hS hA hAL (fun u_1 H locs hw hP _ _ hS => ?_)
    subst hw
    have hP : va_P (dC, dI) vwCl (kw cI cJ cR d ar nb ga ha oa lg tm lf wr (va_up G j (x0, 1, x2, 0, p1 + 20, x5, x6))) _ := hP
    refine lv_aload_n hx hb d_G_takeIn_13 rfl (lv_at hl 0 rfl) ?_
    refine lv_dup hx hb d_G_takeIn_14 rfl ?_
    refine va_get (D := (dC, dI)) (ci := 2) (v := .int x2) (C := R_G) (T := F_G) (N := 7) hx hb hw i_G hown hK hP (3 * j + 3) (kw_gG hj) rfl 2 (by decide) (hw _ kb_56) (fun _ h9 => h9) rfl d_G_takeIn_15 ?_
    refine lv_iconst (v := 1) hx hb d_G_takeIn_18 (by decide) ?_
    refine lv_iload_n hx hb d_G_takeIn_19 rfl (lv_at hl 1 rfl) ?_
    refine lv_ishl hx hb d_G_takeIn_20 ?_
    refine lv_ior hx hb d_G_takeIn_21 ?_
    refine va_put (D := (dC, dI)) (ci := 2) (v := .int (x2 ||| ((1 : Int32) <<< (p0 &&& 31)))) (ty := .int) (C := R_G) (T := F_G) (N := 7) hx hb hw i_G t_G t_G_ok n_G hown hK hP (kw_D hnd hAL) hS (3 * j + 3) (kw_gG hj) rfl 2 (by decide) (hw _ kb_56) (fun _ h9 => h9) rfl (by decide +kernel) rfl rfl (Nat.le_of_ble_eq_true rfl) d_G_takeIn_22 (fun H locs hP _ hS => ?_)
    have hP : va_P (dC, dI) vwCl (kw cI cJ cR d ar nb ga ha oa lg tm lf wr (va_up G j (x0, 1, x2 ||| ((1 : Int32) <<< (p0 &&& 31)), 0, p1 + 20, x5, x6))) H := by rw [← kw_sG hj]; exact hP
    refine lv_aload_n hx hb d_G_takeIn_25 rfl (lv_at hl 0 rfl) ?_
    refine lv_dup hx hb d_G_takeIn_26 rfl ?_
    refine va_get (D := (dC, dI)) (ci := 2) (v := .int 0) (C := R_G) (T := F_G) (N := 7) hx hb hw i_G hown hK hP (3 * j + 3) (kw_gG hj) rfl 3 (by decide) (hw _ kb_58) (fun _ h9 => h9) rfl d_G_takeIn_27 ?_
    refine lv_iconst (v := 1) hx hb d_G_takeIn_30 (by decide) ?_
    refine lv_iload_n hx hb d_G_takeIn_31 rfl (lv_at hl 1 rfl) ?_
    refine lv_ishl hx hb d_G_takeIn_32 ?_
    refine lv_ior hx hb d_G_takeIn_33 ?_
    refine va_put (D := (dC, dI)) (ci := 2) (v := .int ((0 : Int32) ||| ((1 : Int32) <<< (p0 &&& 31)))) (ty := .int) (C := R_G) (T := F_G) (N := 7) hx hb hw i_G t_G t_G_ok n_G hown hK hP (kw_D hnd hAL) hS (3 * j + 3) (kw_gG hj) rfl 3 (by decide) (hw _ kb_58) (fun _ h9 => h9) rfl (by decide +kernel) rfl rfl (Nat.le_of_ble_eq_true rfl) d_G_takeIn_34 (fun H locs hP _ hS => ?_)
    have hP : va_P (dC, dI) vwCl (kw cI cJ cR d ar nb ga ha oa lg tm lf wr (va_up G j (x0, 1, x2 ||| ((1 : Int32) <<< (p0 &&& 31)), (0 : Int32) ||| ((1 : Int32) <<< (p0 &&& 31)), p1 + 20, x5, x6))) H := by rw [← kw_sG hj]; exact hP
    refine lv_aload_n hx hb d_G_takeIn_37 rfl (lv_at hl 0 rfl) ?_
    refine va_get (D := (dC, dI)) (ci := 2) (v := .ref (ha j)) (C := R_G) (T := F_G) (N := 7) hx hb hw i_G hown hK hP (3 * j + 3) (kw_gG hj) rfl 5 (by decide) (hw _ kb_61) (fun _ h9 => h9) rfl d_G_takeIn_38 ?_
    refine lv_iload_n hx hb d_G_takeIn_41 rfl (lv_at hl 1 rfl) ?_
    refine lv_iload_n hx hb d_G_takeIn_42 rfl (lv_at hl 2 rfl) ?_
    refine va_iast hx hb hK hP (kw_D hnd hAL) hS (3 * j + 4) 0 (kw_gH hj) rfl hp0 d_G_takeIn_43 (fun H locs hP _ hS => ?_)
    have hP : va_P (dC, dI) vwCl (kw cI cJ cR d ar nb ga ha oa lg tm lf wr (va_up G j (x0, 1, x2 ||| ((1 : Int32) <<< (p0 &&& 31)), (0 : Int32) ||| ((1 : Int32) <<< (p0 &&& 31)), p1 + 20, upd x5 p0.toNatClampNeg p1, x6))) H := by rw [← kw_sH hj]; exact hP
    exact W.vret hx hb hr (fun t ht hW => ⟨⟨(lg, tm, lf, wr, (va_up G j (x0, 1, x2 ||| ((1 : Int32) <<< (p0 &&& 31)), (0 : Int32) ||| ((1 : Int32) <<< (p0 &&& 31)), p1 + 20, upd x5 p0.toNatClampNeg p1, x6))), rfl, by first | (simp only [kg_take, kg_in, kg_mix, if_neg c_1]; done) | (simp [kg_take, kg_in, kg_mix, c_1]; done), by show va_P _ _ _ t.heap; rw [ht]; exact hP⟩, hS.F ht⟩) hS.2.2 d_G_takeIn_44
set_option maxHeartbeats 4000000 in
set_option maxRecDepth 100000 in
theorem c_G_putOut (l : Launch) {dC : Nat → ClassId} {dI : Nat → Nat → Nat} {cI cJ cR : ClassId} {d ar nb : Nat} {ga ha oa : Nat → Nat} (hnd : (kad d ar nb ga ha oa).Nodup) (lg tm lf wr : Int32) (G : Nat → kGV) {j : Nat} (hj : j < 8) (x0 x1 x2 x3 x4 : Int32) (x5 : Nat → Int32) (x6 : Nat → Int64) (p0 : Int32) (p1 : Int32) (sz : Nat) : Met l y_G_putOut w_G_putOut ({ frames := 1, cells := 0, slots := 0, locals := 30 }) (kPre (dC, dI) vwCl (kty cI cJ cR) [.ref (ga j), .int p0, .int p1] sz (kw cI cJ cR d ar nb ga ha oa lg tm lf wr (va_up G j (x0, x1, x2, x3, x4, x5, x6)))) (va_Qv (fun u : kDV => u = (lg, tm, lf, wr, va_up G j (kg_out p0 p1 (x0, x1, x2, x3, x4, x5, x6)))) (fun u t => va_P (dC, dI) vwCl (kwv cI cJ cR d ar nb ga ha oa u) t.heap) (kA (kad d ar nb ga ha oa) sz)) 0 0 (kA (kad d ar nb ga ha oa) sz) := by
  refine Met.ofW (cc := b_G_putOut) (maxL := 3) (ret := none) (by decide) rfl ?_
  intro p e s m args below meth c s₁ B hml hv
  obtain ⟨rfl, hsz, hP, hK⟩ := hv
  have hx := B.exec
  have hb := B.bytes
  have hr := B.returns
  have hts := atoms_spec (ws := w_G_putOut) B.pre
  have hw := fun (w : Cond) (h : w ∈ kb_B) => hts w (List.mem_cons_of_mem _ h)
  have hown : s.vm.findClass R_G = some m.cls := findClass_of_methodNamed B.named
  have hlocks := B.notSynchronized
  subst hsz
  generalize hAe : kA (kad d ar nb ga ha oa) s.heap.size = A
  have hA : ∀ q : Nat, s.heap.size ≤ q → A q := fun q h => by rw [← hAe]; exact Or.inr h
  have hAL : ∀ q ∈ (kad d ar nb ga ha oa), A q := fun q h => by rw [← hAe]; exact Or.inl h
  have hS : va_S A s.heap s.heap [] := va_S.rf
  have hl := lv_entry ([.ref (ga j), .int p0, .int p1]) (n := 3) (Nat.le_of_ble_eq_true rfl)
  rw [lg_entry_eq]
  generalize (lg_sl ([.ref (ga j), .int p0, .int p1]) ++ List.replicate (3 - (lg_sl ([.ref (ga j), .int p0, .int p1])).length) Slot.unset).toArray = ls at hl ⊢
  have hl : lv_has ls 3 [(0, .ref (ga j)), (1, .int p0), (2, .int p1)] := hl
  refine lv_aload_n hx hb d_G_putOut_0 rfl (lv_at hl 0 rfl) ?_
  refine lv_dup hx hb d_G_putOut_1 rfl ?_
  refine va_get (D := (dC, dI)) (ci := 2) (v := .int x2) (C := R_G) (T := F_G) (N := 7) hx hb hw i_G hown hK hP (3 * j + 3) (kw_gG hj) rfl 2 (by decide) (hw _ kb_56) (fun _ h9 => h9) rfl d_G_putOut_2 ?_
  refine lv_iload_n hx hb d_G_putOut_5 rfl (lv_at hl 1 rfl) ?_
  refine lv_iconst (v := (-1)) hx hb d_G_putOut_6 (by decide) ?_
  refine lv_ixor hx hb d_G_putOut_7 ?_
  refine lv_iand hx hb d_G_putOut_8 ?_
  refine va_put (D := (dC, dI)) (ci := 2) (v := .int (x2 &&& (p0 ^^^ (-1 : Int32)))) (ty := .int) (C := R_G) (T := F_G) (N := 7) hx hb hw i_G t_G t_G_ok n_G hown hK hP (kw_D hnd hAL) hS (3 * j + 3) (kw_gG hj) rfl 2 (by decide) (hw _ kb_56) (fun _ h9 => h9) rfl (by decide +kernel) rfl rfl (Nat.le_of_ble_eq_true rfl) d_G_putOut_9 (fun H locs hP _ hS => ?_)
  have hP : va_P (dC, dI) vwCl (kw cI cJ cR d ar nb ga ha oa lg tm lf wr (va_up G j (x0, x1, x2 &&& (p0 ^^^ (-1 : Int32)), x3, x4, x5, x6))) H := by rw [← kw_sG hj]; exact hP
  refine lv_aload_n hx hb d_G_putOut_12 rfl (lv_at hl 0 rfl) ?_
  refine lv_dup hx hb d_G_putOut_13 rfl ?_
  refine va_get (D := (dC, dI)) (ci := 2) (v := .int x3) (C := R_G) (T := F_G) (N := 7) hx hb hw i_G hown hK hP (3 * j + 3) (kw_gG hj) rfl 3 (by decide) (hw _ kb_58) (fun _ h9 => h9) rfl d_G_putOut_14 ?_
  refine lv_iload_n hx hb d_G_putOut_17 rfl (lv_at hl 1 rfl) ?_
  refine lv_iconst (v := (-1)) hx hb d_G_putOut_18 (by decide) ?_
  refine lv_ixor hx hb d_G_putOut_19 ?_
  refine lv_iand hx hb d_G_putOut_20 ?_
  refine va_put (D := (dC, dI)) (ci := 2) (v := .int (x3 &&& (p0 ^^^ (-1 : Int32)))) (ty := .int) (C := R_G) (T := F_G) (N := 7) hx hb hw i_G t_G t_G_ok n_G hown hK hP (kw_D hnd hAL) hS (3 * j + 3) (kw_gG hj) rfl 3 (by decide) (hw _ kb_58) (fun _ h9 => h9) rfl (by decide +kernel) rfl rfl (Nat.le_of_ble_eq_true rfl) d_G_putOut_21 (fun H locs hP _ hS => ?_)
  have hP : va_P (dC, dI) vwCl (kw cI cJ cR d ar nb ga ha oa lg tm lf wr (va_up G j (x0, x1, x2 &&& (p0 ^^^ (-1 : Int32)), x3 &&& (p0 ^^^ (-1 : Int32)), x4, x5, x6))) H := by rw [← kw_sG hj]; exact hP
  refine lv_aload_n hx hb d_G_putOut_24 rfl (lv_at hl 0 rfl) ?_
  refine va_get (D := (dC, dI)) (ci := 2) (v := .int (x2 &&& (p0 ^^^ (-1 : Int32)))) (C := R_G) (T := F_G) (N := 7) hx hb hw i_G hown hK hP (3 * j + 3) (kw_gG hj) rfl 2 (by decide) (hw _ kb_56) (fun _ h9 => h9) rfl d_G_putOut_25 ?_
  refine lv_if_ne (tgt := 38) hx hb d_G_putOut_28 (by decide) (fun c_1 => ?_) (fun c_1 => ?_)
  · refine lv_aload_n hx hb d_G_putOut_38 rfl (lv_at hl 0 rfl) ?_
    refine va_get (D := (dC, dI)) (ci := 2) (v := .int x1) (C := R_G) (T := F_G) (N := 7) hx hb hw i_G hown hK hP (3 * j + 3) (kw_gG hj) rfl 1 (by decide) (hw _ kb_54) (fun _ h9 => h9) rfl d_G_putOut_39 ?_
    refine lv_iconst (v := 2) hx hb d_G_putOut_42 (by decide) ?_
    refine lv_icmp_ne (tgt := 51) hx hb d_G_putOut_43 (by decide) (fun c_2 => ?_) (fun c_2 => ?_)
    · exact W.vret hx hb hr (fun t ht hW => ⟨⟨(lg, tm, lf, wr, (va_up G j (x0, x1, x2 &&& (p0 ^^^ (-1 : Int32)), x3 &&& (p0 ^^^ (-1 : Int32)), x4, x5, x6))), rfl, by first | (simp only [kg_out, kg_rid, kg_clear, kg_mix, if_neg c_1, if_neg c_2]; done) | (simp [kg_out, kg_rid, kg_clear, kg_mix, c_1, c_2]; done), by show va_P _ _ _ t.heap; rw [ht]; exact hP⟩, hS.F ht⟩) hS.2.2 d_G_putOut_51
    · refine lv_aload_n hx hb d_G_putOut_46 rfl (lv_at hl 0 rfl) ?_
      refine lv_iload_n hx hb d_G_putOut_47 rfl (lv_at hl 2 rfl) ?_
      refine kc_v (Wd := kwv cI cJ cR d ar nb ga ha oa) (va_runV (As := [.int p1]) (rest := []) ⟨hx, hb, hml, hown, hw⟩ (c_G_mix l hnd lg tm lf wr G hj x0 x1 (x2 &&& (p0 ^^^ (-1 : Int32))) (x3 &&& (p0 ^^^ (-1 : Int32))) x4 x5 x6 p1 _) (cwV 1 hw (kb_V kb_203 kb_204 kb_205 kb_4 kb_206) rfl rfl rfl (by decide +kernel) ⟨Nat.le_of_ble_eq_true rfl, Nat.le_of_ble_eq_true rfl⟩) (kPV (va_recv hK hP (ci := 2) (q0 := (3 * j + 3)) rfl (kw_gG hj)) hP hK) rfl rfl hl.1 rfl (lv_room (Nat.le_of_ble_eq_true rfl)) d_G_putOut_48 ⟨Nat.le_of_ble_eq_true rfl, Nat.le_of_ble_eq_true rfl⟩) hS hA hAL (fun u_1 H locs hw hP _ _ hS => ?_)
      subst hw
      have hP : va_P (dC, dI) vwCl (kw cI cJ cR d ar nb ga ha oa lg tm lf wr (va_up G j (x0, 1, x2 &&& (p0 ^^^ (-1 : Int32)), 0, p1 + 20, x5, x6))) _ := hP
      exact W.vret hx hb hr (fun t ht hW => ⟨⟨(lg, tm, lf, wr, (va_up G j (x0, 1, x2 &&& (p0 ^^^ (-1 : Int32)), 0, p1 + 20, x5, x6))), rfl, by first | (simp only [kg_out, kg_rid, kg_clear, kg_mix, if_neg c_1, if_pos c_2]; done) | (simp [kg_out, kg_rid, kg_clear, kg_mix, c_1, c_2]; done), by show va_P _ _ _ t.heap; rw [ht]; exact hP⟩, hS.F ht⟩) hS.2.2 d_G_putOut_51
  · refine lv_aload_n hx hb d_G_putOut_31 rfl (lv_at hl 0 rfl) ?_
    refine kc_v (Wd := kwv cI cJ cR d ar nb ga ha oa) (va_runV (As := []) (rest := []) ⟨hx, hb, hml, hown, hw⟩ (c_G_clear l hnd lg tm lf wr G hj x0 x1 (x2 &&& (p0 ^^^ (-1 : Int32))) (x3 &&& (p0 ^^^ (-1 : Int32))) x4 x5 x6 _) (cwV 0 hw (kb_V kb_211 kb_106 kb_107 kb_4 kb_108) rfl rfl rfl (by decide +kernel) ⟨Nat.le_of_ble_eq_true rfl, Nat.le_of_ble_eq_true rfl⟩) (kPV (va_recv hK hP (ci := 2) (q0 := (3 * j + 3)) rfl (kw_gG hj)) hP hK) rfl rfl hl.1 rfl (lv_room (Nat.le_of_ble_eq_true rfl)) d_G_putOut_32 ⟨Nat.le_of_ble_eq_true rfl, Nat.le_of_ble_eq_true rfl⟩) hS hA hAL (fun u_3 H locs hw hP _ _ hS => ?_)
    subst hw
    have hP : va_P (dC, dI) vwCl (kw cI cJ cR d ar nb ga ha oa lg tm lf wr (va_up G j (x0, 0, 0, 0, x4, x5, x6))) _ := hP
    refine lv_goto (tgt := 51) hx hb d_G_putOut_35 (by decide) ?_
    exact W.vret hx hb hr (fun t ht hW => ⟨⟨(lg, tm, lf, wr, (va_up G j (x0, 0, 0, 0, x4, x5, x6))), rfl, by first | (simp only [kg_out, kg_rid, kg_clear, kg_mix, if_pos c_1]; done) | (simp [kg_out, kg_rid, kg_clear, kg_mix, c_1]; done) | (rw [kg_out, if_pos (show (kg_rid p0 (x0, x1, x2, x3, x4, x5, x6)).2.2.1 = 0 from c_1)]; rfl), by show va_P _ _ _ t.heap; rw [ht]; exact hP⟩, hS.F ht⟩) hS.2.2 d_G_putOut_51
set_option maxHeartbeats 4000000 in
set_option maxRecDepth 100000 in
theorem c_G_settle (l : Launch) {dC : Nat → ClassId} {dI : Nat → Nat → Nat} {cI cJ cR : ClassId} {d ar nb : Nat} {ga ha oa : Nat → Nat} (hnd : (kad d ar nb ga ha oa).Nodup) (lg tm lf wr : Int32) (G : Nat → kGV) {j : Nat} (hj : j < 8) (x0 x1 x2 x3 x4 : Int32) (x5 : Nat → Int32) (x6 : Nat → Int64) (p0 : Int32) (sz : Nat) : Met l y_G_settle w_G_settle ({ frames := 1, cells := 0, slots := 0, locals := 30 }) (kPre (dC, dI) vwCl (kty cI cJ cR) [.ref (ga j), .int p0] sz (kw cI cJ cR d ar nb ga ha oa lg tm lf wr (va_up G j (x0, x1, x2, x3, x4, x5, x6)))) (va_Qv (fun u : kDV => u = (lg, tm, lf, wr, va_up G j (kg_settle p0 (x0, x1, x2, x3, x4, x5, x6)))) (fun u t => va_P (dC, dI) vwCl (kwv cI cJ cR d ar nb ga ha oa u) t.heap) (kA (kad d ar nb ga ha oa) sz)) 0 0 (kA (kad d ar nb ga ha oa) sz) := by
  refine Met.ofW (cc := b_G_settle) (maxL := 2) (ret := none) (by decide) rfl ?_
  intro p e s m args below meth c s₁ B hml hv
  obtain ⟨rfl, hsz, hP, hK⟩ := hv
  have hx := B.exec
  have hb := B.bytes
  have hr := B.returns
  have hts := atoms_spec (ws := w_G_settle) B.pre
  have hw := fun (w : Cond) (h : w ∈ kb_B) => hts w (List.mem_cons_of_mem _ h)
  have hown : s.vm.findClass R_G = some m.cls := findClass_of_methodNamed B.named
  have hlocks := B.notSynchronized
  subst hsz
  generalize hAe : kA (kad d ar nb ga ha oa) s.heap.size = A
  have hA : ∀ q : Nat, s.heap.size ≤ q → A q := fun q h => by rw [← hAe]; exact Or.inr h
  have hAL : ∀ q ∈ (kad d ar nb ga ha oa), A q := fun q h => by rw [← hAe]; exact Or.inl h
  have hS : va_S A s.heap s.heap [] := va_S.rf
  have hl := lv_entry ([.ref (ga j), .int p0]) (n := 2) (Nat.le_of_ble_eq_true rfl)
  rw [lg_entry_eq]
  generalize (lg_sl ([.ref (ga j), .int p0]) ++ List.replicate (2 - (lg_sl ([.ref (ga j), .int p0])).length) Slot.unset).toArray = ls at hl ⊢
  have hl : lv_has ls 2 [(0, .ref (ga j)), (1, .int p0)] := hl
  refine lv_aload_n hx hb d_G_settle_0 rfl (lv_at hl 0 rfl) ?_
  refine lv_dup hx hb d_G_settle_1 rfl ?_
  refine va_get (D := (dC, dI)) (ci := 2) (v := .int x0) (C := R_G) (T := F_G) (N := 7) hx hb hw i_G hown hK hP (3 * j + 3) (kw_gG hj) rfl 0 (by decide) (hw _ kb_53) (fun _ h9 => h9) rfl d_G_settle_2 ?_
  refine lv_iconst (v := 1) hx hb d_G_settle_5 (by decide) ?_
  refine lv_iadd hx hb d_G_settle_6 ?_
  refine va_put (D := (dC, dI)) (ci := 2) (v := .int (x0 + (1 : Int32))) (ty := .int) (C := R_G) (T := F_G) (N := 7) hx hb hw i_G t_G t_G_ok n_G hown hK hP (kw_D hnd hAL) hS (3 * j + 3) (kw_gG hj) rfl 0 (by decide) (hw _ kb_53) (fun _ h9 => h9) rfl (by decide +kernel) rfl rfl (Nat.le_of_ble_eq_true rfl) d_G_settle_7 (fun H locs hP _ hS => ?_)
  have hP : va_P (dC, dI) vwCl (kw cI cJ cR d ar nb ga ha oa lg tm lf wr (va_up G j (x0 + (1 : Int32), x1, x2, x3, x4, x5, x6))) H := by rw [← kw_sG hj]; exact hP
  refine lv_aload_n hx hb d_G_settle_10 rfl (lv_at hl 0 rfl) ?_
  refine lv_iconst (v := 2) hx hb d_G_settle_11 (by decide) ?_
  refine va_put (D := (dC, dI)) (ci := 2) (v := .int 2) (ty := .int) (C := R_G) (T := F_G) (N := 7) hx hb hw i_G t_G t_G_ok n_G hown hK hP (kw_D hnd hAL) hS (3 * j + 3) (kw_gG hj) rfl 1 (by decide) (hw _ kb_54) (fun _ h9 => h9) rfl (by decide +kernel) rfl rfl (Nat.le_of_ble_eq_true rfl) d_G_settle_12 (fun H locs hP _ hS => ?_)
  have hP : va_P (dC, dI) vwCl (kw cI cJ cR d ar nb ga ha oa lg tm lf wr (va_up G j (x0 + (1 : Int32), 2, x2, x3, x4, x5, x6))) H := by rw [← kw_sG hj]; exact hP
  refine lv_aload_n hx hb d_G_settle_15 rfl (lv_at hl 0 rfl) ?_
  refine lv_aload_n hx hb d_G_settle_16 rfl (lv_at hl 0 rfl) ?_
  refine va_get (D := (dC, dI)) (ci := 2) (v := .int x3) (C := R_G) (T := F_G) (N := 7) hx hb hw i_G hown hK hP (3 * j + 3) (kw_gG hj) rfl 3 (by decide) (hw _ kb_58) (fun _ h9 => h9) rfl d_G_settle_17 ?_
  refine va_put (D := (dC, dI)) (ci := 2) (v := .int x3) (ty := .int) (C := R_G) (T := F_G) (N := 7) hx hb hw i_G t_G t_G_ok n_G hown hK hP (kw_D hnd hAL) hS (3 * j + 3) (kw_gG hj) rfl 2 (by decide) (hw _ kb_56) (fun _ h9 => h9) rfl (by decide +kernel) rfl rfl (Nat.le_of_ble_eq_true rfl) d_G_settle_20 (fun H locs hP _ hS => ?_)
  have hP : va_P (dC, dI) vwCl (kw cI cJ cR d ar nb ga ha oa lg tm lf wr (va_up G j (x0 + (1 : Int32), 2, x3, x3, x4, x5, x6))) H := by rw [← kw_sG hj]; exact hP
  refine lv_aload_n hx hb d_G_settle_23 rfl (lv_at hl 0 rfl) ?_
  refine va_get (D := (dC, dI)) (ci := 2) (v := .ref (ha j)) (C := R_G) (T := F_G) (N := 7) hx hb hw i_G hown hK hP (3 * j + 3) (kw_gG hj) rfl 5 (by decide) (hw _ kb_61) (fun _ h9 => h9) rfl d_G_settle_24 ?_
  refine lv_iload_n hx hb d_G_settle_27 rfl (lv_at hl 1 rfl) ?_
  have hP1 := hP.sub (ws' := [(ha j, .inl (cI, 8, .inl x5))]) [(3 * j + 4)] (by simp only [List.filterMap_cons, List.filterMap_nil, kw_gH hj])
  refine kc_v (σ := Unit) (Wd := fun _ => [(ha j, .inl (cI, 8, .inl (fun _ => p0)))]) (L := [ha j]) (va_runS (As := [.ref (ha j), .int p0]) (rest := []) ⟨hx, hb, hml, hown, hw⟩ (c_J_fillI l (kty cI cJ cR) 0 rfl _ 8 _ _ (by decide) _) (va_cwS 2 hw (kb_S kb_220 kb_221 kb_5 kb_222) rfl rfl rfl (by decide +kernel) ⟨Nat.le_of_ble_eq_true rfl, Nat.le_of_ble_eq_true rfl⟩) (kPS hP1 hK) rfl rfl hl.1 rfl (lv_room (Nat.le_of_ble_eq_true rfl)) d_G_settle_28 ⟨Nat.le_of_ble_eq_true rfl, Nat.le_of_ble_eq_true rfl⟩) hS hA (fun q h => hAL q (kw_inH hj q h)) (fun u_1 H locs _ hP1 _ ho hS => ?_)
  have hP := kl_one hP (by rw [kw_ad]; exact hnd) (kw_gH hj) hP1 ho
  have hP : va_P (dC, dI) vwCl (kw cI cJ cR d ar nb ga ha oa lg tm lf wr (va_up G j (x0 + (1 : Int32), 2, x3, x3, x4, fun _ => p0, x6))) H := by rw [← kw_sH hj]; exact hP
  exact W.vret hx hb hr (fun t ht hW => ⟨⟨(lg, tm, lf, wr, (va_up G j (x0 + (1 : Int32), 2, x3, x3, x4, fun _ => p0, x6))), rfl, by first | (simp only [kg_settle]; done) | (simp [kg_settle]; done), by show va_P _ _ _ t.heap; rw [ht]; exact hP⟩, hS.F ht⟩) hS.2.2 d_G_settle_31
set_option maxHeartbeats 4000000 in
set_option maxRecDepth 100000 in
theorem c_G_finishMixing (l : Launch) {dC : Nat → ClassId} {dI : Nat → Nat → Nat} {cI cJ cR : ClassId} {d ar nb : Nat} {ga ha oa : Nat → Nat} (hnd : (kad d ar nb ga ha oa).Nodup) (lg tm lf wr : Int32) (G : Nat → kGV) {j : Nat} (hj : j < 8) (x0 x1 x2 x3 x4 : Int32) (x5 : Nat → Int32) (x6 : Nat → Int64) (p0 : Int32) (sz : Nat) : Met l y_G_finishMixing w_G_finishMixing ({ frames := 2, cells := 0, slots := 0, locals := 60 }) (kPre (dC, dI) vwCl (kty cI cJ cR) [.ref (ga j), .int p0, .ref nb] sz (kw cI cJ cR d ar nb ga ha oa lg tm lf wr (va_up G j (x0, x1, x2, x3, x4, x5, x6)))) (va_Qv (fun u : kDV => u = (lg, tm, (kg_fin p0 lf wr (x0, x1, x2, x3, x4, x5, x6)).2.1, (kg_fin p0 lf wr (x0, x1, x2, x3, x4, x5, x6)).2.2, va_up G j (kg_fin p0 lf wr (x0, x1, x2, x3, x4, x5, x6)).1)) (fun u t => va_P (dC, dI) vwCl (kwv cI cJ cR d ar nb ga ha oa u) t.heap) (kA (kad d ar nb ga ha oa) sz)) 0 0 (kA (kad d ar nb ga ha oa) sz) := by
  refine Met.ofW (cc := b_G_finishMixing) (maxL := 3) (ret := none) (by decide) rfl ?_
  intro p e s m args below meth c s₁ B hml hv
  obtain ⟨rfl, hsz, hP, hK⟩ := hv
  have hx := B.exec
  have hb := B.bytes
  have hr := B.returns
  have hts := atoms_spec (ws := w_G_finishMixing) B.pre
  have hw := fun (w : Cond) (h : w ∈ kb_B) => hts w (List.mem_cons_of_mem _ h)
  have hown : s.vm.findClass R_G = some m.cls := findClass_of_methodNamed B.named
  have hlocks := B.notSynchronized
  subst hsz
  generalize hAe : kA (kad d ar nb ga ha oa) s.heap.size = A
  have hA : ∀ q : Nat, s.heap.size ≤ q → A q := fun q h => by rw [← hAe]; exact Or.inr h
  have hAL : ∀ q ∈ (kad d ar nb ga ha oa), A q := fun q h => by rw [← hAe]; exact Or.inl h
  have hS : va_S A s.heap s.heap [] := va_S.rf
  have hl := lv_entry ([.ref (ga j), .int p0, .ref nb]) (n := 3) (Nat.le_of_ble_eq_true rfl)
  rw [lg_entry_eq]
  generalize (lg_sl ([.ref (ga j), .int p0, .ref nb]) ++ List.replicate (3 - (lg_sl ([.ref (ga j), .int p0, .ref nb])).length) Slot.unset).toArray = ls at hl ⊢
  have hl : lv_has ls 3 [(0, .ref (ga j)), (1, .int p0), (2, .ref nb)] := hl
  refine lv_aload_n hx hb d_G_finishMixing_0 rfl (lv_at hl 0 rfl) ?_
  refine va_get (D := (dC, dI)) (ci := 2) (v := .int x1) (C := R_G) (T := F_G) (N := 7) hx hb hw i_G hown hK hP (3 * j + 3) (kw_gG hj) rfl 1 (by decide) (hw _ kb_54) (fun _ h9 => h9) rfl d_G_finishMixing_1 ?_
  refine lv_iconst (v := 1) hx hb d_G_finishMixing_4 (by decide) ?_
  refine lv_icmp_ne (tgt := 27) hx hb d_G_finishMixing_5 (by decide) (fun c_1 => ?_) (fun c_1 => ?_)
  · exact W.vret hx hb hr (fun t ht hW => ⟨⟨(lg, tm, lf, wr, (va_up G j (x0, x1, x2, x3, x4, x5, x6))), rfl, by first | (simp only [kg_fin, kg_go, kg_clear, kg_settle, if_neg c_1]; done) | (simp [kg_fin, kg_go, kg_clear, kg_settle, c_1]; done), by show va_P _ _ _ t.heap; rw [ht]; exact hP⟩, hS.F ht⟩) hS.2.2 d_G_finishMixing_27
  · refine lv_aload_n hx hb d_G_finishMixing_8 rfl (lv_at hl 0 rfl) ?_
    refine va_get (D := (dC, dI)) (ci := 2) (v := .int x3) (C := R_G) (T := F_G) (N := 7) hx hb hw i_G hown hK hP (3 * j + 3) (kw_gG hj) rfl 3 (by decide) (hw _ kb_58) (fun _ h9 => h9) rfl d_G_finishMixing_9 ?_
    refine lv_aload_n hx hb d_G_finishMixing_12 rfl (lv_at hl 0 rfl) ?_
    refine va_get (D := (dC, dI)) (ci := 2) (v := .int x2) (C := R_G) (T := F_G) (N := 7) hx hb hw i_G hown hK hP (3 * j + 3) (kw_gG hj) rfl 2 (by decide) (hw _ kb_56) (fun _ h9 => h9) rfl d_G_finishMixing_13 ?_
    refine lv_icmp_eq (tgt := 28) hx hb d_G_finishMixing_16 (by decide) (fun c_2 => ?_) (fun c_2 => ?_)
    · refine lv_aload_n hx hb d_G_finishMixing_28 rfl (lv_at hl 0 rfl) ?_
      refine va_get (D := (dC, dI)) (ci := 2) (v := .int x3) (C := R_G) (T := F_G) (N := 7) hx hb hw i_G hown hK hP (3 * j + 3) (kw_gG hj) rfl 3 (by decide) (hw _ kb_58) (fun _ h9 => h9) rfl d_G_finishMixing_29 ?_
      refine lv_if_ne (tgt := 40) hx hb d_G_finishMixing_32 (by decide) (fun c_3 => ?_) (fun c_3 => ?_)
      · refine lv_aload_n hx hb d_G_finishMixing_40 rfl (lv_at hl 2 rfl) ?_
        refine kc_i (Wd := kwv cI cJ cR d ar nb ga ha oa) (va_runV (As := []) (rest := []) ⟨hx, hb, hml, hown, hw⟩ (c_N_write l hnd lg tm lf wr (va_up G j (x0, x1, x2, x3, x4, x5, x6)) _) (cwV 0 hw (kb_V kb_212 kb_213 kb_214 kb_3 kb_215) rfl rfl rfl (by decide +kernel) ⟨Nat.le_of_ble_eq_true rfl, Nat.le_of_ble_eq_true rfl⟩) (kPV (va_recv hK hP (ci := 1) (q0 := 2) rfl rfl) hP hK) rfl rfl hl.1 rfl (lv_room (Nat.le_of_ble_eq_true rfl)) d_G_finishMixing_41 ⟨Nat.le_of_ble_eq_true rfl, Nat.le_of_ble_eq_true rfl⟩) hS hA hAL (fun r_2 u_1 H locs hw hP _ _ hS => ?_)
        obtain ⟨rfl, rfl⟩ := hw
        generalize hq_3 : kn_write lf wr = z_3 at hP ⊢
        obtain ⟨r_3, lf_3, wr_3⟩ := z_3
        have hP : va_P (dC, dI) vwCl (kw cI cJ cR d ar nb ga ha oa lg tm lf_3 wr_3 (va_up G j (x0, x1, x2, x3, x4, x5, x6))) _ := hP
        refine lv_if_eq (tgt := 52) hx hb d_G_finishMixing_44 (by decide) (fun c_4 => ?_) (fun c_4 => ?_)
        · exact W.vret hx hb hr (fun t ht hW => ⟨⟨(lg, tm, lf_3, wr_3, (va_up G j (x0, x1, x2, x3, x4, x5, x6))), rfl, by first | (simp only [kg_fin, kg_go, kg_clear, kg_settle, if_pos c_1, if_pos c_2, if_neg c_3, hq_3, if_pos c_4]; done) | (simp [kg_fin, kg_go, kg_clear, kg_settle, c_1, c_2, c_3, hq_3, c_4]; done), by show va_P _ _ _ t.heap; rw [ht]; exact hP⟩, hS.F ht⟩) hS.2.2 d_G_finishMixing_52
        · refine lv_aload_n hx hb d_G_finishMixing_47 rfl (lv_at hl 0 rfl) ?_
          refine lv_iload_n hx hb d_G_finishMixing_48 rfl (lv_at hl 1 rfl) ?_
          refine kc_v (Wd := kwv cI cJ cR d ar nb ga ha oa) (va_runV (As := [.int p0]) (rest := []) ⟨hx, hb, hml, hown, hw⟩ (c_G_settle l hnd lg tm lf_3 wr_3 G hj x0 x1 x2 x3 x4 x5 x6 p0 _) (cwV 1 hw (kb_V kb_216 kb_217 kb_218 kb_4 kb_219) rfl rfl rfl (by decide +kernel) ⟨Nat.le_of_ble_eq_true rfl, Nat.le_of_ble_eq_true rfl⟩) (kPV (va_recv hK hP (ci := 2) (q0 := (3 * j + 3)) rfl (kw_gG hj)) hP hK) rfl rfl hl.1 rfl (lv_room (Nat.le_of_ble_eq_true rfl)) d_G_finishMixing_49 ⟨Nat.le_of_ble_eq_true rfl, Nat.le_of_ble_eq_true rfl⟩) hS hA hAL (fun u_4 H locs hw hP _ _ hS => ?_)
          subst hw
          have hP : va_P (dC, dI) vwCl (kw cI cJ cR d ar nb ga ha oa lg tm lf_3 wr_3 (va_up G j (x0 + 1, 2, x3, x3, x4, fun _ => p0, x6))) _ := hP
          exact W.vret hx hb hr (fun t ht hW => ⟨⟨(lg, tm, lf_3, wr_3, (va_up G j (x0 + 1, 2, x3, x3, x4, fun _ => p0, x6))), rfl, by first | (simp only [kg_fin, kg_go, kg_clear, kg_settle, if_pos c_1, if_pos c_2, if_neg c_3, hq_3, if_neg c_4]; done) | (simp [kg_fin, kg_go, kg_clear, kg_settle, c_1, c_2, c_3, hq_3, c_4]; done), by show va_P _ _ _ t.heap; rw [ht]; exact hP⟩, hS.F ht⟩) hS.2.2 d_G_finishMixing_52
      · refine lv_aload_n hx hb d_G_finishMixing_35 rfl (lv_at hl 0 rfl) ?_
        refine kc_v (Wd := kwv cI cJ cR d ar nb ga ha oa) (va_runV (As := []) (rest := []) ⟨hx, hb, hml, hown, hw⟩ (c_G_clear l hnd lg tm lf wr G hj x0 x1 x2 x3 x4 x5 x6 _) (cwV 0 hw (kb_V kb_211 kb_106 kb_107 kb_4 kb_108) rfl rfl rfl (by decide +kernel) ⟨Nat.le_of_ble_eq_true rfl, Nat.le_of_ble_eq_true rfl⟩) (kPV (va_recv hK hP (ci := 2) (q0 := (3 * j + 3)) rfl (kw_gG hj)) hP hK) rfl rfl hl.1 rfl (lv_room (Nat.le_of_ble_eq_true rfl)) d_G_finishMixing_36 ⟨Nat.le_of_ble_eq_true rfl, Nat.le_of_ble_eq_true rfl⟩) hS hA hAL (fun u_6 H locs hw hP _ _ hS => ?_)
        subst hw
        have hP : va_P (dC, dI) vwCl (kw cI cJ cR d ar nb ga ha oa lg tm lf wr (va_up G j (x0, 0, 0, 0, x4, x5, x6))) _ := hP
        exact W.vret hx hb hr (fun t ht hW => ⟨⟨(lg, tm, lf, wr, (va_up G j (x0, 0, 0, 0, x4, x5, x6))), rfl, by first | (simp only [kg_fin, kg_go, kg_clear, kg_settle, if_pos c_1, if_pos c_2, if_pos c_3]; done) | (simp [kg_fin, kg_go, kg_clear, kg_settle, c_1, c_2, c_3]; done), by show va_P _ _ _ t.heap; rw [ht]; exact hP⟩, hS.F ht⟩) hS.2.2 d_G_finishMixing_39
    · refine lv_iload_n hx hb d_G_finishMixing_19 rfl (lv_at hl 1 rfl) ?_
      refine lv_aload_n hx hb d_G_finishMixing_20 rfl (lv_at hl 0 rfl) ?_
      refine va_get (D := (dC, dI)) (ci := 2) (v := .int x4) (C := R_G) (T := F_G) (N := 7) hx hb hw i_G hown hK hP (3 * j + 3) (kw_gG hj) rfl 4 (by decide) (hw _ kb_60) (fun _ h9 => h9) rfl d_G_finishMixing_21 ?_
      refine lv_icmp_ge (tgt := 28) hx hb d_G_finishMixing_24 (by decide) (fun c_5 => ?_) (fun c_5 => ?_)
      · refine lv_aload_n hx hb d_G_finishMixing_28 rfl (lv_at hl 0 rfl) ?_
        refine va_get (D := (dC, dI)) (ci := 2) (v := .int x3) (C := R_G) (T := F_G) (N := 7) hx hb hw i_G hown hK hP (3 * j + 3) (kw_gG hj) rfl 3 (by decide) (hw _ kb_58) (fun _ h9 => h9) rfl d_G_finishMixing_29 ?_
        refine lv_if_ne (tgt := 40) hx hb d_G_finishMixing_32 (by decide) (fun c_6 => ?_) (fun c_6 => ?_)
        · refine lv_aload_n hx hb d_G_finishMixing_40 rfl (lv_at hl 2 rfl) ?_
          refine kc_i (Wd := kwv cI cJ cR d ar nb ga ha oa) (va_runV (As := []) (rest := []) ⟨hx, hb, hml, hown, hw⟩ (c_N_write l hnd lg tm lf wr (va_up G j (x0, x1, x2, x3, x4, x5, x6)) _) (cwV 0 hw (kb_V kb_212 kb_213 kb_214 kb_3 kb_215) rfl rfl rfl (by decide +kernel) ⟨Nat.le_of_ble_eq_true rfl, Nat.le_of_ble_eq_true rfl⟩) (kPV (va_recv hK hP (ci := 1) (q0 := 2) rfl rfl) hP hK) rfl rfl hl.1 rfl (lv_room (Nat.le_of_ble_eq_true rfl)) d_G_finishMixing_41 ⟨Nat.le_of_ble_eq_true rfl, Nat.le_of_ble_eq_true rfl⟩) hS hA hAL (fun r_9 u_8 H locs hw hP _ _ hS => ?_)
          obtain ⟨rfl, rfl⟩ := hw
          generalize hq_10 : kn_write lf wr = z_10 at hP ⊢
          obtain ⟨r_10, lf_10, wr_10⟩ := z_10
          have hP : va_P (dC, dI) vwCl (kw cI cJ cR d ar nb ga ha oa lg tm lf_10 wr_10 (va_up G j (x0, x1, x2, x3, x4, x5, x6))) _ := hP
          refine lv_if_eq (tgt := 52) hx hb d_G_finishMixing_44 (by decide) (fun c_7 => ?_) (fun c_7 => ?_)
          · exact W.vret hx hb hr (fun t ht hW => ⟨⟨(lg, tm, lf_10, wr_10, (va_up G j (x0, x1, x2, x3, x4, x5, x6))), rfl, by first | (simp only [kg_fin, kg_go, kg_clear, kg_settle, if_pos c_1, if_neg c_2, if_pos c_5, if_neg c_6, hq_10, if_pos c_7]; done) | (simp [kg_fin, kg_go, kg_clear, kg_settle, c_1, c_2, c_5, c_6, hq_10, c_7]; done), by show va_P _ _ _ t.heap; rw [ht]; exact hP⟩, hS.F ht⟩) hS.2.2 d_G_finishMixing_52
          · refine lv_aload_n hx hb d_G_finishMixing_47 rfl (lv_at hl 0 rfl) ?_
            refine lv_iload_n hx hb d_G_finishMixing_48 rfl (lv_at hl 1 rfl) ?_
            refine kc_v (Wd := kwv cI cJ cR d ar nb ga ha oa) (va_runV (As := [.int p0]) (rest := []) ⟨hx, hb, hml, hown, hw⟩ (c_G_settle l hnd lg tm lf_10 wr_10 G hj x0 x1 x2 x3 x4 x5 x6 p0 _) (cwV 1 hw (kb_V kb_216 kb_217 kb_218 kb_4 kb_219) rfl rfl rfl (by decide +kernel) ⟨Nat.le_of_ble_eq_true rfl, Nat.le_of_ble_eq_true rfl⟩) (kPV (va_recv hK hP (ci := 2) (q0 := (3 * j + 3)) rfl (kw_gG hj)) hP hK) rfl rfl hl.1 rfl (lv_room (Nat.le_of_ble_eq_true rfl)) d_G_finishMixing_49 ⟨Nat.le_of_ble_eq_true rfl, Nat.le_of_ble_eq_true rfl⟩) hS hA hAL (fun u_11 H locs hw hP _ _ hS => ?_)
            subst hw
            have hP : va_P (dC, dI) vwCl (kw cI cJ cR d ar nb ga ha oa lg tm lf_10 wr_10 (va_up G j (x0 + 1, 2, x3, x3, x4, fun _ => p0, x6))) _ := hP
            exact W.vret hx hb hr (fun t ht hW => ⟨⟨(lg, tm, lf_10, wr_10, (va_up G j (x0 + 1, 2, x3, x3, x4, fun _ => p0, x6))), rfl, by first | (simp only [kg_fin, kg_go, kg_clear, kg_settle, if_pos c_1, if_neg c_2, if_pos c_5, if_neg c_6, hq_10, if_neg c_7]; done) | (simp [kg_fin, kg_go, kg_clear, kg_settle, c_1, c_2, c_5, c_6, hq_10, c_7]; done), by show va_P _ _ _ t.heap; rw [ht]; exact hP⟩, hS.F ht⟩) hS.2.2 d_G_finishMixing_52
        · refine lv_aload_n hx hb d_G_finishMixing_35 rfl (lv_at hl 0 rfl) ?_
          refine kc_v (Wd := kwv cI cJ cR d ar nb ga ha oa) (va_runV (As := []) (rest := []) ⟨hx, hb, hml, hown, hw⟩ (c_G_clear l hnd lg tm lf wr G hj x0 x1 x2 x3 x4 x5 x6 _) (cwV 0 hw (kb_V kb_211 kb_106 kb_107 kb_4 kb_108) rfl rfl rfl (by decide +kernel) ⟨Nat.le_of_ble_eq_true rfl, Nat.le_of_ble_eq_true rfl⟩) (kPV (va_recv hK hP (ci := 2) (q0 := (3 * j + 3)) rfl (kw_gG hj)) hP hK) rfl rfl hl.1 rfl (lv_room (Nat.le_of_ble_eq_true rfl)) d_G_finishMixing_36 ⟨Nat.le_of_ble_eq_true rfl, Nat.le_of_ble_eq_true rfl⟩) hS hA hAL (fun u_13 H locs hw hP _ _ hS => ?_)
          subst hw
          have hP : va_P (dC, dI) vwCl (kw cI cJ cR d ar nb ga ha oa lg tm lf wr (va_up G j (x0, 0, 0, 0, x4, x5, x6))) _ := hP
          exact W.vret hx hb hr (fun t ht hW => ⟨⟨(lg, tm, lf, wr, (va_up G j (x0, 0, 0, 0, x4, x5, x6))), rfl, by first | (simp only [kg_fin, kg_go, kg_clear, kg_settle, if_pos c_1, if_neg c_2, if_pos c_5, if_pos c_6]; done) | (simp [kg_fin, kg_go, kg_clear, kg_settle, c_1, c_2, c_5, c_6]; done), by show va_P _ _ _ t.heap; rw [ht]; exact hP⟩, hS.F ht⟩) hS.2.2 d_G_finishMixing_39
      · exact W.vret hx hb hr (fun t ht hW => ⟨⟨(lg, tm, lf, wr, (va_up G j (x0, x1, x2, x3, x4, x5, x6))), rfl, by first | (simp only [kg_fin, kg_go, kg_clear, kg_settle, if_pos c_1, if_neg c_2, if_neg c_5]; done) | (simp [kg_fin, kg_go, kg_clear, kg_settle, c_1, c_2, c_5]; done), by show va_P _ _ _ t.heap; rw [ht]; exact hP⟩, hS.F ht⟩) hS.2.2 d_G_finishMixing_27
set_option maxHeartbeats 4000000 in
set_option maxRecDepth 100000 in
theorem c_G_ticksToLimit (l : Launch) {dC : Nat → ClassId} {dI : Nat → Nat → Nat} {cI cJ cR : ClassId} {d ar nb : Nat} {ga ha oa : Nat → Nat} (hnd : (kad d ar nb ga ha oa).Nodup) (lg tm lf wr : Int32) (G : Nat → kGV) {j : Nat} (hj : j < 8) (x0 x1 x2 x3 x4 : Int32) (x5 : Nat → Int32) (x6 : Nat → Int64) (p0 : Int32) (sz : Nat) : Met l y_G_ticksToLimit w_G_ticksToLimit ({ frames := 1, cells := 0, slots := 0, locals := 30 }) (kPre (dC, dI) vwCl (kty cI cJ cR) [.ref (ga j), .int p0] sz (kw cI cJ cR d ar nb ga ha oa lg tm lf wr (va_up G j (x0, x1, x2, x3, x4, x5, x6)))) (vp_Si (fun r => r = kg_lim p0 (x0, x1, x2, x3, x4, x5, x6))) 0 0 (fun _ => False) := by
  refine Met.ofW (cc := b_G_ticksToLimit) (maxL := 2) (ret := (some .int)) (by decide) rfl ?_
  intro p e s m args below meth c s₁ B hml hv
  obtain ⟨rfl, hsz, hP, hK⟩ := hv
  have hx := B.exec
  have hb := B.bytes
  have hr := B.returns
  have hts := atoms_spec (ws := w_G_ticksToLimit) B.pre
  have hw := fun (w : Cond) (h : w ∈ kb_B) => hts w (List.mem_cons_of_mem _ h)
  have hown : s.vm.findClass R_G = some m.cls := findClass_of_methodNamed B.named
  have hlocks := B.notSynchronized
  subst hsz
  have hl := lv_entry ([.ref (ga j), .int p0]) (n := 2) (Nat.le_of_ble_eq_true rfl)
  rw [lg_entry_eq]
  generalize (lg_sl ([.ref (ga j), .int p0]) ++ List.replicate (2 - (lg_sl ([.ref (ga j), .int p0])).length) Slot.unset).toArray = ls at hl ⊢
  have hl : lv_has ls 2 [(0, .ref (ga j)), (1, .int p0)] := hl
  refine lv_aload_n hx hb d_G_ticksToLimit_0 rfl (lv_at hl 0 rfl) ?_
  refine va_get (D := (dC, dI)) (ci := 2) (v := .int x1) (C := R_G) (T := F_G) (N := 7) hx hb hw i_G hown hK hP (3 * j + 3) (kw_gG hj) rfl 1 (by decide) (hw _ kb_54) (fun _ h9 => h9) rfl d_G_ticksToLimit_1 ?_
  refine lv_iconst (v := 1) hx hb d_G_ticksToLimit_4 (by decide) ?_
  refine lv_icmp_ne (tgt := 21) hx hb d_G_ticksToLimit_5 (by decide) (fun c_1 => ?_) (fun c_1 => ?_)
  · refine lv_iconst (v := 0) hx hb d_G_ticksToLimit_21 (by decide) ?_
    exact W.iret (v := 0) hx hb hr (fun t ht hW => ⟨_, rfl, by first | (simp only [kg_lim, if_neg c_1]; done) | (simp [kg_lim, c_1]; done), ht⟩) (fun q h => by cases h) d_G_ticksToLimit_22
  · refine lv_aload_n hx hb d_G_ticksToLimit_8 rfl (lv_at hl 0 rfl) ?_
    refine va_get (D := (dC, dI)) (ci := 2) (v := .int x4) (C := R_G) (T := F_G) (N := 7) hx hb hw i_G hown hK hP (3 * j + 3) (kw_gG hj) rfl 4 (by decide) (hw _ kb_60) (fun _ h9 => h9) rfl d_G_ticksToLimit_9 ?_
    refine lv_iload_n hx hb d_G_ticksToLimit_12 rfl (lv_at hl 1 rfl) ?_
    refine lv_isub hx hb d_G_ticksToLimit_13 ?_
    refine lv_iconst (v := 0) hx hb d_G_ticksToLimit_14 (by decide) ?_
    refine va_mmax hx hb (hml.trans hl.1.symm) hown (hw _ kb_291) (hw _ kb_21) (hw _ kb_2) (hw _ kb_22) (Nat.le_of_ble_eq_true rfl) (Nat.le_of_ble_eq_true rfl) (Nat.le_of_ble_eq_true rfl) (Nat.le_of_ble_eq_true rfl) d_G_ticksToLimit_15 ?_
    refine lv_goto (tgt := 22) hx hb d_G_ticksToLimit_18 (by decide) ?_
    exact W.iret (v := (if (x4 - p0) < (0 : Int32) then (0 : Int32) else (x4 - p0))) hx hb hr (fun t ht hW => ⟨_, rfl, by first | (simp only [kg_lim, if_pos c_1]; done) | (simp [kg_lim, c_1]; done), ht⟩) (fun q h => by cases h) d_G_ticksToLimit_22
set_option maxHeartbeats 4000000 in
set_option maxRecDepth 100000 in
theorem c_G_gives (l : Launch) {dC : Nat → ClassId} {dI : Nat → Nat → Nat} {cI cJ cR : ClassId} {d ar nb : Nat} {ga ha oa : Nat → Nat} (hnd : (kad d ar nb ga ha oa).Nodup) (lg tm lf wr : Int32) (G : Nat → kGV) {j : Nat} (hj : j < 8) (x0 x1 x2 x3 x4 : Int32) (x5 : Nat → Int32) (x6 : Nat → Int64) (p0 : Int32) (p1 : Int32) (sz : Nat) : Met l y_G_gives w_G_gives ({ frames := 1, cells := 0, slots := 0, locals := 30 }) (kPre (dC, dI) vwCl (kty cI cJ cR) [.ref (ga j), .int p0, .int p1] sz (kw cI cJ cR d ar nb ga ha oa lg tm lf wr (va_up G j (x0, x1, x2, x3, x4, x5, x6)))) (vp_Si (fun r => r = kg_gives p0 p1 (x0, x1, x2, x3, x4, x5, x6))) 0 0 (fun _ => False) := by
  refine Met.ofW (cc := b_G_gives) (maxL := 5) (ret := (some .boolean)) (by decide) rfl ?_
  intro p e s m args below meth c s₁ B hml hv
  obtain ⟨rfl, hsz, hP, hK⟩ := hv
  have hx := B.exec
  have hb := B.bytes
  have hr := B.returns
  have hts := atoms_spec (ws := w_G_gives) B.pre
  have hw := fun (w : Cond) (h : w ∈ kb_B) => hts w (List.mem_cons_of_mem _ h)
  have hown : s.vm.findClass R_G = some m.cls := findClass_of_methodNamed B.named
  have hlocks := B.notSynchronized
  subst hsz
  have hl := lv_entry ([.ref (ga j), .int p0, .int p1]) (n := 5) (Nat.le_of_ble_eq_true rfl)
  rw [lg_entry_eq]
  generalize (lg_sl ([.ref (ga j), .int p0, .int p1]) ++ List.replicate (5 - (lg_sl ([.ref (ga j), .int p0, .int p1])).length) Slot.unset).toArray = ls at hl ⊢
  have hl : lv_has ls 5 [(0, .ref (ga j)), (1, .int p0), (2, .int p1)] := hl
  refine lv_aload_n hx hb d_G_gives_0 rfl (lv_at hl 0 rfl) ?_
  refine va_get (D := (dC, dI)) (ci := 2) (v := .int x2) (C := R_G) (T := F_G) (N := 7) hx hb hw i_G hown hK hP (3 * j + 3) (kw_gG hj) rfl 2 (by decide) (hw _ kb_56) (fun _ h9 => h9) rfl d_G_gives_1 ?_
  refine vp_callSi (W.runS (As := [.int x2]) (rest := []) ⟨hx, hb, hml, hown, hw⟩ (c_J_bitCount l x2) (va_cwS 1 hw (kb_S kb_271 kb_100 kb_11 kb_101) rfl rfl rfl (by decide +kernel) ⟨Nat.le_of_ble_eq_true rfl, Nat.le_of_ble_eq_true rfl⟩) preEq rfl rfl hl.1 rfl (lv_room (Nat.le_of_ble_eq_true rfl)) d_G_gives_4 ⟨Nat.le_of_ble_eq_true rfl, Nat.le_of_ble_eq_true rfl⟩) (fun r_1 er_1 => ?_)
  subst er_1
  refine lv_istore_n (lv' := [(3, .int (k_bc x2)), (0, .ref (ga j)), (1, .int p0), (2, .int p1)]) hx hb d_G_gives_7 rfl hl (by decide) rfl (fun ls hl => ?_)
  refine lv_aload_n hx hb d_G_gives_8 rfl (lv_at hl 1 rfl) ?_
  refine va_get (D := (dC, dI)) (ci := 2) (v := .int x1) (C := R_G) (T := F_G) (N := 7) hx hb hw i_G hown hK hP (3 * j + 3) (kw_gG hj) rfl 1 (by decide) (hw _ kb_54) (fun _ h9 => h9) rfl d_G_gives_9 ?_
  refine lv_iconst (v := 2) hx hb d_G_gives_12 (by decide) ?_
  refine lv_icmp_ne (tgt := 28) hx hb d_G_gives_13 (by decide) (fun c_1 => ?_) (fun c_1 => ?_)
  · refine lv_iconst (v := 0) hx hb d_G_gives_28 (by decide) ?_
    exact W.zret (v := 0) hx hb hr (by decide) (fun t ht hW => ⟨_, rfl, by first | (simp only [kg_gives, if_neg c_1]; done) | (simp [kg_gives, c_1]; done), ht⟩) (fun q h => by cases h) d_G_gives_29
  · refine lv_aload_n hx hb d_G_gives_16 rfl (lv_at hl 1 rfl) ?_
    refine lv_iload_n hx hb d_G_gives_17 rfl (lv_at hl 3 rfl) ?_
    refine vp_callSi (W.runV (As := [.int p1]) (rest := []) ⟨hx, hb, hml, hown, hw⟩ (c_G_has l hnd lg tm lf wr G hj x0 x1 x2 x3 x4 x5 x6 p1 _) (cwV 1 hw (kb_V kb_266 kb_231 kb_232 kb_4 kb_233) rfl rfl rfl (by decide +kernel) ⟨Nat.le_of_ble_eq_true rfl, Nat.le_of_ble_eq_true rfl⟩) (kPV (va_recv hK hP (ci := 2) (q0 := (3 * j + 3)) rfl (kw_gG hj)) hP hK) rfl rfl hl.1 rfl (lv_room (Nat.le_of_ble_eq_true rfl)) d_G_gives_18 ⟨Nat.le_of_ble_eq_true rfl, Nat.le_of_ble_eq_true rfl⟩) (fun r_2 er_2 => ?_)
    subst er_2
    refine lv_if_eq (tgt := 28) hx hb d_G_gives_21 (by decide) (fun c_2 => ?_) (fun c_2 => ?_)
    · refine lv_iconst (v := 0) hx hb d_G_gives_28 (by decide) ?_
      exact W.zret (v := 0) hx hb hr (by decide) (fun t ht hW => ⟨_, rfl, by first | (simp only [kg_gives, if_pos c_1, if_pos c_2]; done) | (simp [kg_gives, c_1, c_2]; done), ht⟩) (fun q h => by cases h) d_G_gives_29
    · refine lv_iload_n hx hb d_G_gives_24 rfl (lv_at hl 0 rfl) ?_
      refine lv_if_ne (tgt := 30) hx hb d_G_gives_25 (by decide) (fun c_3 => ?_) (fun c_3 => ?_)
      · refine lv_aload_n hx hb d_G_gives_30 rfl (lv_at hl 1 rfl) ?_
        refine va_get (D := (dC, dI)) (ci := 2) (v := .int x2) (C := R_G) (T := F_G) (N := 7) hx hb hw i_G hown hK hP (3 * j + 3) (kw_gG hj) rfl 2 (by decide) (hw _ kb_56) (fun _ h9 => h9) rfl d_G_gives_31 ?_
        refine lv_iconst (v := 1) hx hb d_G_gives_34 (by decide) ?_
        refine lv_iload_n hx hb d_G_gives_35 rfl (lv_at hl 3 rfl) ?_
        refine lv_ishl hx hb d_G_gives_36 ?_
        refine lv_iconst (v := 1) hx hb d_G_gives_37 (by decide) ?_
        refine lv_isub hx hb d_G_gives_38 ?_
        refine lv_iand hx hb d_G_gives_39 ?_
        refine vp_callSi (W.runS (As := [.int (x2 &&& (((1 : Int32) <<< (p1 &&& 31)) - (1 : Int32)))]) (rest := []) ⟨hx, hb, hml, hown, hw⟩ (c_J_bitCount l (x2 &&& (((1 : Int32) <<< (p1 &&& 31)) - (1 : Int32)))) (va_cwS 1 hw (kb_S kb_271 kb_100 kb_11 kb_101) rfl rfl rfl (by decide +kernel) ⟨Nat.le_of_ble_eq_true rfl, Nat.le_of_ble_eq_true rfl⟩) preEq rfl rfl hl.1 rfl (lv_room (Nat.le_of_ble_eq_true rfl)) d_G_gives_40 ⟨Nat.le_of_ble_eq_true rfl, Nat.le_of_ble_eq_true rfl⟩) (fun r_3 er_3 => ?_)
        subst er_3
        refine lv_istore (lv' := [(4, .int (k_bc (x2 &&& (((1 : Int32) <<< (p1 &&& 31)) - (1 : Int32))))), (3, .int (k_bc x2)), (0, .ref (ga j)), (1, .int p0), (2, .int p1)]) hx hb d_G_gives_43 hl (by decide) rfl (fun ls hl => ?_)
        refine lv_iload_n hx hb d_G_gives_45 rfl (lv_at hl 3 rfl) ?_
        refine lv_iload_n hx hb d_G_gives_46 rfl (lv_at hl 1 rfl) ?_
        refine lv_irem hx hb d_G_gives_47 c_3 ?_
        refine lv_iload hx hb d_G_gives_48 (lv_at hl 0 rfl) ?_
        refine lv_icmp_ne (tgt := 57) hx hb d_G_gives_50 (by decide) (fun c_4 => ?_) (fun c_4 => ?_)
        · refine lv_iconst (v := 0) hx hb d_G_gives_57 (by decide) ?_
          exact W.zret (v := 0) hx hb hr (by decide) (fun t ht hW => ⟨_, rfl, by first | (simp only [kg_gives, if_pos c_1, if_neg c_2, if_neg c_3, if_neg c_4]; done) | (simp [kg_gives, c_1, c_2, c_3, c_4]; done), ht⟩) (fun q h => by cases h) d_G_gives_58
        · refine lv_iconst (v := 1) hx hb d_G_gives_53 (by decide) ?_
          refine lv_goto (tgt := 58) hx hb d_G_gives_54 (by decide) ?_
          exact W.zret (v := 1) hx hb hr (by decide) (fun t ht hW => ⟨_, rfl, by first | (simp only [kg_gives, if_pos c_1, if_neg c_2, if_neg c_3, if_pos c_4]; done) | (simp [kg_gives, c_1, c_2, c_3, c_4]; done), ht⟩) (fun q h => by cases h) d_G_gives_58
      · refine lv_iconst (v := 0) hx hb d_G_gives_28 (by decide) ?_
        exact W.zret (v := 0) hx hb hr (by decide) (fun t ht hW => ⟨_, rfl, by first | (simp only [kg_gives, if_pos c_1, if_neg c_2, if_pos c_3]; done) | (simp [kg_gives, c_1, c_2, c_3]; done), ht⟩) (fun q h => by cases h) d_G_gives_29
set_option maxHeartbeats 4000000 in
set_option maxRecDepth 100000 in
theorem c_G_refusalOf (l : Launch) {dC : Nat → ClassId} {dI : Nat → Nat → Nat} {cI cJ cR : ClassId} {d ar nb : Nat} {ga ha oa : Nat → Nat} (hnd : (kad d ar nb ga ha oa).Nodup) (lg tm lf wr : Int32) (G : Nat → kGV) {j : Nat} (hj : j < 8) (x0 x1 x2 x3 x4 : Int32) (x5 : Nat → Int32) (x6 : Nat → Int64) (p0 : Int32) (p1 : Int32) (p2 : Int32) (sz : Nat) : Met l y_G_refusalOf w_G_refusalOf ({ frames := 2, cells := 0, slots := 0, locals := 60 }) (kPre (dC, dI) vwCl (kty cI cJ cR) [.ref (ga j), .int p0, .int p1, .int p2] sz (kw cI cJ cR d ar nb ga ha oa lg tm lf wr (va_up G j (x0, x1, x2, x3, x4, x5, x6)))) (vp_Si (fun r => r = kg_ref p0 p1 p2 (x0, x1, x2, x3, x4, x5, x6))) 0 0 (fun _ => False) := by
  refine Met.ofW (cc := b_G_refusalOf) (maxL := 4) (ret := (some .int)) (by decide) rfl ?_
  intro p e s m args below meth c s₁ B hml hv
  obtain ⟨rfl, hsz, hP, hK⟩ := hv
  have hx := B.exec
  have hb := B.bytes
  have hr := B.returns
  have hts := atoms_spec (ws := w_G_refusalOf) B.pre
  have hw := fun (w : Cond) (h : w ∈ kb_B) => hts w (List.mem_cons_of_mem _ h)
  have hown : s.vm.findClass R_G = some m.cls := findClass_of_methodNamed B.named
  have hlocks := B.notSynchronized
  subst hsz
  have hl := lv_entry ([.ref (ga j), .int p0, .int p1, .int p2]) (n := 4) (Nat.le_of_ble_eq_true rfl)
  rw [lg_entry_eq]
  generalize (lg_sl ([.ref (ga j), .int p0, .int p1, .int p2]) ++ List.replicate (4 - (lg_sl ([.ref (ga j), .int p0, .int p1, .int p2])).length) Slot.unset).toArray = ls at hl ⊢
  have hl : lv_has ls 4 [(0, .ref (ga j)), (1, .int p0), (2, .int p1), (3, .int p2)] := hl
  refine lv_aload_n hx hb d_G_refusalOf_0 rfl (lv_at hl 0 rfl) ?_
  refine lv_iload_n hx hb d_G_refusalOf_1 rfl (lv_at hl 1 rfl) ?_
  refine vp_callSi (W.runV (As := [.int p0]) (rest := []) ⟨hx, hb, hml, hown, hw⟩ (c_G_has l hnd lg tm lf wr G hj x0 x1 x2 x3 x4 x5 x6 p0 _) (cwV 1 hw (kb_V kb_266 kb_231 kb_232 kb_4 kb_233) rfl rfl rfl (by decide +kernel) ⟨Nat.le_of_ble_eq_true rfl, Nat.le_of_ble_eq_true rfl⟩) (kPV (va_recv hK hP (ci := 2) (q0 := (3 * j + 3)) rfl (kw_gG hj)) hP hK) rfl rfl hl.1 rfl (lv_room (Nat.le_of_ble_eq_true rfl)) d_G_refusalOf_2 ⟨Nat.le_of_ble_eq_true rfl, Nat.le_of_ble_eq_true rfl⟩) (fun r_1 er_1 => ?_)
  subst er_1
  refine lv_if_ne (tgt := 11) hx hb d_G_refusalOf_5 (by decide) (fun c_1 => ?_) (fun c_1 => ?_)
  · refine lv_iload_n hx hb d_G_refusalOf_11 rfl (lv_at hl 2 rfl) ?_
    refine lv_aload_n hx hb d_G_refusalOf_12 rfl (lv_at hl 0 rfl) ?_
    refine va_get (D := (dC, dI)) (ci := 2) (v := .int x0) (C := R_G) (T := F_G) (N := 7) hx hb hw i_G hown hK hP (3 * j + 3) (kw_gG hj) rfl 0 (by decide) (hw _ kb_53) (fun _ h9 => h9) rfl d_G_refusalOf_13 ?_
    refine lv_icmp_eq (tgt := 22) hx hb d_G_refusalOf_16 (by decide) (fun c_2 => ?_) (fun c_2 => ?_)
    · refine lv_aload_n hx hb d_G_refusalOf_22 rfl (lv_at hl 0 rfl) ?_
      refine va_get (D := (dC, dI)) (ci := 2) (v := .int x1) (C := R_G) (T := F_G) (N := 7) hx hb hw i_G hown hK hP (3 * j + 3) (kw_gG hj) rfl 1 (by decide) (hw _ kb_54) (fun _ h9 => h9) rfl d_G_refusalOf_23 ?_
      refine lv_iconst (v := 2) hx hb d_G_refusalOf_26 (by decide) ?_
      refine lv_icmp_eq (tgt := 33) hx hb d_G_refusalOf_27 (by decide) (fun c_3 => ?_) (fun c_3 => ?_)
      · refine lv_aload_n hx hb d_G_refusalOf_33 rfl (lv_at hl 0 rfl) ?_
        refine lv_iload_n hx hb d_G_refusalOf_34 rfl (lv_at hl 3 rfl) ?_
        refine lv_iload_n hx hb d_G_refusalOf_35 rfl (lv_at hl 1 rfl) ?_
        refine vp_callSi (W.runV (As := [.int p2, .int p0]) (rest := []) ⟨hx, hb, hml, hown, hw⟩ (c_G_gives l hnd lg tm lf wr G hj x0 x1 x2 x3 x4 x5 x6 p2 p0 _) (cwV 2 hw (kb_V kb_267 kb_268 kb_269 kb_4 kb_270) rfl rfl rfl (by decide +kernel) ⟨Nat.le_of_ble_eq_true rfl, Nat.le_of_ble_eq_true rfl⟩) (kPV (va_recv hK hP (ci := 2) (q0 := (3 * j + 3)) rfl (kw_gG hj)) hP hK) rfl rfl hl.1 rfl (lv_room (Nat.le_of_ble_eq_true rfl)) d_G_refusalOf_36 ⟨Nat.le_of_ble_eq_true rfl, Nat.le_of_ble_eq_true rfl⟩) (fun r_2 er_2 => ?_)
        subst er_2
        refine lv_if_eq (tgt := 46) hx hb d_G_refusalOf_39 (by decide) (fun c_4 => ?_) (fun c_4 => ?_)
        · refine lv_bipush (v := (-11)) hx hb d_G_refusalOf_46 (by decide) ?_
          exact W.iret (v := (-11)) hx hb hr (fun t ht hW => ⟨_, rfl, by first | (simp only [kg_ref, if_neg c_1, if_pos c_2, if_pos c_3, if_pos c_4]; done) | (simp [kg_ref, c_1, c_2, c_3, c_4]; done), ht⟩) (fun q h => by cases h) d_G_refusalOf_48
        · refine lv_iconst (v := 0) hx hb d_G_refusalOf_42 (by decide) ?_
          refine lv_goto (tgt := 48) hx hb d_G_refusalOf_43 (by decide) ?_
          exact W.iret (v := 0) hx hb hr (fun t ht hW => ⟨_, rfl, by first | (simp only [kg_ref, if_neg c_1, if_pos c_2, if_pos c_3, if_neg c_4]; done) | (simp [kg_ref, c_1, c_2, c_3, c_4]; done), ht⟩) (fun q h => by cases h) d_G_refusalOf_48
      · refine lv_bipush (v := (-10)) hx hb d_G_refusalOf_30 (by decide) ?_
        exact W.iret (v := (-10)) hx hb hr (fun t ht hW => ⟨_, rfl, by first | (simp only [kg_ref, if_neg c_1, if_pos c_2, if_neg c_3]; done) | (simp [kg_ref, c_1, c_2, c_3]; done), ht⟩) (fun q h => by cases h) d_G_refusalOf_32
    · refine lv_bipush (v := (-9)) hx hb d_G_refusalOf_19 (by decide) ?_
      exact W.iret (v := (-9)) hx hb hr (fun t ht hW => ⟨_, rfl, by first | (simp only [kg_ref, if_neg c_1, if_neg c_2]; done) | (simp [kg_ref, c_1, c_2]; done), ht⟩) (fun q h => by cases h) d_G_refusalOf_21
  · refine lv_bipush (v := (-8)) hx hb d_G_refusalOf_8 (by decide) ?_
    exact W.iret (v := (-8)) hx hb hr (fun t ht hW => ⟨_, rfl, by first | (simp only [kg_ref, if_pos c_1]; done) | (simp [kg_ref, c_1]; done), ht⟩) (fun q h => by cases h) d_G_refusalOf_10
