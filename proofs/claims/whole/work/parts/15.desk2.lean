set_option maxHeartbeats 4000000 in
set_option maxRecDepth 100000 in
theorem c_D_groupAt (l : Launch) (hl0 : l.stackTraces = false) {dC : Nat → ClassId} {dI : Nat → Nat → Nat} {cI cJ cR : ClassId} {d ar nb : Nat} {ga ha oa : Nat → Nat} (hnd : (kad d ar nb ga ha oa).Nodup) (lg tm lf wr : Int32) (G : Nat → kGV) (p0 : Int32) (sz : Nat) : MetT l y_D_groupAt w_D_groupAt ({ frames := 6, cells := 1, slots := 6, locals := 90 }) (kPreT (dC, dI) vwCl (kty cI cJ cR) [.ref d, .int p0] sz (kw cI cJ cR d ar nb ga ha oa lg tm lf wr G)) (kt_Or kt_N (kt_R (fun v => v = some (.ref (ga p0.toNatClampNeg)) ∧ vp_in p0 8)) (¬ vp_in p0 8)) 1 6 (fun _ => False) := by
  refine kt_ofW (cc := b_D_groupAt) (maxL := 2) (ret := (some (.object "GroupDesk$Group"))) (by decide) rfl ?_
  intro p e s m args below meth c s₁ B hml hv
  obtain ⟨⟨rfl, hsz, hP, hK⟩, hZ⟩ := hv
  have hx := B.exec
  have hb := B.bytes
  have hr := B.returns
  have hts := atoms_spec (ws := w_D_groupAt) B.pre
  have hw := fun (w : Cond) (h : w ∈ kb_B) => hts w (List.mem_cons_of_mem _ h)
  have hown : s.vm.findClass R_D = some m.cls := findClass_of_methodNamed B.named
  have hlocks := B.notSynchronized
  have hne := B.noHandlers (hts _ List.mem_cons_self)
  have htr : e.platform.stackTraces = false := by rw [Example.NoTraceControls.admits_follows B.admits]; exact hl0
  subst hsz
  generalize hAe : kA (kad d ar nb ga ha oa) s.heap.size = A
  have hA : ∀ q : Nat, s.heap.size ≤ q → A q := fun q h => by rw [← hAe]; exact Or.inr h
  have hAL : ∀ q ∈ (kad d ar nb ga ha oa), A q := fun q h => by rw [← hAe]; exact Or.inl h
  have hS : va_S A s.heap s.heap [] := va_S.rf
  have hl := lv_entry ([.ref d, .int p0]) (n := 2) (Nat.le_of_ble_eq_true rfl)
  rw [lg_entry_eq]
  generalize (lg_sl ([.ref d, .int p0]) ++ List.replicate (2 - (lg_sl ([.ref d, .int p0])).length) Slot.unset).toArray = ls at hl ⊢
  have hl : lv_has ls 2 [(0, .ref d), (1, .int p0)] := hl
  refine lv_iload_n hx hb d_D_groupAt_0 rfl (lv_at hl 1 rfl) ?_
  refine lv_if_lt (tgt := 10) hx hb d_D_groupAt_1 (by decide) (fun c_1 => ?_) (fun c_1 => ?_)
  · refine W.widen (k := 0) (n := 0) (by decide) (by decide) ?_
    obtain ⟨q9, hq9⟩ := hZ.2.use hown (k := 141) (tx := "there is no such group") (by decide)
    exact kt_throw (own := R_D) (xN := kt_N) (up := kt_U) (tx := "there is no such group") (q := q9) hx htr hb (hl.1.trans hml.symm) hown hne hlocks (by decide +kernel) (by decide +kernel) hZ.1.use (hw _ kb_128) (hw _ kb_129) (hw _ kb_10) hq9 (Nat.le_refl _) d_D_groupAt_10 d_D_groupAt_13 d_D_groupAt_14 d_D_groupAt_16 d_D_groupAt_19 (Nat.le_of_ble_eq_true rfl) (Nat.le_of_ble_eq_true rfl) (Nat.le_of_ble_eq_true rfl) (Nat.le_of_ble_eq_true rfl) (fun t x hW hX => Or.inr ⟨x, rfl, kn_no0 c_1, hX⟩)
  · refine lv_iload_n hx hb d_D_groupAt_4 rfl (lv_at hl 1 rfl) ?_
    refine lv_bipush (v := 8) hx hb d_D_groupAt_5 (by decide) ?_
    refine lv_icmp_lt (tgt := 20) hx hb d_D_groupAt_7 (by decide) (fun c_2 => ?_) (fun c_2 => ?_)
    · refine lv_aload_n hx hb d_D_groupAt_20 rfl (lv_at hl 0 rfl) ?_
      refine va_get (D := (dC, dI)) (ci := 0) (v := .ref ar) (C := R_D) (T := F_D) (N := 4) hx hb hw i_D hown hK hP 0 rfl rfl 1 (by decide) (hw _ kb_83) (fun _ h9 => h9) rfl d_D_groupAt_21 ?_
      refine lv_iload_n hx hb d_D_groupAt_24 rfl (lv_at hl 1 rfl) ?_
      refine va_aldq hx hb hK hP 1 2 rfl rfl (kn_lt (y := 8) (by decide) c_1 c_2) d_D_groupAt_25 ?_
      refine W.eq (g2 := F0 m 26 ls [.ref (ga p0.toNatClampNeg)]) rfl ?_
      refine W.widen (k := 1) (n := 6) (by decide) (by decide) ?_
      exact kt_W (fun _ h => kt_of h) (W.aret (v := .ref (ga p0.toNatClampNeg)) hx hb hr (Or.inl ⟨_, rfl⟩) (Or.inr ⟨_, rfl⟩) (fun t ht hW => Or.inl ⟨_, rfl, ⟨rfl, kn_lt (y := 8) (by decide) c_1 c_2⟩, ht⟩) (fun q h => by cases h) d_D_groupAt_26)
    · refine W.widen (k := 0) (n := 0) (by decide) (by decide) ?_
      obtain ⟨q9, hq9⟩ := hZ.2.use hown (k := 141) (tx := "there is no such group") (by decide)
      exact kt_throw (own := R_D) (xN := kt_N) (up := kt_U) (tx := "there is no such group") (q := q9) hx htr hb (hl.1.trans hml.symm) hown hne hlocks (by decide +kernel) (by decide +kernel) hZ.1.use (hw _ kb_128) (hw _ kb_129) (hw _ kb_10) hq9 (Nat.le_refl _) d_D_groupAt_10 d_D_groupAt_13 d_D_groupAt_14 d_D_groupAt_16 d_D_groupAt_19 (Nat.le_of_ble_eq_true rfl) (Nat.le_of_ble_eq_true rfl) (Nat.le_of_ble_eq_true rfl) (Nat.le_of_ble_eq_true rfl) (fun t x hW hX => Or.inr ⟨x, rfl, kn_ge (y := 8) (by decide) c_2, hX⟩)
set_option maxHeartbeats 4000000 in
set_option maxRecDepth 100000 in
theorem c_D_checkMember (l : Launch) (hl0 : l.stackTraces = false) {dC : Nat → ClassId} {dI : Nat → Nat → Nat} {cI cJ cR : ClassId} {d ar nb : Nat} {ga ha oa : Nat → Nat} (hnd : (kad d ar nb ga ha oa).Nodup) (lg tm lf wr : Int32) (G : Nat → kGV) (p0 : Int32) (sz : Nat) : MetT l y_D_checkMember w_D_checkMember ({ frames := 6, cells := 1, slots := 6, locals := 90 }) (kPreT (dC, dI) vwCl (kty cI cJ cR) [.ref d, .int p0] sz (kw cI cJ cR d ar nb ga ha oa lg tm lf wr G)) (kt_Or kt_N (kt_R (fun v => v = none ∧ vp_in p0 8)) (¬ vp_in p0 8)) 1 6 (fun _ => False) := by
  refine kt_ofW (cc := b_D_checkMember) (maxL := 2) (ret := none) (by decide) rfl ?_
  intro p e s m args below meth c s₁ B hml hv
  obtain ⟨⟨rfl, hsz, hP, hK⟩, hZ⟩ := hv
  have hx := B.exec
  have hb := B.bytes
  have hr := B.returns
  have hts := atoms_spec (ws := w_D_checkMember) B.pre
  have hw := fun (w : Cond) (h : w ∈ kb_B) => hts w (List.mem_cons_of_mem _ h)
  have hown : s.vm.findClass R_D = some m.cls := findClass_of_methodNamed B.named
  have hlocks := B.notSynchronized
  have hne := B.noHandlers (hts _ List.mem_cons_self)
  have htr : e.platform.stackTraces = false := by rw [Example.NoTraceControls.admits_follows B.admits]; exact hl0
  subst hsz
  generalize hAe : kA (kad d ar nb ga ha oa) s.heap.size = A
  have hA : ∀ q : Nat, s.heap.size ≤ q → A q := fun q h => by rw [← hAe]; exact Or.inr h
  have hAL : ∀ q ∈ (kad d ar nb ga ha oa), A q := fun q h => by rw [← hAe]; exact Or.inl h
  have hS : va_S A s.heap s.heap [] := va_S.rf
  have hl := lv_entry ([.ref d, .int p0]) (n := 2) (Nat.le_of_ble_eq_true rfl)
  rw [lg_entry_eq]
  generalize (lg_sl ([.ref d, .int p0]) ++ List.replicate (2 - (lg_sl ([.ref d, .int p0])).length) Slot.unset).toArray = ls at hl ⊢
  have hl : lv_has ls 2 [(0, .ref d), (1, .int p0)] := hl
  refine lv_iload_n hx hb d_D_checkMember_0 rfl (lv_at hl 1 rfl) ?_
  refine lv_if_lt (tgt := 10) hx hb d_D_checkMember_1 (by decide) (fun c_1 => ?_) (fun c_1 => ?_)
  · refine W.widen (k := 0) (n := 0) (by decide) (by decide) ?_
    obtain ⟨q9, hq9⟩ := hZ.2.use hown (k := 143) (tx := "there is no such member") (by decide)
    exact kt_throw (own := R_D) (xN := kt_N) (up := kt_U) (tx := "there is no such member") (q := q9) hx htr hb (hl.1.trans hml.symm) hown hne hlocks (by decide +kernel) (by decide +kernel) hZ.1.use (hw _ kb_128) (hw _ kb_129) (hw _ kb_10) hq9 (Nat.le_refl _) d_D_checkMember_10 d_D_checkMember_13 d_D_checkMember_14 d_D_checkMember_16 d_D_checkMember_19 (Nat.le_of_ble_eq_true rfl) (Nat.le_of_ble_eq_true rfl) (Nat.le_of_ble_eq_true rfl) (Nat.le_of_ble_eq_true rfl) (fun t x hW hX => Or.inr ⟨x, rfl, kn_no0 c_1, hX⟩)
  · refine lv_iload_n hx hb d_D_checkMember_4 rfl (lv_at hl 1 rfl) ?_
    refine lv_bipush (v := 8) hx hb d_D_checkMember_5 (by decide) ?_
    refine lv_icmp_lt (tgt := 20) hx hb d_D_checkMember_7 (by decide) (fun c_2 => ?_) (fun c_2 => ?_)
    · refine W.widen (k := 1) (n := 6) (by decide) (by decide) ?_
      exact kt_W (fun _ h => kt_of h) (W.vret hx hb hr (fun t ht hW => Or.inl ⟨_, rfl, ⟨rfl, kn_lt (y := 8) (by decide) c_1 c_2⟩, ht⟩) (fun q h => by cases h) d_D_checkMember_20)
    · refine W.widen (k := 0) (n := 0) (by decide) (by decide) ?_
      obtain ⟨q9, hq9⟩ := hZ.2.use hown (k := 143) (tx := "there is no such member") (by decide)
      exact kt_throw (own := R_D) (xN := kt_N) (up := kt_U) (tx := "there is no such member") (q := q9) hx htr hb (hl.1.trans hml.symm) hown hne hlocks (by decide +kernel) (by decide +kernel) hZ.1.use (hw _ kb_128) (hw _ kb_129) (hw _ kb_10) hq9 (Nat.le_refl _) d_D_checkMember_10 d_D_checkMember_13 d_D_checkMember_14 d_D_checkMember_16 d_D_checkMember_19 (Nat.le_of_ble_eq_true rfl) (Nat.le_of_ble_eq_true rfl) (Nat.le_of_ble_eq_true rfl) (Nat.le_of_ble_eq_true rfl) (fun t x hW hX => Or.inr ⟨x, rfl, kn_ge (y := 8) (by decide) c_2, hX⟩)
set_option maxHeartbeats 4000000 in
set_option maxRecDepth 100000 in
theorem c_D_checkLog (l : Launch) (hl0 : l.stackTraces = false) {dC : Nat → ClassId} {dI : Nat → Nat → Nat} {cI cJ cR : ClassId} {d ar nb : Nat} {ga ha oa : Nat → Nat} (hnd : (kad d ar nb ga ha oa).Nodup) (lg tm lf wr : Int32) (G : Nat → kGV) (p0 : Int32) (sz : Nat) : MetT l y_D_checkLog w_D_checkLog ({ frames := 6, cells := 1, slots := 6, locals := 90 }) (kPreT (dC, dI) vwCl (kty cI cJ cR) [.ref d, .int p0] sz (kw cI cJ cR d ar nb ga ha oa lg tm lf wr G)) (kt_Or kt_N (kt_R (fun v => v = none ∧ ¬ p0 < 0 ∧ p0 < lg)) (¬ (¬ p0 < 0 ∧ p0 < lg))) 1 6 (fun _ => False) := by
  refine kt_ofW (cc := b_D_checkLog) (maxL := 2) (ret := none) (by decide) rfl ?_
  intro p e s m args below meth c s₁ B hml hv
  obtain ⟨⟨rfl, hsz, hP, hK⟩, hZ⟩ := hv
  have hx := B.exec
  have hb := B.bytes
  have hr := B.returns
  have hts := atoms_spec (ws := w_D_checkLog) B.pre
  have hw := fun (w : Cond) (h : w ∈ kb_B) => hts w (List.mem_cons_of_mem _ h)
  have hown : s.vm.findClass R_D = some m.cls := findClass_of_methodNamed B.named
  have hlocks := B.notSynchronized
  have hne := B.noHandlers (hts _ List.mem_cons_self)
  have htr : e.platform.stackTraces = false := by rw [Example.NoTraceControls.admits_follows B.admits]; exact hl0
  subst hsz
  generalize hAe : kA (kad d ar nb ga ha oa) s.heap.size = A
  have hA : ∀ q : Nat, s.heap.size ≤ q → A q := fun q h => by rw [← hAe]; exact Or.inr h
  have hAL : ∀ q ∈ (kad d ar nb ga ha oa), A q := fun q h => by rw [← hAe]; exact Or.inl h
  have hS : va_S A s.heap s.heap [] := va_S.rf
  have hl := lv_entry ([.ref d, .int p0]) (n := 2) (Nat.le_of_ble_eq_true rfl)
  rw [lg_entry_eq]
  generalize (lg_sl ([.ref d, .int p0]) ++ List.replicate (2 - (lg_sl ([.ref d, .int p0])).length) Slot.unset).toArray = ls at hl ⊢
  have hl : lv_has ls 2 [(0, .ref d), (1, .int p0)] := hl
  refine lv_iload_n hx hb d_D_checkLog_0 rfl (lv_at hl 1 rfl) ?_
  refine lv_if_lt (tgt := 12) hx hb d_D_checkLog_1 (by decide) (fun c_1 => ?_) (fun c_1 => ?_)
  · refine W.widen (k := 0) (n := 0) (by decide) (by decide) ?_
    obtain ⟨q9, hq9⟩ := hZ.2.use hown (k := 145) (tx := "there is no such log") (by decide)
    exact kt_throw (own := R_D) (xN := kt_N) (up := kt_U) (tx := "there is no such log") (q := q9) hx htr hb (hl.1.trans hml.symm) hown hne hlocks (by decide +kernel) (by decide +kernel) hZ.1.use (hw _ kb_128) (hw _ kb_129) (hw _ kb_10) hq9 (Nat.le_refl _) d_D_checkLog_12 d_D_checkLog_15 d_D_checkLog_16 d_D_checkLog_18 d_D_checkLog_21 (Nat.le_of_ble_eq_true rfl) (Nat.le_of_ble_eq_true rfl) (Nat.le_of_ble_eq_true rfl) (Nat.le_of_ble_eq_true rfl) (fun t x hW hX => Or.inr ⟨x, rfl, fun h => h.1 c_1, hX⟩)
  · refine lv_iload_n hx hb d_D_checkLog_4 rfl (lv_at hl 1 rfl) ?_
    refine lv_aload_n hx hb d_D_checkLog_5 rfl (lv_at hl 0 rfl) ?_
    refine va_get (D := (dC, dI)) (ci := 0) (v := .int lg) (C := R_D) (T := F_D) (N := 4) hx hb hw i_D hown hK hP 0 rfl rfl 0 (by decide) (hw _ kb_82) (fun _ h9 => h9) rfl d_D_checkLog_6 ?_
    refine lv_icmp_lt (tgt := 22) hx hb d_D_checkLog_9 (by decide) (fun c_2 => ?_) (fun c_2 => ?_)
    · refine W.widen (k := 1) (n := 6) (by decide) (by decide) ?_
      exact kt_W (fun _ h => kt_of h) (W.vret hx hb hr (fun t ht hW => Or.inl ⟨_, rfl, ⟨rfl, ⟨c_1, c_2⟩⟩, ht⟩) (fun q h => by cases h) d_D_checkLog_22)
    · refine W.widen (k := 0) (n := 0) (by decide) (by decide) ?_
      obtain ⟨q9, hq9⟩ := hZ.2.use hown (k := 145) (tx := "there is no such log") (by decide)
      exact kt_throw (own := R_D) (xN := kt_N) (up := kt_U) (tx := "there is no such log") (q := q9) hx htr hb (hl.1.trans hml.symm) hown hne hlocks (by decide +kernel) (by decide +kernel) hZ.1.use (hw _ kb_128) (hw _ kb_129) (hw _ kb_10) hq9 (Nat.le_refl _) d_D_checkLog_12 d_D_checkLog_15 d_D_checkLog_16 d_D_checkLog_18 d_D_checkLog_21 (Nat.le_of_ble_eq_true rfl) (Nat.le_of_ble_eq_true rfl) (Nat.le_of_ble_eq_true rfl) (Nat.le_of_ble_eq_true rfl) (fun t x hW hX => Or.inr ⟨x, rfl, fun h => c_2 h.2, hX⟩)
set_option maxHeartbeats 4000000 in
set_option maxRecDepth 100000 in
theorem c_D_join (l : Launch) (hl0 : l.stackTraces = false) {dC : Nat → ClassId} {dI : Nat → Nat → Nat} {cI cJ cR : ClassId} {d ar nb : Nat} {ga ha oa : Nat → Nat} (hnd : (kad d ar nb ga ha oa).Nodup) (lg tm lf wr : Int32) (G : Nat → kGV) (p0 : Int32) (p1 : Int32) (sz : Nat) : MetT l y_D_join w_D_join ({ frames := 7, cells := 2, slots := 12, locals := 120 }) (kPreT (dC, dI) vwCl (kty cI cJ cR) [.ref d, .int p0, .int p1] sz (kw cI cJ cR d ar nb ga ha oa lg tm lf wr G)) (kt_Or kt_N (va_Qi (fun (r : Int32) (u : kDV) => (vp_in p0 8 ∧ vp_in p1 8) ∧ (r, u) = kd_join p0 p1 (lg, tm, lf, wr, G)) (fun u t => va_P (dC, dI) vwCl (kwv cI cJ cR d ar nb ga ha oa u) t.heap) (kA (kad d ar nb ga ha oa) sz)) (¬ (vp_in p0 8 ∧ vp_in p1 8))) 2 12 (kA (kad d ar nb ga ha oa) sz) := by
  refine kt_ofW (cc := b_D_join) (maxL := 4) (ret := (some .int)) (by decide) rfl ?_
  intro p e s m args below meth c s₁ B hml hv
  obtain ⟨⟨rfl, hsz, hP, hK⟩, hZ⟩ := hv
  have hx := B.exec
  have hb := B.bytes
  have hr := B.returns
  have hts := atoms_spec (ws := w_D_join) B.pre
  have hw := fun (w : Cond) (h : w ∈ kb_B) => hts w (List.mem_cons_of_mem _ h)
  have hown : s.vm.findClass R_D = some m.cls := findClass_of_methodNamed B.named
  have hlocks := B.notSynchronized
  have hne := B.noHandlers (hts _ List.mem_cons_self)
  have htr : e.platform.stackTraces = false := by rw [Example.NoTraceControls.admits_follows B.admits]; exact hl0
  subst hsz
  generalize hAe : kA (kad d ar nb ga ha oa) s.heap.size = A
  have hA : ∀ q : Nat, s.heap.size ≤ q → A q := fun q h => by rw [← hAe]; exact Or.inr h
  have hAL : ∀ q ∈ (kad d ar nb ga ha oa), A q := fun q h => by rw [← hAe]; exact Or.inl h
  have hS : va_S A s.heap s.heap [] := va_S.rf
  have hl := lv_entry ([.ref d, .int p0, .int p1]) (n := 4) (Nat.le_of_ble_eq_true rfl)
  rw [lg_entry_eq]
  generalize (lg_sl ([.ref d, .int p0, .int p1]) ++ List.replicate (4 - (lg_sl ([.ref d, .int p0, .int p1])).length) Slot.unset).toArray = ls at hl ⊢
  have hl : lv_has ls 4 [(0, .ref d), (1, .int p0), (2, .int p1)] := hl
  refine lv_aload_n hx hb d_D_join_0 rfl (lv_at hl 0 rfl) ?_
  refine lv_iload_n hx hb d_D_join_1 rfl (lv_at hl 1 rfl) ?_
  refine kt_callP (kt_runV (As := [.int p0]) (rest := []) ⟨hx, hb, hml, hown, hw⟩ (c_D_groupAt l hl0 hnd lg tm lf wr G p0 _) (cwV 1 hw (kb_V kb_124 kb_126 kb_s0 kb_1 kb_127) rfl rfl rfl (by decide +kernel) ⟨Nat.le_of_ble_eq_true rfl, Nat.le_of_ble_eq_true rfl⟩) (kPVT (va_recv hK hP (ci := 0) (q0 := 0) rfl rfl) hP hK hZ (fun _ _ h => h)) rfl rfl hl.1 rfl (lv_room (Nat.le_of_ble_eq_true rfl)) d_D_join_2 ⟨Nat.le_of_ble_eq_true rfl, Nat.le_of_ble_eq_true rfl⟩) hne hlocks (by decide) (by decide) (fun t x ht hW hX => Or.inr ⟨x, rfl, fun h => ht h.1, hX⟩) (fun v_1 hv_1 => ?_)
  obtain ⟨rfl, hp_p0⟩ := hv_1
  have hj : p0.toNatClampNeg < 8 := Nat.not_le.mp fun q => hp_p0 (Or.inr q)
  generalize hjj : p0.toNatClampNeg = j at hj ⊢
  rw [← kv_at G j] at hP
  generalize hGj : G j = gv at hP
  obtain ⟨x0, x1, x2, x3, x4, x5, x6⟩ := gv
  have hGu : va_up G j (x0, x1, x2, x3, x4, x5, x6) = G := by rw [← hGj]; exact kv_at G j
  refine lv_astore_n (lv' := [(3, .ref (ga j)), (0, .ref d), (1, .int p0), (2, .int p1)]) hx hb d_D_join_5 rfl hl (by decide) rfl (fun ls hl => ?_)
  refine lv_aload_n hx hb d_D_join_6 rfl (lv_at hl 1 rfl) ?_
  refine lv_iload_n hx hb d_D_join_7 rfl (lv_at hl 3 rfl) ?_
  refine kt_callP (kt_runV (As := [.int p1]) (rest := []) ⟨hx, hb, hml, hown, hw⟩ (c_D_checkMember l hl0 hnd lg tm lf wr (va_up G j (x0, x1, x2, x3, x4, x5, x6)) p1 _) (cwV 1 hw (kb_V kb_194 kb_196 kb_s2 kb_1 kb_197) rfl rfl rfl (by decide +kernel) ⟨Nat.le_of_ble_eq_true rfl, Nat.le_of_ble_eq_true rfl⟩) (kPVT (va_recv hK hP (ci := 0) (q0 := 0) rfl rfl) hP hK hZ (fun _ _ h => h)) rfl rfl hl.1 rfl (lv_room (Nat.le_of_ble_eq_true rfl)) d_D_join_8 ⟨Nat.le_of_ble_eq_true rfl, Nat.le_of_ble_eq_true rfl⟩) hne hlocks (by decide) (by decide) (fun t x ht hW hX => Or.inr ⟨x, rfl, fun h => ht h.2, hX⟩) (fun v_2 hv_2 => ?_)
  obtain ⟨rfl, hp_p1⟩ := hv_2
  refine lv_aload_n hx hb d_D_join_11 rfl (lv_at hl 0 rfl) ?_
  refine lv_iload_n hx hb d_D_join_12 rfl (lv_at hl 3 rfl) ?_
  refine lv_aload_n hx hb d_D_join_13 rfl (lv_at hl 1 rfl) ?_
  refine va_get (D := (dC, dI)) (ci := 0) (v := .int tm) (C := R_D) (T := F_D) (N := 4) hx hb hw i_D hown hK hP 0 rfl rfl 3 (by decide) (hw _ kb_85) (fun _ h9 => h9) rfl d_D_join_14 ?_
  refine kc_v (Wd := kwv cI cJ cR d ar nb ga ha oa) (va_runV (As := [.int p1, .int tm]) (rest := []) ⟨hx, hb, hml, hown, hw⟩ (c_G_takeIn l hnd lg tm lf wr G hj x0 x1 x2 x3 x4 x5 x6 p1 tm hp_p1 _) (cwV 2 hw (kb_V kb_199 kb_200 kb_201 kb_4 kb_202) rfl rfl rfl (by decide +kernel) ⟨Nat.le_of_ble_eq_true rfl, Nat.le_of_ble_eq_true rfl⟩) (kPV (va_recv hK hP (ci := 2) (q0 := (3 * j + 3)) rfl (kw_gG hj)) hP hK) rfl rfl hl.1 rfl (lv_room (Nat.le_of_ble_eq_true rfl)) d_D_join_17 ⟨Nat.le_of_ble_eq_true rfl, Nat.le_of_ble_eq_true rfl⟩) hS hA hAL (fun u_3 H locs hw hP _ _ hS => ?_)
  subst hw
  have hP : va_P (dC, dI) vwCl (kw cI cJ cR d ar nb ga ha oa lg tm lf wr (va_up G j (kg_take p1 tm (x0, x1, x2, x3, x4, x5, x6)))) _ := hP
  generalize hq_5 : kg_take p1 tm (x0, x1, x2, x3, x4, x5, x6) = z_5 at hP
  obtain ⟨y5_0, y5_1, y5_2, y5_3, y5_4, y5_5, y5_6⟩ := z_5
  refine lv_aload_n hx hb d_D_join_20 rfl (lv_at hl 0 rfl) ?_
  refine lv_aload_n hx hb d_D_join_21 rfl (lv_at hl 1 rfl) ?_
  refine va_get (D := (dC, dI)) (ci := 0) (v := .int tm) (C := R_D) (T := F_D) (N := 4) hx hb hw i_D hown hK hP 0 rfl rfl 3 (by decide) (hw _ kb_85) (fun _ h9 => h9) rfl d_D_join_22 ?_
  refine lv_aload_n hx hb d_D_join_25 rfl (lv_at hl 1 rfl) ?_
  refine va_get (D := (dC, dI)) (ci := 0) (v := .ref nb) (C := R_D) (T := F_D) (N := 4) hx hb hw i_D hown hK hP 0 rfl rfl 2 (by decide) (hw _ kb_84) (fun _ h9 => h9) rfl d_D_join_26 ?_
  refine kc_v (Wd := kwv cI cJ cR d ar nb ga ha oa) (va_runV (As := [.int tm, .ref nb]) (rest := []) ⟨hx, hb, hml, hown, hw⟩ (c_G_finishMixing l hnd lg tm lf wr G hj y5_0 y5_1 y5_2 y5_3 y5_4 y5_5 y5_6 tm _) (cwV 2 hw (kb_V kb_207 kb_208 kb_209 kb_4 kb_210) rfl rfl rfl (by decide +kernel) ⟨Nat.le_of_ble_eq_true rfl, Nat.le_of_ble_eq_true rfl⟩) (kPV (va_recv hK hP (ci := 2) (q0 := (3 * j + 3)) rfl (kw_gG hj)) hP hK) rfl rfl hl.1 rfl (lv_room (Nat.le_of_ble_eq_true rfl)) d_D_join_29 ⟨Nat.le_of_ble_eq_true rfl, Nat.le_of_ble_eq_true rfl⟩) hS hA hAL (fun u_6 H locs hw hP _ _ hS => ?_)
  subst hw
  have hP : va_P (dC, dI) vwCl (kw cI cJ cR d ar nb ga ha oa lg tm (kg_fin tm lf wr (y5_0, y5_1, y5_2, y5_3, y5_4, y5_5, y5_6)).2.1 (kg_fin tm lf wr (y5_0, y5_1, y5_2, y5_3, y5_4, y5_5, y5_6)).2.2 (va_up G j (kg_fin tm lf wr (y5_0, y5_1, y5_2, y5_3, y5_4, y5_5, y5_6)).1)) _ := hP
  generalize hq_8 : kg_fin tm lf wr (y5_0, y5_1, y5_2, y5_3, y5_4, y5_5, y5_6) = z_8 at hP
  obtain ⟨⟨y8_0, y8_1, y8_2, y8_3, y8_4, y8_5, y8_6⟩, lf_8, wr_8⟩ := z_8
  have hP : va_P (dC, dI) vwCl (kw cI cJ cR d ar nb ga ha oa lg tm lf_8 wr_8 (va_up G j (y8_0, y8_1, y8_2, y8_3, y8_4, y8_5, y8_6))) _ := hP
  refine lv_aload_n hx hb d_D_join_32 rfl (lv_at hl 0 rfl) ?_
  refine va_get (D := (dC, dI)) (ci := 2) (v := .int y8_1) (C := R_G) (T := F_G) (N := 7) hx hb hw i_G hown hK hP (3 * j + 3) (kw_gG hj) rfl 1 (by decide) (hw _ kb_55) (fun _ h9 => h9) rfl d_D_join_33 ?_
  refine lv_iconst (v := 2) hx hb d_D_join_36 (by decide) ?_
  refine lv_icmp_ne (tgt := 47) hx hb d_D_join_37 (by decide) (fun c_1 => ?_) (fun c_1 => ?_)
  · refine lv_iconst (v := (-1)) hx hb d_D_join_47 (by decide) ?_
    refine W.widen (k := 2) (n := 12) (by decide) (by decide) ?_
    exact kt_W (fun _ h => kt_of h) (W.iret (v := (-1)) hx hb hr (fun t ht hW => Or.inl ⟨⟨_, (lg, tm, lf_8, wr_8, (va_up G j (y8_0, y8_1, y8_2, y8_3, y8_4, y8_5, y8_6))), rfl, ⟨⟨hp_p0, hp_p1⟩, by first | (simp only [kd_join, hjj, hGj, hGu, hq_5, hq_8, if_neg c_1]; done) | (simp [kd_join, hjj, hGj, hGu, hq_5, hq_8, c_1]; done)⟩, by show va_P _ _ _ t.heap; rw [ht]; exact hP⟩, hS.F ht⟩) hS.2.2 d_D_join_48)
  · refine lv_aload_n hx hb d_D_join_40 rfl (lv_at hl 0 rfl) ?_
    refine va_get (D := (dC, dI)) (ci := 2) (v := .int y8_0) (C := R_G) (T := F_G) (N := 7) hx hb hw i_G hown hK hP (3 * j + 3) (kw_gG hj) rfl 0 (by decide) (hw _ kb_52) (fun _ h9 => h9) rfl d_D_join_41 ?_
    refine lv_goto (tgt := 48) hx hb d_D_join_44 (by decide) ?_
    refine W.widen (k := 2) (n := 12) (by decide) (by decide) ?_
    exact kt_W (fun _ h => kt_of h) (W.iret (v := y8_0) hx hb hr (fun t ht hW => Or.inl ⟨⟨_, (lg, tm, lf_8, wr_8, (va_up G j (y8_0, y8_1, y8_2, y8_3, y8_4, y8_5, y8_6))), rfl, ⟨⟨hp_p0, hp_p1⟩, by first | (simp only [kd_join, hjj, hGj, hGu, hq_5, hq_8, if_pos c_1]; done) | (simp [kd_join, hjj, hGj, hGu, hq_5, hq_8, c_1]; done)⟩, by show va_P _ _ _ t.heap; rw [ht]; exact hP⟩, hS.F ht⟩) hS.2.2 d_D_join_48)
set_option maxHeartbeats 4000000 in
set_option maxRecDepth 100000 in
theorem c_D_leave (l : Launch) (hl0 : l.stackTraces = false) {dC : Nat → ClassId} {dI : Nat → Nat → Nat} {cI cJ cR : ClassId} {d ar nb : Nat} {ga ha oa : Nat → Nat} (hnd : (kad d ar nb ga ha oa).Nodup) (lg tm lf wr : Int32) (G : Nat → kGV) (p0 : Int32) (p1 : Int32) (sz : Nat) : MetT l y_D_leave w_D_leave ({ frames := 7, cells := 2, slots := 12, locals := 120 }) (kPreT (dC, dI) vwCl (kty cI cJ cR) [.ref d, .int p0, .int p1] sz (kw cI cJ cR d ar nb ga ha oa lg tm lf wr G)) (kt_Or kt_N (va_Qi (fun (r : Int32) (u : kDV) => (vp_in p0 8 ∧ vp_in p1 8) ∧ (r, u) = kd_leave p0 p1 (lg, tm, lf, wr, G)) (fun u t => va_P (dC, dI) vwCl (kwv cI cJ cR d ar nb ga ha oa u) t.heap) (kA (kad d ar nb ga ha oa) sz)) (¬ (vp_in p0 8 ∧ vp_in p1 8))) 2 12 (kA (kad d ar nb ga ha oa) sz) := by
  refine kt_ofW (cc := b_D_leave) (maxL := 4) (ret := (some .int)) (by decide) rfl ?_
  intro p e s m args below meth c s₁ B hml hv
  obtain ⟨⟨rfl, hsz, hP, hK⟩, hZ⟩ := hv
  have hx := B.exec
  have hb := B.bytes
  have hr := B.returns
  have hts := atoms_spec (ws := w_D_leave) B.pre
  have hw := fun (w : Cond) (h : w ∈ kb_B) => hts w (List.mem_cons_of_mem _ h)
  have hown : s.vm.findClass R_D = some m.cls := findClass_of_methodNamed B.named
  have hlocks := B.notSynchronized
  have hne := B.noHandlers (hts _ List.mem_cons_self)
  have htr : e.platform.stackTraces = false := by rw [Example.NoTraceControls.admits_follows B.admits]; exact hl0
  subst hsz
  generalize hAe : kA (kad d ar nb ga ha oa) s.heap.size = A
  have hA : ∀ q : Nat, s.heap.size ≤ q → A q := fun q h => by rw [← hAe]; exact Or.inr h
  have hAL : ∀ q ∈ (kad d ar nb ga ha oa), A q := fun q h => by rw [← hAe]; exact Or.inl h
  have hS : va_S A s.heap s.heap [] := va_S.rf
  have hl := lv_entry ([.ref d, .int p0, .int p1]) (n := 4) (Nat.le_of_ble_eq_true rfl)
  rw [lg_entry_eq]
  generalize (lg_sl ([.ref d, .int p0, .int p1]) ++ List.replicate (4 - (lg_sl ([.ref d, .int p0, .int p1])).length) Slot.unset).toArray = ls at hl ⊢
  have hl : lv_has ls 4 [(0, .ref d), (1, .int p0), (2, .int p1)] := hl
  refine lv_aload_n hx hb d_D_leave_0 rfl (lv_at hl 0 rfl) ?_
  refine lv_iload_n hx hb d_D_leave_1 rfl (lv_at hl 1 rfl) ?_
  refine kt_callP (kt_runV (As := [.int p0]) (rest := []) ⟨hx, hb, hml, hown, hw⟩ (c_D_groupAt l hl0 hnd lg tm lf wr G p0 _) (cwV 1 hw (kb_V kb_124 kb_126 kb_s0 kb_1 kb_127) rfl rfl rfl (by decide +kernel) ⟨Nat.le_of_ble_eq_true rfl, Nat.le_of_ble_eq_true rfl⟩) (kPVT (va_recv hK hP (ci := 0) (q0 := 0) rfl rfl) hP hK hZ (fun _ _ h => h)) rfl rfl hl.1 rfl (lv_room (Nat.le_of_ble_eq_true rfl)) d_D_leave_2 ⟨Nat.le_of_ble_eq_true rfl, Nat.le_of_ble_eq_true rfl⟩) hne hlocks (by decide) (by decide) (fun t x ht hW hX => Or.inr ⟨x, rfl, fun h => ht h.1, hX⟩) (fun v_1 hv_1 => ?_)
  obtain ⟨rfl, hp_p0⟩ := hv_1
  have hj : p0.toNatClampNeg < 8 := Nat.not_le.mp fun q => hp_p0 (Or.inr q)
  generalize hjj : p0.toNatClampNeg = j at hj ⊢
  rw [← kv_at G j] at hP
  generalize hGj : G j = gv at hP
  obtain ⟨x0, x1, x2, x3, x4, x5, x6⟩ := gv
  have hGu : va_up G j (x0, x1, x2, x3, x4, x5, x6) = G := by rw [← hGj]; exact kv_at G j
  refine lv_astore_n (lv' := [(3, .ref (ga j)), (0, .ref d), (1, .int p0), (2, .int p1)]) hx hb d_D_leave_5 rfl hl (by decide) rfl (fun ls hl => ?_)
  refine lv_aload_n hx hb d_D_leave_6 rfl (lv_at hl 1 rfl) ?_
  refine lv_iload_n hx hb d_D_leave_7 rfl (lv_at hl 3 rfl) ?_
  refine kt_callP (kt_runV (As := [.int p1]) (rest := []) ⟨hx, hb, hml, hown, hw⟩ (c_D_checkMember l hl0 hnd lg tm lf wr (va_up G j (x0, x1, x2, x3, x4, x5, x6)) p1 _) (cwV 1 hw (kb_V kb_194 kb_196 kb_s2 kb_1 kb_197) rfl rfl rfl (by decide +kernel) ⟨Nat.le_of_ble_eq_true rfl, Nat.le_of_ble_eq_true rfl⟩) (kPVT (va_recv hK hP (ci := 0) (q0 := 0) rfl rfl) hP hK hZ (fun _ _ h => h)) rfl rfl hl.1 rfl (lv_room (Nat.le_of_ble_eq_true rfl)) d_D_leave_8 ⟨Nat.le_of_ble_eq_true rfl, Nat.le_of_ble_eq_true rfl⟩) hne hlocks (by decide) (by decide) (fun t x ht hW hX => Or.inr ⟨x, rfl, fun h => ht h.2, hX⟩) (fun v_2 hv_2 => ?_)
  obtain ⟨rfl, hp_p1⟩ := hv_2
  refine lv_aload_n hx hb d_D_leave_11 rfl (lv_at hl 0 rfl) ?_
  refine lv_iload_n hx hb d_D_leave_12 rfl (lv_at hl 3 rfl) ?_
  refine vp_callSi (W.runV (As := [.int p1]) (rest := []) ⟨hx, hb, hml, hown, hw⟩ (c_G_has l hnd lg tm lf wr G hj x0 x1 x2 x3 x4 x5 x6 p1 _) (cwV 1 hw (kb_V kb_230 kb_231 kb_232 kb_4 kb_233) rfl rfl rfl (by decide +kernel) ⟨Nat.le_of_ble_eq_true rfl, Nat.le_of_ble_eq_true rfl⟩) (kPV (va_recv hK hP (ci := 2) (q0 := (3 * j + 3)) rfl (kw_gG hj)) hP hK) rfl rfl hl.1 rfl (lv_room (Nat.le_of_ble_eq_true rfl)) d_D_leave_13 ⟨Nat.le_of_ble_eq_true rfl, Nat.le_of_ble_eq_true rfl⟩) (fun r_3 er_3 => ?_)
  subst er_3
  refine lv_if_ne (tgt := 22) hx hb d_D_leave_16 (by decide) (fun c_1 => ?_) (fun c_1 => ?_)
  · refine lv_aload_n hx hb d_D_leave_22 rfl (lv_at hl 0 rfl) ?_
    refine lv_iconst (v := 1) hx hb d_D_leave_23 (by decide) ?_
    refine lv_iload_n hx hb d_D_leave_24 rfl (lv_at hl 3 rfl) ?_
    refine lv_ishl hx hb d_D_leave_25 ?_
    refine lv_aload_n hx hb d_D_leave_26 rfl (lv_at hl 1 rfl) ?_
    refine va_get (D := (dC, dI)) (ci := 0) (v := .int tm) (C := R_D) (T := F_D) (N := 4) hx hb hw i_D hown hK hP 0 rfl rfl 3 (by decide) (hw _ kb_85) (fun _ h9 => h9) rfl d_D_leave_27 ?_
    refine kc_v (Wd := kwv cI cJ cR d ar nb ga ha oa) (va_runV (As := [.int ((1 : Int32) <<< (p1 &&& 31)), .int tm]) (rest := []) ⟨hx, hb, hml, hown, hw⟩ (c_G_putOut l hnd lg tm lf wr G hj x0 x1 x2 x3 x4 x5 x6 ((1 : Int32) <<< (p1 &&& 31)) tm _) (cwV 2 hw (kb_V kb_234 kb_235 kb_236 kb_4 kb_237) rfl rfl rfl (by decide +kernel) ⟨Nat.le_of_ble_eq_true rfl, Nat.le_of_ble_eq_true rfl⟩) (kPV (va_recv hK hP (ci := 2) (q0 := (3 * j + 3)) rfl (kw_gG hj)) hP hK) rfl rfl hl.1 rfl (lv_room (Nat.le_of_ble_eq_true rfl)) d_D_leave_30 ⟨Nat.le_of_ble_eq_true rfl, Nat.le_of_ble_eq_true rfl⟩) hS hA hAL (fun u_4 H locs hw hP _ _ hS => ?_)
    subst hw
    have hP : va_P (dC, dI) vwCl (kw cI cJ cR d ar nb ga ha oa lg tm lf wr (va_up G j (kg_out ((1 : Int32) <<< (p1 &&& 31)) tm (x0, x1, x2, x3, x4, x5, x6)))) _ := hP
    generalize hq_6 : kg_out ((1 : Int32) <<< (p1 &&& 31)) tm (x0, x1, x2, x3, x4, x5, x6) = z_6 at hP
    obtain ⟨y6_0, y6_1, y6_2, y6_3, y6_4, y6_5, y6_6⟩ := z_6
    refine lv_aload_n hx hb d_D_leave_33 rfl (lv_at hl 0 rfl) ?_
    refine lv_aload_n hx hb d_D_leave_34 rfl (lv_at hl 1 rfl) ?_
    refine va_get (D := (dC, dI)) (ci := 0) (v := .int tm) (C := R_D) (T := F_D) (N := 4) hx hb hw i_D hown hK hP 0 rfl rfl 3 (by decide) (hw _ kb_85) (fun _ h9 => h9) rfl d_D_leave_35 ?_
    refine lv_aload_n hx hb d_D_leave_38 rfl (lv_at hl 1 rfl) ?_
    refine va_get (D := (dC, dI)) (ci := 0) (v := .ref nb) (C := R_D) (T := F_D) (N := 4) hx hb hw i_D hown hK hP 0 rfl rfl 2 (by decide) (hw _ kb_84) (fun _ h9 => h9) rfl d_D_leave_39 ?_
    refine kc_v (Wd := kwv cI cJ cR d ar nb ga ha oa) (va_runV (As := [.int tm, .ref nb]) (rest := []) ⟨hx, hb, hml, hown, hw⟩ (c_G_finishMixing l hnd lg tm lf wr G hj y6_0 y6_1 y6_2 y6_3 y6_4 y6_5 y6_6 tm _) (cwV 2 hw (kb_V kb_207 kb_208 kb_209 kb_4 kb_210) rfl rfl rfl (by decide +kernel) ⟨Nat.le_of_ble_eq_true rfl, Nat.le_of_ble_eq_true rfl⟩) (kPV (va_recv hK hP (ci := 2) (q0 := (3 * j + 3)) rfl (kw_gG hj)) hP hK) rfl rfl hl.1 rfl (lv_room (Nat.le_of_ble_eq_true rfl)) d_D_leave_42 ⟨Nat.le_of_ble_eq_true rfl, Nat.le_of_ble_eq_true rfl⟩) hS hA hAL (fun u_7 H locs hw hP _ _ hS => ?_)
    subst hw
    have hP : va_P (dC, dI) vwCl (kw cI cJ cR d ar nb ga ha oa lg tm (kg_fin tm lf wr (y6_0, y6_1, y6_2, y6_3, y6_4, y6_5, y6_6)).2.1 (kg_fin tm lf wr (y6_0, y6_1, y6_2, y6_3, y6_4, y6_5, y6_6)).2.2 (va_up G j (kg_fin tm lf wr (y6_0, y6_1, y6_2, y6_3, y6_4, y6_5, y6_6)).1)) _ := hP
    generalize hq_9 : kg_fin tm lf wr (y6_0, y6_1, y6_2, y6_3, y6_4, y6_5, y6_6) = z_9 at hP
    obtain ⟨⟨y9_0, y9_1, y9_2, y9_3, y9_4, y9_5, y9_6⟩, lf_9, wr_9⟩ := z_9
    have hP : va_P (dC, dI) vwCl (kw cI cJ cR d ar nb ga ha oa lg tm lf_9 wr_9 (va_up G j (y9_0, y9_1, y9_2, y9_3, y9_4, y9_5, y9_6))) _ := hP
    refine lv_iconst (v := 1) hx hb d_D_leave_45 (by decide) ?_
    refine W.widen (k := 2) (n := 12) (by decide) (by decide) ?_
    exact kt_W (fun _ h => kt_of h) (W.iret (v := 1) hx hb hr (fun t ht hW => Or.inl ⟨⟨_, (lg, tm, lf_9, wr_9, (va_up G j (y9_0, y9_1, y9_2, y9_3, y9_4, y9_5, y9_6))), rfl, ⟨⟨hp_p0, hp_p1⟩, by first | (simp only [kd_leave, hjj, hGj, hGu, if_neg c_1, hq_6, hq_9]; done) | (simp [kd_leave, hjj, hGj, hGu, c_1, hq_6, hq_9]; done)⟩, by show va_P _ _ _ t.heap; rw [ht]; exact hP⟩, hS.F ht⟩) hS.2.2 d_D_leave_46)
  · refine lv_bipush (v := (-8)) hx hb d_D_leave_19 (by decide) ?_
    refine W.widen (k := 2) (n := 12) (by decide) (by decide) ?_
    exact kt_W (fun _ h => kt_of h) (W.iret (v := (-8)) hx hb hr (fun t ht hW => Or.inl ⟨⟨_, (lg, tm, lf, wr, (va_up G j (x0, x1, x2, x3, x4, x5, x6))), rfl, ⟨⟨hp_p0, hp_p1⟩, by first | (simp only [kd_leave, hjj, hGj, hGu, if_pos c_1]; done) | (simp [kd_leave, hjj, hGj, hGu, c_1]; done)⟩, by show va_P _ _ _ t.heap; rw [ht]; exact hP⟩, hS.F ht⟩) hS.2.2 d_D_leave_21)
set_option maxHeartbeats 4000000 in
set_option maxRecDepth 100000 in
theorem c_D_beat (l : Launch) (hl0 : l.stackTraces = false) {dC : Nat → ClassId} {dI : Nat → Nat → Nat} {cI cJ cR : ClassId} {d ar nb : Nat} {ga ha oa : Nat → Nat} (hnd : (kad d ar nb ga ha oa).Nodup) (lg tm lf wr : Int32) (G : Nat → kGV) (p0 : Int32) (p1 : Int32) (p2 : Int32) (sz : Nat) : MetT l y_D_beat w_D_beat ({ frames := 7, cells := 2, slots := 12, locals := 120 }) (kPreT (dC, dI) vwCl (kty cI cJ cR) [.ref d, .int p0, .int p1, .int p2] sz (kw cI cJ cR d ar nb ga ha oa lg tm lf wr G)) (kt_Or kt_N (va_Qi (fun (r : Int32) (u : kDV) => (vp_in p0 8 ∧ vp_in p1 8) ∧ (r, u) = kd_beat p0 p1 p2 (lg, tm, lf, wr, G)) (fun u t => va_P (dC, dI) vwCl (kwv cI cJ cR d ar nb ga ha oa u) t.heap) (kA (kad d ar nb ga ha oa) sz)) (¬ (vp_in p0 8 ∧ vp_in p1 8))) 2 12 (kA (kad d ar nb ga ha oa) sz) := by
  refine kt_ofW (cc := b_D_beat) (maxL := 5) (ret := (some .int)) (by decide) rfl ?_
  intro p e s m args below meth c s₁ B hml hv
  obtain ⟨⟨rfl, hsz, hP, hK⟩, hZ⟩ := hv
  have hx := B.exec
  have hb := B.bytes
  have hr := B.returns
  have hts := atoms_spec (ws := w_D_beat) B.pre
  have hw := fun (w : Cond) (h : w ∈ kb_B) => hts w (List.mem_cons_of_mem _ h)
  have hown : s.vm.findClass R_D = some m.cls := findClass_of_methodNamed B.named
  have hlocks := B.notSynchronized
  have hne := B.noHandlers (hts _ List.mem_cons_self)
  have htr : e.platform.stackTraces = false := by rw [Example.NoTraceControls.admits_follows B.admits]; exact hl0
  subst hsz
  generalize hAe : kA (kad d ar nb ga ha oa) s.heap.size = A
  have hA : ∀ q : Nat, s.heap.size ≤ q → A q := fun q h => by rw [← hAe]; exact Or.inr h
  have hAL : ∀ q ∈ (kad d ar nb ga ha oa), A q := fun q h => by rw [← hAe]; exact Or.inl h
  have hS : va_S A s.heap s.heap [] := va_S.rf
  have hl := lv_entry ([.ref d, .int p0, .int p1, .int p2]) (n := 5) (Nat.le_of_ble_eq_true rfl)
  rw [lg_entry_eq]
  generalize (lg_sl ([.ref d, .int p0, .int p1, .int p2]) ++ List.replicate (5 - (lg_sl ([.ref d, .int p0, .int p1, .int p2])).length) Slot.unset).toArray = ls at hl ⊢
  have hl : lv_has ls 5 [(0, .ref d), (1, .int p0), (2, .int p1), (3, .int p2)] := hl
  refine lv_aload_n hx hb d_D_beat_0 rfl (lv_at hl 0 rfl) ?_
  refine lv_iload_n hx hb d_D_beat_1 rfl (lv_at hl 1 rfl) ?_
  refine kt_callP (kt_runV (As := [.int p0]) (rest := []) ⟨hx, hb, hml, hown, hw⟩ (c_D_groupAt l hl0 hnd lg tm lf wr G p0 _) (cwV 1 hw (kb_V kb_124 kb_126 kb_s0 kb_1 kb_127) rfl rfl rfl (by decide +kernel) ⟨Nat.le_of_ble_eq_true rfl, Nat.le_of_ble_eq_true rfl⟩) (kPVT (va_recv hK hP (ci := 0) (q0 := 0) rfl rfl) hP hK hZ (fun _ _ h => h)) rfl rfl hl.1 rfl (lv_room (Nat.le_of_ble_eq_true rfl)) d_D_beat_2 ⟨Nat.le_of_ble_eq_true rfl, Nat.le_of_ble_eq_true rfl⟩) hne hlocks (by decide) (by decide) (fun t x ht hW hX => Or.inr ⟨x, rfl, fun h => ht h.1, hX⟩) (fun v_1 hv_1 => ?_)
  obtain ⟨rfl, hp_p0⟩ := hv_1
  have hj : p0.toNatClampNeg < 8 := Nat.not_le.mp fun q => hp_p0 (Or.inr q)
  generalize hjj : p0.toNatClampNeg = j at hj ⊢
  rw [← kv_at G j] at hP
  generalize hGj : G j = gv at hP
  obtain ⟨x0, x1, x2, x3, x4, x5, x6⟩ := gv
  have hGu : va_up G j (x0, x1, x2, x3, x4, x5, x6) = G := by rw [← hGj]; exact kv_at G j
  refine lv_astore (lv' := [(4, .ref (ga j)), (0, .ref d), (1, .int p0), (2, .int p1), (3, .int p2)]) hx hb d_D_beat_5 hl (by decide) rfl (fun ls hl => ?_)
  refine lv_aload_n hx hb d_D_beat_7 rfl (lv_at hl 1 rfl) ?_
  refine lv_iload_n hx hb d_D_beat_8 rfl (lv_at hl 3 rfl) ?_
  refine kt_callP (kt_runV (As := [.int p1]) (rest := []) ⟨hx, hb, hml, hown, hw⟩ (c_D_checkMember l hl0 hnd lg tm lf wr (va_up G j (x0, x1, x2, x3, x4, x5, x6)) p1 _) (cwV 1 hw (kb_V kb_194 kb_196 kb_s2 kb_1 kb_197) rfl rfl rfl (by decide +kernel) ⟨Nat.le_of_ble_eq_true rfl, Nat.le_of_ble_eq_true rfl⟩) (kPVT (va_recv hK hP (ci := 0) (q0 := 0) rfl rfl) hP hK hZ (fun _ _ h => h)) rfl rfl hl.1 rfl (lv_room (Nat.le_of_ble_eq_true rfl)) d_D_beat_9 ⟨Nat.le_of_ble_eq_true rfl, Nat.le_of_ble_eq_true rfl⟩) hne hlocks (by decide) (by decide) (fun t x ht hW hX => Or.inr ⟨x, rfl, fun h => ht h.2, hX⟩) (fun v_2 hv_2 => ?_)
  obtain ⟨rfl, hp_p1⟩ := hv_2
  refine lv_aload hx hb d_D_beat_12 (lv_at hl 0 rfl) ?_
  refine lv_iload_n hx hb d_D_beat_14 rfl (lv_at hl 3 rfl) ?_
  refine vp_callSi (W.runV (As := [.int p1]) (rest := []) ⟨hx, hb, hml, hown, hw⟩ (c_G_has l hnd lg tm lf wr G hj x0 x1 x2 x3 x4 x5 x6 p1 _) (cwV 1 hw (kb_V kb_230 kb_231 kb_232 kb_4 kb_233) rfl rfl rfl (by decide +kernel) ⟨Nat.le_of_ble_eq_true rfl, Nat.le_of_ble_eq_true rfl⟩) (kPV (va_recv hK hP (ci := 2) (q0 := (3 * j + 3)) rfl (kw_gG hj)) hP hK) rfl rfl hl.1 rfl (lv_room (Nat.le_of_ble_eq_true rfl)) d_D_beat_15 ⟨Nat.le_of_ble_eq_true rfl, Nat.le_of_ble_eq_true rfl⟩) (fun r_3 er_3 => ?_)
  subst er_3
  refine lv_if_ne (tgt := 24) hx hb d_D_beat_18 (by decide) (fun c_1 => ?_) (fun c_1 => ?_)
  · refine lv_iload_n hx hb d_D_beat_24 rfl (lv_at hl 4 rfl) ?_
    refine lv_aload hx hb d_D_beat_25 (lv_at hl 0 rfl) ?_
    refine va_get (D := (dC, dI)) (ci := 2) (v := .int x0) (C := R_G) (T := F_G) (N := 7) hx hb hw i_G hown hK hP (3 * j + 3) (kw_gG hj) rfl 0 (by decide) (hw _ kb_52) (fun _ h9 => h9) rfl d_D_beat_27 ?_
    refine lv_icmp_eq (tgt := 36) hx hb d_D_beat_30 (by decide) (fun c_2 => ?_) (fun c_2 => ?_)
    · refine lv_aload hx hb d_D_beat_36 (lv_at hl 0 rfl) ?_
      refine va_get (D := (dC, dI)) (ci := 2) (v := .ref (ha j)) (C := R_G) (T := F_G) (N := 7) hx hb hw i_G hown hK hP (3 * j + 3) (kw_gG hj) rfl 5 (by decide) (hw _ kb_62) (fun _ h9 => h9) rfl d_D_beat_38 ?_
      refine lv_iload_n hx hb d_D_beat_41 rfl (lv_at hl 3 rfl) ?_
      refine lv_aload_n hx hb d_D_beat_42 rfl (lv_at hl 1 rfl) ?_
      refine va_get (D := (dC, dI)) (ci := 0) (v := .int tm) (C := R_D) (T := F_D) (N := 4) hx hb hw i_D hown hK hP 0 rfl rfl 3 (by decide) (hw _ kb_85) (fun _ h9 => h9) rfl d_D_beat_43 ?_
      refine va_iast hx hb hK hP (kw_D hnd hAL) hS (3 * j + 4) 0 (kw_gH hj) rfl hp_p1 d_D_beat_46 (fun H locs hP _ hS => ?_)
      have hP : va_P (dC, dI) vwCl (kw cI cJ cR d ar nb ga ha oa lg tm lf wr (va_up G j (x0, x1, x2, x3, x4, upd x5 p1.toNatClampNeg tm, x6))) H := by rw [← kw_sH hj]; exact hP
      refine lv_aload hx hb d_D_beat_47 (lv_at hl 0 rfl) ?_
      refine lv_iload_n hx hb d_D_beat_49 rfl (lv_at hl 3 rfl) ?_
      refine vp_callSi (W.runV (As := [.int p1]) (rest := []) ⟨hx, hb, hml, hown, hw⟩ (c_G_hasJoined l hnd lg tm lf wr G hj x0 x1 x2 x3 x4 (upd x5 p1.toNatClampNeg tm) x6 p1 _) (cwV 1 hw (kb_V kb_245 kb_246 kb_247 kb_4 kb_248) rfl rfl rfl (by decide +kernel) ⟨Nat.le_of_ble_eq_true rfl, Nat.le_of_ble_eq_true rfl⟩) (kPV (va_recv hK hP (ci := 2) (q0 := (3 * j + 3)) rfl (kw_gG hj)) hP hK) rfl rfl hl.1 rfl (lv_room (Nat.le_of_ble_eq_true rfl)) d_D_beat_50 ⟨Nat.le_of_ble_eq_true rfl, Nat.le_of_ble_eq_true rfl⟩) (fun r_4 er_4 => ?_)
      subst er_4
      refine lv_if_eq (tgt := 60) hx hb d_D_beat_53 (by decide) (fun c_3 => ?_) (fun c_3 => ?_)
      · refine lv_iconst (v := 1) hx hb d_D_beat_60 (by decide) ?_
        refine W.widen (k := 2) (n := 12) (by decide) (by decide) ?_
        exact kt_W (fun _ h => kt_of h) (W.iret (v := 1) hx hb hr (fun t ht hW => Or.inl ⟨⟨_, (lg, tm, lf, wr, (va_up G j (x0, x1, x2, x3, x4, upd x5 p1.toNatClampNeg tm, x6))), rfl, ⟨⟨hp_p0, hp_p1⟩, by first | (simp only [kd_beat, kg_hear, hjj, hGj, hGu, if_neg c_1, if_pos c_2, if_pos c_3]; done) | (simp [kd_beat, kg_hear, hjj, hGj, hGu, c_1, c_2, c_3]; done)⟩, by show va_P _ _ _ t.heap; rw [ht]; exact hP⟩, hS.F ht⟩) hS.2.2 d_D_beat_61)
      · refine lv_iconst (v := 0) hx hb d_D_beat_56 (by decide) ?_
        refine lv_goto (tgt := 61) hx hb d_D_beat_57 (by decide) ?_
        refine W.widen (k := 2) (n := 12) (by decide) (by decide) ?_
        exact kt_W (fun _ h => kt_of h) (W.iret (v := 0) hx hb hr (fun t ht hW => Or.inl ⟨⟨_, (lg, tm, lf, wr, (va_up G j (x0, x1, x2, x3, x4, upd x5 p1.toNatClampNeg tm, x6))), rfl, ⟨⟨hp_p0, hp_p1⟩, by first | (simp only [kd_beat, kg_hear, hjj, hGj, hGu, if_neg c_1, if_pos c_2, if_neg c_3]; done) | (simp [kd_beat, kg_hear, hjj, hGj, hGu, c_1, c_2, c_3]; done)⟩, by show va_P _ _ _ t.heap; rw [ht]; exact hP⟩, hS.F ht⟩) hS.2.2 d_D_beat_61)
    · refine lv_bipush (v := (-9)) hx hb d_D_beat_33 (by decide) ?_
      refine W.widen (k := 2) (n := 12) (by decide) (by decide) ?_
      exact kt_W (fun _ h => kt_of h) (W.iret (v := (-9)) hx hb hr (fun t ht hW => Or.inl ⟨⟨_, (lg, tm, lf, wr, (va_up G j (x0, x1, x2, x3, x4, x5, x6))), rfl, ⟨⟨hp_p0, hp_p1⟩, by first | (simp only [kd_beat, kg_hear, hjj, hGj, hGu, if_neg c_1, if_neg c_2]; done) | (simp [kd_beat, kg_hear, hjj, hGj, hGu, c_1, c_2]; done)⟩, by show va_P _ _ _ t.heap; rw [ht]; exact hP⟩, hS.F ht⟩) hS.2.2 d_D_beat_35)
  · refine lv_bipush (v := (-8)) hx hb d_D_beat_21 (by decide) ?_
    refine W.widen (k := 2) (n := 12) (by decide) (by decide) ?_
    exact kt_W (fun _ h => kt_of h) (W.iret (v := (-8)) hx hb hr (fun t ht hW => Or.inl ⟨⟨_, (lg, tm, lf, wr, (va_up G j (x0, x1, x2, x3, x4, x5, x6))), rfl, ⟨⟨hp_p0, hp_p1⟩, by first | (simp only [kd_beat, kg_hear, hjj, hGj, hGu, if_pos c_1]; done) | (simp [kd_beat, kg_hear, hjj, hGj, hGu, c_1]; done)⟩, by show va_P _ _ _ t.heap; rw [ht]; exact hP⟩, hS.F ht⟩) hS.2.2 d_D_beat_23)
