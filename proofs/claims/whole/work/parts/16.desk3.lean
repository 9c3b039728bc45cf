set_option maxHeartbeats 4000000 in
set_option maxRecDepth 100000 in
theorem c_D_commit (l : Launch) (hl0 : l.stackTraces = false) {dC : Nat → ClassId} {dI : Nat → Nat → Nat} {cI cJ cR : ClassId} {d ar nb : Nat} {ga ha oa : Nat → Nat} (hnd : (kad d ar nb ga ha oa).Nodup) (lg tm lf wr : Int32) (G : Nat → kGV) (p0 : Int32) (p1 : Int32) (p2 : Int32) (p3 : Int32) (p4 : Int64) (hlg : ∃ n : Nat, n ≤ 8 ∧ lg = nI n) (sz : Nat) : MetT l y_D_commit w_D_commit ({ frames := 7, cells := 4, slots := 24, locals := 120 }) (kPreT (dC, dI) vwCl (kty cI cJ cR) [.ref d, .int p0, .int p1, .int p2, .int p3, .long p4] sz (kw cI cJ cR d ar nb ga ha oa lg tm lf wr G)) (kt_Or kt_N (va_Qi (fun (r : Int32) (u : kDV) => (vp_in p0 8 ∧ vp_in p1 8 ∧ (¬ p3 < 0 ∧ p3 < lg) ∧ ¬ p4 < 0) ∧ (r, u) = kd_commit p0 p1 p2 p3 p4 (lg, tm, lf, wr, G)) (fun u t => va_P (dC, dI) vwCl (kwv cI cJ cR d ar nb ga ha oa u) t.heap) (kA (kad d ar nb ga ha oa) sz)) (¬ (vp_in p0 8 ∧ vp_in p1 8 ∧ (¬ p3 < 0 ∧ p3 < lg) ∧ ¬ p4 < 0))) 4 24 (kA (kad d ar nb ga ha oa) sz) := by
  refine kt_ofW (cc := b_D_commit) (maxL := 9) (ret := (some .int)) (by decide) rfl ?_
  intro p e s m args below meth c s₁ B hml hv
  obtain ⟨⟨rfl, hsz, hP, hK⟩, hZ⟩ := hv
  have hx := B.exec
  have hb := B.bytes
  have hr := B.returns
  have hts := atoms_spec (ws := w_D_commit) B.pre
  have hw := fun (w : Cond) (h : w ∈ kb_B) => hts w (List.mem_cons_of_mem _ h)
  have hown : s.vm.findClass R_D = some m.cls := findClass_of_methodNamed B.named
  have hlocks := B.notSynchronized
  have hne := B.noHandlers (hts _ List.mem_cons_self)
  have htr : e.platform.stackTraces = false := by rw [Example.NoTraceControls.admits_follows B.admits]; exact hl0
  subst hsz
  generalize hAe : kA (kad d ar nb ga ha oa) s.heap.size = A
  have hA : ∀ q : Nat, s.heap.size ≤ q → A q := fun q h => by rw [← hAe]; exact Or.inr h
  have hAL : ∀ q ∈ (kad d ar nb ga ha oa), A q := fun q h => by rw [← hAe]; exact Or.inl h
  have hS : va_S A s.heap s.heap [] := va_S.rf
  have hl := lv_entry ([.ref d, .int p0, .int p1, .int p2, .int p3, .long p4]) (n := 9) (Nat.le_of_ble_eq_true rfl)
  rw [lg_entry_eq]
  generalize (lg_sl ([.ref d, .int p0, .int p1, .int p2, .int p3, .long p4]) ++ List.replicate (9 - (lg_sl ([.ref d, .int p0, .int p1, .int p2, .int p3, .long p4])).length) Slot.unset).toArray = ls at hl ⊢
  have hl : lv_has ls 9 [(0, .ref d), (1, .int p0), (2, .int p1), (3, .int p2), (4, .int p3), (5, .long p4)] := hl
  refine lv_aload_n hx hb d_D_commit_0 rfl (lv_at hl 0 rfl) ?_
  refine lv_iload_n hx hb d_D_commit_1 rfl (lv_at hl 1 rfl) ?_
  refine kt_callP (kt_runV (As := [.int p0]) (rest := []) ⟨hx, hb, hml, hown, hw⟩ (c_D_groupAt l hl0 hnd lg tm lf wr G p0 _) (cwV 1 hw (kb_V kb_124 kb_126 kb_s0 kb_1 kb_127) rfl rfl rfl (by decide +kernel) ⟨Nat.le_of_ble_eq_true rfl, Nat.le_of_ble_eq_true rfl⟩) (kPVT (va_recv hK hP (ci := 0) (q0 := 0) rfl rfl) hP hK hZ (fun _ _ h => h)) rfl rfl hl.1 rfl (lv_room (Nat.le_of_ble_eq_true rfl)) d_D_commit_2 ⟨Nat.le_of_ble_eq_true rfl, Nat.le_of_ble_eq_true rfl⟩) hne hlocks (by decide) (by decide) (fun t x ht hW hX => Or.inr ⟨x, rfl, fun h => ht h.1, hX⟩) (fun v_1 hv_1 => ?_)
  obtain ⟨rfl, hp_p0⟩ := hv_1
  have hj : p0.toNatClampNeg < 8 := Nat.not_le.mp fun q => hp_p0 (Or.inr q)
  generalize hjj : p0.toNatClampNeg = j at hj ⊢
  rw [← kv_at G j] at hP
  generalize hGj : G j = gv at hP
  obtain ⟨x0, x1, x2, x3, x4, x5, x6⟩ := gv
  have hGu : va_up G j (x0, x1, x2, x3, x4, x5, x6) = G := by rw [← hGj]; exact kv_at G j
  refine lv_astore (lv' := [(7, .ref (ga j)), (0, .ref d), (1, .int p0), (2, .int p1), (3, .int p2), (4, .int p3), (5, .long p4)]) hx hb d_D_commit_5 hl (by decide) rfl (fun ls hl => ?_)
  refine lv_aload_n hx hb d_D_commit_7 rfl (lv_at hl 1 rfl) ?_
  refine lv_iload_n hx hb d_D_commit_8 rfl (lv_at hl 3 rfl) ?_
  refine kt_callP (kt_runV (As := [.int p1]) (rest := []) ⟨hx, hb, hml, hown, hw⟩ (c_D_checkMember l hl0 hnd lg tm lf wr (va_up G j (x0, x1, x2, x3, x4, x5, x6)) p1 _) (cwV 1 hw (kb_V kb_194 kb_196 kb_s2 kb_1 kb_197) rfl rfl rfl (by decide +kernel) ⟨Nat.le_of_ble_eq_true rfl, Nat.le_of_ble_eq_true rfl⟩) (kPVT (va_recv hK hP (ci := 0) (q0 := 0) rfl rfl) hP hK hZ (fun _ _ h => h)) rfl rfl hl.1 rfl (lv_room (Nat.le_of_ble_eq_true rfl)) d_D_commit_9 ⟨Nat.le_of_ble_eq_true rfl, Nat.le_of_ble_eq_true rfl⟩) hne hlocks (by decide) (by decide) (fun t x ht hW hX => Or.inr ⟨x, rfl, fun h => ht h.2.1, hX⟩) (fun v_2 hv_2 => ?_)
  obtain ⟨rfl, hp_p1⟩ := hv_2
  refine lv_aload_n hx hb d_D_commit_12 rfl (lv_at hl 1 rfl) ?_
  refine lv_iload hx hb d_D_commit_13 (lv_at hl 5 rfl) ?_
  refine kt_callP (kt_runV (As := [.int p3]) (rest := []) ⟨hx, hb, hml, hown, hw⟩ (c_D_checkLog l hl0 hnd lg tm lf wr (va_up G j (x0, x1, x2, x3, x4, x5, x6)) p3 _) (cwV 1 hw (kb_V kb_256 kb_258 kb_s3 kb_1 kb_259) rfl rfl rfl (by decide +kernel) ⟨Nat.le_of_ble_eq_true rfl, Nat.le_of_ble_eq_true rfl⟩) (kPVT (va_recv hK hP (ci := 0) (q0 := 0) rfl rfl) hP hK hZ (fun _ _ h => h)) rfl rfl hl.1 rfl (lv_room (Nat.le_of_ble_eq_true rfl)) d_D_commit_15 ⟨Nat.le_of_ble_eq_true rfl, Nat.le_of_ble_eq_true rfl⟩) hne hlocks (by decide) (by decide) (fun t x ht hW hX => Or.inr ⟨x, rfl, fun h => ht h.2.2.1, hX⟩) (fun v_3 hv_3 => ?_)
  obtain ⟨rfl, hp_p3⟩ := hv_3
  refine lv_lload hx hb d_D_commit_18 (lv_at hl 6 rfl) ?_
  refine lv_lconst (v := 0) hx hb d_D_commit_20 (by decide) ?_
  refine W.lcmp hx hb d_D_commit_21 ?_
  refine lv_if_ge (tgt := 35) hx hb d_D_commit_22 (by decide) (fun c_1 => ?_) (fun c_1 => ?_)
  · refine lv_aload hx hb d_D_commit_35 (lv_at hl 0 rfl) ?_
    refine lv_iload_n hx hb d_D_commit_37 rfl (lv_at hl 3 rfl) ?_
    refine lv_iload_n hx hb d_D_commit_38 rfl (lv_at hl 4 rfl) ?_
    refine lv_iload hx hb d_D_commit_39 (lv_at hl 5 rfl) ?_
    refine vp_callSi (W.runV (As := [.int p1, .int p2, .int p3]) (rest := []) ⟨hx, hb, hml, hown, hw⟩ (c_G_refusalOf l hnd lg tm lf wr G hj x0 x1 x2 x3 x4 x5 x6 p1 p2 p3 _) (cwV 3 hw (kb_V kb_262 kb_263 kb_264 kb_4 kb_265) rfl rfl rfl (by decide +kernel) ⟨Nat.le_of_ble_eq_true rfl, Nat.le_of_ble_eq_true rfl⟩) (kPV (va_recv hK hP (ci := 2) (q0 := (3 * j + 3)) rfl (kw_gG hj)) hP hK) rfl rfl hl.1 rfl (lv_room (Nat.le_of_ble_eq_true rfl)) d_D_commit_41 ⟨Nat.le_of_ble_eq_true rfl, Nat.le_of_ble_eq_true rfl⟩) (fun r_4 er_4 => ?_)
    subst er_4
    refine lv_istore (lv' := [(8, .int (kg_ref p1 p2 p3 (x0, x1, x2, x3, x4, x5, x6))), (7, .ref (ga j)), (0, .ref d), (1, .int p0), (2, .int p1), (3, .int p2), (4, .int p3), (5, .long p4)]) hx hb d_D_commit_44 hl (by decide) rfl (fun ls hl => ?_)
    refine lv_iload hx hb d_D_commit_46 (lv_at hl 0 rfl) ?_
    refine lv_if_eq (tgt := 54) hx hb d_D_commit_48 (by decide) (fun c_2 => ?_) (fun c_2 => ?_)
    · refine lv_aload_n hx hb d_D_commit_54 rfl (lv_at hl 2 rfl) ?_
      refine va_get (D := (dC, dI)) (ci := 0) (v := .ref nb) (C := R_D) (T := F_D) (N := 4) hx hb hw i_D hown hK hP 0 rfl rfl 2 (by decide) (hw _ kb_84) (fun _ h9 => h9) rfl d_D_commit_55 ?_
      refine kc_i (Wd := kwv cI cJ cR d ar nb ga ha oa) (va_runV (As := []) (rest := []) ⟨hx, hb, hml, hown, hw⟩ (c_N_write l hnd lg tm lf wr (va_up G j (x0, x1, x2, x3, x4, x5, x6)) _) (cwV 0 hw (kb_V kb_272 kb_213 kb_214 kb_3 kb_215) rfl rfl rfl (by decide +kernel) ⟨Nat.le_of_ble_eq_true rfl, Nat.le_of_ble_eq_true rfl⟩) (kPV (va_recv hK hP (ci := 1) (q0 := 2) rfl rfl) hP hK) rfl rfl hl.1 rfl (lv_room (Nat.le_of_ble_eq_true rfl)) d_D_commit_58 ⟨Nat.le_of_ble_eq_true rfl, Nat.le_of_ble_eq_true rfl⟩) hS hA hAL (fun r_6 u_5 H locs hw hP _ _ hS => ?_)
      obtain ⟨rfl, rfl⟩ := hw
      generalize hq_7 : kn_write lf wr = z_7 at hP ⊢
      obtain ⟨r_7, lf_7, wr_7⟩ := z_7
      have hP : va_P (dC, dI) vwCl (kw cI cJ cR d ar nb ga ha oa lg tm lf_7 wr_7 (va_up G j (x0, x1, x2, x3, x4, x5, x6))) _ := hP
      refine lv_if_ne (tgt := 67) hx hb d_D_commit_61 (by decide) (fun c_3 => ?_) (fun c_3 => ?_)
      · refine lv_aload hx hb d_D_commit_67 (lv_at hl 1 rfl) ?_
        refine va_get (D := (dC, dI)) (ci := 2) (v := .ref (oa j)) (C := R_G) (T := F_G) (N := 7) hx hb hw i_G hown hK hP (3 * j + 3) (kw_gG hj) rfl 6 (by decide) (hw _ kb_64) (fun _ h9 => h9) rfl d_D_commit_69 ?_
        refine lv_iload hx hb d_D_commit_72 (lv_at hl 6 rfl) ?_
        refine lv_lload hx hb d_D_commit_74 (lv_at hl 7 rfl) ?_
        refine va_last hx hb hK hP (kw_D hnd hAL) hS (3 * j + 5) 1 (kw_gO hj) rfl (k_in8 hlg hp_p3) d_D_commit_76 (fun H locs hP _ hS => ?_)
        have hP : va_P (dC, dI) vwCl (kw cI cJ cR d ar nb ga ha oa lg tm lf_7 wr_7 (va_up G j (x0, x1, x2, x3, x4, x5, vp_updL x6 p3.toNatClampNeg p4))) H := by rw [← kw_sO hj]; exact hP
        refine lv_aload hx hb d_D_commit_77 (lv_at hl 1 rfl) ?_
        refine va_get (D := (dC, dI)) (ci := 2) (v := .ref (ha j)) (C := R_G) (T := F_G) (N := 7) hx hb hw i_G hown hK hP (3 * j + 3) (kw_gG hj) rfl 5 (by decide) (hw _ kb_62) (fun _ h9 => h9) rfl d_D_commit_79 ?_
        refine lv_iload_n hx hb d_D_commit_82 rfl (lv_at hl 4 rfl) ?_
        refine lv_aload_n hx hb d_D_commit_83 rfl (lv_at hl 2 rfl) ?_
        refine va_get (D := (dC, dI)) (ci := 0) (v := .int tm) (C := R_D) (T := F_D) (N := 4) hx hb hw i_D hown hK hP 0 rfl rfl 3 (by decide) (hw _ kb_85) (fun _ h9 => h9) rfl d_D_commit_84 ?_
        refine va_iast hx hb hK hP (kw_D hnd hAL) hS (3 * j + 4) 0 (kw_gH hj) rfl hp_p1 d_D_commit_87 (fun H locs hP _ hS => ?_)
        have hP : va_P (dC, dI) vwCl (kw cI cJ cR d ar nb ga ha oa lg tm lf_7 wr_7 (va_up G j (x0, x1, x2, x3, x4, upd x5 p1.toNatClampNeg tm, vp_updL x6 p3.toNatClampNeg p4))) H := by rw [← kw_sH hj]; exact hP
        refine lv_iconst (v := 0) hx hb d_D_commit_88 (by decide) ?_
        refine W.widen (k := 4) (n := 24) (by decide) (by decide) ?_
        exact kt_W (fun _ h => kt_of h) (W.iret (v := 0) hx hb hr (fun t ht hW => Or.inl ⟨⟨_, (lg, tm, lf_7, wr_7, (va_up G j (x0, x1, x2, x3, x4, upd x5 p1.toNatClampNeg tm, vp_updL x6 p3.toNatClampNeg p4))), rfl, ⟨⟨hp_p0, hp_p1, hp_p3, k_lc.mp c_1⟩, by first | (simp only [kd_commit, kg_hear, kg_off, hjj, hGj, hGu, if_pos c_1, if_pos c_2, hq_7, if_neg c_3]; done) | (simp [kd_commit, kg_hear, kg_off, hjj, hGj, hGu, c_1, c_2, hq_7, c_3]; done)⟩, by show va_P _ _ _ t.heap; rw [ht]; exact hP⟩, hS.F ht⟩) hS.2.2 d_D_commit_89)
      · refine lv_bipush (v := (-2)) hx hb d_D_commit_64 (by decide) ?_
        refine W.widen (k := 4) (n := 24) (by decide) (by decide) ?_
        exact kt_W (fun _ h => kt_of h) (W.iret (v := (-2)) hx hb hr (fun t ht hW => Or.inl ⟨⟨_, (lg, tm, lf_7, wr_7, (va_up G j (x0, x1, x2, x3, x4, x5, x6))), rfl, ⟨⟨hp_p0, hp_p1, hp_p3, k_lc.mp c_1⟩, by first | (simp only [kd_commit, kg_hear, kg_off, hjj, hGj, hGu, if_pos c_1, if_pos c_2, hq_7, if_pos c_3]; done) | (simp [kd_commit, kg_hear, kg_off, hjj, hGj, hGu, c_1, c_2, hq_7, c_3]; done)⟩, by show va_P _ _ _ t.heap; rw [ht]; exact hP⟩, hS.F ht⟩) hS.2.2 d_D_commit_66)
    · refine lv_iload hx hb d_D_commit_51 (lv_at hl 0 rfl) ?_
      refine W.widen (k := 4) (n := 24) (by decide) (by decide) ?_
      exact kt_W (fun _ h => kt_of h) (W.iret (v := (kg_ref p1 p2 p3 (x0, x1, x2, x3, x4, x5, x6))) hx hb hr (fun t ht hW => Or.inl ⟨⟨_, (lg, tm, lf, wr, (va_up G j (x0, x1, x2, x3, x4, x5, x6))), rfl, ⟨⟨hp_p0, hp_p1, hp_p3, k_lc.mp c_1⟩, by first | (simp only [kd_commit, kg_hear, kg_off, hjj, hGj, hGu, if_pos c_1, if_neg c_2]; done) | (simp [kd_commit, kg_hear, kg_off, hjj, hGj, hGu, c_1, c_2]; done)⟩, by show va_P _ _ _ t.heap; rw [ht]; exact hP⟩, hS.F ht⟩) hS.2.2 d_D_commit_53)
  · refine W.widen (k := 3) (n := 18) (by decide) (by decide) ?_
    obtain ⟨q9, hq9⟩ := hZ.2.use hown (k := 80) (tx := "the offset is below 0") (by decide)
    exact kt_throw (own := R_D) (xN := kt_N) (up := kt_U) (tx := "the offset is below 0") (q := q9) hx htr hb (hl.1.trans hml.symm) hown hne hlocks (by decide +kernel) (by decide +kernel) hZ.1.use (hw _ kb_128) (hw _ kb_129) (hw _ kb_10) hq9 (Nat.le_refl _) d_D_commit_25 d_D_commit_28 d_D_commit_29 d_D_commit_31 d_D_commit_34 (Nat.le_of_ble_eq_true rfl) (Nat.le_of_ble_eq_true rfl) (Nat.le_of_ble_eq_true rfl) (Nat.le_of_ble_eq_true rfl) (fun t x hW hX => Or.inr ⟨x, rfl, fun h => c_1 (k_lc.mpr h.2.2.2), hX⟩)
set_option maxHeartbeats 4000000 in
set_option maxRecDepth 100000 in
theorem c_D_committed (l : Launch) (hl0 : l.stackTraces = false) {dC : Nat → ClassId} {dI : Nat → Nat → Nat} {cI cJ cR : ClassId} {d ar nb : Nat} {ga ha oa : Nat → Nat} (hnd : (kad d ar nb ga ha oa).Nodup) (lg tm lf wr : Int32) (G : Nat → kGV) (p0 : Int32) (p1 : Int32) (hlg : ∃ n : Nat, n ≤ 8 ∧ lg = nI n) (sz : Nat) : MetT l y_D_committed w_D_committed ({ frames := 7, cells := 2, slots := 12, locals := 120 }) (kPreT (dC, dI) vwCl (kty cI cJ cR) [.ref d, .int p0, .int p1] sz (kw cI cJ cR d ar nb ga ha oa lg tm lf wr G)) (kt_Or kt_N (va_Ql (fun (r : Int64) (u : kDV) => (vp_in p0 8 ∧ (¬ p1 < 0 ∧ p1 < lg)) ∧ r = (G p0.toNatClampNeg).2.2.2.2.2.2 p1.toNatClampNeg ∧ u = (lg, tm, lf, wr, G)) (fun u t => va_P (dC, dI) vwCl (kwv cI cJ cR d ar nb ga ha oa u) t.heap) (kA (kad d ar nb ga ha oa) sz)) (¬ (vp_in p0 8 ∧ (¬ p1 < 0 ∧ p1 < lg)))) 2 12 (kA (kad d ar nb ga ha oa) sz) := by
  refine kt_ofW (cc := b_D_committed) (maxL := 4) (ret := (some .long)) (by decide) rfl ?_
  intro p e s m args below meth c s₁ B hml hv
  obtain ⟨⟨rfl, hsz, hP, hK⟩, hZ⟩ := hv
  have hx := B.exec
  have hb := B.bytes
  have hr := B.returns
  have hts := atoms_spec (ws := w_D_committed) B.pre
  have hw := fun (w : Cond) (h : w ∈ kb_B) => hts w (List.mem_cons_of_mem _ h)
  have hown : s.vm.findClass R_D = some m.cls := findClass_of_methodNamed B.named
  have hlocks := B.notSynchronized
  have hne := B.noHandlers (hts _ List.mem_cons_self)
  have htr : e.platform.stackTraces = false := by rw [Example.NoTraceControls.admits_follows B.admits]; exact hl0
  subst hsz
  generalize hAe : kA (kad d ar nb ga ha oa) s.heap.size = A
  have hA : ∀ q : Nat, s.heap.size ≤ q → A q := fun q h => by rw [← hAe]; exact Or.inr h
  have hAL : ∀ q ∈ (kad d ar nb ga ha oa), A q := fun q h => by rw [← hAe]; exact Or.inl h
  have hS : va_S A s.heap s.heap [] := va_S.rf
  have hl := lv_entry ([.ref d, .int p0, .int p1]) (n := 4) (Nat.le_of_ble_eq_true rfl)
  rw [lg_entry_eq]
  generalize (lg_sl ([.ref d, .int p0, .int p1]) ++ List.replicate (4 - (lg_sl ([.ref d, .int p0, .int p1])).length) Slot.unset).toArray = ls at hl ⊢
  have hl : lv_has ls 4 [(0, .ref d), (1, .int p0), (2, .int p1)] := hl
  refine lv_aload_n hx hb d_D_committed_0 rfl (lv_at hl 0 rfl) ?_
  refine lv_iload_n hx hb d_D_committed_1 rfl (lv_at hl 1 rfl) ?_
  refine kt_callP (kt_runV (As := [.int p0]) (rest := []) ⟨hx, hb, hml, hown, hw⟩ (c_D_groupAt l hl0 hnd lg tm lf wr G p0 _) (cwV 1 hw (kb_V kb_124 kb_126 kb_s0 kb_1 kb_127) rfl rfl rfl (by decide +kernel) ⟨Nat.le_of_ble_eq_true rfl, Nat.le_of_ble_eq_true rfl⟩) (kPVT (va_recv hK hP (ci := 0) (q0 := 0) rfl rfl) hP hK hZ (fun _ _ h => h)) rfl rfl hl.1 rfl (lv_room (Nat.le_of_ble_eq_true rfl)) d_D_committed_2 ⟨Nat.le_of_ble_eq_true rfl, Nat.le_of_ble_eq_true rfl⟩) hne hlocks (by decide) (by decide) (fun t x ht hW hX => Or.inr ⟨x, rfl, fun h => ht h.1, hX⟩) (fun v_1 hv_1 => ?_)
  obtain ⟨rfl, hp_p0⟩ := hv_1
  have hj : p0.toNatClampNeg < 8 := Nat.not_le.mp fun q => hp_p0 (Or.inr q)
  generalize hjj : p0.toNatClampNeg = j at hj ⊢
  rw [← kv_at G j] at hP
  generalize hGj : G j = gv at hP
  obtain ⟨x0, x1, x2, x3, x4, x5, x6⟩ := gv
  have hGu : va_up G j (x0, x1, x2, x3, x4, x5, x6) = G := by rw [← hGj]; exact kv_at G j
  refine lv_astore_n (lv' := [(3, .ref (ga j)), (0, .ref d), (1, .int p0), (2, .int p1)]) hx hb d_D_committed_5 rfl hl (by decide) rfl (fun ls hl => ?_)
  refine lv_aload_n hx hb d_D_committed_6 rfl (lv_at hl 1 rfl) ?_
  refine lv_iload_n hx hb d_D_committed_7 rfl (lv_at hl 3 rfl) ?_
  refine kt_callP (kt_runV (As := [.int p1]) (rest := []) ⟨hx, hb, hml, hown, hw⟩ (c_D_checkLog l hl0 hnd lg tm lf wr (va_up G j (x0, x1, x2, x3, x4, x5, x6)) p1 _) (cwV 1 hw (kb_V kb_256 kb_258 kb_s3 kb_1 kb_259) rfl rfl rfl (by decide +kernel) ⟨Nat.le_of_ble_eq_true rfl, Nat.le_of_ble_eq_true rfl⟩) (kPVT (va_recv hK hP (ci := 0) (q0 := 0) rfl rfl) hP hK hZ (fun _ _ h => h)) rfl rfl hl.1 rfl (lv_room (Nat.le_of_ble_eq_true rfl)) d_D_committed_8 ⟨Nat.le_of_ble_eq_true rfl, Nat.le_of_ble_eq_true rfl⟩) hne hlocks (by decide) (by decide) (fun t x ht hW hX => Or.inr ⟨x, rfl, fun h => ht h.2, hX⟩) (fun v_2 hv_2 => ?_)
  obtain ⟨rfl, hp_p1⟩ := hv_2
  refine lv_aload_n hx hb d_D_committed_11 rfl (lv_at hl 0 rfl) ?_
  refine va_get (D := (dC, dI)) (ci := 2) (v := .ref (oa j)) (C := R_G) (T := F_G) (N := 7) hx hb hw i_G hown hK hP (3 * j + 3) (kw_gG hj) rfl 6 (by decide) (hw _ kb_64) (fun _ h9 => h9) rfl d_D_committed_12 ?_
  refine lv_iload_n hx hb d_D_committed_15 rfl (lv_at hl 3 rfl) ?_
  refine va_lald hx hb hK hP (3 * j + 5) 1 (kw_gO hj) rfl (k_in8 hlg hp_p1) d_D_committed_16 ?_
  refine W.widen (k := 2) (n := 12) (by decide) (by decide) ?_
  exact kt_W (fun _ h => kt_of h) (W.lret (v := (x6 p1.toNatClampNeg)) hx hb hr (fun t ht hW => Or.inl ⟨⟨_, (lg, tm, lf, wr, (va_up G j (x0, x1, x2, x3, x4, x5, x6))), rfl, ⟨⟨hp_p0, hp_p1⟩, by first | (simp only [hjj, hGj, hGu]; done) | (simp [hjj, hGj, hGu]; done), by first | (simp only [hjj, hGj, hGu]; done) | (simp [hjj, hGj, hGu]; done)⟩, by show va_P _ _ _ t.heap; rw [ht]; exact hP⟩, hS.F ht⟩) hS.2.2 d_D_committed_17)
set_option maxHeartbeats 4000000 in
set_option maxRecDepth 100000 in
theorem c_D_group (l : Launch) (hl0 : l.stackTraces = false) {dC : Nat → ClassId} {dI : Nat → Nat → Nat} {cI cJ cR : ClassId} {d ar nb : Nat} {ga ha oa : Nat → Nat} (hnd : (kad d ar nb ga ha oa).Nodup) (lg tm lf wr : Int32) (G : Nat → kGV) (p0 : Int32) (p1 : Int32) (sz : Nat) : MetT l y_D_group w_D_group ({ frames := 7, cells := 2, slots := 12, locals := 120 }) (kPreT (dC, dI) vwCl (kty cI cJ cR) [.ref d, .int p0, .int p1] sz (kw cI cJ cR d ar nb ga ha oa lg tm lf wr G)) (kt_Or kt_N (va_Qi (fun (r : Int32) (u : kDV) => (vp_in p0 8 ∧ vp_in p1 5) ∧ r = kg_what tm p1 (G p0.toNatClampNeg) ∧ u = (lg, tm, lf, wr, G)) (fun u t => va_P (dC, dI) vwCl (kwv cI cJ cR d ar nb ga ha oa u) t.heap) (kA (kad d ar nb ga ha oa) sz)) (¬ (vp_in p0 8 ∧ vp_in p1 5))) 2 12 (kA (kad d ar nb ga ha oa) sz) := by
  refine kt_ofW (cc := b_D_group) (maxL := 4) (ret := (some .int)) (by decide) rfl ?_
  intro p e s m args below meth c s₁ B hml hv
  obtain ⟨⟨rfl, hsz, hP, hK⟩, hZ⟩ := hv
  have hx := B.exec
  have hb := B.bytes
  have hr := B.returns
  have hts := atoms_spec (ws := w_D_group) B.pre
  have hw := fun (w : Cond) (h : w ∈ kb_B) => hts w (List.mem_cons_of_mem _ h)
  have hown : s.vm.findClass R_D = some m.cls := findClass_of_methodNamed B.named
  have hlocks := B.notSynchronized
  have hne := B.noHandlers (hts _ List.mem_cons_self)
  have htr : e.platform.stackTraces = false := by rw [Example.NoTraceControls.admits_follows B.admits]; exact hl0
  subst hsz
  generalize hAe : kA (kad d ar nb ga ha oa) s.heap.size = A
  have hA : ∀ q : Nat, s.heap.size ≤ q → A q := fun q h => by rw [← hAe]; exact Or.inr h
  have hAL : ∀ q ∈ (kad d ar nb ga ha oa), A q := fun q h => by rw [← hAe]; exact Or.inl h
  have hS : va_S A s.heap s.heap [] := va_S.rf
  have hl := lv_entry ([.ref d, .int p0, .int p1]) (n := 4) (Nat.le_of_ble_eq_true rfl)
  rw [lg_entry_eq]
  generalize (lg_sl ([.ref d, .int p0, .int p1]) ++ List.replicate (4 - (lg_sl ([.ref d, .int p0, .int p1])).length) Slot.unset).toArray = ls at hl ⊢
  have hl : lv_has ls 4 [(0, .ref d), (1, .int p0), (2, .int p1)] := hl
  refine lv_aload_n hx hb d_D_group_0 rfl (lv_at hl 0 rfl) ?_
  refine lv_iload_n hx hb d_D_group_1 rfl (lv_at hl 1 rfl) ?_
  refine kt_callP (kt_runV (As := [.int p0]) (rest := []) ⟨hx, hb, hml, hown, hw⟩ (c_D_groupAt l hl0 hnd lg tm lf wr G p0 _) (cwV 1 hw (kb_V kb_124 kb_126 kb_s0 kb_1 kb_127) rfl rfl rfl (by decide +kernel) ⟨Nat.le_of_ble_eq_true rfl, Nat.le_of_ble_eq_true rfl⟩) (kPVT (va_recv hK hP (ci := 0) (q0 := 0) rfl rfl) hP hK hZ (fun _ _ h => h)) rfl rfl hl.1 rfl (lv_room (Nat.le_of_ble_eq_true rfl)) d_D_group_2 ⟨Nat.le_of_ble_eq_true rfl, Nat.le_of_ble_eq_true rfl⟩) hne hlocks (by decide) (by decide) (fun t x ht hW hX => Or.inr ⟨x, rfl, fun h => ht h.1, hX⟩) (fun v_1 hv_1 => ?_)
  obtain ⟨rfl, hp_p0⟩ := hv_1
  have hj : p0.toNatClampNeg < 8 := Nat.not_le.mp fun q => hp_p0 (Or.inr q)
  generalize hjj : p0.toNatClampNeg = j at hj ⊢
  rw [← kv_at G j] at hP
  generalize hGj : G j = gv at hP
  obtain ⟨x0, x1, x2, x3, x4, x5, x6⟩ := gv
  have hGu : va_up G j (x0, x1, x2, x3, x4, x5, x6) = G := by rw [← hGj]; exact kv_at G j
  refine lv_astore_n (lv' := [(3, .ref (ga j)), (0, .ref d), (1, .int p0), (2, .int p1)]) hx hb d_D_group_5 rfl hl (by decide) rfl (fun ls hl => ?_)
  refine lv_iload_n hx hb d_D_group_6 rfl (lv_at hl 3 rfl) ?_
  by_cases hsw : vp_in p1 5
  · obtain ⟨q, hq, rfl⟩ := vp_in_of hsw (by decide)
    rcases (show q = 0 ∨ q = 1 ∨ q = 2 ∨ q = 3 ∨ q = 4 by omega) with rfl | rfl | rfl | rfl | rfl
    · refine lv_tableIn (tgt := 40) hx hb d_D_group_7 (by decide) (by decide) rfl (by decide) ?_
      refine lv_aload_n hx hb d_D_group_40 rfl (lv_at hl 0 rfl) ?_
      refine va_get (D := (dC, dI)) (ci := 2) (v := .int x0) (C := R_G) (T := F_G) (N := 7) hx hb hw i_G hown hK hP (3 * j + 3) (kw_gG hj) rfl 0 (by decide) (hw _ kb_52) (fun _ h9 => h9) rfl d_D_group_41 ?_
      refine W.widen (k := 2) (n := 12) (by decide) (by decide) ?_
      exact kt_W (fun _ h => kt_of h) (W.iret (v := x0) hx hb hr (fun t ht hW => Or.inl ⟨⟨_, (lg, tm, lf, wr, (va_up G j (x0, x1, x2, x3, x4, x5, x6))), rfl, ⟨⟨hp_p0, hsw⟩, by first | (simp only [kg_what, hjj, hGj, hGu, if_pos (show nI 0 = 0 from rfl)]; done) | (simp [kg_what, hjj, hGj, hGu, (show nI 0 = 0 from rfl)]; done), by first | (simp only [kg_what, hjj, hGj, hGu, if_pos (show nI 0 = 0 from rfl)]; done) | (simp [kg_what, hjj, hGj, hGu, (show nI 0 = 0 from rfl)]; done)⟩, by show va_P _ _ _ t.heap; rw [ht]; exact hP⟩, hS.F ht⟩) hS.2.2 d_D_group_44)
    · refine lv_tableIn (tgt := 45) hx hb d_D_group_7 (by decide) (by decide) rfl (by decide) ?_
      refine lv_aload_n hx hb d_D_group_45 rfl (lv_at hl 0 rfl) ?_
      refine va_get (D := (dC, dI)) (ci := 2) (v := .int x1) (C := R_G) (T := F_G) (N := 7) hx hb hw i_G hown hK hP (3 * j + 3) (kw_gG hj) rfl 1 (by decide) (hw _ kb_55) (fun _ h9 => h9) rfl d_D_group_46 ?_
      refine W.widen (k := 2) (n := 12) (by decide) (by decide) ?_
      exact kt_W (fun _ h => kt_of h) (W.iret (v := x1) hx hb hr (fun t ht hW => Or.inl ⟨⟨_, (lg, tm, lf, wr, (va_up G j (x0, x1, x2, x3, x4, x5, x6))), rfl, ⟨⟨hp_p0, hsw⟩, by first | (simp only [kg_what, hjj, hGj, hGu, if_neg (show ¬ nI 1 = 0 by decide), if_pos (show nI 1 = 1 from rfl)]; done) | (simp [kg_what, hjj, hGj, hGu, (show ¬ nI 1 = 0 by decide), (show nI 1 = 1 from rfl)]; done), by first | (simp only [kg_what, hjj, hGj, hGu, if_neg (show ¬ nI 1 = 0 by decide), if_pos (show nI 1 = 1 from rfl)]; done) | (simp [kg_what, hjj, hGj, hGu, (show ¬ nI 1 = 0 by decide), (show nI 1 = 1 from rfl)]; done)⟩, by show va_P _ _ _ t.heap; rw [ht]; exact hP⟩, hS.F ht⟩) hS.2.2 d_D_group_49)
    · refine lv_tableIn (tgt := 50) hx hb d_D_group_7 (by decide) (by decide) rfl (by decide) ?_
      refine lv_aload_n hx hb d_D_group_50 rfl (lv_at hl 0 rfl) ?_
      refine va_get (D := (dC, dI)) (ci := 2) (v := .int x2) (C := R_G) (T := F_G) (N := 7) hx hb hw i_G hown hK hP (3 * j + 3) (kw_gG hj) rfl 2 (by decide) (hw _ kb_57) (fun _ h9 => h9) rfl d_D_group_51 ?_
      refine W.widen (k := 2) (n := 12) (by decide) (by decide) ?_
      exact kt_W (fun _ h => kt_of h) (W.iret (v := x2) hx hb hr (fun t ht hW => Or.inl ⟨⟨_, (lg, tm, lf, wr, (va_up G j (x0, x1, x2, x3, x4, x5, x6))), rfl, ⟨⟨hp_p0, hsw⟩, by first | (simp only [kg_what, hjj, hGj, hGu, if_neg (show ¬ nI 2 = 0 by decide), if_neg (show ¬ nI 2 = 1 by decide), if_pos (show nI 2 = 2 from rfl)]; done) | (simp [kg_what, hjj, hGj, hGu, (show ¬ nI 2 = 0 by decide), (show ¬ nI 2 = 1 by decide), (show nI 2 = 2 from rfl)]; done), by first | (simp only [kg_what, hjj, hGj, hGu, if_neg (show ¬ nI 2 = 0 by decide), if_neg (show ¬ nI 2 = 1 by decide), if_pos (show nI 2 = 2 from rfl)]; done) | (simp [kg_what, hjj, hGj, hGu, (show ¬ nI 2 = 0 by decide), (show ¬ nI 2 = 1 by decide), (show nI 2 = 2 from rfl)]; done)⟩, by show va_P _ _ _ t.heap; rw [ht]; exact hP⟩, hS.F ht⟩) hS.2.2 d_D_group_54)
    · refine lv_tableIn (tgt := 55) hx hb d_D_group_7 (by decide) (by decide) rfl (by decide) ?_
      refine lv_aload_n hx hb d_D_group_55 rfl (lv_at hl 0 rfl) ?_
      refine va_get (D := (dC, dI)) (ci := 2) (v := .int x3) (C := R_G) (T := F_G) (N := 7) hx hb hw i_G hown hK hP (3 * j + 3) (kw_gG hj) rfl 3 (by decide) (hw _ kb_59) (fun _ h9 => h9) rfl d_D_group_56 ?_
      refine W.widen (k := 2) (n := 12) (by decide) (by decide) ?_
      exact kt_W (fun _ h => kt_of h) (W.iret (v := x3) hx hb hr (fun t ht hW => Or.inl ⟨⟨_, (lg, tm, lf, wr, (va_up G j (x0, x1, x2, x3, x4, x5, x6))), rfl, ⟨⟨hp_p0, hsw⟩, by first | (simp only [kg_what, hjj, hGj, hGu, if_neg (show ¬ nI 3 = 0 by decide), if_neg (show ¬ nI 3 = 1 by decide), if_neg (show ¬ nI 3 = 2 by decide), if_pos (show nI 3 = 3 from rfl)]; done) | (simp [kg_what, hjj, hGj, hGu, (show ¬ nI 3 = 0 by decide), (show ¬ nI 3 = 1 by decide), (show ¬ nI 3 = 2 by decide), (show nI 3 = 3 from rfl)]; done), by first | (simp only [kg_what, hjj, hGj, hGu, if_neg (show ¬ nI 3 = 0 by decide), if_neg (show ¬ nI 3 = 1 by decide), if_neg (show ¬ nI 3 = 2 by decide), if_pos (show nI 3 = 3 from rfl)]; done) | (simp [kg_what, hjj, hGj, hGu, (show ¬ nI 3 = 0 by decide), (show ¬ nI 3 = 1 by decide), (show ¬ nI 3 = 2 by decide), (show nI 3 = 3 from rfl)]; done)⟩, by show va_P _ _ _ t.heap; rw [ht]; exact hP⟩, hS.F ht⟩) hS.2.2 d_D_group_59)
    · refine lv_tableIn (tgt := 60) hx hb d_D_group_7 (by decide) (by decide) rfl (by decide) ?_
      refine lv_aload_n hx hb d_D_group_60 rfl (lv_at hl 0 rfl) ?_
      refine lv_aload_n hx hb d_D_group_61 rfl (lv_at hl 1 rfl) ?_
      refine va_get (D := (dC, dI)) (ci := 0) (v := .int tm) (C := R_D) (T := F_D) (N := 4) hx hb hw i_D hown hK hP 0 rfl rfl 3 (by decide) (hw _ kb_85) (fun _ h9 => h9) rfl d_D_group_62 ?_
      refine vp_callSi (W.runV (As := [.int tm]) (rest := []) ⟨hx, hb, hml, hown, hw⟩ (c_G_ticksToLimit l hnd lg tm lf wr G hj x0 x1 x2 x3 x4 x5 x6 tm _) (cwV 1 hw (kb_V kb_287 kb_288 kb_289 kb_4 kb_290) rfl rfl rfl (by decide +kernel) ⟨Nat.le_of_ble_eq_true rfl, Nat.le_of_ble_eq_true rfl⟩) (kPV (va_recv hK hP (ci := 2) (q0 := (3 * j + 3)) rfl (kw_gG hj)) hP hK) rfl rfl hl.1 rfl (lv_room (Nat.le_of_ble_eq_true rfl)) d_D_group_65 ⟨Nat.le_of_ble_eq_true rfl, Nat.le_of_ble_eq_true rfl⟩) (fun r_2 er_2 => ?_)
      subst er_2
      refine W.widen (k := 2) (n := 12) (by decide) (by decide) ?_
      exact kt_W (fun _ h => kt_of h) (W.iret (v := (kg_lim tm (x0, x1, x2, x3, x4, x5, x6))) hx hb hr (fun t ht hW => Or.inl ⟨⟨_, (lg, tm, lf, wr, (va_up G j (x0, x1, x2, x3, x4, x5, x6))), rfl, ⟨⟨hp_p0, hsw⟩, by first | (simp only [kg_what, hjj, hGj, hGu, if_neg (show ¬ nI 4 = 0 by decide), if_neg (show ¬ nI 4 = 1 by decide), if_neg (show ¬ nI 4 = 2 by decide), if_neg (show ¬ nI 4 = 3 by decide)]; done) | (simp [kg_what, hjj, hGj, hGu, (show ¬ nI 4 = 0 by decide), (show ¬ nI 4 = 1 by decide), (show ¬ nI 4 = 2 by decide), (show ¬ nI 4 = 3 by decide)]; done), by first | (simp only [kg_what, hjj, hGj, hGu, if_neg (show ¬ nI 4 = 0 by decide), if_neg (show ¬ nI 4 = 1 by decide), if_neg (show ¬ nI 4 = 2 by decide), if_neg (show ¬ nI 4 = 3 by decide)]; done) | (simp [kg_what, hjj, hGj, hGu, (show ¬ nI 4 = 0 by decide), (show ¬ nI 4 = 1 by decide), (show ¬ nI 4 = 2 by decide), (show ¬ nI 4 = 3 by decide)]; done)⟩, by show va_P _ _ _ t.heap; rw [ht]; exact hP⟩, hS.F ht⟩) hS.2.2 d_D_group_68)
  · refine lv_tableOut (tgt := 69) hx hb d_D_group_7 (by rw [vp_in_iff] at hsw; omega) (by decide) ?_
    refine W.widen (k := 1) (n := 6) (by decide) (by decide) ?_
    obtain ⟨q9, hq9⟩ := hZ.2.use hown (k := 107) (tx := "what is not 0 .. 4") (by decide)
    exact kt_throw (own := R_D) (xN := kt_N) (up := kt_U) (tx := "what is not 0 .. 4") (q := q9) hx htr hb (hl.1.trans hml.symm) hown hne hlocks (by decide +kernel) (by decide +kernel) hZ.1.use (hw _ kb_128) (hw _ kb_129) (hw _ kb_10) hq9 (Nat.le_refl _) d_D_group_69 d_D_group_72 d_D_group_73 d_D_group_75 d_D_group_78 (Nat.le_of_ble_eq_true rfl) (Nat.le_of_ble_eq_true rfl) (Nat.le_of_ble_eq_true rfl) (Nat.le_of_ble_eq_true rfl) (fun t x hW hX => Or.inr ⟨x, rfl, fun h => hsw h.2, hX⟩)
set_option maxHeartbeats 4000000 in
set_option maxRecDepth 100000 in
theorem c_D_room (l : Launch) (hl0 : l.stackTraces = false) {dC : Nat → ClassId} {dI : Nat → Nat → Nat} {cI cJ cR : ClassId} {d ar nb : Nat} {ga ha oa : Nat → Nat} (hnd : (kad d ar nb ga ha oa).Nodup) (lg tm lf wr : Int32) (G : Nat → kGV) (p0 : Int32) (sz : Nat) : MetT l y_D_room w_D_room ({ frames := 6, cells := 1, slots := 6, locals := 90 }) (kPreT (dC, dI) vwCl (kty cI cJ cR) [.ref d, .int p0] sz (kw cI cJ cR d ar nb ga ha oa lg tm lf wr G)) (kt_Or kt_N (va_Qi (fun (r : Int32) (u : kDV) => (¬ p0 < 0 ∧ p0 ≤ 100000) ∧ (r, u) = (lf, (lg, tm, p0, wr, G))) (fun u t => va_P (dC, dI) vwCl (kwv cI cJ cR d ar nb ga ha oa u) t.heap) (kA (kad d ar nb ga ha oa) sz)) (¬ (¬ p0 < 0 ∧ p0 ≤ 100000))) 1 6 (kA (kad d ar nb ga ha oa) sz) := by
  refine kt_ofW (cc := b_D_room) (maxL := 3) (ret := (some .int)) (by decide) rfl ?_
  intro p e s m args below meth c s₁ B hml hv
  obtain ⟨⟨rfl, hsz, hP, hK⟩, hZ⟩ := hv
  have hx := B.exec
  have hb := B.bytes
  have hr := B.returns
  have hts := atoms_spec (ws := w_D_room) B.pre
  have hw := fun (w : Cond) (h : w ∈ kb_B) => hts w (List.mem_cons_of_mem _ h)
  have hown : s.vm.findClass R_D = some m.cls := findClass_of_methodNamed B.named
  have hlocks := B.notSynchronized
  have hne := B.noHandlers (hts _ List.mem_cons_self)
  have htr : e.platform.stackTraces = false := by rw [Example.NoTraceControls.admits_follows B.admits]; exact hl0
  subst hsz
  generalize hAe : kA (kad d ar nb ga ha oa) s.heap.size = A
  have hA : ∀ q : Nat, s.heap.size ≤ q → A q := fun q h => by rw [← hAe]; exact Or.inr h
  have hAL : ∀ q ∈ (kad d ar nb ga ha oa), A q := fun q h => by rw [← hAe]; exact Or.inl h
  have hS : va_S A s.heap s.heap [] := va_S.rf
  have hl := lv_entry ([.ref d, .int p0]) (n := 3) (Nat.le_of_ble_eq_true rfl)
  rw [lg_entry_eq]
  generalize (lg_sl ([.ref d, .int p0]) ++ List.replicate (3 - (lg_sl ([.ref d, .int p0])).length) Slot.unset).toArray = ls at hl ⊢
  have hl : lv_has ls 3 [(0, .ref d), (1, .int p0)] := hl
  refine lv_iload_n hx hb d_D_room_0 rfl (lv_at hl 1 rfl) ?_
  refine lv_if_lt (tgt := 10) hx hb d_D_room_1 (by decide) (fun c_1 => ?_) (fun c_1 => ?_)
  · refine W.widen (k := 0) (n := 0) (by decide) (by decide) ?_
    obtain ⟨q9, hq9⟩ := hZ.2.use hown (k := 114) (tx := "n is not 0 .. 100000") (by decide)
    exact kt_throw (own := R_D) (xN := kt_N) (up := kt_U) (tx := "n is not 0 .. 100000") (q := q9) hx htr hb (hl.1.trans hml.symm) hown hne hlocks (by decide +kernel) (by decide +kernel) hZ.1.use (hw _ kb_128) (hw _ kb_129) (hw _ kb_10) hq9 (Nat.le_refl _) d_D_room_10 d_D_room_13 d_D_room_14 d_D_room_16 d_D_room_19 (Nat.le_of_ble_eq_true rfl) (Nat.le_of_ble_eq_true rfl) (Nat.le_of_ble_eq_true rfl) (Nat.le_of_ble_eq_true rfl) (fun t x hW hX => Or.inr ⟨x, rfl, fun h => h.1 c_1, hX⟩)
  · refine lv_iload_n hx hb d_D_room_4 rfl (lv_at hl 1 rfl) ?_
    refine lv_ldc (v := 100000) hx hb hown (hw _ kb_308) d_D_room_5 ?_
    refine lv_icmp_le (tgt := 20) hx hb d_D_room_7 (by decide) (fun c_2 => ?_) (fun c_2 => ?_)
    · refine lv_aload_n hx hb d_D_room_20 rfl (lv_at hl 0 rfl) ?_
      refine va_get (D := (dC, dI)) (ci := 0) (v := .ref nb) (C := R_D) (T := F_D) (N := 4) hx hb hw i_D hown hK hP 0 rfl rfl 2 (by decide) (hw _ kb_84) (fun _ h9 => h9) rfl d_D_room_21 ?_
      refine va_get (D := (dC, dI)) (ci := 1) (v := .int lf) (C := R_N) (T := F_N) (N := 2) hx hb hw i_N hown hK hP 2 rfl rfl 0 (by decide) (hw _ kb_33) (fun _ h9 => h9) rfl d_D_room_24 ?_
      refine lv_istore_n (lv' := [(2, .int lf), (0, .ref d), (1, .int p0)]) hx hb d_D_room_27 rfl hl (by decide) rfl (fun ls hl => ?_)
      refine lv_aload_n hx hb d_D_room_28 rfl (lv_at hl 1 rfl) ?_
      refine va_get (D := (dC, dI)) (ci := 0) (v := .ref nb) (C := R_D) (T := F_D) (N := 4) hx hb hw i_D hown hK hP 0 rfl rfl 2 (by decide) (hw _ kb_84) (fun _ h9 => h9) rfl d_D_room_29 ?_
      refine lv_iload_n hx hb d_D_room_32 rfl (lv_at hl 2 rfl) ?_
      refine va_put (D := (dC, dI)) (ci := 1) (v := .int p0) (ty := .int) (C := R_N) (T := F_N) (N := 2) hx hb hw i_N t_N t_N_ok n_N hown hK hP (kw_D hnd hAL) hS 2 rfl rfl 0 (by decide) (hw _ kb_33) (fun _ h9 => h9) rfl (by decide +kernel) rfl rfl (Nat.le_of_ble_eq_true rfl) d_D_room_33 (fun H locs hP _ hS => ?_)
      have hP : va_P (dC, dI) vwCl (kw cI cJ cR d ar nb ga ha oa lg tm p0 wr G) _ := hP
      refine lv_iload_n hx hb d_D_room_36 rfl (lv_at hl 0 rfl) ?_
      refine W.widen (k := 1) (n := 6) (by decide) (by decide) ?_
      exact kt_W (fun _ h => kt_of h) (W.iret (v := lf) hx hb hr (fun t ht hW => Or.inl ⟨⟨_, (lg, tm, p0, wr, G), rfl, ⟨⟨c_1, c_2⟩, by first | (simp only [if_neg c_1, if_pos c_2]; done) | (simp [c_1, c_2]; done)⟩, by show va_P _ _ _ t.heap; rw [ht]; exact hP⟩, hS.F ht⟩) hS.2.2 d_D_room_37)
    · refine W.widen (k := 0) (n := 0) (by decide) (by decide) ?_
      obtain ⟨q9, hq9⟩ := hZ.2.use hown (k := 114) (tx := "n is not 0 .. 100000") (by decide)
      exact kt_throw (own := R_D) (xN := kt_N) (up := kt_U) (tx := "n is not 0 .. 100000") (q := q9) hx htr hb (hl.1.trans hml.symm) hown hne hlocks (by decide +kernel) (by decide +kernel) hZ.1.use (hw _ kb_128) (hw _ kb_129) (hw _ kb_10) hq9 (Nat.le_refl _) d_D_room_10 d_D_room_13 d_D_room_14 d_D_room_16 d_D_room_19 (Nat.le_of_ble_eq_true rfl) (Nat.le_of_ble_eq_true rfl) (Nat.le_of_ble_eq_true rfl) (Nat.le_of_ble_eq_true rfl) (fun t x hW hX => Or.inr ⟨x, rfl, fun h => c_2 h.2, hX⟩)
