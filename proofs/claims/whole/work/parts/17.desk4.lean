set_option maxHeartbeats 4000000 in
set_option maxRecDepth 100000 in
theorem lp_D_share {p : Program} {l : Launch} {e : Env} {s : State} {m : MethodId} {args : Array Value} {below : List Frame} {meth : Method} {c : Code} {Q : State → Prop} {dC : Nat → ClassId} {dI : Nat → Nat → Nat} {cI cJ cR : ClassId} {d ar nb : Nat} {ga ha oa : Nat → Nat} (hnd : (kad d ar nb ga ha oa).Nodup) {n : Nat} (hn : n ≤ 8) {tm lf wr : Int32} {G : Nat → kGV} {j : Nat} (hj : j < 8) {x0 x1 x2 x3 x4 : Int32} {x5 : Nat → Int32} {x6 : Nat → Int64} {p0 p1 : Int32} {H : Heap} (hx : p.tables.exec = Jvm.exec) (hb : c.code = b_D_share) (hml : c.maxLocals = 6) (hown : s.vm.findClass R_D = some m.cls) (hw : ∀ w ∈ kb_B, w.before args s = true) (hK : va_K (dC, dI) vwCl (kty cI cJ cR) s) (hP : va_P (dC, dI) vwCl (kw cI cJ cR d ar nb ga ha oa (nI n) tm lf wr (va_up G j (x0, x1, x2, x3, x4, x5, x6))) H)
    (kk : ∀ ls : Array Slot, lv_has ls 6 [(5, .int (nI n)), (4, .int (kg_sh p1 (x0, x1, x2, x3, x4, x5, x6) n)), (3, .ref (ga j)), (0, .ref d), (1, .int p0), (2, .int p1)] → W p l e (headSpec w_D_share ({ frames := 7, cells := 2, slots := 12, locals := 120 })).room s m args below meth c H [] 2 12 Q (F0 m 51 ls [])) :
    ∀ (k i : Nat) (ls : Array Slot), i + k = n → lv_has ls 6 [(5, .int (nI i)), (4, .int (kg_sh p1 (x0, x1, x2, x3, x4, x5, x6) i)), (3, .ref (ga j)), (0, .ref d), (1, .int p0), (2, .int p1)] → W p l e (headSpec w_D_share ({ frames := 7, cells := 2, slots := 12, locals := 120 })).room s m args below meth c H [] 2 12 Q (F0 m 17 ls []) := by
  intro k
  induction k with
  | zero =>
    intro i ls hi hl
    have hin : i = n := by omega
    subst hin
    refine lv_iload hx hb d_D_share_17 (lv_at hl 0 rfl) ?_
    refine lv_aload_n hx hb d_D_share_19 rfl (lv_at hl 3 rfl) ?_
    refine va_get (D := (dC, dI)) (ci := 0) (v := .int (nI i)) (C := R_D) (T := F_D) (N := 4) hx hb hw i_D hown hK hP 0 rfl rfl 0 (by decide) (hw _ kb_82) (fun _ h9 => h9) rfl d_D_share_20 ?_
    refine lv_icmp_ge (tgt := 51) hx hb d_D_share_23 (by decide) (fun c_1 => ?_) (fun c_1 => ?_)
    · exact kk ls hl
    · exact absurd (nI_le (Nat.le_refl i) (by omega)) c_1
  | succ k ih =>
    intro i ls hi hl
    refine lv_iload hx hb d_D_share_17 (lv_at hl 0 rfl) ?_
    refine lv_aload_n hx hb d_D_share_19 rfl (lv_at hl 3 rfl) ?_
    refine va_get (D := (dC, dI)) (ci := 0) (v := .int (nI n)) (C := R_D) (T := F_D) (N := 4) hx hb hw i_D hown hK hP 0 rfl rfl 0 (by decide) (hw _ kb_82) (fun _ h9 => h9) rfl d_D_share_20 ?_
    refine lv_icmp_ge (tgt := 51) hx hb d_D_share_23 (by decide) (fun c_1 => ?_) (fun c_1 => ?_)
    · exact absurd c_1 (nI_ge (a := i) (b := n) (by omega) (by omega))
    · refine lv_aload_n hx hb d_D_share_26 rfl (lv_at hl 2 rfl) ?_
      refine lv_iload hx hb d_D_share_27 (lv_at hl 0 rfl) ?_
      refine lv_iload_n hx hb d_D_share_29 rfl (lv_at hl 5 rfl) ?_
      refine vp_callSi (W.runV (As := [.int (nI i), .int p1]) (rest := []) ⟨hx, hb, hml, hown, hw⟩ (c_G_gives l hnd (nI n) tm lf wr G hj x0 x1 x2 x3 x4 x5 x6 (nI i) p1 _) (cwV 2 hw (kb_V kb_300 kb_268 kb_269 kb_4 kb_270) rfl rfl rfl (by decide +kernel) ⟨Nat.le_of_ble_eq_true rfl, Nat.le_of_ble_eq_true rfl⟩) (kPV (va_recv hK hP (ci := 2) (q0 := (3 * j + 3)) rfl (kw_gG hj)) hP hK) rfl rfl hl.1 rfl (lv_room (Nat.le_of_ble_eq_true rfl)) d_D_share_30 ⟨Nat.le_of_ble_eq_true rfl, Nat.le_of_ble_eq_true rfl⟩) (fun r_1 er_1 => ?_)
      subst er_1
      refine lv_if_eq (tgt := 45) hx hb d_D_share_33 (by decide) (fun c_2 => ?_) (fun c_2 => ?_)
      · refine lv_iinc (v := (nI i) + 1) (lv' := [(5, .int ((nI i) + 1)), (4, .int (kg_sh p1 (x0, x1, x2, x3, x4, x5, x6) i)), (3, .ref (ga j)), (0, .ref d), (1, .int p0), (2, .int p1)]) hx hb d_D_share_45 hl (k := 0) rfl rfl (by decide) rfl (fun ls hl => ?_)
        refine lv_goto (tgt := 17) hx hb d_D_share_48 (by decide) ?_
        have hs : kg_sh p1 (x0, x1, x2, x3, x4, x5, x6) (i + 1) = kg_sh p1 (x0, x1, x2, x3, x4, x5, x6) i := by simp only [kg_sh, if_pos c_2]
        refine ih (i + 1) ls (by omega) ?_
        rw [nI_succ, hs]
        exact lv_sub hl [0, 1, 2, 3, 4, 5] rfl
      · refine lv_iload hx hb d_D_share_36 (lv_at hl 1 rfl) ?_
        refine lv_iconst (v := 1) hx hb d_D_share_38 (by decide) ?_
        refine lv_iload hx hb d_D_share_39 (lv_at hl 0 rfl) ?_
        refine lv_ishl hx hb d_D_share_41 ?_
        refine lv_ior hx hb d_D_share_42 ?_
        refine lv_istore (lv' := [(4, .int ((kg_sh p1 (x0, x1, x2, x3, x4, x5, x6) i) ||| ((1 : Int32) <<< ((nI i) &&& 31)))), (5, .int (nI i)), (3, .ref (ga j)), (0, .ref d), (1, .int p0), (2, .int p1)]) hx hb d_D_share_43 hl (by decide) rfl (fun ls hl => ?_)
        refine lv_iinc (v := (nI i) + 1) (lv' := [(5, .int ((nI i) + 1)), (4, .int ((kg_sh p1 (x0, x1, x2, x3, x4, x5, x6) i) ||| ((1 : Int32) <<< ((nI i) &&& 31)))), (3, .ref (ga j)), (0, .ref d), (1, .int p0), (2, .int p1)]) hx hb d_D_share_45 hl (k := 1) rfl rfl (by decide) rfl (fun ls hl => ?_)
        refine lv_goto (tgt := 17) hx hb d_D_share_48 (by decide) ?_
        have hs : kg_sh p1 (x0, x1, x2, x3, x4, x5, x6) (i + 1) = (kg_sh p1 (x0, x1, x2, x3, x4, x5, x6) i) ||| ((1 : Int32) <<< ((nI i) &&& 31)) := by simp only [kg_sh, if_neg c_2]
        refine ih (i + 1) ls (by omega) ?_
        rw [nI_succ, hs]
        exact lv_sub hl [0, 1, 2, 3, 4, 5] rfl
set_option maxHeartbeats 4000000 in
set_option maxRecDepth 100000 in
theorem c_D_share (l : Launch) (hl0 : l.stackTraces = false) {dC : Nat → ClassId} {dI : Nat → Nat → Nat} {cI cJ cR : ClassId} {d ar nb : Nat} {ga ha oa : Nat → Nat} (hnd : (kad d ar nb ga ha oa).Nodup) (lg tm lf wr : Int32) (G : Nat → kGV) (p0 : Int32) (p1 : Int32) (hlg : ∃ n : Nat, n ≤ 8 ∧ lg = nI n) (sz : Nat) : MetT l y_D_share w_D_share ({ frames := 7, cells := 2, slots := 12, locals := 120 }) (kPreT (dC, dI) vwCl (kty cI cJ cR) [.ref d, .int p0, .int p1] sz (kw cI cJ cR d ar nb ga ha oa lg tm lf wr G)) (kt_Or kt_N (va_Qi (fun (r : Int32) (u : kDV) => (vp_in p0 8 ∧ vp_in p1 8) ∧ r = kg_sh p1 (G p0.toNatClampNeg) lg.toNatClampNeg ∧ u = (lg, tm, lf, wr, G)) (fun u t => va_P (dC, dI) vwCl (kwv cI cJ cR d ar nb ga ha oa u) t.heap) (kA (kad d ar nb ga ha oa) sz)) (¬ (vp_in p0 8 ∧ vp_in p1 8))) 2 12 (kA (kad d ar nb ga ha oa) sz) := by
  refine kt_ofW (cc := b_D_share) (maxL := 6) (ret := (some .int)) (by decide) rfl ?_
  intro p e s m args below meth c s₁ B hml hv
  obtain ⟨⟨rfl, hsz, hP, hK⟩, hZ⟩ := hv
  have hx := B.exec
  have hb := B.bytes
  have hr := B.returns
  have hts := atoms_spec (ws := w_D_share) B.pre
  have hw := fun (w : Cond) (h : w ∈ kb_B) => hts w (List.mem_cons_of_mem _ h)
  have hown : s.vm.findClass R_D = some m.cls := findClass_of_methodNamed B.named
  have hlocks := B.notSynchronized
  have hne := B.noHandlers (hts _ List.mem_cons_self)
  have htr : e.platform.stackTraces = false := by rw [Example.NoTraceControls.admits_follows B.admits]; exact hl0
  subst hsz
  generalize hAe : kA (kad d ar nb ga ha oa) s.heap.size = A
  have hA : ∀ q : Nat, s.heap.size ≤ q → A q := fun q h => by rw [← hAe]; exact Or.inr h
  have hAL : ∀ q ∈ (kad d ar nb ga ha oa), A q := fun q h => by rw [← hAe]; exact Or.inl h
  have hS : va_S A s.heap s.heap [] := va_S.rf
  have hl := lv_entry ([.ref d, .int p0, .int p1]) (n := 6) (Nat.le_of_ble_eq_true rfl)
  rw [lg_entry_eq]
  generalize (lg_sl ([.ref d, .int p0, .int p1]) ++ List.replicate (6 - (lg_sl ([.ref d, .int p0, .int p1])).length) Slot.unset).toArray = ls at hl ⊢
  have hl : lv_has ls 6 [(0, .ref d), (1, .int p0), (2, .int p1)] := hl
  obtain ⟨n, hn, rfl⟩ := hlg
  refine lv_aload_n hx hb d_D_share_0 rfl (lv_at hl 0 rfl) ?_
  refine lv_iload_n hx hb d_D_share_1 rfl (lv_at hl 1 rfl) ?_
  refine kt_callP (kt_runV (As := [.int p0]) (rest := []) ⟨hx, hb, hml, hown, hw⟩ (c_D_groupAt l hl0 hnd (nI n) tm lf wr G p0 _) (cwV 1 hw (kb_V kb_124 kb_126 kb_s0 kb_1 kb_127) rfl rfl rfl (by decide +kernel) ⟨Nat.le_of_ble_eq_true rfl, Nat.le_of_ble_eq_true rfl⟩) (kPVT (va_recv hK hP (ci := 0) (q0 := 0) rfl rfl) hP hK hZ (fun _ _ h => h)) rfl rfl hl.1 rfl (lv_room (Nat.le_of_ble_eq_true rfl)) d_D_share_2 ⟨Nat.le_of_ble_eq_true rfl, Nat.le_of_ble_eq_true rfl⟩) hne hlocks (by decide) (by decide) (fun t x ht hW hX => Or.inr ⟨x, rfl, fun h => ht h.1, hX⟩) (fun v_1 hv_1 => ?_)
  obtain ⟨rfl, hp_p0⟩ := hv_1
  have hj : p0.toNatClampNeg < 8 := Nat.not_le.mp fun q => hp_p0 (Or.inr q)
  generalize hjj : p0.toNatClampNeg = j at hj ⊢
  rw [← kv_at G j] at hP
  generalize hGj : G j = gv at hP
  obtain ⟨x0, x1, x2, x3, x4, x5, x6⟩ := gv
  have hGu : va_up G j (x0, x1, x2, x3, x4, x5, x6) = G := by rw [← hGj]; exact kv_at G j
  refine lv_astore_n (lv' := [(3, .ref (ga j)), (0, .ref d), (1, .int p0), (2, .int p1)]) hx hb d_D_share_5 rfl hl (by decide) rfl (fun ls hl => ?_)
  refine lv_aload_n hx hb d_D_share_6 rfl (lv_at hl 1 rfl) ?_
  refine lv_iload_n hx hb d_D_share_7 rfl (lv_at hl 3 rfl) ?_
  refine kt_callP (kt_runV (As := [.int p1]) (rest := []) ⟨hx, hb, hml, hown, hw⟩ (c_D_checkMember l hl0 hnd (nI n) tm lf wr (va_up G j (x0, x1, x2, x3, x4, x5, x6)) p1 _) (cwV 1 hw (kb_V kb_194 kb_196 kb_s2 kb_1 kb_197) rfl rfl rfl (by decide +kernel) ⟨Nat.le_of_ble_eq_true rfl, Nat.le_of_ble_eq_true rfl⟩) (kPVT (va_recv hK hP (ci := 0) (q0 := 0) rfl rfl) hP hK hZ (fun _ _ h => h)) rfl rfl hl.1 rfl (lv_room (Nat.le_of_ble_eq_true rfl)) d_D_share_8 ⟨Nat.le_of_ble_eq_true rfl, Nat.le_of_ble_eq_true rfl⟩) hne hlocks (by decide) (by decide) (fun t x ht hW hX => Or.inr ⟨x, rfl, fun h => ht h.2, hX⟩) (fun v_2 hv_2 => ?_)
  obtain ⟨rfl, hp_p1⟩ := hv_2
  refine lv_iconst (v := 0) hx hb d_D_share_11 (by decide) ?_
  refine lv_istore (lv' := [(4, .int 0), (3, .ref (ga j)), (0, .ref d), (1, .int p0), (2, .int p1)]) hx hb d_D_share_12 hl (by decide) rfl (fun ls hl => ?_)
  refine lv_iconst (v := 0) hx hb d_D_share_14 (by decide) ?_
  refine lv_istore (lv' := [(5, .int 0), (4, .int 0), (3, .ref (ga j)), (0, .ref d), (1, .int p0), (2, .int p1)]) hx hb d_D_share_15 hl (by decide) rfl (fun ls hl => ?_)
  refine lp_D_share hnd hn hj hx hb hml hown hw hK hP (fun ls hl => ?_) n 0 ls (Nat.zero_add n) (lv_sub hl [0, 1, 2, 3, 4, 5] rfl)
  refine lv_iload hx hb d_D_share_51 (lv_at hl 1 rfl) ?_
  refine W.widen (k := 2) (n := 12) (by decide) (by decide) ?_
  exact kt_W (fun _ h => kt_of h) (W.iret (v := (kg_sh p1 (x0, x1, x2, x3, x4, x5, x6) n)) hx hb hr (fun t ht hW => Or.inl ⟨⟨_, (nI n, tm, lf, wr, (va_up G j (x0, x1, x2, x3, x4, x5, x6))), rfl, ⟨⟨hp_p0, hp_p1⟩, by first | (simp only [hjj, hGj, hGu, nI_clamp (show n < 2 ^ 31 by omega)]; done) | (simp [hjj, hGj, hGu, nI_clamp (show n < 2 ^ 31 by omega)]; done), by first | (simp only [hjj, hGj, hGu, nI_clamp (show n < 2 ^ 31 by omega)]; done) | (simp [hjj, hGj, hGu, nI_clamp (show n < 2 ^ 31 by omega)]; done)⟩, by show va_P _ _ _ t.heap; rw [ht]; exact hP⟩, hS.F ht⟩) hS.2.2 d_D_share_53)
set_option maxHeartbeats 4000000 in
set_option maxRecDepth 100000 in
theorem lp_D_ticks {p : Program} {l : Launch} {e : Env} {s : State} {m : MethodId} {args : Array Value} {below : List Frame} {meth : Method} {c : Code} {Q : State → Prop} {dC : Nat → ClassId} {dI : Nat → Nat → Nat} {cI cJ cR : ClassId} {d ar nb : Nat} {ga ha oa : Nat → Nat} (hnd : (kad d ar nb ga ha oa).Nodup) {n : Nat} (hn : n ≤ 200) {v : kDV} {A : Nat → Prop} (hx : p.tables.exec = Jvm.exec) (hb : c.code = b_D_ticks) (hml : c.maxLocals = 3) (hown : s.vm.findClass R_D = some m.cls) (hw : ∀ w ∈ kb_B, w.before args s = true) (hK : va_K (dC, dI) vwCl (kty cI cJ cR) s) (hA : ∀ q : Nat, s.heap.size ≤ q → A q) (hAL : ∀ q ∈ (kad d ar nb ga ha oa), A q)
    (kk : ∀ (H : Heap) (locs : List Loc) (ls : Array Slot), va_P (dC, dI) vwCl (kwv cI cJ cR d ar nb ga ha oa (kd_ticks v n)) H → va_S A s.heap H locs → lv_has ls 3 [(2, .int (nI n)), (0, .ref d), (1, .int (nI n))] → W p l e (headSpec w_D_ticks ({ frames := 6, cells := 1, slots := 6, locals := 140 })).room s m args below meth c H locs 0 0 Q (F0 m 60 ls [])) :
    ∀ (k i : Nat) (H : Heap) (locs : List Loc) (ls : Array Slot), i + k = n → va_P (dC, dI) vwCl (kwv cI cJ cR d ar nb ga ha oa (kd_ticks v i)) H → va_S A s.heap H locs → lv_has ls 3 [(2, .int (nI i)), (0, .ref d), (1, .int (nI n))] → W p l e (headSpec w_D_ticks ({ frames := 6, cells := 1, slots := 6, locals := 140 })).room s m args below meth c H locs 0 0 Q (F0 m 45 ls []) := by
  intro k
  induction k with
  | zero =>
    intro i H locs ls hi hP hS hl
    have hin : i = n := by omega
    subst hin
    refine lv_iload_n hx hb d_D_ticks_45 rfl (lv_at hl 0 rfl) ?_
    refine lv_iload_n hx hb d_D_ticks_46 rfl (lv_at hl 2 rfl) ?_
    refine lv_icmp_ge (tgt := 60) hx hb d_D_ticks_47 (by decide) (fun c_1 => ?_) (fun c_1 => ?_)
    · exact kk H locs ls hP hS hl
    · exact absurd (nI_le (Nat.le_refl i) (by omega)) c_1
  | succ k ih =>
    intro i H locs ls hi hP hS hl
    generalize hz : kd_ticks v i = z at hP
    obtain ⟨lg, tm, lf, wr, G⟩ := z
    refine lv_iload_n hx hb d_D_ticks_45 rfl (lv_at hl 0 rfl) ?_
    refine lv_iload_n hx hb d_D_ticks_46 rfl (lv_at hl 2 rfl) ?_
    refine lv_icmp_ge (tgt := 60) hx hb d_D_ticks_47 (by decide) (fun c_1 => ?_) (fun c_1 => ?_)
    · exact absurd c_1 (nI_ge (a := i) (b := n) (by omega) (by omega))
    · refine lv_aload_n hx hb d_D_ticks_50 rfl (lv_at hl 1 rfl) ?_
      refine kc_v (Wd := kwv cI cJ cR d ar nb ga ha oa) (va_runV (As := []) (rest := []) ⟨hx, hb, hml, hown, hw⟩ (c_D_tick l hnd lg tm lf wr G _) (cwV 0 hw (kb_V kb_320 kb_322 kb_s4 kb_1 kb_323) rfl rfl rfl (by decide +kernel) ⟨Nat.le_of_ble_eq_true rfl, Nat.le_of_ble_eq_true rfl⟩) (kPV (va_recv hK hP (ci := 0) (q0 := 0) rfl rfl) hP hK) rfl rfl hl.1 rfl (lv_room (Nat.le_of_ble_eq_true rfl)) d_D_ticks_51 ⟨Nat.le_of_ble_eq_true rfl, Nat.le_of_ble_eq_true rfl⟩) hS hA hAL (fun u_1 H locs hw hP _ _ hS => ?_)
      subst hw
      refine lv_iinc (v := (nI i) + 1) (lv' := [(2, .int ((nI i) + 1)), (0, .ref d), (1, .int (nI n))]) hx hb d_D_ticks_54 hl (k := 0) rfl rfl (by decide) rfl (fun ls hl => ?_)
      refine lv_goto (tgt := 45) hx hb d_D_ticks_57 (by decide) ?_
      refine ih (i + 1) H locs ls (by omega) ?_ hS ?_
      · show va_P _ _ (kwv cI cJ cR d ar nb ga ha oa (kd_tick (kd_ticks v i))) H; rw [hz]; exact hP
      · rw [nI_succ]; exact lv_sub hl [0, 1, 2] rfl
set_option maxHeartbeats 4000000 in
set_option maxRecDepth 100000 in
theorem c_D_ticks (l : Launch) (hl0 : l.stackTraces = false) {dC : Nat → ClassId} {dI : Nat → Nat → Nat} {cI cJ cR : ClassId} {d ar nb : Nat} {ga ha oa : Nat → Nat} (hnd : (kad d ar nb ga ha oa).Nodup) (lg tm lf wr : Int32) (G : Nat → kGV) (p0 : Int32) (sz : Nat) : MetT l y_D_ticks w_D_ticks ({ frames := 6, cells := 1, slots := 6, locals := 140 }) (kPreT (dC, dI) vwCl (kty cI cJ cR) [.ref d, .int p0] sz (kw cI cJ cR d ar nb ga ha oa lg tm lf wr G)) (kt_Or kt_N (va_Qi (fun (r : Int32) (u : kDV) => (¬ p0 < 1 ∧ p0 ≤ 200 ∧ tm + p0 ≤ 1000000) ∧ (r, u) = ((kd_ticks (lg, tm, lf, wr, G) p0.toNatClampNeg).2.1, kd_ticks (lg, tm, lf, wr, G) p0.toNatClampNeg)) (fun u t => va_P (dC, dI) vwCl (kwv cI cJ cR d ar nb ga ha oa u) t.heap) (kA (kad d ar nb ga ha oa) sz)) (¬ (¬ p0 < 1 ∧ p0 ≤ 200 ∧ tm + p0 ≤ 1000000))) 1 6 (kA (kad d ar nb ga ha oa) sz) := by
  refine kt_ofW (cc := b_D_ticks) (maxL := 3) (ret := (some .int)) (by decide) rfl ?_
  intro p e s m args below meth c s₁ B hml hv
  obtain ⟨⟨rfl, hsz, hP, hK⟩, hZ⟩ := hv
  have hx := B.exec
  have hb := B.bytes
  have hr := B.returns
  have hts := atoms_spec (ws := w_D_ticks) B.pre
  have hw := fun (w : Cond) (h : w ∈ kb_B) => hts w (List.mem_cons_of_mem _ h)
  have hown : s.vm.findClass R_D = some m.cls := findClass_of_methodNamed B.named
  have hlocks := B.notSynchronized
  have hne := B.noHandlers (hts _ List.mem_cons_self)
  have htr : e.platform.stackTraces = false := by rw [Example.NoTraceControls.admits_follows B.admits]; exact hl0
  subst hsz
  generalize hAe : kA (kad d ar nb ga ha oa) s.heap.size = A
  have hA : ∀ q : Nat, s.heap.size ≤ q → A q := fun q h => by rw [← hAe]; exact Or.inr h
  have hAL : ∀ q ∈ (kad d ar nb ga ha oa), A q := fun q h => by rw [← hAe]; exact Or.inl h
  have hS : va_S A s.heap s.heap [] := va_S.rf
  have hl := lv_entry ([.ref d, .int p0]) (n := 3) (Nat.le_of_ble_eq_true rfl)
  rw [lg_entry_eq]
  generalize (lg_sl ([.ref d, .int p0]) ++ List.replicate (3 - (lg_sl ([.ref d, .int p0])).length) Slot.unset).toArray = ls at hl ⊢
  have hl : lv_has ls 3 [(0, .ref d), (1, .int p0)] := hl
  refine lv_iload_n hx hb d_D_ticks_0 rfl (lv_at hl 1 rfl) ?_
  refine lv_iconst (v := 1) hx hb d_D_ticks_1 (by decide) ?_
  refine lv_icmp_lt (tgt := 12) hx hb d_D_ticks_2 (by decide) (fun c_1 => ?_) (fun c_1 => ?_)
  · refine W.widen (k := 0) (n := 0) (by decide) (by decide) ?_
    obtain ⟨q9, hq9⟩ := hZ.2.use hown (k := 127) (tx := "n is not 1 .. 200") (by decide)
    exact kt_throw (own := R_D) (xN := kt_N) (up := kt_U) (tx := "n is not 1 .. 200") (q := q9) hx htr hb (hl.1.trans hml.symm) hown hne hlocks (by decide +kernel) (by decide +kernel) hZ.1.use (hw _ kb_128) (hw _ kb_129) (hw _ kb_10) hq9 (Nat.le_refl _) d_D_ticks_12 d_D_ticks_15 d_D_ticks_16 d_D_ticks_18 d_D_ticks_21 (Nat.le_of_ble_eq_true rfl) (Nat.le_of_ble_eq_true rfl) (Nat.le_of_ble_eq_true rfl) (Nat.le_of_ble_eq_true rfl) (fun t x hW hX => Or.inr ⟨x, rfl, fun h => h.1 c_1, hX⟩)
  · refine lv_iload_n hx hb d_D_ticks_5 rfl (lv_at hl 1 rfl) ?_
    refine lv_sipush (v := 200) hx hb d_D_ticks_6 (by decide) ?_
    refine lv_icmp_le (tgt := 22) hx hb d_D_ticks_9 (by decide) (fun c_2 => ?_) (fun c_2 => ?_)
    · refine lv_aload_n hx hb d_D_ticks_22 rfl (lv_at hl 0 rfl) ?_
      refine va_get (D := (dC, dI)) (ci := 0) (v := .int tm) (C := R_D) (T := F_D) (N := 4) hx hb hw i_D hown hK hP 0 rfl rfl 3 (by decide) (hw _ kb_85) (fun _ h9 => h9) rfl d_D_ticks_23 ?_
      refine lv_iload_n hx hb d_D_ticks_26 rfl (lv_at hl 1 rfl) ?_
      refine lv_iadd hx hb d_D_ticks_27 ?_
      refine lv_ldc (v := 1000000) hx hb hown (hw _ kb_318) d_D_ticks_28 ?_
      refine lv_icmp_le (tgt := 43) hx hb d_D_ticks_30 (by decide) (fun c_3 => ?_) (fun c_3 => ?_)
      · refine lv_iconst (v := 0) hx hb d_D_ticks_43 (by decide) ?_
        refine lv_istore_n (lv' := [(2, .int 0), (0, .ref d), (1, .int p0)]) hx hb d_D_ticks_44 rfl hl (by decide) rfl (fun ls hl => ?_)
        obtain ⟨n, hn, rfl⟩ := nI_of2 (M := 200) (n := 200) rfl (k_n1 c_1) c_2
        refine lp_D_ticks (v := (lg, tm, lf, wr, G)) hnd hn hx hb hml hown hw hK hA hAL (fun H locs ls hP hS hl => ?_) n 0 _ _ ls (Nat.zero_add n) hP hS (lv_sub hl [0, 1, 2] rfl)
        have hnn : (nI n).toNatClampNeg = n := nI_clamp (by omega)
        generalize hz : kd_ticks (lg, tm, lf, wr, G) n = z at hP
        obtain ⟨lg1, tm1, lf1, wr1, G1⟩ := z
        have hP : va_P (dC, dI) vwCl (kw cI cJ cR d ar nb ga ha oa lg1 tm1 lf1 wr1 G1) H := hP
        refine lv_aload_n hx hb d_D_ticks_60 rfl (lv_at hl 1 rfl) ?_
        refine va_get (D := (dC, dI)) (ci := 0) (v := .int tm1) (C := R_D) (T := F_D) (N := 4) hx hb hw i_D hown hK hP 0 rfl rfl 3 (by decide) (hw _ kb_85) (fun _ h9 => h9) rfl d_D_ticks_61 ?_
        refine W.widen (k := 1) (n := 6) (by decide) (by decide) ?_
        exact kt_W (fun _ h => kt_of h) (W.iret (v := tm1) hx hb hr (fun t ht hW => Or.inl ⟨⟨_, (lg1, tm1, lf1, wr1, G1), rfl, ⟨⟨c_1, c_2, c_3⟩, by first | (simp only [hnn, hz]; done) | (simp [hnn, hz]; done)⟩, by show va_P _ _ _ t.heap; rw [ht]; exact hP⟩, hS.F ht⟩) hS.2.2 d_D_ticks_64)
      · refine W.widen (k := 0) (n := 0) (by decide) (by decide) ?_
        obtain ⟨q9, hq9⟩ := hZ.2.use hown (k := 130) (tx := "TIME would be above 1000000") (by decide)
        exact kt_throw (own := R_D) (xN := kt_N) (up := kt_U) (tx := "TIME would be above 1000000") (q := q9) hx htr hb (hl.1.trans hml.symm) hown hne hlocks (by decide +kernel) (by decide +kernel) hZ.1.use (hw _ kb_128) (hw _ kb_129) (hw _ kb_10) hq9 (Nat.le_refl _) d_D_ticks_33 d_D_ticks_36 d_D_ticks_37 d_D_ticks_39 d_D_ticks_42 (Nat.le_of_ble_eq_true rfl) (Nat.le_of_ble_eq_true rfl) (Nat.le_of_ble_eq_true rfl) (Nat.le_of_ble_eq_true rfl) (fun t x hW hX => Or.inr ⟨x, rfl, fun h => c_3 h.2.2, hX⟩)
    · refine W.widen (k := 0) (n := 0) (by decide) (by decide) ?_
      obtain ⟨q9, hq9⟩ := hZ.2.use hown (k := 127) (tx := "n is not 1 .. 200") (by decide)
      exact kt_throw (own := R_D) (xN := kt_N) (up := kt_U) (tx := "n is not 1 .. 200") (q := q9) hx htr hb (hl.1.trans hml.symm) hown hne hlocks (by decide +kernel) (by decide +kernel) hZ.1.use (hw _ kb_128) (hw _ kb_129) (hw _ kb_10) hq9 (Nat.le_refl _) d_D_ticks_12 d_D_ticks_15 d_D_ticks_16 d_D_ticks_18 d_D_ticks_21 (Nat.le_of_ble_eq_true rfl) (Nat.le_of_ble_eq_true rfl) (Nat.le_of_ble_eq_true rfl) (Nat.le_of_ble_eq_true rfl) (fun t x hW hX => Or.inr ⟨x, rfl, fun h => c_2 h.2.1, hX⟩)
