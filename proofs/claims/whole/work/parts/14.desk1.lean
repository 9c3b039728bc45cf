set_option maxHeartbeats 4000000 in
set_option maxRecDepth 100000 in
theorem lp_D_tick {p : Program} {l : Launch} {e : Env} {s : State} {m : MethodId} {args : Array Value} {below : List Frame} {meth : Method} {c : Code} {Q : State → Prop} {dC : Nat → ClassId} {dI : Nat → Nat → Nat} {cI cJ cR : ClassId} {d ar nb : Nat} {ga ha oa : Nat → Nat} (hnd : (kad d ar nb ga ha oa).Nodup) {lg tm lf wr : Int32} {G : Nat → kGV} {A : Nat → Prop} (hx : p.tables.exec = Jvm.exec) (hb : c.code = b_D_tick) (hml : c.maxLocals = 2) (hown : s.vm.findClass R_D = some m.cls) (hw : ∀ w ∈ kb_B, w.before args s = true) (hK : va_K (dC, dI) vwCl (kty cI cJ cR) s) (hA : ∀ q : Nat, s.heap.size ≤ q → A q) (hAL : ∀ q ∈ (kad d ar nb ga ha oa), A q)
    (kk : ∀ (H : Heap) (locs : List Loc) (ls : Array Slot), va_P (dC, dI) vwCl (kw cI cJ cR d ar nb ga ha oa lg tm (kd_tk tm lf wr G 8).1 (kd_tk tm lf wr G 8).2.1 (kd_tk tm lf wr G 8).2.2) H → va_S A s.heap H locs → W p l e (headSpec w_D_tick ({ frames := 3, cells := 0, slots := 0, locals := 100 })).room s m args below meth c H locs 0 0 Q (F0 m 54 ls [])) :
    ∀ (k i : Nat) (H : Heap) (locs : List Loc) (ls : Array Slot), i + k = 8 → va_P (dC, dI) vwCl (kw cI cJ cR d ar nb ga ha oa lg tm (kd_tk tm lf wr G i).1 (kd_tk tm lf wr G i).2.1 (kd_tk tm lf wr G i).2.2) H → va_S A s.heap H locs → lv_has ls 2 [(1, .int (nI i)), (0, .ref d)] → W p l e (headSpec w_D_tick ({ frames := 3, cells := 0, slots := 0, locals := 100 })).room s m args below meth c H locs 0 0 Q (F0 m 12 ls []) := by
  intro k
  induction k with
  | zero =>
    intro i H locs ls hi hP hS hl
    have hi8 : i = 8 := by omega
    subst hi8
    refine lv_iload_n hx hb d_D_tick_12 rfl (lv_at hl 0 rfl) ?_
    refine lv_bipush (v := 8) hx hb d_D_tick_13 (by decide) ?_
    refine lv_icmp_ge (tgt := 54) hx hb d_D_tick_15 (by decide) (fun c_1 => ?_) (fun c_1 => ?_)
    · exact kk H locs ls hP hS
    · exact absurd (nI_le (Nat.le_refl 8) (by decide)) c_1
  | succ k ih =>
    intro i H locs ls hi hP hS hl
    generalize hz : kd_tk tm lf wr G i = z at hP
    obtain ⟨lf1, wr1, G1⟩ := z
    have hP : va_P (dC, dI) vwCl (kw cI cJ cR d ar nb ga ha oa lg tm lf1 wr1 G1) H := hP
    have hj : i < 8 := by omega
    rw [← kv_at G1 i] at hP
    generalize hGi : G1 i = gv at hP
    obtain ⟨x0, x1, x2, x3, x4, x5, x6⟩ := gv
    refine lv_iload_n hx hb d_D_tick_12 rfl (lv_at hl 0 rfl) ?_
    refine lv_bipush (v := 8) hx hb d_D_tick_13 (by decide) ?_
    refine lv_icmp_ge (tgt := 54) hx hb d_D_tick_15 (by decide) (fun c_1 => ?_) (fun c_1 => ?_)
    · exact absurd c_1 (nI_ge (a := i) (b := 8) (by omega) (by decide))
    · refine lv_aload_n hx hb d_D_tick_18 rfl (lv_at hl 1 rfl) ?_
      refine va_get (D := (dC, dI)) (ci := 0) (v := .ref ar) (C := R_D) (T := F_D) (N := 4) hx hb hw i_D hown hK hP 0 rfl rfl 1 (by decide) (hw _ kb_83) (fun _ h9 => h9) rfl d_D_tick_19 ?_
      refine lv_iload_n hx hb d_D_tick_22 rfl (lv_at hl 0 rfl) ?_
      refine va_aldq hx hb hK hP 1 2 rfl rfl (vp_in_nI hj (by decide)) d_D_tick_23 ?_
      refine W.eq (g2 := F0 m 24 ls [.ref (ga i)]) (by rw [nI_clamp (by omega)]; rfl) ?_
      refine lv_aload_n hx hb d_D_tick_24 rfl (lv_at hl 1 rfl) ?_
      refine va_get (D := (dC, dI)) (ci := 0) (v := .int tm) (C := R_D) (T := F_D) (N := 4) hx hb hw i_D hown hK hP 0 rfl rfl 3 (by decide) (hw _ kb_85) (fun _ h9 => h9) rfl d_D_tick_25 ?_
      refine kc_v (Wd := kwv cI cJ cR d ar nb ga ha oa) (va_runV (As := [.int tm]) (rest := []) ⟨hx, hb, hml, hown, hw⟩ (c_G_dropSilent l hnd lg tm lf1 wr1 G1 hj x0 x1 x2 x3 x4 x5 x6 tm _) (cwV 1 hw (kb_V kb_324 kb_325 kb_326 kb_4 kb_327) rfl rfl rfl (by decide +kernel) ⟨Nat.le_of_ble_eq_true rfl, Nat.le_of_ble_eq_true rfl⟩) (kPV (va_recv hK hP (ci := 2) (q0 := (3 * i + 3)) rfl (kw_gG hj)) hP hK) rfl rfl hl.1 rfl (lv_room (Nat.le_of_ble_eq_true rfl)) d_D_tick_28 ⟨Nat.le_of_ble_eq_true rfl, Nat.le_of_ble_eq_true rfl⟩) hS hA hAL (fun u_1 H locs hw hP _ _ hS => ?_)
      subst hw
      have hP : va_P (dC, dI) vwCl (kw cI cJ cR d ar nb ga ha oa lg tm lf1 wr1 (va_up G1 i (kg_drop tm (x0, x1, x2, x3, x4, x5, x6)))) _ := hP
      generalize hq_3 : kg_drop tm (x0, x1, x2, x3, x4, x5, x6) = z_3 at hP
      obtain ⟨y3_0, y3_1, y3_2, y3_3, y3_4, y3_5, y3_6⟩ := z_3
      refine lv_aload_n hx hb d_D_tick_31 rfl (lv_at hl 1 rfl) ?_
      refine va_get (D := (dC, dI)) (ci := 0) (v := .ref ar) (C := R_D) (T := F_D) (N := 4) hx hb hw i_D hown hK hP 0 rfl rfl 1 (by decide) (hw _ kb_83) (fun _ h9 => h9) rfl d_D_tick_32 ?_
      refine lv_iload_n hx hb d_D_tick_35 rfl (lv_at hl 0 rfl) ?_
      refine va_aldq hx hb hK hP 1 2 rfl rfl (vp_in_nI hj (by decide)) d_D_tick_36 ?_
      refine W.eq (g2 := F0 m 37 ls [.ref (ga i)]) (by rw [nI_clamp (by omega)]; rfl) ?_
      refine lv_aload_n hx hb d_D_tick_37 rfl (lv_at hl 1 rfl) ?_
      refine va_get (D := (dC, dI)) (ci := 0) (v := .int tm) (C := R_D) (T := F_D) (N := 4) hx hb hw i_D hown hK hP 0 rfl rfl 3 (by decide) (hw _ kb_85) (fun _ h9 => h9) rfl d_D_tick_38 ?_
      refine lv_aload_n hx hb d_D_tick_41 rfl (lv_at hl 1 rfl) ?_
      refine va_get (D := (dC, dI)) (ci := 0) (v := .ref nb) (C := R_D) (T := F_D) (N := 4) hx hb hw i_D hown hK hP 0 rfl rfl 2 (by decide) (hw _ kb_84) (fun _ h9 => h9) rfl d_D_tick_42 ?_
      refine kc_v (Wd := kwv cI cJ cR d ar nb ga ha oa) (va_runV (As := [.int tm, .ref nb]) (rest := []) ⟨hx, hb, hml, hown, hw⟩ (c_G_finishMixing l hnd lg tm lf1 wr1 G1 hj y3_0 y3_1 y3_2 y3_3 y3_4 y3_5 y3_6 tm _) (cwV 2 hw (kb_V kb_207 kb_208 kb_209 kb_4 kb_210) rfl rfl rfl (by decide +kernel) ⟨Nat.le_of_ble_eq_true rfl, Nat.le_of_ble_eq_true rfl⟩) (kPV (va_recv hK hP (ci := 2) (q0 := (3 * i + 3)) rfl (kw_gG hj)) hP hK) rfl rfl hl.1 rfl (lv_room (Nat.le_of_ble_eq_true rfl)) d_D_tick_45 ⟨Nat.le_of_ble_eq_true rfl, Nat.le_of_ble_eq_true rfl⟩) hS hA hAL (fun u_4 H locs hw hP _ _ hS => ?_)
      subst hw
      have hP : va_P (dC, dI) vwCl (kw cI cJ cR d ar nb ga ha oa lg tm (kg_fin tm lf1 wr1 (y3_0, y3_1, y3_2, y3_3, y3_4, y3_5, y3_6)).2.1 (kg_fin tm lf1 wr1 (y3_0, y3_1, y3_2, y3_3, y3_4, y3_5, y3_6)).2.2 (va_up G1 i (kg_fin tm lf1 wr1 (y3_0, y3_1, y3_2, y3_3, y3_4, y3_5, y3_6)).1)) _ := hP
      generalize hq_6 : kg_fin tm lf1 wr1 (y3_0, y3_1, y3_2, y3_3, y3_4, y3_5, y3_6) = z_6 at hP
      obtain ⟨⟨y6_0, y6_1, y6_2, y6_3, y6_4, y6_5, y6_6⟩, lf_6, wr_6⟩ := z_6
      have hP : va_P (dC, dI) vwCl (kw cI cJ cR d ar nb ga ha oa lg tm lf_6 wr_6 (va_up G1 i (y6_0, y6_1, y6_2, y6_3, y6_4, y6_5, y6_6))) _ := hP
      refine lv_iinc (v := (nI i) + 1) (lv' := [(1, .int ((nI i) + 1)), (0, .ref d)]) hx hb d_D_tick_48 hl (k := 0) rfl rfl (by decide) rfl (fun ls hl => ?_)
      refine lv_goto (tgt := 12) hx hb d_D_tick_51 (by decide) ?_
      have hs : kd_tk tm lf wr G (i + 1) = (lf_6, wr_6, (va_up G1 i (y6_0, y6_1, y6_2, y6_3, y6_4, y6_5, y6_6))) := by simp only [kd_tk, hz, hGi, hq_3, hq_6]
      refine ih (i + 1) H locs ls (by omega) ?_ hS ?_
      · rw [hs]; exact hP
      · rw [nI_succ]; exact lv_sub hl [0, 1] rfl
set_option maxHeartbeats 4000000 in
set_option maxRecDepth 100000 in
theorem c_D_tick (l : Launch) {dC : Nat → ClassId} {dI : Nat → Nat → Nat} {cI cJ cR : ClassId} {d ar nb : Nat} {ga ha oa : Nat → Nat} (hnd : (kad d ar nb ga ha oa).Nodup) (lg tm lf wr : Int32) (G : Nat → kGV) (sz : Nat) : Met l y_D_tick w_D_tick ({ frames := 3, cells := 0, slots := 0, locals := 100 }) (kPre (dC, dI) vwCl (kty cI cJ cR) [.ref d] sz (kw cI cJ cR d ar nb ga ha oa lg tm lf wr G)) (va_Qv (fun u : kDV => u = kd_tick (lg, tm, lf, wr, G)) (fun u t => va_P (dC, dI) vwCl (kwv cI cJ cR d ar nb ga ha oa u) t.heap) (kA (kad d ar nb ga ha oa) sz)) 0 0 (kA (kad d ar nb ga ha oa) sz) := by
  refine Met.ofW (cc := b_D_tick) (maxL := 2) (ret := none) (by decide) rfl ?_
  intro p e s m args below meth c s₁ B hml hv
  obtain ⟨rfl, hsz, hP, hK⟩ := hv
  have hx := B.exec
  have hb := B.bytes
  have hr := B.returns
  have hts := atoms_spec (ws := w_D_tick) B.pre
  have hw := fun (w : Cond) (h : w ∈ kb_B) => hts w (List.mem_cons_of_mem _ h)
  have hown : s.vm.findClass R_D = some m.cls := findClass_of_methodNamed B.named
  have hlocks := B.notSynchronized
  subst hsz
  generalize hAe : kA (kad d ar nb ga ha oa) s.heap.size = A
  have hA : ∀ q : Nat, s.heap.size ≤ q → A q := fun q h => by rw [← hAe]; exact Or.inr h
  have hAL : ∀ q ∈ (kad d ar nb ga ha oa), A q := fun q h => by rw [← hAe]; exact Or.inl h
  have hS : va_S A s.heap s.heap [] := va_S.rf
  have hl := lv_entry ([.ref d]) (n := 2) (Nat.le_of_ble_eq_true rfl)
  rw [lg_entry_eq]
  generalize (lg_sl ([.ref d]) ++ List.replicate (2 - (lg_sl ([.ref d])).length) Slot.unset).toArray = ls at hl ⊢
  have hl : lv_has ls 2 [(0, .ref d)] := hl
  refine lv_aload_n hx hb d_D_tick_0 rfl (lv_at hl 0 rfl) ?_
  refine lv_dup hx hb d_D_tick_1 rfl ?_
  refine va_get (D := (dC, dI)) (ci := 0) (v := .int tm) (C := R_D) (T := F_D) (N := 4) hx hb hw i_D hown hK hP 0 rfl rfl 3 (by decide) (hw _ kb_85) (fun _ h9 => h9) rfl d_D_tick_2 ?_
  refine lv_iconst (v := 1) hx hb d_D_tick_5 (by decide) ?_
  refine lv_iadd hx hb d_D_tick_6 ?_
  refine va_put (D := (dC, dI)) (ci := 0) (v := .int (tm + (1 : Int32))) (ty := .int) (C := R_D) (T := F_D) (N := 4) hx hb hw i_D t_D t_D_ok n_D hown hK hP (kw_D hnd hAL) hS 0 rfl rfl 3 (by decide) (hw _ kb_85) (fun _ h9 => h9) rfl (by decide +kernel) rfl rfl (Nat.le_of_ble_eq_true rfl) d_D_tick_7 (fun H locs hP _ hS => ?_)
  have hP : va_P (dC, dI) vwCl (kw cI cJ cR d ar nb ga ha oa lg (tm + (1 : Int32)) lf wr G) _ := hP
  refine lv_iconst (v := 0) hx hb d_D_tick_10 (by decide) ?_
  refine lv_istore_n (lv' := [(1, .int 0), (0, .ref d)]) hx hb d_D_tick_11 rfl hl (by decide) rfl (fun ls hl => ?_)
  refine lp_D_tick (tm := tm + 1) (lf := lf) (wr := wr) (G := G) hnd hx hb hml hown hw hK hA hAL (fun H locs ls hP hS => ?_) 8 0 _ _ ls rfl hP hS (lv_sub hl [0, 1] rfl)
  exact W.vret hx hb hr (fun t ht hW => ⟨⟨_, rfl, rfl, by show va_P _ _ _ t.heap; rw [ht]; exact hP⟩, hS.F ht⟩) hS.2.2 d_D_tick_54
set_option maxHeartbeats 4000000 in
set_option maxRecDepth 100000 in
theorem lp_D_restart {p : Program} {l : Launch} {e : Env} {s : State} {m : MethodId} {args : Array Value} {below : List Frame} {meth : Method} {c : Code} {Q : State → Prop} {dC : Nat → ClassId} {dI : Nat → Nat → Nat} {cI cJ cR : ClassId} {d ar nb : Nat} {ga ha oa : Nat → Nat} (hnd : (kad d ar nb ga ha oa).Nodup) {lg tm lf wr : Int32} {G : Nat → kGV} {A : Nat → Prop} (hx : p.tables.exec = Jvm.exec) (hb : c.code = b_D_restart) (hml : c.maxLocals = 3) (hown : s.vm.findClass R_D = some m.cls) (hw : ∀ w ∈ kb_B, w.before args s = true) (hK : va_K (dC, dI) vwCl (kty cI cJ cR) s) (hA : ∀ q : Nat, s.heap.size ≤ q → A q) (hAL : ∀ q ∈ (kad d ar nb ga ha oa), A q)
    (kk : ∀ (H : Heap) (locs : List Loc) (ls : Array Slot), va_P (dC, dI) vwCl (kw cI cJ cR d ar nb ga ha oa lg tm lf wr (kd_rest G 8).2) H → va_S A s.heap H locs → lv_has ls 3 [(2, .int (nI 8)), (1, .int (kd_rest G 8).1), (0, .ref d)] → W p l e (headSpec w_D_restart ({ frames := 1, cells := 0, slots := 0, locals := 30 })).room s m args below meth c H locs 0 0 Q (F0 m 40 ls [])) :
    ∀ (k i : Nat) (H : Heap) (locs : List Loc) (ls : Array Slot), i + k = 8 → va_P (dC, dI) vwCl (kw cI cJ cR d ar nb ga ha oa lg tm lf wr (kd_rest G i).2) H → va_S A s.heap H locs → lv_has ls 3 [(2, .int (nI i)), (1, .int ((kd_rest G i).1)), (0, .ref d)] → W p l e (headSpec w_D_restart ({ frames := 1, cells := 0, slots := 0, locals := 30 })).room s m args below meth c H locs 0 0 Q (F0 m 4 ls []) := by
  intro k
  induction k with
  | zero =>
    intro i H locs ls hi hP hS hl
    have hi8 : i = 8 := by omega
    subst hi8
    refine lv_iload_n hx hb d_D_restart_4 rfl (lv_at hl 0 rfl) ?_
    refine lv_bipush (v := 8) hx hb d_D_restart_5 (by decide) ?_
    refine lv_icmp_ge (tgt := 40) hx hb d_D_restart_7 (by decide) (fun c_1 => ?_) (fun c_1 => ?_)
    · exact kk H locs ls hP hS hl
    · exact absurd (nI_le (Nat.le_refl 8) (by decide)) c_1
  | succ k ih =>
    intro i H locs ls hi hP hS hl
    generalize hz : kd_rest G i = z at hP hl
    obtain ⟨s1, G1⟩ := z
    have hP : va_P (dC, dI) vwCl (kw cI cJ cR d ar nb ga ha oa lg tm lf wr G1) H := hP
    have hl : lv_has ls 3 [(2, .int (nI i)), (1, .int s1), (0, .ref d)] := hl
    have hj : i < 8 := by omega
    rw [← kv_at G1 i] at hP
    generalize hGi : G1 i = gv at hP
    obtain ⟨x0, x1, x2, x3, x4, x5, x6⟩ := gv
    refine lv_iload_n hx hb d_D_restart_4 rfl (lv_at hl 0 rfl) ?_
    refine lv_bipush (v := 8) hx hb d_D_restart_5 (by decide) ?_
    refine lv_icmp_ge (tgt := 40) hx hb d_D_restart_7 (by decide) (fun c_1 => ?_) (fun c_1 => ?_)
    · exact absurd c_1 (nI_ge (a := i) (b := 8) (by omega) (by decide))
    · refine lv_iload_n hx hb d_D_restart_10 rfl (lv_at hl 1 rfl) ?_
      refine lv_aload_n hx hb d_D_restart_11 rfl (lv_at hl 2 rfl) ?_
      refine va_get (D := (dC, dI)) (ci := 0) (v := .ref ar) (C := R_D) (T := F_D) (N := 4) hx hb hw i_D hown hK hP 0 rfl rfl 1 (by decide) (hw _ kb_83) (fun _ h9 => h9) rfl d_D_restart_12 ?_
      refine lv_iload_n hx hb d_D_restart_15 rfl (lv_at hl 0 rfl) ?_
      refine va_aldq hx hb hK hP 1 2 rfl rfl (vp_in_nI hj (by decide)) d_D_restart_16 ?_
      refine W.eq (g2 := F0 m 17 ls [.ref (ga i), .int s1]) (by rw [nI_clamp (by omega)]; rfl) ?_
      refine va_get (D := (dC, dI)) (ci := 2) (v := .int x2) (C := R_G) (T := F_G) (N := 7) hx hb hw i_G hown hK hP (3 * i + 3) (kw_gG hj) rfl 2 (by decide) (hw _ kb_57) (fun _ h9 => h9) rfl d_D_restart_17 ?_
      refine vp_callSi (W.runS (As := [.int x2]) (rest := [.int s1]) ⟨hx, hb, hml, hown, hw⟩ (c_J_bitCount l x2) (va_cwS 1 hw (kb_S kb_99 kb_100 kb_11 kb_101) rfl rfl rfl (by decide +kernel) ⟨Nat.le_of_ble_eq_true rfl, Nat.le_of_ble_eq_true rfl⟩) preEq rfl rfl hl.1 rfl (lv_room (Nat.le_of_ble_eq_true rfl)) d_D_restart_20 ⟨Nat.le_of_ble_eq_true rfl, Nat.le_of_ble_eq_true rfl⟩) (fun r_1 er_1 => ?_)
      subst er_1
      refine lv_iadd hx hb d_D_restart_23 ?_
      refine lv_istore_n (lv' := [(1, .int (s1 + (k_bc x2))), (2, .int (nI i)), (0, .ref d)]) hx hb d_D_restart_24 rfl hl (by decide) rfl (fun ls hl => ?_)
      refine lv_aload_n hx hb d_D_restart_25 rfl (lv_at hl 2 rfl) ?_
      refine va_get (D := (dC, dI)) (ci := 0) (v := .ref ar) (C := R_D) (T := F_D) (N := 4) hx hb hw i_D hown hK hP 0 rfl rfl 1 (by decide) (hw _ kb_83) (fun _ h9 => h9) rfl d_D_restart_26 ?_
      refine lv_iload_n hx hb d_D_restart_29 rfl (lv_at hl 1 rfl) ?_
      refine va_aldq hx hb hK hP 1 2 rfl rfl (vp_in_nI hj (by decide)) d_D_restart_30 ?_
      refine W.eq (g2 := F0 m 31 ls [.ref (ga i)]) (by rw [nI_clamp (by omega)]; rfl) ?_
      refine kc_v (Wd := kwv cI cJ cR d ar nb ga ha oa) (va_runV (As := []) (rest := []) ⟨hx, hb, hml, hown, hw⟩ (c_G_clear l hnd lg tm lf wr G1 hj x0 x1 x2 x3 x4 x5 x6 _) (cwV 0 hw (kb_V kb_105 kb_106 kb_107 kb_4 kb_108) rfl rfl rfl (by decide +kernel) ⟨Nat.le_of_ble_eq_true rfl, Nat.le_of_ble_eq_true rfl⟩) (kPV (va_recv hK hP (ci := 2) (q0 := (3 * i + 3)) rfl (kw_gG hj)) hP hK) rfl rfl hl.1 rfl (lv_room (Nat.le_of_ble_eq_true rfl)) d_D_restart_31 ⟨Nat.le_of_ble_eq_true rfl, Nat.le_of_ble_eq_true rfl⟩) hS hA hAL (fun u_2 H locs hw hP _ _ hS => ?_)
      subst hw
      have hP : va_P (dC, dI) vwCl (kw cI cJ cR d ar nb ga ha oa lg tm lf wr (va_up G1 i (x0, 0, 0, 0, x4, x5, x6))) _ := hP
      refine lv_iinc (v := (nI i) + 1) (lv' := [(2, .int ((nI i) + 1)), (1, .int (s1 + (k_bc x2))), (0, .ref d)]) hx hb d_D_restart_34 hl (k := 1) rfl rfl (by decide) rfl (fun ls hl => ?_)
      refine lv_goto (tgt := 4) hx hb d_D_restart_37 (by decide) ?_
      have hs : kd_rest G (i + 1) = (s1 + (k_bc x2), (va_up G1 i (x0, 0, 0, 0, x4, x5, x6))) := by simp only [kd_rest, hz, hGi, kg_clear]
      refine ih (i + 1) H locs ls (by omega) ?_ hS ?_
      · rw [hs]; exact hP
      · rw [nI_succ, hs]; exact lv_sub hl [0, 1, 2] rfl
set_option maxHeartbeats 4000000 in
set_option maxRecDepth 100000 in
theorem c_D_restart (l : Launch) {dC : Nat → ClassId} {dI : Nat → Nat → Nat} {cI cJ cR : ClassId} {d ar nb : Nat} {ga ha oa : Nat → Nat} (hnd : (kad d ar nb ga ha oa).Nodup) (lg tm lf wr : Int32) (G : Nat → kGV) (sz : Nat) : Met l y_D_restart w_D_restart ({ frames := 1, cells := 0, slots := 0, locals := 30 }) (kPre (dC, dI) vwCl (kty cI cJ cR) [.ref d] sz (kw cI cJ cR d ar nb ga ha oa lg tm lf wr G)) (va_Qi (fun (r : Int32) (u : kDV) => r = (kd_rest G 8).1 ∧ u = (lg, tm, lf, wr, (kd_rest G 8).2)) (fun u t => va_P (dC, dI) vwCl (kwv cI cJ cR d ar nb ga ha oa u) t.heap) (kA (kad d ar nb ga ha oa) sz)) 0 0 (kA (kad d ar nb ga ha oa) sz) := by
  refine Met.ofW (cc := b_D_restart) (maxL := 3) (ret := (some .int)) (by decide) rfl ?_
  intro p e s m args below meth c s₁ B hml hv
  obtain ⟨rfl, hsz, hP, hK⟩ := hv
  have hx := B.exec
  have hb := B.bytes
  have hr := B.returns
  have hts := atoms_spec (ws := w_D_restart) B.pre
  have hw := fun (w : Cond) (h : w ∈ kb_B) => hts w (List.mem_cons_of_mem _ h)
  have hown : s.vm.findClass R_D = some m.cls := findClass_of_methodNamed B.named
  have hlocks := B.notSynchronized
  subst hsz
  generalize hAe : kA (kad d ar nb ga ha oa) s.heap.size = A
  have hA : ∀ q : Nat, s.heap.size ≤ q → A q := fun q h => by rw [← hAe]; exact Or.inr h
  have hAL : ∀ q ∈ (kad d ar nb ga ha oa), A q := fun q h => by rw [← hAe]; exact Or.inl h
  have hS : va_S A s.heap s.heap [] := va_S.rf
  have hl := lv_entry ([.ref d]) (n := 3) (Nat.le_of_ble_eq_true rfl)
  rw [lg_entry_eq]
  generalize (lg_sl ([.ref d]) ++ List.replicate (3 - (lg_sl ([.ref d])).length) Slot.unset).toArray = ls at hl ⊢
  have hl : lv_has ls 3 [(0, .ref d)] := hl
  refine lv_iconst (v := 0) hx hb d_D_restart_0 (by decide) ?_
  refine lv_istore_n (lv' := [(1, .int 0), (0, .ref d)]) hx hb d_D_restart_1 rfl hl (by decide) rfl (fun ls hl => ?_)
  refine lv_iconst (v := 0) hx hb d_D_restart_2 (by decide) ?_
  refine lv_istore_n (lv' := [(2, .int 0), (1, .int 0), (0, .ref d)]) hx hb d_D_restart_3 rfl hl (by decide) rfl (fun ls hl => ?_)
  refine lp_D_restart (lf := lf) (wr := wr) (G := G) hnd hx hb hml hown hw hK hA hAL (fun H locs ls hP hS hl => ?_) 8 0 _ _ ls rfl hP hS (lv_sub hl [0, 1, 2] rfl)
  refine lv_iload_n hx hb d_D_restart_40 rfl (lv_at hl 1 rfl) ?_
  exact W.iret hx hb hr (fun t ht hW => ⟨⟨_, (lg, tm, lf, wr, (kd_rest G 8).2), rfl, ⟨rfl, rfl⟩, by show va_P _ _ _ t.heap; rw [ht]; exact hP⟩, hS.F ht⟩) hS.2.2 d_D_restart_41
set_option maxHeartbeats 4000000 in
set_option maxRecDepth 100000 in
theorem c_D_notes (l : Launch) {dC : Nat → ClassId} {dI : Nat → Nat → Nat} {cI cJ cR : ClassId} {d ar nb : Nat} {ga ha oa : Nat → Nat} (hnd : (kad d ar nb ga ha oa).Nodup) (lg tm lf wr : Int32) (G : Nat → kGV) (sz : Nat) : Met l y_D_notes w_D_notes ({ frames := 0, cells := 0, slots := 0, locals := 0 }) (kPre (dC, dI) vwCl (kty cI cJ cR) [.ref d] sz (kw cI cJ cR d ar nb ga ha oa lg tm lf wr G)) (vp_Si (fun r => r = wr)) 0 0 (fun _ => False) := by
  refine Met.ofW (cc := b_D_notes) (maxL := 1) (ret := (some .int)) (by decide) rfl ?_
  intro p e s m args below meth c s₁ B hml hv
  obtain ⟨rfl, hsz, hP, hK⟩ := hv
  have hx := B.exec
  have hb := B.bytes
  have hr := B.returns
  have hts := atoms_spec (ws := w_D_notes) B.pre
  have hw := fun (w : Cond) (h : w ∈ kb_B) => hts w (List.mem_cons_of_mem _ h)
  have hown : s.vm.findClass R_D = some m.cls := findClass_of_methodNamed B.named
  have hlocks := B.notSynchronized
  subst hsz
  have hl := lv_entry ([.ref d]) (n := 1) (Nat.le_of_ble_eq_true rfl)
  rw [lg_entry_eq]
  generalize (lg_sl ([.ref d]) ++ List.replicate (1 - (lg_sl ([.ref d])).length) Slot.unset).toArray = ls at hl ⊢
  have hl : lv_has ls 1 [(0, .ref d)] := hl
  refine lv_aload_n hx hb d_D_notes_0 rfl (lv_at hl 0 rfl) ?_
  refine va_get (D := (dC, dI)) (ci := 0) (v := .ref nb) (C := R_D) (T := F_D) (N := 4) hx hb hw i_D hown hK hP 0 rfl rfl 2 (by decide) (hw _ kb_84) (fun _ h9 => h9) rfl d_D_notes_1 ?_
  refine va_get (D := (dC, dI)) (ci := 1) (v := .int wr) (C := R_N) (T := F_N) (N := 2) hx hb hw i_N hown hK hP 2 rfl rfl 1 (by decide) (hw _ kb_35) (fun _ h9 => h9) rfl d_D_notes_4 ?_
  exact W.iret (v := wr) hx hb hr (fun t ht hW => ⟨_, rfl, by first | (simp only []; done) | (simp []; done), ht⟩) (fun q h => by cases h) d_D_notes_7
