/-! the reference's calls: the answer, and its state behind it, where the arguments are right -/
def mg_in1 (q : Nat) : mGV → mGV
  | (x0, x1, x2, x3, x4, x5, x6) => (x0, x1, x2, upd x3 q 1, x4, x5, x6)
def mg_in2 (q : Nat) (t : Int32) : mGV → mGV
  | (x0, x1, x2, x3, x4, x5, x6) => (x0, x1, x2, x3, upd x4 q 1, upd x5 q t, x6)
def mg_take (q : Nat) (t : Int32) (y : mGV) : mGV := if y.1 = 1 then mg_in2 q t (mg_in1 q y) else mg_in2 q t (mg_mix t (mg_in1 q y))
def mg_rid (q : Nat) : mGV → mGV
  | (x0, x1, x2, x3, x4, x5, x6) => (x0, x1, x2, upd x3 q 0, upd x4 q 0, x5, x6)
def mg_hear (q : Nat) (t : Int32) : mGV → mGV
  | (x0, x1, x2, x3, x4, x5, x6) => (x0, x1, x2, x3, x4, upd x5 q t, x6)
def mg_off (q : Nat) (v : Int64) : mGV → mGV
  | (x0, x1, x2, x3, x4, x5, x6) => (x0, x1, x2, x3, x4, x5, vp_updL x6 q v)
def md_join (a b : Nat) : mDV → Int32 × mDV
  | (_, lg, tm, rm, no, M) => (if (mg_done tm rm no (mg_take b tm (M a))).1.1 = 2 then (mg_done tm rm no (mg_take b tm (M a))).1.2.1 else (-1),
      (0, lg, tm, (mg_done tm rm no (mg_take b tm (M a))).2.1, (mg_done tm rm no (mg_take b tm (M a))).2.2, va_up M a (mg_done tm rm no (mg_take b tm (M a))).1))
def md_leave (a b : Nat) : mDV → Int32 × mDV
  | (_, lg, tm, rm, no, M) => if (M a).2.2.2.1 b = 0 then (-8, (0, lg, tm, rm, no, M)) else
      (1, (0, lg, tm, (mg_done tm rm no (mg_wo tm (mg_rid b (M a)))).2.1, (mg_done tm rm no (mg_wo tm (mg_rid b (M a)))).2.2, va_up M a (mg_done tm rm no (mg_wo tm (mg_rid b (M a)))).1))
def md_beat (a b : Nat) (n : Int32) : mDV → Int32 × mDV
  | (_, lg, tm, rm, no, M) => if (M a).2.2.2.1 b = 0 then (-8, (0, lg, tm, rm, no, M)) else if n = (M a).2.1 then
      (if (M a).1 = 1 then (if (M a).2.2.2.2.1 b = 0 then 1 else 0) else 0, (0, lg, tm, rm, no, va_up M a (mg_hear b tm (M a)))) else (-9, (0, lg, tm, rm, no, M))
def md_commit (a b : Nat) (n : Int32) (q : Nat) (v : Int64) : mDV → Int32 × mDV
  | (_, lg, tm, rm, no, M) => if (M a).2.2.2.1 b = 0 then (-8, (0, lg, tm, rm, no, M)) else if n = (M a).2.1 then (if (M a).1 = 2 then (if nI (mo (M a).2.2.2.1 q) = nI b then
      (if (mn_take rm no).1 = 0 then (-2, (0, lg, tm, (mn_take rm no).2.1, (mn_take rm no).2.2, M)) else (0, (0, lg, tm, (mn_take rm no).2.1, (mn_take rm no).2.2, va_up M a (mg_hear b tm (mg_off q v (M a))))))
      else (-11, (0, lg, tm, rm, no, M))) else (-10, (0, lg, tm, rm, no, M))) else (-9, (0, lg, tm, rm, no, M))
def mg_lim (t : Int32) (y : mGV) : Int32 := if y.1 = 1 then (if y.2.2.1 ≤ t then 0 else y.2.2.1 - t) else 0
def mg_what (t w : Int32) (y : mGV) : Int32 := if 2 ≤ w then (if w = 4 then mg_lim t y else mbd (mg_is w y.1 y.2.2.2.1 y.2.2.2.2.1) 8 0) else if w = 0 then y.2.1 else y.1
def mg_ow (me : Nat → Int32) (b k : Nat) : Int32 := if nI (mo me k) = nI b then 1 else 0
def mg_sh (b n : Nat) (y : mGV) : Int32 := if y.1 = 2 then (if y.2.2.2.1 b = 0 then 0 else mbd (mg_ow y.2.2.2.1 b) n 0) else 0
set_option maxHeartbeats 4000000 in
set_option maxRecDepth 100000 in
theorem c_M_join (l : Launch) {dC : Nat → ClassId} {dI : Nat → Nat → Nat} {cI cJ cZ : ClassId} {a : Nat → Nat} (hnd : (mad a).Nodup) (co lg tm rm no : Int32) (M : Nat → mGV) (p0 : Int32) (p1 : Int32) (sz : Nat) : Met l y_M_join w_M_join ({ frames := 2, cells := 0, slots := 0, locals := 60 }) (kPre (dC, dI) vwCl (mty cI cJ cZ) [.ref (a 0), .int p0, .int p1] sz (mw cI cJ cZ a co lg tm rm no M)) (va_Qi (fun (r : Int32) (u : mDV) => ((vp_in p0 8 ∧ vp_in p1 8) ∧ (r, u) = md_join p0.toNatClampNeg p1.toNatClampNeg (co, lg, tm, rm, no, M)) ∨ (¬ (vp_in p0 8 ∧ vp_in p1 8) ∧ u = (1, lg, tm, rm, no, M))) (fun u t => va_P (dC, dI) vwCl (mwv cI cJ cZ a u) t.heap) (kA (mad a) sz)) 0 0 (kA (mad a) sz) := by
  refine Met.ofW (cc := b_M_join) (maxL := 3) (ret := (some .int)) (by decide) rfl ?_
  intro p e s m args below meth c s₁ B hml hv
  obtain ⟨rfl, hsz, hP, hK⟩ := hv
  have hx := B.exec
  have hb := B.bytes
  have hr := B.returns
  have hts := atoms_spec (ws := w_M_join) B.pre
  have hw := fun (w : Cond) (h : w ∈ kb_B) => hts w (List.mem_cons_of_mem _ h)
  have hown : s.vm.findClass R_M = some m.cls := findClass_of_methodNamed B.named
  have hlocks := B.notSynchronized
  subst hsz
  generalize hAe : kA (mad a) s.heap.size = A
  have hA : ∀ q : Nat, s.heap.size ≤ q → A q := fun q h => by rw [← hAe]; exact Or.inr h
  have hAL : ∀ q ∈ (mad a), A q := fun q h => by rw [← hAe]; exact Or.inl h
  have hS : va_S A s.heap s.heap [] := va_S.rf
  have hl := lv_entry ([.ref (a 0), .int p0, .int p1]) (n := 3) (Nat.le_of_ble_eq_true rfl)
  rw [lg_entry_eq]
  generalize (lg_sl ([.ref (a 0), .int p0, .int p1]) ++ List.replicate (3 - (lg_sl ([.ref (a 0), .int p0, .int p1])).length) Slot.unset).toArray = ls at hl ⊢
  have hl : lv_has ls 3 [(0, .ref (a 0)), (1, .int p0), (2, .int p1)] := hl
  refine lv_aload_n hx hb d_M_join_0 rfl (lv_at hl 0 rfl) ?_
  refine lv_iload_n hx hb d_M_join_1 rfl (lv_at hl 1 rfl) ?_
  refine vp_callSi (W.runS (As := [.int p0]) (rest := [.ref (a 0)]) ⟨hx, hb, hml, hown, hw⟩ (c_M_isOne l p0) (va_cwS 1 hw (kb_S kb_382 kb_383 kb_6 kb_384) rfl rfl rfl (by decide +kernel) ⟨Nat.le_of_ble_eq_true rfl, Nat.le_of_ble_eq_true rfl⟩) preEq rfl rfl hl.1 rfl (lv_room (Nat.le_of_ble_eq_true rfl)) d_M_join_2 ⟨Nat.le_of_ble_eq_true rfl, Nat.le_of_ble_eq_true rfl⟩) (fun r_1 er_1 => ?_)
  rcases er_1 with ⟨rfl, hp_p0⟩ | ⟨rfl, hp_p0⟩
  · skip
    obtain ⟨g, hg, rfl⟩ := vp_in_of hp_p0 (by decide)
    have hcg : (nI g).toNatClampNeg = g := nI_clamp (by omega)
    refine lv_if_eq (tgt := 19) hx hb d_M_join_5 (by decide) (fun c_1 => absurd c_1 (by decide)) (fun c_1 => ?_)
    refine lv_iload_n hx hb d_M_join_8 rfl (lv_at hl 2 rfl) ?_
    refine vp_callSi (W.runS (As := [.int p1]) (rest := [.ref (a 0)]) ⟨hx, hb, hml, hown, hw⟩ (c_M_isOne l p1) (va_cwS 1 hw (kb_S kb_382 kb_383 kb_6 kb_384) rfl rfl rfl (by decide +kernel) ⟨Nat.le_of_ble_eq_true rfl, Nat.le_of_ble_eq_true rfl⟩) preEq rfl rfl hl.1 rfl (lv_room (Nat.le_of_ble_eq_true rfl)) d_M_join_9 ⟨Nat.le_of_ble_eq_true rfl, Nat.le_of_ble_eq_true rfl⟩) (fun r_2 er_2 => ?_)
    rcases er_2 with ⟨rfl, hp_p1⟩ | ⟨rfl, hp_p1⟩
    · skip
      obtain ⟨q, hq, rfl⟩ := vp_in_of hp_p1 (by decide)
      have hcq : (nI q).toNatClampNeg = q := nI_clamp (by omega)
      refine lv_if_eq (tgt := 19) hx hb d_M_join_12 (by decide) (fun c_2 => absurd c_2 (by decide)) (fun c_2 => ?_)
      refine lv_iconst (v := 1) hx hb d_M_join_15 (by decide) ?_
      refine lv_goto (tgt := 20) hx hb d_M_join_16 (by decide) ?_
      refine kc_i (Wd := mwv cI cJ cZ a) (va_runV (As := [.int 1]) (rest := []) ⟨hx, hb, hml, hown, hw⟩ (c_M_goes1 l hnd co lg tm rm no M _) (cwV 1 hw (kb_V kb_385 kb_387 kb_s5 kb_6 kb_388) rfl rfl rfl (by decide +kernel) ⟨Nat.le_of_ble_eq_true rfl, Nat.le_of_ble_eq_true rfl⟩) (kPV (va_recv hK hP (ci := 3) (q0 := 0) rfl rfl) hP hK) rfl rfl hl.1 rfl (lv_room (Nat.le_of_ble_eq_true rfl)) d_M_join_20 ⟨Nat.le_of_ble_eq_true rfl, Nat.le_of_ble_eq_true rfl⟩) hS hA hAL (fun r_4 u_3 H locs hw9 hP _ _ hS => ?_)
      obtain ⟨rfl, rfl⟩ := hw9
      have hP : va_P (dC, dI) vwCl (mw cI cJ cZ a 0 lg tm rm no M) _ := hP
      rw [← mv_at M g] at hP
      generalize hMg : M g = gv at hP
      obtain ⟨x0, x1, x2, x3, x4, x5, x6⟩ := gv
      have hMu : va_up M g (x0, x1, x2, x3, x4, x5, x6) = M := by rw [← hMg]; exact mv_at M g
      refine lv_if_ne (tgt := 28) hx hb d_M_join_23 (by decide) (fun c_3 => ?_) (fun c_3 => absurd c_3 (by decide))
      refine lv_aload_n hx hb d_M_join_28 rfl (lv_at hl 0 rfl) ?_
      refine va_get (D := (dC, dI)) (ci := 3) (v := .ref (a 4)) (C := R_M) (T := F_M) (N := 12) hx hb hw i_M hown hK hP 0 rfl rfl 8 (by decide) (hw _ kb_344) (fun _ h9 => h9) rfl d_M_join_29 ?_
      refine lv_bipush (v := 8) hx hb d_M_join_32 (by decide) ?_
      refine lv_iload_n hx hb d_M_join_34 rfl (lv_at hl 1 rfl) ?_
      refine lv_imul hx hb d_M_join_35 ?_
      refine lv_iload_n hx hb d_M_join_36 rfl (lv_at hl 2 rfl) ?_
      refine lv_iadd hx hb d_M_join_37 ?_
      refine lv_iconst (v := 1) hx hb d_M_join_38 (by decide) ?_
      refine ms_me (i := q) (v := 1) hx hb hK hP hnd hAL hS hg hq d_M_join_39 (fun H locs hP hS => ?_)
      rw [vz1] at hP
      refine lv_aload_n hx hb d_M_join_40 rfl (lv_at hl 0 rfl) ?_
      refine va_get (D := (dC, dI)) (ci := 3) (v := .ref (a 1)) (C := R_M) (T := F_M) (N := 12) hx hb hw i_M hown hK hP 0 rfl rfl 5 (by decide) (hw _ kb_341) (fun _ h9 => h9) rfl d_M_join_41 ?_
      refine lv_iload_n hx hb d_M_join_44 rfl (lv_at hl 1 rfl) ?_
      refine ml_st hx hb hK hP hg d_M_join_45 ?_
      refine lv_iconst (v := 1) hx hb d_M_join_46 (by decide) ?_
      refine lv_icmp_eq (tgt := 55) hx hb d_M_join_47 (by decide) (fun c_4 => ?_) (fun c_4 => ?_)
      · refine lv_aload_n hx hb d_M_join_55 rfl (lv_at hl 0 rfl) ?_
        refine va_get (D := (dC, dI)) (ci := 3) (v := .ref (a 5)) (C := R_M) (T := F_M) (N := 12) hx hb hw i_M hown hK hP 0 rfl rfl 9 (by decide) (hw _ kb_345) (fun _ h9 => h9) rfl d_M_join_56 ?_
        refine lv_bipush (v := 8) hx hb d_M_join_59 (by decide) ?_
        refine lv_iload_n hx hb d_M_join_61 rfl (lv_at hl 1 rfl) ?_
        refine lv_imul hx hb d_M_join_62 ?_
        refine lv_iload_n hx hb d_M_join_63 rfl (lv_at hl 2 rfl) ?_
        refine lv_iadd hx hb d_M_join_64 ?_
        refine lv_iconst (v := 1) hx hb d_M_join_65 (by decide) ?_
        refine ms_jo (i := q) (v := 1) hx hb hK hP hnd hAL hS hg hq d_M_join_66 (fun H locs hP hS => ?_)
        rw [vz1] at hP
        refine lv_aload_n hx hb d_M_join_67 rfl (lv_at hl 0 rfl) ?_
        refine va_get (D := (dC, dI)) (ci := 3) (v := .ref (a 6)) (C := R_M) (T := F_M) (N := 12) hx hb hw i_M hown hK hP 0 rfl rfl 10 (by decide) (hw _ kb_346) (fun _ h9 => h9) rfl d_M_join_68 ?_
        refine lv_bipush (v := 8) hx hb d_M_join_71 (by decide) ?_
        refine lv_iload_n hx hb d_M_join_73 rfl (lv_at hl 1 rfl) ?_
        refine lv_imul hx hb d_M_join_74 ?_
        refine lv_iload_n hx hb d_M_join_75 rfl (lv_at hl 2 rfl) ?_
        refine lv_iadd hx hb d_M_join_76 ?_
        refine lv_aload_n hx hb d_M_join_77 rfl (lv_at hl 0 rfl) ?_
        refine va_get (D := (dC, dI)) (ci := 3) (v := .int tm) (C := R_M) (T := F_M) (N := 12) hx hb hw i_M hown hK hP 0 rfl rfl 2 (by decide) (hw _ kb_338) (fun _ h9 => h9) rfl d_M_join_78 ?_
        refine ms_he (i := q) (v := tm) hx hb hK hP hnd hAL hS hg hq d_M_join_81 (fun H locs hP hS => ?_)
        refine lv_aload_n hx hb d_M_join_82 rfl (lv_at hl 0 rfl) ?_
        refine lv_iload_n hx hb d_M_join_83 rfl (lv_at hl 1 rfl) ?_
        refine kc_v (Wd := mwv cI cJ cZ a) (va_runV (As := [.int (nI g)]) (rest := []) ⟨hx, hb, hml, hown, hw⟩ (c_M_mayBeDone l hnd 0 lg tm rm no M hg x0 x1 x2 (upd x3 q 1) (upd x4 q 1) (upd x5 q tm) x6 _) (cwV 1 hw (kb_V kb_393 kb_395 kb_s7 kb_6 kb_396) rfl rfl rfl (by decide +kernel) ⟨Nat.le_of_ble_eq_true rfl, Nat.le_of_ble_eq_true rfl⟩) (kPV (va_recv hK hP (ci := 3) (q0 := 0) rfl rfl) hP hK) rfl rfl hl.1 rfl (lv_room (Nat.le_of_ble_eq_true rfl)) d_M_join_84 ⟨Nat.le_of_ble_eq_true rfl, Nat.le_of_ble_eq_true rfl⟩) hS hA hAL (fun u_5 H locs hw9 hP _ _ hS => ?_)
        subst hw9
        have hP : va_P (dC, dI) vwCl (mw cI cJ cZ a 0 lg tm (mg_done tm rm no (x0, x1, x2, (upd x3 q 1), (upd x4 q 1), (upd x5 q tm), x6)).2.1 (mg_done tm rm no (x0, x1, x2, (upd x3 q 1), (upd x4 q 1), (upd x5 q tm), x6)).2.2 (va_up M g (mg_done tm rm no (x0, x1, x2, (upd x3 q 1), (upd x4 q 1), (upd x5 q tm), x6)).1)) _ := hP
        generalize hq_7 : mg_done tm rm no (x0, x1, x2, (upd x3 q 1), (upd x4 q 1), (upd x5 q tm), x6) = z_7 at hP
        obtain ⟨⟨y7_0, y7_1, y7_2, y7_3, y7_4, y7_5, y7_6⟩, rm_7, no_7⟩ := z_7
        have hP : va_P (dC, dI) vwCl (mw cI cJ cZ a 0 lg tm rm_7 no_7 (va_up M g (y7_0, y7_1, y7_2, y7_3, y7_4, y7_5, y7_6))) _ := hP
        refine lv_aload_n hx hb d_M_join_87 rfl (lv_at hl 0 rfl) ?_
        refine va_get (D := (dC, dI)) (ci := 3) (v := .ref (a 1)) (C := R_M) (T := F_M) (N := 12) hx hb hw i_M hown hK hP 0 rfl rfl 5 (by decide) (hw _ kb_341) (fun _ h9 => h9) rfl d_M_join_88 ?_
        refine lv_iload_n hx hb d_M_join_91 rfl (lv_at hl 1 rfl) ?_
        refine ml_st hx hb hK hP hg d_M_join_92 ?_
        refine lv_iconst (v := 2) hx hb d_M_join_93 (by decide) ?_
        refine lv_icmp_ne (tgt := 106) hx hb d_M_join_94 (by decide) (fun c_5 => ?_) (fun c_5 => ?_)
        · refine lv_iconst (v := (-1)) hx hb d_M_join_106 (by decide) ?_
          exact W.iret (v := (-1)) hx hb hr (fun t ht hW => ⟨⟨_, (0, lg, tm, rm_7, no_7, (va_up M g (y7_0, y7_1, y7_2, y7_3, y7_4, y7_5, y7_6))), rfl, Or.inl ⟨⟨hp_p0, hp_p1⟩, by first | (simp only [md_join, mg_take, mg_in1, mg_in2, mg_mix, hcg, hcq, hMg, hMu, if_pos c_4, hq_7, if_neg c_5]; done) | (simp [md_join, mg_take, mg_in1, mg_in2, mg_mix, hcg, hcq, hMg, hMu, c_4, hq_7, c_5]; done)⟩, by show va_P _ _ _ t.heap; rw [ht]; exact hP⟩, hS.F ht⟩) hS.2.2 d_M_join_107
        · refine lv_aload_n hx hb d_M_join_97 rfl (lv_at hl 0 rfl) ?_
          refine va_get (D := (dC, dI)) (ci := 3) (v := .ref (a 2)) (C := R_M) (T := F_M) (N := 12) hx hb hw i_M hown hK hP 0 rfl rfl 6 (by decide) (hw _ kb_342) (fun _ h9 => h9) rfl d_M_join_98 ?_
          refine lv_iload_n hx hb d_M_join_101 rfl (lv_at hl 1 rfl) ?_
          refine ml_ge hx hb hK hP hg d_M_join_102 ?_
          refine lv_goto (tgt := 107) hx hb d_M_join_103 (by decide) ?_
          exact W.iret (v := y7_1) hx hb hr (fun t ht hW => ⟨⟨_, (0, lg, tm, rm_7, no_7, (va_up M g (y7_0, y7_1, y7_2, y7_3, y7_4, y7_5, y7_6))), rfl, Or.inl ⟨⟨hp_p0, hp_p1⟩, by first | (simp only [md_join, mg_take, mg_in1, mg_in2, mg_mix, hcg, hcq, hMg, hMu, if_pos c_4, hq_7, if_pos c_5]; done) | (simp [md_join, mg_take, mg_in1, mg_in2, mg_mix, hcg, hcq, hMg, hMu, c_4, hq_7, c_5]; done)⟩, by show va_P _ _ _ t.heap; rw [ht]; exact hP⟩, hS.F ht⟩) hS.2.2 d_M_join_107
      · refine lv_aload_n hx hb d_M_join_50 rfl (lv_at hl 0 rfl) ?_
        refine lv_iload_n hx hb d_M_join_51 rfl (lv_at hl 1 rfl) ?_
        refine kc_v (Wd := mwv cI cJ cZ a) (va_runV (As := [.int (nI g)]) (rest := []) ⟨hx, hb, hml, hown, hw⟩ (c_M_mixes l hnd 0 lg tm rm no M hg x0 x1 x2 (upd x3 q 1) x4 x5 x6 _) (cwV 1 hw (kb_V kb_389 kb_391 kb_s6 kb_6 kb_392) rfl rfl rfl (by decide +kernel) ⟨Nat.le_of_ble_eq_true rfl, Nat.le_of_ble_eq_true rfl⟩) (kPV (va_recv hK hP (ci := 3) (q0 := 0) rfl rfl) hP hK) rfl rfl hl.1 rfl (lv_room (Nat.le_of_ble_eq_true rfl)) d_M_join_52 ⟨Nat.le_of_ble_eq_true rfl, Nat.le_of_ble_eq_true rfl⟩) hS hA hAL (fun u_8 H locs hw9 hP _ _ hS => ?_)
        subst hw9
        have hP : va_P (dC, dI) vwCl (mw cI cJ cZ a 0 lg tm rm no (va_up M g (1, x1, tm + 20, upd x3 q 1, mz x4 8, x5, x6))) _ := hP
        refine lv_aload_n hx hb d_M_join_55 rfl (lv_at hl 0 rfl) ?_
        refine va_get (D := (dC, dI)) (ci := 3) (v := .ref (a 5)) (C := R_M) (T := F_M) (N := 12) hx hb hw i_M hown hK hP 0 rfl rfl 9 (by decide) (hw _ kb_345) (fun _ h9 => h9) rfl d_M_join_56 ?_
        refine lv_bipush (v := 8) hx hb d_M_join_59 (by decide) ?_
        refine lv_iload_n hx hb d_M_join_61 rfl (lv_at hl 1 rfl) ?_
        refine lv_imul hx hb d_M_join_62 ?_
        refine lv_iload_n hx hb d_M_join_63 rfl (lv_at hl 2 rfl) ?_
        refine lv_iadd hx hb d_M_join_64 ?_
        refine lv_iconst (v := 1) hx hb d_M_join_65 (by decide) ?_
        refine ms_jo (i := q) (v := 1) hx hb hK hP hnd hAL hS hg hq d_M_join_66 (fun H locs hP hS => ?_)
        rw [vz1] at hP
        refine lv_aload_n hx hb d_M_join_67 rfl (lv_at hl 0 rfl) ?_
        refine va_get (D := (dC, dI)) (ci := 3) (v := .ref (a 6)) (C := R_M) (T := F_M) (N := 12) hx hb hw i_M hown hK hP 0 rfl rfl 10 (by decide) (hw _ kb_346) (fun _ h9 => h9) rfl d_M_join_68 ?_
        refine lv_bipush (v := 8) hx hb d_M_join_71 (by decide) ?_
        refine lv_iload_n hx hb d_M_join_73 rfl (lv_at hl 1 rfl) ?_
        refine lv_imul hx hb d_M_join_74 ?_
        refine lv_iload_n hx hb d_M_join_75 rfl (lv_at hl 2 rfl) ?_
        refine lv_iadd hx hb d_M_join_76 ?_
        refine lv_aload_n hx hb d_M_join_77 rfl (lv_at hl 0 rfl) ?_
        refine va_get (D := (dC, dI)) (ci := 3) (v := .int tm) (C := R_M) (T := F_M) (N := 12) hx hb hw i_M hown hK hP 0 rfl rfl 2 (by decide) (hw _ kb_338) (fun _ h9 => h9) rfl d_M_join_78 ?_
        refine ms_he (i := q) (v := tm) hx hb hK hP hnd hAL hS hg hq d_M_join_81 (fun H locs hP hS => ?_)
        refine lv_aload_n hx hb d_M_join_82 rfl (lv_at hl 0 rfl) ?_
        refine lv_iload_n hx hb d_M_join_83 rfl (lv_at hl 1 rfl) ?_
        refine kc_v (Wd := mwv cI cJ cZ a) (va_runV (As := [.int (nI g)]) (rest := []) ⟨hx, hb, hml, hown, hw⟩ (c_M_mayBeDone l hnd 0 lg tm rm no M hg 1 x1 (tm + 20) (upd x3 q 1) (upd (mz x4 8) q 1) (upd x5 q tm) x6 _) (cwV 1 hw (kb_V kb_393 kb_395 kb_s7 kb_6 kb_396) rfl rfl rfl (by decide +kernel) ⟨Nat.le_of_ble_eq_true rfl, Nat.le_of_ble_eq_true rfl⟩) (kPV (va_recv hK hP (ci := 3) (q0 := 0) rfl rfl) hP hK) rfl rfl hl.1 rfl (lv_room (Nat.le_of_ble_eq_true rfl)) d_M_join_84 ⟨Nat.le_of_ble_eq_true rfl, Nat.le_of_ble_eq_true rfl⟩) hS hA hAL (fun u_10 H locs hw9 hP _ _ hS => ?_)
        subst hw9
        have hP : va_P (dC, dI) vwCl (mw cI cJ cZ a 0 lg tm (mg_done tm rm no (1, x1, (tm + 20), (upd x3 q 1), (upd (mz x4 8) q 1), (upd x5 q tm), x6)).2.1 (mg_done tm rm no (1, x1, (tm + 20), (upd x3 q 1), (upd (mz x4 8) q 1), (upd x5 q tm), x6)).2.2 (va_up M g (mg_done tm rm no (1, x1, (tm + 20), (upd x3 q 1), (upd (mz x4 8) q 1), (upd x5 q tm), x6)).1)) _ := hP
        generalize hq_12 : mg_done tm rm no (1, x1, (tm + 20), (upd x3 q 1), (upd (mz x4 8) q 1), (upd x5 q tm), x6) = z_12 at hP
        obtain ⟨⟨y12_0, y12_1, y12_2, y12_3, y12_4, y12_5, y12_6⟩, rm_12, no_12⟩ := z_12
        have hP : va_P (dC, dI) vwCl (mw cI cJ cZ a 0 lg tm rm_12 no_12 (va_up M g (y12_0, y12_1, y12_2, y12_3, y12_4, y12_5, y12_6))) _ := hP
        refine lv_aload_n hx hb d_M_join_87 rfl (lv_at hl 0 rfl) ?_
        refine va_get (D := (dC, dI)) (ci := 3) (v := .ref (a 1)) (C := R_M) (T := F_M) (N := 12) hx hb hw i_M hown hK hP 0 rfl rfl 5 (by decide) (hw _ kb_341) (fun _ h9 => h9) rfl d_M_join_88 ?_
        refine lv_iload_n hx hb d_M_join_91 rfl (lv_at hl 1 rfl) ?_
        refine ml_st hx hb hK hP hg d_M_join_92 ?_
        refine lv_iconst (v := 2) hx hb d_M_join_93 (by decide) ?_
        refine lv_icmp_ne (tgt := 106) hx hb d_M_join_94 (by decide) (fun c_6 => ?_) (fun c_6 => ?_)
        · refine lv_iconst (v := (-1)) hx hb d_M_join_106 (by decide) ?_
          exact W.iret (v := (-1)) hx hb hr (fun t ht hW => ⟨⟨_, (0, lg, tm, rm_12, no_12, (va_up M g (y12_0, y12_1, y12_2, y12_3, y12_4, y12_5, y12_6))), rfl, Or.inl ⟨⟨hp_p0, hp_p1⟩, by first | (simp only [md_join, mg_take, mg_in1, mg_in2, mg_mix, hcg, hcq, hMg, hMu, if_neg c_4, hq_12, if_neg c_6]; done) | (simp [md_join, mg_take, mg_in1, mg_in2, mg_mix, hcg, hcq, hMg, hMu, c_4, hq_12, c_6]; done)⟩, by show va_P _ _ _ t.heap; rw [ht]; exact hP⟩, hS.F ht⟩) hS.2.2 d_M_join_107
        · refine lv_aload_n hx hb d_M_join_97 rfl (lv_at hl 0 rfl) ?_
          refine va_get (D := (dC, dI)) (ci := 3) (v := .ref (a 2)) (C := R_M) (T := F_M) (N := 12) hx hb hw i_M hown hK hP 0 rfl rfl 6 (by decide) (hw _ kb_342) (fun _ h9 => h9) rfl d_M_join_98 ?_
          refine lv_iload_n hx hb d_M_join_101 rfl (lv_at hl 1 rfl) ?_
          refine ml_ge hx hb hK hP hg d_M_join_102 ?_
          refine lv_goto (tgt := 107) hx hb d_M_join_103 (by decide) ?_
          exact W.iret (v := y12_1) hx hb hr (fun t ht hW => ⟨⟨_, (0, lg, tm, rm_12, no_12, (va_up M g (y12_0, y12_1, y12_2, y12_3, y12_4, y12_5, y12_6))), rfl, Or.inl ⟨⟨hp_p0, hp_p1⟩, by first | (simp only [md_join, mg_take, mg_in1, mg_in2, mg_mix, hcg, hcq, hMg, hMu, if_neg c_4, hq_12, if_pos c_6]; done) | (simp [md_join, mg_take, mg_in1, mg_in2, mg_mix, hcg, hcq, hMg, hMu, c_4, hq_12, c_6]; done)⟩, by show va_P _ _ _ t.heap; rw [ht]; exact hP⟩, hS.F ht⟩) hS.2.2 d_M_join_107
    · skip
      refine lv_if_eq (tgt := 19) hx hb d_M_join_12 (by decide) (fun c_7 => ?_) (fun c_7 => absurd c_7 (by decide))
      refine lv_iconst (v := 0) hx hb d_M_join_19 (by decide) ?_
      refine kc_i (Wd := mwv cI cJ cZ a) (va_runV (As := [.int 0]) (rest := []) ⟨hx, hb, hml, hown, hw⟩ (c_M_goes0 l hnd co lg tm rm no M _) (cwV 1 hw (kb_V kb_385 kb_387 kb_s5 kb_6 kb_388) rfl rfl rfl (by decide +kernel) ⟨Nat.le_of_ble_eq_true rfl, Nat.le_of_ble_eq_true rfl⟩) (kPV (va_recv hK hP (ci := 3) (q0 := 0) rfl rfl) hP hK) rfl rfl hl.1 rfl (lv_room (Nat.le_of_ble_eq_true rfl)) d_M_join_20 ⟨Nat.le_of_ble_eq_true rfl, Nat.le_of_ble_eq_true rfl⟩) hS hA hAL (fun r_14 u_13 H locs hw9 hP _ _ hS => ?_)
      obtain ⟨rfl, rfl⟩ := hw9
      have hP : va_P (dC, dI) vwCl (mw cI cJ cZ a 1 lg tm rm no M) _ := hP
      refine lv_if_ne (tgt := 28) hx hb d_M_join_23 (by decide) (fun c_8 => absurd c_8 (by decide)) (fun c_8 => ?_)
      refine lv_iconst (v := 0) hx hb d_M_join_26 (by decide) ?_
      exact W.iret (v := 0) hx hb hr (fun t ht hW => ⟨⟨_, (1, lg, tm, rm, no, M), rfl, Or.inr ⟨fun h => hp_p1 h.2, rfl⟩, by show va_P _ _ _ t.heap; rw [ht]; exact hP⟩, hS.F ht⟩) hS.2.2 d_M_join_27
  · skip
    refine lv_if_eq (tgt := 19) hx hb d_M_join_5 (by decide) (fun c_9 => ?_) (fun c_9 => absurd c_9 (by decide))
    refine lv_iconst (v := 0) hx hb d_M_join_19 (by decide) ?_
    refine kc_i (Wd := mwv cI cJ cZ a) (va_runV (As := [.int 0]) (rest := []) ⟨hx, hb, hml, hown, hw⟩ (c_M_goes0 l hnd co lg tm rm no M _) (cwV 1 hw (kb_V kb_385 kb_387 kb_s5 kb_6 kb_388) rfl rfl rfl (by decide +kernel) ⟨Nat.le_of_ble_eq_true rfl, Nat.le_of_ble_eq_true rfl⟩) (kPV (va_recv hK hP (ci := 3) (q0 := 0) rfl rfl) hP hK) rfl rfl hl.1 rfl (lv_room (Nat.le_of_ble_eq_true rfl)) d_M_join_20 ⟨Nat.le_of_ble_eq_true rfl, Nat.le_of_ble_eq_true rfl⟩) hS hA hAL (fun r_16 u_15 H locs hw9 hP _ _ hS => ?_)
    obtain ⟨rfl, rfl⟩ := hw9
    have hP : va_P (dC, dI) vwCl (mw cI cJ cZ a 1 lg tm rm no M) _ := hP
    refine lv_if_ne (tgt := 28) hx hb d_M_join_23 (by decide) (fun c_10 => absurd c_10 (by decide)) (fun c_10 => ?_)
    refine lv_iconst (v := 0) hx hb d_M_join_26 (by decide) ?_
    exact W.iret (v := 0) hx hb hr (fun t ht hW => ⟨⟨_, (1, lg, tm, rm, no, M), rfl, Or.inr ⟨fun h => hp_p0 h.1, rfl⟩, by show va_P _ _ _ t.heap; rw [ht]; exact hP⟩, hS.F ht⟩) hS.2.2 d_M_join_27
set_option maxHeartbeats 4000000 in
set_option maxRecDepth 100000 in
theorem c_M_leave (l : Launch) {dC : Nat → ClassId} {dI : Nat → Nat → Nat} {cI cJ cZ : ClassId} {a : Nat → Nat} (hnd : (mad a).Nodup) (co lg tm rm no : Int32) (M : Nat → mGV) (p0 : Int32) (p1 : Int32) (sz : Nat) : Met l y_M_leave w_M_leave ({ frames := 2, cells := 0, slots := 0, locals := 60 }) (kPre (dC, dI) vwCl (mty cI cJ cZ) [.ref (a 0), .int p0, .int p1] sz (mw cI cJ cZ a co lg tm rm no M)) (va_Qi (fun (r : Int32) (u : mDV) => ((vp_in p0 8 ∧ vp_in p1 8) ∧ (r, u) = md_leave p0.toNatClampNeg p1.toNatClampNeg (co, lg, tm, rm, no, M)) ∨ (¬ (vp_in p0 8 ∧ vp_in p1 8) ∧ u = (1, lg, tm, rm, no, M))) (fun u t => va_P (dC, dI) vwCl (mwv cI cJ cZ a u) t.heap) (kA (mad a) sz)) 0 0 (kA (mad a) sz) := by
  refine Met.ofW (cc := b_M_leave) (maxL := 3) (ret := (some .int)) (by decide) rfl ?_
  intro p e s m args below meth c s₁ B hml hv
  obtain ⟨rfl, hsz, hP, hK⟩ := hv
  have hx := B.exec
  have hb := B.bytes
  have hr := B.returns
  have hts := atoms_spec (ws := w_M_leave) B.pre
  have hw := fun (w : Cond) (h : w ∈ kb_B) => hts w (List.mem_cons_of_mem _ h)
  have hown : s.vm.findClass R_M = some m.cls := findClass_of_methodNamed B.named
  have hlocks := B.notSynchronized
  subst hsz
  generalize hAe : kA (mad a) s.heap.size = A
  have hA : ∀ q : Nat, s.heap.size ≤ q → A q := fun q h => by rw [← hAe]; exact Or.inr h
  have hAL : ∀ q ∈ (mad a), A q := fun q h => by rw [← hAe]; exact Or.inl h
  have hS : va_S A s.heap s.heap [] := va_S.rf
  have hl := lv_entry ([.ref (a 0), .int p0, .int p1]) (n := 3) (Nat.le_of_ble_eq_true rfl)
  rw [lg_entry_eq]
  generalize (lg_sl ([.ref (a 0), .int p0, .int p1]) ++ List.replicate (3 - (lg_sl ([.ref (a 0), .int p0, .int p1])).length) Slot.unset).toArray = ls at hl ⊢
  have hl : lv_has ls 3 [(0, .ref (a 0)), (1, .int p0), (2, .int p1)] := hl
  refine lv_aload_n hx hb d_M_leave_0 rfl (lv_at hl 0 rfl) ?_
  refine lv_iload_n hx hb d_M_leave_1 rfl (lv_at hl 1 rfl) ?_
  refine vp_callSi (W.runS (As := [.int p0]) (rest := [.ref (a 0)]) ⟨hx, hb, hml, hown, hw⟩ (c_M_isOne l p0) (va_cwS 1 hw (kb_S kb_382 kb_383 kb_6 kb_384) rfl rfl rfl (by decide +kernel) ⟨Nat.le_of_ble_eq_true rfl, Nat.le_of_ble_eq_true rfl⟩) preEq rfl rfl hl.1 rfl (lv_room (Nat.le_of_ble_eq_true rfl)) d_M_leave_2 ⟨Nat.le_of_ble_eq_true rfl, Nat.le_of_ble_eq_true rfl⟩) (fun r_1 er_1 => ?_)
  rcases er_1 with ⟨rfl, hp_p0⟩ | ⟨rfl, hp_p0⟩
  · skip
    obtain ⟨g, hg, rfl⟩ := vp_in_of hp_p0 (by decide)
    have hcg : (nI g).toNatClampNeg = g := nI_clamp (by omega)
    refine lv_if_eq (tgt := 19) hx hb d_M_leave_5 (by decide) (fun c_1 => absurd c_1 (by decide)) (fun c_1 => ?_)
    refine lv_iload_n hx hb d_M_leave_8 rfl (lv_at hl 2 rfl) ?_
    refine vp_callSi (W.runS (As := [.int p1]) (rest := [.ref (a 0)]) ⟨hx, hb, hml, hown, hw⟩ (c_M_isOne l p1) (va_cwS 1 hw (kb_S kb_382 kb_383 kb_6 kb_384) rfl rfl rfl (by decide +kernel) ⟨Nat.le_of_ble_eq_true rfl, Nat.le_of_ble_eq_true rfl⟩) preEq rfl rfl hl.1 rfl (lv_room (Nat.le_of_ble_eq_true rfl)) d_M_leave_9 ⟨Nat.le_of_ble_eq_true rfl, Nat.le_of_ble_eq_true rfl⟩) (fun r_2 er_2 => ?_)
    rcases er_2 with ⟨rfl, hp_p1⟩ | ⟨rfl, hp_p1⟩
    · skip
      obtain ⟨q, hq, rfl⟩ := vp_in_of hp_p1 (by decide)
      have hcq : (nI q).toNatClampNeg = q := nI_clamp (by omega)
      refine lv_if_eq (tgt := 19) hx hb d_M_leave_12 (by decide) (fun c_2 => absurd c_2 (by decide)) (fun c_2 => ?_)
      refine lv_iconst (v := 1) hx hb d_M_leave_15 (by decide) ?_
      refine lv_goto (tgt := 20) hx hb d_M_leave_16 (by decide) ?_
      refine kc_i (Wd := mwv cI cJ cZ a) (va_runV (As := [.int 1]) (rest := []) ⟨hx, hb, hml, hown, hw⟩ (c_M_goes1 l hnd co lg tm rm no M _) (cwV 1 hw (kb_V kb_385 kb_387 kb_s5 kb_6 kb_388) rfl rfl rfl (by decide +kernel) ⟨Nat.le_of_ble_eq_true rfl, Nat.le_of_ble_eq_true rfl⟩) (kPV (va_recv hK hP (ci := 3) (q0 := 0) rfl rfl) hP hK) rfl rfl hl.1 rfl (lv_room (Nat.le_of_ble_eq_true rfl)) d_M_leave_20 ⟨Nat.le_of_ble_eq_true rfl, Nat.le_of_ble_eq_true rfl⟩) hS hA hAL (fun r_4 u_3 H locs hw9 hP _ _ hS => ?_)
      obtain ⟨rfl, rfl⟩ := hw9
      have hP : va_P (dC, dI) vwCl (mw cI cJ cZ a 0 lg tm rm no M) _ := hP
      rw [← mv_at M g] at hP
      generalize hMg : M g = gv at hP
      obtain ⟨x0, x1, x2, x3, x4, x5, x6⟩ := gv
      have hMu : va_up M g (x0, x1, x2, x3, x4, x5, x6) = M := by rw [← hMg]; exact mv_at M g
      refine lv_if_ne (tgt := 28) hx hb d_M_leave_23 (by decide) (fun c_3 => ?_) (fun c_3 => absurd c_3 (by decide))
      refine lv_aload_n hx hb d_M_leave_28 rfl (lv_at hl 0 rfl) ?_
      refine va_get (D := (dC, dI)) (ci := 3) (v := .ref (a 4)) (C := R_M) (T := F_M) (N := 12) hx hb hw i_M hown hK hP 0 rfl rfl 8 (by decide) (hw _ kb_344) (fun _ h9 => h9) rfl d_M_leave_29 ?_
      refine lv_bipush (v := 8) hx hb d_M_leave_32 (by decide) ?_
      refine lv_iload_n hx hb d_M_leave_34 rfl (lv_at hl 1 rfl) ?_
      refine lv_imul hx hb d_M_leave_35 ?_
      refine lv_iload_n hx hb d_M_leave_36 rfl (lv_at hl 2 rfl) ?_
      refine lv_iadd hx hb d_M_leave_37 ?_
      refine ml_me (i := q) hx hb hK hP hg hq d_M_leave_38 ?_
      refine lv_if_ne (tgt := 45) hx hb d_M_leave_39 (by decide) (fun c_4 => ?_) (fun c_4 => ?_)
      · refine lv_aload_n hx hb d_M_leave_45 rfl (lv_at hl 0 rfl) ?_
        refine va_get (D := (dC, dI)) (ci := 3) (v := .ref (a 4)) (C := R_M) (T := F_M) (N := 12) hx hb hw i_M hown hK hP 0 rfl rfl 8 (by decide) (hw _ kb_344) (fun _ h9 => h9) rfl d_M_leave_46 ?_
        refine lv_bipush (v := 8) hx hb d_M_leave_49 (by decide) ?_
        refine lv_iload_n hx hb d_M_leave_51 rfl (lv_at hl 1 rfl) ?_
        refine lv_imul hx hb d_M_leave_52 ?_
        refine lv_iload_n hx hb d_M_leave_53 rfl (lv_at hl 2 rfl) ?_
        refine lv_iadd hx hb d_M_leave_54 ?_
        refine lv_iconst (v := 0) hx hb d_M_leave_55 (by decide) ?_
        refine ms_me (i := q) (v := 0) hx hb hK hP hnd hAL hS hg hq d_M_leave_56 (fun H locs hP hS => ?_)
        rw [vz0] at hP
        refine lv_aload_n hx hb d_M_leave_57 rfl (lv_at hl 0 rfl) ?_
        refine va_get (D := (dC, dI)) (ci := 3) (v := .ref (a 5)) (C := R_M) (T := F_M) (N := 12) hx hb hw i_M hown hK hP 0 rfl rfl 9 (by decide) (hw _ kb_345) (fun _ h9 => h9) rfl d_M_leave_58 ?_
        refine lv_bipush (v := 8) hx hb d_M_leave_61 (by decide) ?_
        refine lv_iload_n hx hb d_M_leave_63 rfl (lv_at hl 1 rfl) ?_
        refine lv_imul hx hb d_M_leave_64 ?_
        refine lv_iload_n hx hb d_M_leave_65 rfl (lv_at hl 2 rfl) ?_
        refine lv_iadd hx hb d_M_leave_66 ?_
        refine lv_iconst (v := 0) hx hb d_M_leave_67 (by decide) ?_
        refine ms_jo (i := q) (v := 0) hx hb hK hP hnd hAL hS hg hq d_M_leave_68 (fun H locs hP hS => ?_)
        rw [vz0] at hP
        refine lv_aload_n hx hb d_M_leave_69 rfl (lv_at hl 0 rfl) ?_
        refine lv_iload_n hx hb d_M_leave_70 rfl (lv_at hl 1 rfl) ?_
        refine kc_v (Wd := mwv cI cJ cZ a) (va_runV (As := [.int (nI g)]) (rest := []) ⟨hx, hb, hml, hown, hw⟩ (c_M_without l hnd 0 lg tm rm no M hg x0 x1 x2 (upd x3 q 0) (upd x4 q 0) x5 x6 _) (cwV 1 hw (kb_V kb_417 kb_419 kb_s12 kb_6 kb_420) rfl rfl rfl (by decide +kernel) ⟨Nat.le_of_ble_eq_true rfl, Nat.le_of_ble_eq_true rfl⟩) (kPV (va_recv hK hP (ci := 3) (q0 := 0) rfl rfl) hP hK) rfl rfl hl.1 rfl (lv_room (Nat.le_of_ble_eq_true rfl)) d_M_leave_71 ⟨Nat.le_of_ble_eq_true rfl, Nat.le_of_ble_eq_true rfl⟩) hS hA hAL (fun u_5 H locs hw9 hP _ _ hS => ?_)
        subst hw9
        have hP : va_P (dC, dI) vwCl (mw cI cJ cZ a 0 lg tm rm no (va_up M g (mg_wo tm (x0, x1, x2, (upd x3 q 0), (upd x4 q 0), x5, x6)))) _ := hP
        generalize hq_7 : mg_wo tm (x0, x1, x2, (upd x3 q 0), (upd x4 q 0), x5, x6) = z_7 at hP
        obtain ⟨y7_0, y7_1, y7_2, y7_3, y7_4, y7_5, y7_6⟩ := z_7
        refine lv_aload_n hx hb d_M_leave_74 rfl (lv_at hl 0 rfl) ?_
        refine lv_iload_n hx hb d_M_leave_75 rfl (lv_at hl 1 rfl) ?_
        refine kc_v (Wd := mwv cI cJ cZ a) (va_runV (As := [.int (nI g)]) (rest := []) ⟨hx, hb, hml, hown, hw⟩ (c_M_mayBeDone l hnd 0 lg tm rm no M hg y7_0 y7_1 y7_2 y7_3 y7_4 y7_5 y7_6 _) (cwV 1 hw (kb_V kb_393 kb_395 kb_s7 kb_6 kb_396) rfl rfl rfl (by decide +kernel) ⟨Nat.le_of_ble_eq_true rfl, Nat.le_of_ble_eq_true rfl⟩) (kPV (va_recv hK hP (ci := 3) (q0 := 0) rfl rfl) hP hK) rfl rfl hl.1 rfl (lv_room (Nat.le_of_ble_eq_true rfl)) d_M_leave_76 ⟨Nat.le_of_ble_eq_true rfl, Nat.le_of_ble_eq_true rfl⟩) hS hA hAL (fun u_8 H locs hw9 hP _ _ hS => ?_)
        subst hw9
        have hP : va_P (dC, dI) vwCl (mw cI cJ cZ a 0 lg tm (mg_done tm rm no (y7_0, y7_1, y7_2, y7_3, y7_4, y7_5, y7_6)).2.1 (mg_done tm rm no (y7_0, y7_1, y7_2, y7_3, y7_4, y7_5, y7_6)).2.2 (va_up M g (mg_done tm rm no (y7_0, y7_1, y7_2, y7_3, y7_4, y7_5, y7_6)).1)) _ := hP
        generalize hq_10 : mg_done tm rm no (y7_0, y7_1, y7_2, y7_3, y7_4, y7_5, y7_6) = z_10 at hP
        obtain ⟨⟨y10_0, y10_1, y10_2, y10_3, y10_4, y10_5, y10_6⟩, rm_10, no_10⟩ := z_10
        have hP : va_P (dC, dI) vwCl (mw cI cJ cZ a 0 lg tm rm_10 no_10 (va_up M g (y10_0, y10_1, y10_2, y10_3, y10_4, y10_5, y10_6))) _ := hP
        refine lv_iconst (v := 1) hx hb d_M_leave_79 (by decide) ?_
        exact W.iret (v := 1) hx hb hr (fun t ht hW => ⟨⟨_, (0, lg, tm, rm_10, no_10, (va_up M g (y10_0, y10_1, y10_2, y10_3, y10_4, y10_5, y10_6))), rfl, Or.inl ⟨⟨hp_p0, hp_p1⟩, by first | (simp only [md_leave, mg_rid, hcg, hcq, hMg, hMu, if_neg c_4, hq_7, hq_10]; done) | (simp [md_leave, mg_rid, hcg, hcq, hMg, hMu, c_4, hq_7, hq_10]; done)⟩, by show va_P _ _ _ t.heap; rw [ht]; exact hP⟩, hS.F ht⟩) hS.2.2 d_M_leave_80
      · refine lv_bipush (v := (-8)) hx hb d_M_leave_42 (by decide) ?_
        exact W.iret (v := (-8)) hx hb hr (fun t ht hW => ⟨⟨_, (0, lg, tm, rm, no, (va_up M g (x0, x1, x2, x3, x4, x5, x6))), rfl, Or.inl ⟨⟨hp_p0, hp_p1⟩, by first | (simp only [md_leave, mg_rid, hcg, hcq, hMg, hMu, if_pos c_4]; done) | (simp [md_leave, mg_rid, hcg, hcq, hMg, hMu, c_4]; done)⟩, by show va_P _ _ _ t.heap; rw [ht]; exact hP⟩, hS.F ht⟩) hS.2.2 d_M_leave_44
    · skip
      refine lv_if_eq (tgt := 19) hx hb d_M_leave_12 (by decide) (fun c_5 => ?_) (fun c_5 => absurd c_5 (by decide))
      refine lv_iconst (v := 0) hx hb d_M_leave_19 (by decide) ?_
      refine kc_i (Wd := mwv cI cJ cZ a) (va_runV (As := [.int 0]) (rest := []) ⟨hx, hb, hml, hown, hw⟩ (c_M_goes0 l hnd co lg tm rm no M _) (cwV 1 hw (kb_V kb_385 kb_387 kb_s5 kb_6 kb_388) rfl rfl rfl (by decide +kernel) ⟨Nat.le_of_ble_eq_true rfl, Nat.le_of_ble_eq_true rfl⟩) (kPV (va_recv hK hP (ci := 3) (q0 := 0) rfl rfl) hP hK) rfl rfl hl.1 rfl (lv_room (Nat.le_of_ble_eq_true rfl)) d_M_leave_20 ⟨Nat.le_of_ble_eq_true rfl, Nat.le_of_ble_eq_true rfl⟩) hS hA hAL (fun r_12 u_11 H locs hw9 hP _ _ hS => ?_)
      obtain ⟨rfl, rfl⟩ := hw9
      have hP : va_P (dC, dI) vwCl (mw cI cJ cZ a 1 lg tm rm no M) _ := hP
      refine lv_if_ne (tgt := 28) hx hb d_M_leave_23 (by decide) (fun c_6 => absurd c_6 (by decide)) (fun c_6 => ?_)
      refine lv_iconst (v := 0) hx hb d_M_leave_26 (by decide) ?_
      exact W.iret (v := 0) hx hb hr (fun t ht hW => ⟨⟨_, (1, lg, tm, rm, no, M), rfl, Or.inr ⟨fun h => hp_p1 h.2, rfl⟩, by show va_P _ _ _ t.heap; rw [ht]; exact hP⟩, hS.F ht⟩) hS.2.2 d_M_leave_27
  · skip
    refine lv_if_eq (tgt := 19) hx hb d_M_leave_5 (by decide) (fun c_7 => ?_) (fun c_7 => absurd c_7 (by decide))
    refine lv_iconst (v := 0) hx hb d_M_leave_19 (by decide) ?_
    refine kc_i (Wd := mwv cI cJ cZ a) (va_runV (As := [.int 0]) (rest := []) ⟨hx, hb, hml, hown, hw⟩ (c_M_goes0 l hnd co lg tm rm no M _) (cwV 1 hw (kb_V kb_385 kb_387 kb_s5 kb_6 kb_388) rfl rfl rfl (by decide +kernel) ⟨Nat.le_of_ble_eq_true rfl, Nat.le_of_ble_eq_true rfl⟩) (kPV (va_recv hK hP (ci := 3) (q0 := 0) rfl rfl) hP hK) rfl rfl hl.1 rfl (lv_room (Nat.le_of_ble_eq_true rfl)) d_M_leave_20 ⟨Nat.le_of_ble_eq_true rfl, Nat.le_of_ble_eq_true rfl⟩) hS hA hAL (fun r_14 u_13 H locs hw9 hP _ _ hS => ?_)
    obtain ⟨rfl, rfl⟩ := hw9
    have hP : va_P (dC, dI) vwCl (mw cI cJ cZ a 1 lg tm rm no M) _ := hP
    refine lv_if_ne (tgt := 28) hx hb d_M_leave_23 (by decide) (fun c_8 => absurd c_8 (by decide)) (fun c_8 => ?_)
    refine lv_iconst (v := 0) hx hb d_M_leave_26 (by decide) ?_
    exact W.iret (v := 0) hx hb hr (fun t ht hW => ⟨⟨_, (1, lg, tm, rm, no, M), rfl, Or.inr ⟨fun h => hp_p0 h.1, rfl⟩, by show va_P _ _ _ t.heap; rw [ht]; exact hP⟩, hS.F ht⟩) hS.2.2 d_M_leave_27
set_option maxHeartbeats 4000000 in
set_option maxRecDepth 100000 in
theorem c_M_beat (l : Launch) {dC : Nat → ClassId} {dI : Nat → Nat → Nat} {cI cJ cZ : ClassId} {a : Nat → Nat} (hnd : (mad a).Nodup) (co lg tm rm no : Int32) (M : Nat → mGV) (p0 : Int32) (p1 : Int32) (p2 : Int32) (sz : Nat) : Met l y_M_beat w_M_beat ({ frames := 2, cells := 0, slots := 0, locals := 60 }) (kPre (dC, dI) vwCl (mty cI cJ cZ) [.ref (a 0), .int p0, .int p1, .int p2] sz (mw cI cJ cZ a co lg tm rm no M)) (va_Qi (fun (r : Int32) (u : mDV) => ((vp_in p0 8 ∧ vp_in p1 8) ∧ (r, u) = md_beat p0.toNatClampNeg p1.toNatClampNeg p2 (co, lg, tm, rm, no, M)) ∨ (¬ (vp_in p0 8 ∧ vp_in p1 8) ∧ u = (1, lg, tm, rm, no, M))) (fun u t => va_P (dC, dI) vwCl (mwv cI cJ cZ a u) t.heap) (kA (mad a) sz)) 0 0 (kA (mad a) sz) := by
  refine Met.ofW (cc := b_M_beat) (maxL := 4) (ret := (some .int)) (by decide) rfl ?_
  intro p e s m args below meth c s₁ B hml hv
  obtain ⟨rfl, hsz, hP, hK⟩ := hv
  have hx := B.exec
  have hb := B.bytes
  have hr := B.returns
  have hts := atoms_spec (ws := w_M_beat) B.pre
  have hw := fun (w : Cond) (h : w ∈ kb_B) => hts w (List.mem_cons_of_mem _ h)
  have hown : s.vm.findClass R_M = some m.cls := findClass_of_methodNamed B.named
  have hlocks := B.notSynchronized
  subst hsz
  generalize hAe : kA (mad a) s.heap.size = A
  have hA : ∀ q : Nat, s.heap.size ≤ q → A q := fun q h => by rw [← hAe]; exact Or.inr h
  have hAL : ∀ q ∈ (mad a), A q := fun q h => by rw [← hAe]; exact Or.inl h
  have hS : va_S A s.heap s.heap [] := va_S.rf
  have hl := lv_entry ([.ref (a 0), .int p0, .int p1, .int p2]) (n := 4) (Nat.le_of_ble_eq_true rfl)
  rw [lg_entry_eq]
  generalize (lg_sl ([.ref (a 0), .int p0, .int p1, .int p2]) ++ List.replicate (4 - (lg_sl ([.ref (a 0), .int p0, .int p1, .int p2])).length) Slot.unset).toArray = ls at hl ⊢
  have hl : lv_has ls 4 [(0, .ref (a 0)), (1, .int p0), (2, .int p1), (3, .int p2)] := hl
  refine lv_aload_n hx hb d_M_beat_0 rfl (lv_at hl 0 rfl) ?_
  refine lv_iload_n hx hb d_M_beat_1 rfl (lv_at hl 1 rfl) ?_
  refine vp_callSi (W.runS (As := [.int p0]) (rest := [.ref (a 0)]) ⟨hx, hb, hml, hown, hw⟩ (c_M_isOne l p0) (va_cwS 1 hw (kb_S kb_382 kb_383 kb_6 kb_384) rfl rfl rfl (by decide +kernel) ⟨Nat.le_of_ble_eq_true rfl, Nat.le_of_ble_eq_true rfl⟩) preEq rfl rfl hl.1 rfl (lv_room (Nat.le_of_ble_eq_true rfl)) d_M_beat_2 ⟨Nat.le_of_ble_eq_true rfl, Nat.le_of_ble_eq_true rfl⟩) (fun r_1 er_1 => ?_)
  rcases er_1 with ⟨rfl, hp_p0⟩ | ⟨rfl, hp_p0⟩
  · skip
    obtain ⟨g, hg, rfl⟩ := vp_in_of hp_p0 (by decide)
    have hcg : (nI g).toNatClampNeg = g := nI_clamp (by omega)
    refine lv_if_eq (tgt := 19) hx hb d_M_beat_5 (by decide) (fun c_1 => absurd c_1 (by decide)) (fun c_1 => ?_)
    refine lv_iload_n hx hb d_M_beat_8 rfl (lv_at hl 2 rfl) ?_
    refine vp_callSi (W.runS (As := [.int p1]) (rest := [.ref (a 0)]) ⟨hx, hb, hml, hown, hw⟩ (c_M_isOne l p1) (va_cwS 1 hw (kb_S kb_382 kb_383 kb_6 kb_384) rfl rfl rfl (by decide +kernel) ⟨Nat.le_of_ble_eq_true rfl, Nat.le_of_ble_eq_true rfl⟩) preEq rfl rfl hl.1 rfl (lv_room (Nat.le_of_ble_eq_true rfl)) d_M_beat_9 ⟨Nat.le_of_ble_eq_true rfl, Nat.le_of_ble_eq_true rfl⟩) (fun r_2 er_2 => ?_)
    rcases er_2 with ⟨rfl, hp_p1⟩ | ⟨rfl, hp_p1⟩
    · skip
      obtain ⟨q, hq, rfl⟩ := vp_in_of hp_p1 (by decide)
      have hcq : (nI q).toNatClampNeg = q := nI_clamp (by omega)
      refine lv_if_eq (tgt := 19) hx hb d_M_beat_12 (by decide) (fun c_2 => absurd c_2 (by decide)) (fun c_2 => ?_)
      refine lv_iconst (v := 1) hx hb d_M_beat_15 (by decide) ?_
      refine lv_goto (tgt := 20) hx hb d_M_beat_16 (by decide) ?_
      refine kc_i (Wd := mwv cI cJ cZ a) (va_runV (As := [.int 1]) (rest := []) ⟨hx, hb, hml, hown, hw⟩ (c_M_goes1 l hnd co lg tm rm no M _) (cwV 1 hw (kb_V kb_385 kb_387 kb_s5 kb_6 kb_388) rfl rfl rfl (by decide +kernel) ⟨Nat.le_of_ble_eq_true rfl, Nat.le_of_ble_eq_true rfl⟩) (kPV (va_recv hK hP (ci := 3) (q0 := 0) rfl rfl) hP hK) rfl rfl hl.1 rfl (lv_room (Nat.le_of_ble_eq_true rfl)) d_M_beat_20 ⟨Nat.le_of_ble_eq_true rfl, Nat.le_of_ble_eq_true rfl⟩) hS hA hAL (fun r_4 u_3 H locs hw9 hP _ _ hS => ?_)
      obtain ⟨rfl, rfl⟩ := hw9
      have hP : va_P (dC, dI) vwCl (mw cI cJ cZ a 0 lg tm rm no M) _ := hP
      rw [← mv_at M g] at hP
      generalize hMg : M g = gv at hP
      obtain ⟨x0, x1, x2, x3, x4, x5, x6⟩ := gv
      have hMu : va_up M g (x0, x1, x2, x3, x4, x5, x6) = M := by rw [← hMg]; exact mv_at M g
      refine lv_if_ne (tgt := 28) hx hb d_M_beat_23 (by decide) (fun c_3 => ?_) (fun c_3 => absurd c_3 (by decide))
      refine lv_aload_n hx hb d_M_beat_28 rfl (lv_at hl 0 rfl) ?_
      refine va_get (D := (dC, dI)) (ci := 3) (v := .ref (a 4)) (C := R_M) (T := F_M) (N := 12) hx hb hw i_M hown hK hP 0 rfl rfl 8 (by decide) (hw _ kb_344) (fun _ h9 => h9) rfl d_M_beat_29 ?_
      refine lv_bipush (v := 8) hx hb d_M_beat_32 (by decide) ?_
      refine lv_iload_n hx hb d_M_beat_34 rfl (lv_at hl 1 rfl) ?_
      refine lv_imul hx hb d_M_beat_35 ?_
      refine lv_iload_n hx hb d_M_beat_36 rfl (lv_at hl 2 rfl) ?_
      refine lv_iadd hx hb d_M_beat_37 ?_
      refine ml_me (i := q) hx hb hK hP hg hq d_M_beat_38 ?_
      refine lv_if_eq (tgt := 52) hx hb d_M_beat_39 (by decide) (fun c_4 => ?_) (fun c_4 => ?_)
      · refine lv_aload_n hx hb d_M_beat_52 rfl (lv_at hl 0 rfl) ?_
        refine va_get (D := (dC, dI)) (ci := 3) (v := .ref (a 4)) (C := R_M) (T := F_M) (N := 12) hx hb hw i_M hown hK hP 0 rfl rfl 8 (by decide) (hw _ kb_344) (fun _ h9 => h9) rfl d_M_beat_53 ?_
        refine lv_bipush (v := 8) hx hb d_M_beat_56 (by decide) ?_
        refine lv_iload_n hx hb d_M_beat_58 rfl (lv_at hl 1 rfl) ?_
        refine lv_imul hx hb d_M_beat_59 ?_
        refine lv_iload_n hx hb d_M_beat_60 rfl (lv_at hl 2 rfl) ?_
        refine lv_iadd hx hb d_M_beat_61 ?_
        refine ml_me (i := q) hx hb hK hP hg hq d_M_beat_62 ?_
        refine lv_if_eq (tgt := 71) hx hb d_M_beat_63 (by decide) (fun c_5 => ?_) (fun c_5 => ?_)
        · refine lv_bipush (v := (-8)) hx hb d_M_beat_71 (by decide) ?_
          exact W.iret (v := (-8)) hx hb hr (fun t ht hW => ⟨⟨_, (0, lg, tm, rm, no, (va_up M g (x0, x1, x2, x3, x4, x5, x6))), rfl, Or.inl ⟨⟨hp_p0, hp_p1⟩, by first | (simp only [md_beat, mg_hear, hcg, hcq, hMg, hMu, if_pos c_4, if_pos c_5]; done) | (simp [md_beat, mg_hear, hcg, hcq, hMg, hMu, c_4, c_5]; done)⟩, by show va_P _ _ _ t.heap; rw [ht]; exact hP⟩, hS.F ht⟩) hS.2.2 d_M_beat_73
        · exact absurd c_4 c_5
      · refine lv_iload_n hx hb d_M_beat_42 rfl (lv_at hl 3 rfl) ?_
        refine lv_aload_n hx hb d_M_beat_43 rfl (lv_at hl 0 rfl) ?_
        refine va_get (D := (dC, dI)) (ci := 3) (v := .ref (a 2)) (C := R_M) (T := F_M) (N := 12) hx hb hw i_M hown hK hP 0 rfl rfl 6 (by decide) (hw _ kb_342) (fun _ h9 => h9) rfl d_M_beat_44 ?_
        refine lv_iload_n hx hb d_M_beat_47 rfl (lv_at hl 1 rfl) ?_
        refine ml_ge hx hb hK hP hg d_M_beat_48 ?_
        refine lv_icmp_eq (tgt := 74) hx hb d_M_beat_49 (by decide) (fun c_6 => ?_) (fun c_6 => ?_)
        · refine lv_aload_n hx hb d_M_beat_74 rfl (lv_at hl 0 rfl) ?_
          refine va_get (D := (dC, dI)) (ci := 3) (v := .ref (a 6)) (C := R_M) (T := F_M) (N := 12) hx hb hw i_M hown hK hP 0 rfl rfl 10 (by decide) (hw _ kb_346) (fun _ h9 => h9) rfl d_M_beat_75 ?_
          refine lv_bipush (v := 8) hx hb d_M_beat_78 (by decide) ?_
          refine lv_iload_n hx hb d_M_beat_80 rfl (lv_at hl 1 rfl) ?_
          refine lv_imul hx hb d_M_beat_81 ?_
          refine lv_iload_n hx hb d_M_beat_82 rfl (lv_at hl 2 rfl) ?_
          refine lv_iadd hx hb d_M_beat_83 ?_
          refine lv_aload_n hx hb d_M_beat_84 rfl (lv_at hl 0 rfl) ?_
          refine va_get (D := (dC, dI)) (ci := 3) (v := .int tm) (C := R_M) (T := F_M) (N := 12) hx hb hw i_M hown hK hP 0 rfl rfl 2 (by decide) (hw _ kb_338) (fun _ h9 => h9) rfl d_M_beat_85 ?_
          refine ms_he (i := q) (v := tm) hx hb hK hP hnd hAL hS hg hq d_M_beat_88 (fun H locs hP hS => ?_)
          refine lv_aload_n hx hb d_M_beat_89 rfl (lv_at hl 0 rfl) ?_
          refine va_get (D := (dC, dI)) (ci := 3) (v := .ref (a 1)) (C := R_M) (T := F_M) (N := 12) hx hb hw i_M hown hK hP 0 rfl rfl 5 (by decide) (hw _ kb_341) (fun _ h9 => h9) rfl d_M_beat_90 ?_
          refine lv_iload_n hx hb d_M_beat_93 rfl (lv_at hl 1 rfl) ?_
          refine ml_st hx hb hK hP hg d_M_beat_94 ?_
          refine lv_iconst (v := 1) hx hb d_M_beat_95 (by decide) ?_
          refine lv_icmp_ne (tgt := 117) hx hb d_M_beat_96 (by decide) (fun c_7 => ?_) (fun c_7 => ?_)
          · refine lv_iconst (v := 0) hx hb d_M_beat_117 (by decide) ?_
            exact W.iret (v := 0) hx hb hr (fun t ht hW => ⟨⟨_, (0, lg, tm, rm, no, (va_up M g (x0, x1, x2, x3, x4, upd x5 q tm, x6))), rfl, Or.inl ⟨⟨hp_p0, hp_p1⟩, by first | (simp only [md_beat, mg_hear, hcg, hcq, hMg, hMu, if_neg c_4, if_pos c_6, if_neg c_7]; done) | (simp [md_beat, mg_hear, hcg, hcq, hMg, hMu, c_4, c_6, c_7]; done)⟩, by show va_P _ _ _ t.heap; rw [ht]; exact hP⟩, hS.F ht⟩) hS.2.2 d_M_beat_118
          · refine lv_aload_n hx hb d_M_beat_99 rfl (lv_at hl 0 rfl) ?_
            refine va_get (D := (dC, dI)) (ci := 3) (v := .ref (a 5)) (C := R_M) (T := F_M) (N := 12) hx hb hw i_M hown hK hP 0 rfl rfl 9 (by decide) (hw _ kb_345) (fun _ h9 => h9) rfl d_M_beat_100 ?_
            refine lv_bipush (v := 8) hx hb d_M_beat_103 (by decide) ?_
            refine lv_iload_n hx hb d_M_beat_105 rfl (lv_at hl 1 rfl) ?_
            refine lv_imul hx hb d_M_beat_106 ?_
            refine lv_iload_n hx hb d_M_beat_107 rfl (lv_at hl 2 rfl) ?_
            refine lv_iadd hx hb d_M_beat_108 ?_
            refine ml_jo (i := q) hx hb hK hP hg hq d_M_beat_109 ?_
            refine lv_if_ne (tgt := 117) hx hb d_M_beat_110 (by decide) (fun c_8 => ?_) (fun c_8 => ?_)
            · refine lv_iconst (v := 0) hx hb d_M_beat_117 (by decide) ?_
              exact W.iret (v := 0) hx hb hr (fun t ht hW => ⟨⟨_, (0, lg, tm, rm, no, (va_up M g (x0, x1, x2, x3, x4, upd x5 q tm, x6))), rfl, Or.inl ⟨⟨hp_p0, hp_p1⟩, by first | (simp only [md_beat, mg_hear, hcg, hcq, hMg, hMu, if_neg c_4, if_pos c_6, if_pos c_7, if_neg c_8]; done) | (simp [md_beat, mg_hear, hcg, hcq, hMg, hMu, c_4, c_6, c_7, c_8]; done)⟩, by show va_P _ _ _ t.heap; rw [ht]; exact hP⟩, hS.F ht⟩) hS.2.2 d_M_beat_118
            · refine lv_iconst (v := 1) hx hb d_M_beat_113 (by decide) ?_
              refine lv_goto (tgt := 118) hx hb d_M_beat_114 (by decide) ?_
              exact W.iret (v := 1) hx hb hr (fun t ht hW => ⟨⟨_, (0, lg, tm, rm, no, (va_up M g (x0, x1, x2, x3, x4, upd x5 q tm, x6))), rfl, Or.inl ⟨⟨hp_p0, hp_p1⟩, by first | (simp only [md_beat, mg_hear, hcg, hcq, hMg, hMu, if_neg c_4, if_pos c_6, if_pos c_7, if_pos c_8]; done) | (simp [md_beat, mg_hear, hcg, hcq, hMg, hMu, c_4, c_6, c_7, c_8]; done)⟩, by show va_P _ _ _ t.heap; rw [ht]; exact hP⟩, hS.F ht⟩) hS.2.2 d_M_beat_118
        · refine lv_aload_n hx hb d_M_beat_52 rfl (lv_at hl 0 rfl) ?_
          refine va_get (D := (dC, dI)) (ci := 3) (v := .ref (a 4)) (C := R_M) (T := F_M) (N := 12) hx hb hw i_M hown hK hP 0 rfl rfl 8 (by decide) (hw _ kb_344) (fun _ h9 => h9) rfl d_M_beat_53 ?_
          refine lv_bipush (v := 8) hx hb d_M_beat_56 (by decide) ?_
          refine lv_iload_n hx hb d_M_beat_58 rfl (lv_at hl 1 rfl) ?_
          refine lv_imul hx hb d_M_beat_59 ?_
          refine lv_iload_n hx hb d_M_beat_60 rfl (lv_at hl 2 rfl) ?_
          refine lv_iadd hx hb d_M_beat_61 ?_
          refine ml_me (i := q) hx hb hK hP hg hq d_M_beat_62 ?_
          refine lv_if_eq (tgt := 71) hx hb d_M_beat_63 (by decide) (fun c_9 => ?_) (fun c_9 => ?_)
          · exact absurd c_9 c_4
          · refine lv_bipush (v := (-9)) hx hb d_M_beat_66 (by decide) ?_
            refine lv_goto (tgt := 73) hx hb d_M_beat_68 (by decide) ?_
            exact W.iret (v := (-9)) hx hb hr (fun t ht hW => ⟨⟨_, (0, lg, tm, rm, no, (va_up M g (x0, x1, x2, x3, x4, x5, x6))), rfl, Or.inl ⟨⟨hp_p0, hp_p1⟩, by first | (simp only [md_beat, mg_hear, hcg, hcq, hMg, hMu, if_neg c_4, if_neg c_6, if_neg c_9]; done) | (simp [md_beat, mg_hear, hcg, hcq, hMg, hMu, c_4, c_6, c_9]; done)⟩, by show va_P _ _ _ t.heap; rw [ht]; exact hP⟩, hS.F ht⟩) hS.2.2 d_M_beat_73
    · skip
      refine lv_if_eq (tgt := 19) hx hb d_M_beat_12 (by decide) (fun c_10 => ?_) (fun c_10 => absurd c_10 (by decide))
      refine lv_iconst (v := 0) hx hb d_M_beat_19 (by decide) ?_
      refine kc_i (Wd := mwv cI cJ cZ a) (va_runV (As := [.int 0]) (rest := []) ⟨hx, hb, hml, hown, hw⟩ (c_M_goes0 l hnd co lg tm rm no M _) (cwV 1 hw (kb_V kb_385 kb_387 kb_s5 kb_6 kb_388) rfl rfl rfl (by decide +kernel) ⟨Nat.le_of_ble_eq_true rfl, Nat.le_of_ble_eq_true rfl⟩) (kPV (va_recv hK hP (ci := 3) (q0 := 0) rfl rfl) hP hK) rfl rfl hl.1 rfl (lv_room (Nat.le_of_ble_eq_true rfl)) d_M_beat_20 ⟨Nat.le_of_ble_eq_true rfl, Nat.le_of_ble_eq_true rfl⟩) hS hA hAL (fun r_6 u_5 H locs hw9 hP _ _ hS => ?_)
      obtain ⟨rfl, rfl⟩ := hw9
      have hP : va_P (dC, dI) vwCl (mw cI cJ cZ a 1 lg tm rm no M) _ := hP
      refine lv_if_ne (tgt := 28) hx hb d_M_beat_23 (by decide) (fun c_11 => absurd c_11 (by decide)) (fun c_11 => ?_)
      refine lv_iconst (v := 0) hx hb d_M_beat_26 (by decide) ?_
      exact W.iret (v := 0) hx hb hr (fun t ht hW => ⟨⟨_, (1, lg, tm, rm, no, M), rfl, Or.inr ⟨fun h => hp_p1 h.2, rfl⟩, by show va_P _ _ _ t.heap; rw [ht]; exact hP⟩, hS.F ht⟩) hS.2.2 d_M_beat_27
  · skip
    refine lv_if_eq (tgt := 19) hx hb d_M_beat_5 (by decide) (fun c_12 => ?_) (fun c_12 => absurd c_12 (by decide))
    refine lv_iconst (v := 0) hx hb d_M_beat_19 (by decide) ?_
    refine kc_i (Wd := mwv cI cJ cZ a) (va_runV (As := [.int 0]) (rest := []) ⟨hx, hb, hml, hown, hw⟩ (c_M_goes0 l hnd co lg tm rm no M _) (cwV 1 hw (kb_V kb_385 kb_387 kb_s5 kb_6 kb_388) rfl rfl rfl (by decide +kernel) ⟨Nat.le_of_ble_eq_true rfl, Nat.le_of_ble_eq_true rfl⟩) (kPV (va_recv hK hP (ci := 3) (q0 := 0) rfl rfl) hP hK) rfl rfl hl.1 rfl (lv_room (Nat.le_of_ble_eq_true rfl)) d_M_beat_20 ⟨Nat.le_of_ble_eq_true rfl, Nat.le_of_ble_eq_true rfl⟩) hS hA hAL (fun r_8 u_7 H locs hw9 hP _ _ hS => ?_)
    obtain ⟨rfl, rfl⟩ := hw9
    have hP : va_P (dC, dI) vwCl (mw cI cJ cZ a 1 lg tm rm no M) _ := hP
    refine lv_if_ne (tgt := 28) hx hb d_M_beat_23 (by decide) (fun c_13 => absurd c_13 (by decide)) (fun c_13 => ?_)
    refine lv_iconst (v := 0) hx hb d_M_beat_26 (by decide) ?_
    exact W.iret (v := 0) hx hb hr (fun t ht hW => ⟨⟨_, (1, lg, tm, rm, no, M), rfl, Or.inr ⟨fun h => hp_p0 h.1, rfl⟩, by show va_P _ _ _ t.heap; rw [ht]; exact hP⟩, hS.F ht⟩) hS.2.2 d_M_beat_27
set_option maxHeartbeats 4000000 in
set_option maxRecDepth 100000 in
theorem c_M_commit (l : Launch) {dC : Nat → ClassId} {dI : Nat → Nat → Nat} {cI cJ cZ : ClassId} {a : Nat → Nat} (hnd : (mad a).Nodup) (co lg tm rm no : Int32) (M : Nat → mGV) (p0 : Int32) (p1 : Int32) (p2 : Int32) (p3 : Int32) (p4 : Int64) (hlg : ∃ n : Nat, n ≤ 8 ∧ lg = nI n) (sz : Nat) : Met l y_M_commit w_M_commit ({ frames := 2, cells := 0, slots := 0, locals := 60 }) (kPre (dC, dI) vwCl (mty cI cJ cZ) [.ref (a 0), .int p0, .int p1, .int p2, .int p3, .long p4] sz (mw cI cJ cZ a co lg tm rm no M)) (va_Qi (fun (r : Int32) (u : mDV) => ((vp_in p0 8 ∧ vp_in p1 8 ∧ (¬ p3 < 0 ∧ p3 < lg) ∧ ¬ p4 < 0) ∧ (r, u) = md_commit p0.toNatClampNeg p1.toNatClampNeg p2 p3.toNatClampNeg p4 (co, lg, tm, rm, no, M)) ∨ (¬ (vp_in p0 8 ∧ vp_in p1 8 ∧ (¬ p3 < 0 ∧ p3 < lg) ∧ ¬ p4 < 0) ∧ u = (1, lg, tm, rm, no, M))) (fun u t => va_P (dC, dI) vwCl (mwv cI cJ cZ a u) t.heap) (kA (mad a) sz)) 0 0 (kA (mad a) sz) := by
  refine Met.ofW (cc := b_M_commit) (maxL := 7) (ret := (some .int)) (by decide) rfl ?_
  intro p e s m args below meth c s₁ B hml hv
  obtain ⟨rfl, hsz, hP, hK⟩ := hv
  have hx := B.exec
  have hb := B.bytes
  have hr := B.returns
  have hts := atoms_spec (ws := w_M_commit) B.pre
  have hw := fun (w : Cond) (h : w ∈ kb_B) => hts w (List.mem_cons_of_mem _ h)
  have hown : s.vm.findClass R_M = some m.cls := findClass_of_methodNamed B.named
  have hlocks := B.notSynchronized
  subst hsz
  generalize hAe : kA (mad a) s.heap.size = A
  have hA : ∀ q : Nat, s.heap.size ≤ q → A q := fun q h => by rw [← hAe]; exact Or.inr h
  have hAL : ∀ q ∈ (mad a), A q := fun q h => by rw [← hAe]; exact Or.inl h
  have hS : va_S A s.heap s.heap [] := va_S.rf
  have hl := lv_entry ([.ref (a 0), .int p0, .int p1, .int p2, .int p3, .long p4]) (n := 7) (Nat.le_of_ble_eq_true rfl)
  rw [lg_entry_eq]
  generalize (lg_sl ([.ref (a 0), .int p0, .int p1, .int p2, .int p3, .long p4]) ++ List.replicate (7 - (lg_sl ([.ref (a 0), .int p0, .int p1, .int p2, .int p3, .long p4])).length) Slot.unset).toArray = ls at hl ⊢
  have hl : lv_has ls 7 [(0, .ref (a 0)), (1, .int p0), (2, .int p1), (3, .int p2), (4, .int p3), (5, .long p4)] := hl
  refine lv_aload_n hx hb d_M_commit_0 rfl (lv_at hl 0 rfl) ?_
  refine lv_iload_n hx hb d_M_commit_1 rfl (lv_at hl 1 rfl) ?_
  refine vp_callSi (W.runS (As := [.int p0]) (rest := [.ref (a 0)]) ⟨hx, hb, hml, hown, hw⟩ (c_M_isOne l p0) (va_cwS 1 hw (kb_S kb_382 kb_383 kb_6 kb_384) rfl rfl rfl (by decide +kernel) ⟨Nat.le_of_ble_eq_true rfl, Nat.le_of_ble_eq_true rfl⟩) preEq rfl rfl hl.1 rfl (lv_room (Nat.le_of_ble_eq_true rfl)) d_M_commit_2 ⟨Nat.le_of_ble_eq_true rfl, Nat.le_of_ble_eq_true rfl⟩) (fun r_1 er_1 => ?_)
  rcases er_1 with ⟨rfl, hp_p0⟩ | ⟨rfl, hp_p0⟩
  · skip
    obtain ⟨g, hg, rfl⟩ := vp_in_of hp_p0 (by decide)
    have hcg : (nI g).toNatClampNeg = g := nI_clamp (by omega)
    refine lv_if_eq (tgt := 40) hx hb d_M_commit_5 (by decide) (fun c_1 => absurd c_1 (by decide)) (fun c_1 => ?_)
    refine lv_iload_n hx hb d_M_commit_8 rfl (lv_at hl 2 rfl) ?_
    refine vp_callSi (W.runS (As := [.int p1]) (rest := [.ref (a 0)]) ⟨hx, hb, hml, hown, hw⟩ (c_M_isOne l p1) (va_cwS 1 hw (kb_S kb_382 kb_383 kb_6 kb_384) rfl rfl rfl (by decide +kernel) ⟨Nat.le_of_ble_eq_true rfl, Nat.le_of_ble_eq_true rfl⟩) preEq rfl rfl hl.1 rfl (lv_room (Nat.le_of_ble_eq_true rfl)) d_M_commit_9 ⟨Nat.le_of_ble_eq_true rfl, Nat.le_of_ble_eq_true rfl⟩) (fun r_2 er_2 => ?_)
    rcases er_2 with ⟨rfl, hp_p1⟩ | ⟨rfl, hp_p1⟩
    · skip
      obtain ⟨q, hq, rfl⟩ := vp_in_of hp_p1 (by decide)
      have hcq : (nI q).toNatClampNeg = q := nI_clamp (by omega)
      refine lv_if_eq (tgt := 40) hx hb d_M_commit_12 (by decide) (fun c_2 => absurd c_2 (by decide)) (fun c_2 => ?_)
      refine lv_iload hx hb d_M_commit_15 (lv_at hl 4 rfl) ?_
      refine lv_if_lt (tgt := 40) hx hb d_M_commit_17 (by decide) (fun c_3 => ?_) (fun c_3 => ?_)
      · refine lv_iconst (v := 0) hx hb d_M_commit_40 (by decide) ?_
        refine kc_i (Wd := mwv cI cJ cZ a) (va_runV (As := [.int 0]) (rest := []) ⟨hx, hb, hml, hown, hw⟩ (c_M_goes0 l hnd co lg tm rm no M _) (cwV 1 hw (kb_V kb_385 kb_387 kb_s5 kb_6 kb_388) rfl rfl rfl (by decide +kernel) ⟨Nat.le_of_ble_eq_true rfl, Nat.le_of_ble_eq_true rfl⟩) (kPV (va_recv hK hP (ci := 3) (q0 := 0) rfl rfl) hP hK) rfl rfl hl.1 rfl (lv_room (Nat.le_of_ble_eq_true rfl)) d_M_commit_41 ⟨Nat.le_of_ble_eq_true rfl, Nat.le_of_ble_eq_true rfl⟩) hS hA hAL (fun r_4 u_3 H locs hw9 hP _ _ hS => ?_)
        obtain ⟨rfl, rfl⟩ := hw9
        have hP : va_P (dC, dI) vwCl (mw cI cJ cZ a 1 lg tm rm no M) _ := hP
        refine lv_if_ne (tgt := 49) hx hb d_M_commit_44 (by decide) (fun c_4 => absurd c_4 (by decide)) (fun c_4 => ?_)
        refine lv_iconst (v := 0) hx hb d_M_commit_47 (by decide) ?_
        exact W.iret (v := 0) hx hb hr (fun t ht hW => ⟨⟨_, (1, lg, tm, rm, no, M), rfl, Or.inr ⟨fun h => h.2.2.1.1 c_3, rfl⟩, by show va_P _ _ _ t.heap; rw [ht]; exact hP⟩, hS.F ht⟩) hS.2.2 d_M_commit_48
      · refine lv_iload hx hb d_M_commit_20 (lv_at hl 4 rfl) ?_
        refine lv_aload_n hx hb d_M_commit_22 rfl (lv_at hl 0 rfl) ?_
        refine va_get (D := (dC, dI)) (ci := 3) (v := .int lg) (C := R_M) (T := F_M) (N := 12) hx hb hw i_M hown hK hP 0 rfl rfl 1 (by decide) (hw _ kb_337) (fun _ h9 => h9) rfl d_M_commit_23 ?_
        refine lv_icmp_ge (tgt := 40) hx hb d_M_commit_26 (by decide) (fun c_5 => ?_) (fun c_5 => ?_)
        · refine lv_iconst (v := 0) hx hb d_M_commit_40 (by decide) ?_
          refine kc_i (Wd := mwv cI cJ cZ a) (va_runV (As := [.int 0]) (rest := []) ⟨hx, hb, hml, hown, hw⟩ (c_M_goes0 l hnd co lg tm rm no M _) (cwV 1 hw (kb_V kb_385 kb_387 kb_s5 kb_6 kb_388) rfl rfl rfl (by decide +kernel) ⟨Nat.le_of_ble_eq_true rfl, Nat.le_of_ble_eq_true rfl⟩) (kPV (va_recv hK hP (ci := 3) (q0 := 0) rfl rfl) hP hK) rfl rfl hl.1 rfl (lv_room (Nat.le_of_ble_eq_true rfl)) d_M_commit_41 ⟨Nat.le_of_ble_eq_true rfl, Nat.le_of_ble_eq_true rfl⟩) hS hA hAL (fun r_6 u_5 H locs hw9 hP _ _ hS => ?_)
          obtain ⟨rfl, rfl⟩ := hw9
          have hP : va_P (dC, dI) vwCl (mw cI cJ cZ a 1 lg tm rm no M) _ := hP
          refine lv_if_ne (tgt := 49) hx hb d_M_commit_44 (by decide) (fun c_6 => absurd c_6 (by decide)) (fun c_6 => ?_)
          refine lv_iconst (v := 0) hx hb d_M_commit_47 (by decide) ?_
          exact W.iret (v := 0) hx hb hr (fun t ht hW => ⟨⟨_, (1, lg, tm, rm, no, M), rfl, Or.inr ⟨fun h => absurd h.2.2.1.2 (Int32.not_lt.mpr c_5), rfl⟩, by show va_P _ _ _ t.heap; rw [ht]; exact hP⟩, hS.F ht⟩) hS.2.2 d_M_commit_48
        · have hp_p3 : ¬ p3 < 0 ∧ p3 < lg := ⟨c_3, Int32.not_le.mp c_5⟩
          have hp_lg : p3 < lg := hp_p3.2
          obtain ⟨b, hb8, hbe⟩ := vp_in_of (k_in8 hlg hp_p3) (by decide)
          subst hbe
          have hcb : (nI b).toNatClampNeg = b := nI_clamp (by omega)
          refine lv_lload hx hb d_M_commit_29 (lv_at hl 5 rfl) ?_
          refine lv_lconst (v := 0) hx hb d_M_commit_31 (by decide) ?_
          refine W.lcmp hx hb d_M_commit_32 ?_
          refine lv_if_lt (tgt := 40) hx hb d_M_commit_33 (by decide) (fun c_7 => ?_) (fun c_7 => ?_)
          · refine lv_iconst (v := 0) hx hb d_M_commit_40 (by decide) ?_
            refine kc_i (Wd := mwv cI cJ cZ a) (va_runV (As := [.int 0]) (rest := []) ⟨hx, hb, hml, hown, hw⟩ (c_M_goes0 l hnd co lg tm rm no M _) (cwV 1 hw (kb_V kb_385 kb_387 kb_s5 kb_6 kb_388) rfl rfl rfl (by decide +kernel) ⟨Nat.le_of_ble_eq_true rfl, Nat.le_of_ble_eq_true rfl⟩) (kPV (va_recv hK hP (ci := 3) (q0 := 0) rfl rfl) hP hK) rfl rfl hl.1 rfl (lv_room (Nat.le_of_ble_eq_true rfl)) d_M_commit_41 ⟨Nat.le_of_ble_eq_true rfl, Nat.le_of_ble_eq_true rfl⟩) hS hA hAL (fun r_8 u_7 H locs hw9 hP _ _ hS => ?_)
            obtain ⟨rfl, rfl⟩ := hw9
            have hP : va_P (dC, dI) vwCl (mw cI cJ cZ a 1 lg tm rm no M) _ := hP
            refine lv_if_ne (tgt := 49) hx hb d_M_commit_44 (by decide) (fun c_8 => absurd c_8 (by decide)) (fun c_8 => ?_)
            refine lv_iconst (v := 0) hx hb d_M_commit_47 (by decide) ?_
            exact W.iret (v := 0) hx hb hr (fun t ht hW => ⟨⟨_, (1, lg, tm, rm, no, M), rfl, Or.inr ⟨fun h => absurd (k_lc.mpr h.2.2.2) (Int32.not_le.mpr c_7), rfl⟩, by show va_P _ _ _ t.heap; rw [ht]; exact hP⟩, hS.F ht⟩) hS.2.2 d_M_commit_48
          · refine lv_iconst (v := 1) hx hb d_M_commit_36 (by decide) ?_
            refine lv_goto (tgt := 41) hx hb d_M_commit_37 (by decide) ?_
            refine kc_i (Wd := mwv cI cJ cZ a) (va_runV (As := [.int 1]) (rest := []) ⟨hx, hb, hml, hown, hw⟩ (c_M_goes1 l hnd co lg tm rm no M _) (cwV 1 hw (kb_V kb_385 kb_387 kb_s5 kb_6 kb_388) rfl rfl rfl (by decide +kernel) ⟨Nat.le_of_ble_eq_true rfl, Nat.le_of_ble_eq_true rfl⟩) (kPV (va_recv hK hP (ci := 3) (q0 := 0) rfl rfl) hP hK) rfl rfl hl.1 rfl (lv_room (Nat.le_of_ble_eq_true rfl)) d_M_commit_41 ⟨Nat.le_of_ble_eq_true rfl, Nat.le_of_ble_eq_true rfl⟩) hS hA hAL (fun r_10 u_9 H locs hw9 hP _ _ hS => ?_)
            obtain ⟨rfl, rfl⟩ := hw9
            have hP : va_P (dC, dI) vwCl (mw cI cJ cZ a 0 lg tm rm no M) _ := hP
            rw [← mv_at M g] at hP
            generalize hMg : M g = gv at hP
            obtain ⟨x0, x1, x2, x3, x4, x5, x6⟩ := gv
            have hMu : va_up M g (x0, x1, x2, x3, x4, x5, x6) = M := by rw [← hMg]; exact mv_at M g
            refine lv_if_ne (tgt := 49) hx hb d_M_commit_44 (by decide) (fun c_9 => ?_) (fun c_9 => absurd c_9 (by decide))
            refine lv_aload_n hx hb d_M_commit_49 rfl (lv_at hl 0 rfl) ?_
            refine va_get (D := (dC, dI)) (ci := 3) (v := .ref (a 4)) (C := R_M) (T := F_M) (N := 12) hx hb hw i_M hown hK hP 0 rfl rfl 8 (by decide) (hw _ kb_344) (fun _ h9 => h9) rfl d_M_commit_50 ?_
            refine lv_bipush (v := 8) hx hb d_M_commit_53 (by decide) ?_
            refine lv_iload_n hx hb d_M_commit_55 rfl (lv_at hl 1 rfl) ?_
            refine lv_imul hx hb d_M_commit_56 ?_
            refine lv_iload_n hx hb d_M_commit_57 rfl (lv_at hl 2 rfl) ?_
            refine lv_iadd hx hb d_M_commit_58 ?_
            refine ml_me (i := q) hx hb hK hP hg hq d_M_commit_59 ?_
            refine lv_if_ne (tgt := 66) hx hb d_M_commit_60 (by decide) (fun c_10 => ?_) (fun c_10 => ?_)
            · refine lv_iload_n hx hb d_M_commit_66 rfl (lv_at hl 3 rfl) ?_
              refine lv_aload_n hx hb d_M_commit_67 rfl (lv_at hl 0 rfl) ?_
              refine va_get (D := (dC, dI)) (ci := 3) (v := .ref (a 2)) (C := R_M) (T := F_M) (N := 12) hx hb hw i_M hown hK hP 0 rfl rfl 6 (by decide) (hw _ kb_342) (fun _ h9 => h9) rfl d_M_commit_68 ?_
              refine lv_iload_n hx hb d_M_commit_71 rfl (lv_at hl 1 rfl) ?_
              refine ml_ge hx hb hK hP hg d_M_commit_72 ?_
              refine lv_icmp_eq (tgt := 79) hx hb d_M_commit_73 (by decide) (fun c_11 => ?_) (fun c_11 => ?_)
              · refine lv_aload_n hx hb d_M_commit_79 rfl (lv_at hl 0 rfl) ?_
                refine va_get (D := (dC, dI)) (ci := 3) (v := .ref (a 1)) (C := R_M) (T := F_M) (N := 12) hx hb hw i_M hown hK hP 0 rfl rfl 5 (by decide) (hw _ kb_341) (fun _ h9 => h9) rfl d_M_commit_80 ?_
                refine lv_iload_n hx hb d_M_commit_83 rfl (lv_at hl 1 rfl) ?_
                refine ml_st hx hb hK hP hg d_M_commit_84 ?_
                refine lv_iconst (v := 2) hx hb d_M_commit_85 (by decide) ?_
                refine lv_icmp_eq (tgt := 92) hx hb d_M_commit_86 (by decide) (fun c_12 => ?_) (fun c_12 => ?_)
                · refine lv_aload_n hx hb d_M_commit_92 rfl (lv_at hl 0 rfl) ?_
                  refine lv_iload_n hx hb d_M_commit_93 rfl (lv_at hl 1 rfl) ?_
                  refine lv_iload hx hb d_M_commit_94 (lv_at hl 4 rfl) ?_
                  refine vp_callSi (W.runV (As := [.int (nI g), .int (nI b)]) (rest := []) ⟨hx, hb, hml, hown, hw⟩ (c_M_owner l hnd 0 lg tm rm no M hg x0 x1 x2 x3 x4 x5 x6 hb8 ⟨_, hq, c_10⟩ _) (cwV 2 hw (kb_V kb_429 kb_431 kb_s13 kb_6 kb_432) rfl rfl rfl (by decide +kernel) ⟨Nat.le_of_ble_eq_true rfl, Nat.le_of_ble_eq_true rfl⟩) (kPV (va_recv hK hP (ci := 3) (q0 := 0) rfl rfl) hP hK) rfl rfl hl.1 rfl (lv_room (Nat.le_of_ble_eq_true rfl)) d_M_commit_96 ⟨Nat.le_of_ble_eq_true rfl, Nat.le_of_ble_eq_true rfl⟩) (fun r_11 er_11 => ?_)
                  subst er_11
                  refine lv_iload_n hx hb d_M_commit_99 rfl (lv_at hl 2 rfl) ?_
                  refine lv_icmp_eq (tgt := 106) hx hb d_M_commit_100 (by decide) (fun c_13 => ?_) (fun c_13 => ?_)
                  · refine lv_aload_n hx hb d_M_commit_106 rfl (lv_at hl 0 rfl) ?_
                    refine kc_i (Wd := mwv cI cJ cZ a) (va_runV (As := []) (rest := []) ⟨hx, hb, hml, hown, hw⟩ (c_M_takesNote l hnd 0 lg tm rm no (va_up M g (x0, x1, x2, x3, x4, x5, x6)) _) (cwV 0 hw (kb_V kb_409 kb_411 kb_s11 kb_6 kb_412) rfl rfl rfl (by decide +kernel) ⟨Nat.le_of_ble_eq_true rfl, Nat.le_of_ble_eq_true rfl⟩) (kPV (va_recv hK hP (ci := 3) (q0 := 0) rfl rfl) hP hK) rfl rfl hl.1 rfl (lv_room (Nat.le_of_ble_eq_true rfl)) d_M_commit_107 ⟨Nat.le_of_ble_eq_true rfl, Nat.le_of_ble_eq_true rfl⟩) hS hA hAL (fun r_13 u_12 H locs hw9 hP _ _ hS => ?_)
                    obtain ⟨rfl, rfl⟩ := hw9
                    generalize hq_14 : mn_take rm no = z_14 at hP ⊢
                    obtain ⟨r_14, rm_14, no_14⟩ := z_14
                    have hP : va_P (dC, dI) vwCl (mw cI cJ cZ a 0 lg tm rm_14 no_14 (va_up M g (x0, x1, x2, x3, x4, x5, x6))) _ := hP
                    refine lv_if_ne (tgt := 116) hx hb d_M_commit_110 (by decide) (fun c_14 => ?_) (fun c_14 => ?_)
                    · refine lv_aload_n hx hb d_M_commit_116 rfl (lv_at hl 0 rfl) ?_
                      refine va_get (D := (dC, dI)) (ci := 3) (v := .ref (a 7)) (C := R_M) (T := F_M) (N := 12) hx hb hw i_M hown hK hP 0 rfl rfl 11 (by decide) (hw _ kb_347) (fun _ h9 => h9) rfl d_M_commit_117 ?_
                      refine lv_bipush (v := 8) hx hb d_M_commit_120 (by decide) ?_
                      refine lv_iload_n hx hb d_M_commit_122 rfl (lv_at hl 1 rfl) ?_
                      refine lv_imul hx hb d_M_commit_123 ?_
                      refine lv_iload hx hb d_M_commit_124 (lv_at hl 4 rfl) ?_
                      refine lv_iadd hx hb d_M_commit_126 ?_
                      refine lv_lload hx hb d_M_commit_127 (lv_at hl 5 rfl) ?_
                      refine ms_of (i := b) (v := p4) hx hb hK hP hnd hAL hS hg hb8 d_M_commit_129 (fun H locs hP hS => ?_)
                      refine lv_aload_n hx hb d_M_commit_130 rfl (lv_at hl 0 rfl) ?_
                      refine va_get (D := (dC, dI)) (ci := 3) (v := .ref (a 6)) (C := R_M) (T := F_M) (N := 12) hx hb hw i_M hown hK hP 0 rfl rfl 10 (by decide) (hw _ kb_346) (fun _ h9 => h9) rfl d_M_commit_131 ?_
                      refine lv_bipush (v := 8) hx hb d_M_commit_134 (by decide) ?_
                      refine lv_iload_n hx hb d_M_commit_136 rfl (lv_at hl 1 rfl) ?_
                      refine lv_imul hx hb d_M_commit_137 ?_
                      refine lv_iload_n hx hb d_M_commit_138 rfl (lv_at hl 2 rfl) ?_
                      refine lv_iadd hx hb d_M_commit_139 ?_
                      refine lv_aload_n hx hb d_M_commit_140 rfl (lv_at hl 0 rfl) ?_
                      refine va_get (D := (dC, dI)) (ci := 3) (v := .int tm) (C := R_M) (T := F_M) (N := 12) hx hb hw i_M hown hK hP 0 rfl rfl 2 (by decide) (hw _ kb_338) (fun _ h9 => h9) rfl d_M_commit_141 ?_
                      refine ms_he (i := q) (v := tm) hx hb hK hP hnd hAL hS hg hq d_M_commit_144 (fun H locs hP hS => ?_)
                      refine lv_iconst (v := 0) hx hb d_M_commit_145 (by decide) ?_
                      exact W.iret (v := 0) hx hb hr (fun t ht hW => ⟨⟨_, (0, lg, tm, rm_14, no_14, (va_up M g (x0, x1, x2, x3, x4, upd x5 q tm, vp_updL x6 b p4))), rfl, Or.inl ⟨⟨hp_p0, hp_p1, hp_p3, k_lc.mp (Int32.not_lt.mp c_7)⟩, by first | (simp only [md_commit, mg_hear, mg_off, hcg, hcq, if_neg c_3, hcb, if_neg c_5, if_neg c_7, hMg, hMu, if_neg c_10, if_pos c_11, if_pos c_12, if_pos c_13, hq_14, if_neg c_14]; done) | (simp [md_commit, mg_hear, mg_off, hcg, hcq, c_3, hcb, c_5, c_7, hMg, hMu, c_10, c_11, c_12, c_13, hq_14, c_14]; done)⟩, by show va_P _ _ _ t.heap; rw [ht]; exact hP⟩, hS.F ht⟩) hS.2.2 d_M_commit_146
                    · refine lv_bipush (v := (-2)) hx hb d_M_commit_113 (by decide) ?_
                      exact W.iret (v := (-2)) hx hb hr (fun t ht hW => ⟨⟨_, (0, lg, tm, rm_14, no_14, (va_up M g (x0, x1, x2, x3, x4, x5, x6))), rfl, Or.inl ⟨⟨hp_p0, hp_p1, hp_p3, k_lc.mp (Int32.not_lt.mp c_7)⟩, by first | (simp only [md_commit, mg_hear, mg_off, hcg, hcq, if_neg c_3, hcb, if_neg c_5, if_neg c_7, hMg, hMu, if_neg c_10, if_pos c_11, if_pos c_12, if_pos c_13, hq_14, if_pos c_14]; done) | (simp [md_commit, mg_hear, mg_off, hcg, hcq, c_3, hcb, c_5, c_7, hMg, hMu, c_10, c_11, c_12, c_13, hq_14, c_14]; done)⟩, by show va_P _ _ _ t.heap; rw [ht]; exact hP⟩, hS.F ht⟩) hS.2.2 d_M_commit_115
                  · refine lv_bipush (v := (-11)) hx hb d_M_commit_103 (by decide) ?_
                    exact W.iret (v := (-11)) hx hb hr (fun t ht hW => ⟨⟨_, (0, lg, tm, rm, no, (va_up M g (x0, x1, x2, x3, x4, x5, x6))), rfl, Or.inl ⟨⟨hp_p0, hp_p1, hp_p3, k_lc.mp (Int32.not_lt.mp c_7)⟩, by first | (simp only [md_commit, mg_hear, mg_off, hcg, hcq, if_neg c_3, hcb, if_neg c_5, if_neg c_7, hMg, hMu, if_neg c_10, if_pos c_11, if_pos c_12, if_neg c_13]; done) | (simp [md_commit, mg_hear, mg_off, hcg, hcq, c_3, hcb, c_5, c_7, hMg, hMu, c_10, c_11, c_12, c_13]; done)⟩, by show va_P _ _ _ t.heap; rw [ht]; exact hP⟩, hS.F ht⟩) hS.2.2 d_M_commit_105
                · refine lv_bipush (v := (-10)) hx hb d_M_commit_89 (by decide) ?_
                  exact W.iret (v := (-10)) hx hb hr (fun t ht hW => ⟨⟨_, (0, lg, tm, rm, no, (va_up M g (x0, x1, x2, x3, x4, x5, x6))), rfl, Or.inl ⟨⟨hp_p0, hp_p1, hp_p3, k_lc.mp (Int32.not_lt.mp c_7)⟩, by first | (simp only [md_commit, mg_hear, mg_off, hcg, hcq, if_neg c_3, hcb, if_neg c_5, if_neg c_7, hMg, hMu, if_neg c_10, if_pos c_11, if_neg c_12]; done) | (simp [md_commit, mg_hear, mg_off, hcg, hcq, c_3, hcb, c_5, c_7, hMg, hMu, c_10, c_11, c_12]; done)⟩, by show va_P _ _ _ t.heap; rw [ht]; exact hP⟩, hS.F ht⟩) hS.2.2 d_M_commit_91
              · refine lv_bipush (v := (-9)) hx hb d_M_commit_76 (by decide) ?_
                exact W.iret (v := (-9)) hx hb hr (fun t ht hW => ⟨⟨_, (0, lg, tm, rm, no, (va_up M g (x0, x1, x2, x3, x4, x5, x6))), rfl, Or.inl ⟨⟨hp_p0, hp_p1, hp_p3, k_lc.mp (Int32.not_lt.mp c_7)⟩, by first | (simp only [md_commit, mg_hear, mg_off, hcg, hcq, if_neg c_3, hcb, if_neg c_5, if_neg c_7, hMg, hMu, if_neg c_10, if_neg c_11]; done) | (simp [md_commit, mg_hear, mg_off, hcg, hcq, c_3, hcb, c_5, c_7, hMg, hMu, c_10, c_11]; done)⟩, by show va_P _ _ _ t.heap; rw [ht]; exact hP⟩, hS.F ht⟩) hS.2.2 d_M_commit_78
            · refine lv_bipush (v := (-8)) hx hb d_M_commit_63 (by decide) ?_
              exact W.iret (v := (-8)) hx hb hr (fun t ht hW => ⟨⟨_, (0, lg, tm, rm, no, (va_up M g (x0, x1, x2, x3, x4, x5, x6))), rfl, Or.inl ⟨⟨hp_p0, hp_p1, hp_p3, k_lc.mp (Int32.not_lt.mp c_7)⟩, by first | (simp only [md_commit, mg_hear, mg_off, hcg, hcq, if_neg c_3, hcb, if_neg c_5, if_neg c_7, hMg, hMu, if_pos c_10]; done) | (simp [md_commit, mg_hear, mg_off, hcg, hcq, c_3, hcb, c_5, c_7, hMg, hMu, c_10]; done)⟩, by show va_P _ _ _ t.heap; rw [ht]; exact hP⟩, hS.F ht⟩) hS.2.2 d_M_commit_65
    · skip
      refine lv_if_eq (tgt := 40) hx hb d_M_commit_12 (by decide) (fun c_15 => ?_) (fun c_15 => absurd c_15 (by decide))
      refine lv_iconst (v := 0) hx hb d_M_commit_40 (by decide) ?_
      refine kc_i (Wd := mwv cI cJ cZ a) (va_runV (As := [.int 0]) (rest := []) ⟨hx, hb, hml, hown, hw⟩ (c_M_goes0 l hnd co lg tm rm no M _) (cwV 1 hw (kb_V kb_385 kb_387 kb_s5 kb_6 kb_388) rfl rfl rfl (by decide +kernel) ⟨Nat.le_of_ble_eq_true rfl, Nat.le_of_ble_eq_true rfl⟩) (kPV (va_recv hK hP (ci := 3) (q0 := 0) rfl rfl) hP hK) rfl rfl hl.1 rfl (lv_room (Nat.le_of_ble_eq_true rfl)) d_M_commit_41 ⟨Nat.le_of_ble_eq_true rfl, Nat.le_of_ble_eq_true rfl⟩) hS hA hAL (fun r_16 u_15 H locs hw9 hP _ _ hS => ?_)
      obtain ⟨rfl, rfl⟩ := hw9
      have hP : va_P (dC, dI) vwCl (mw cI cJ cZ a 1 lg tm rm no M) _ := hP
      refine lv_if_ne (tgt := 49) hx hb d_M_commit_44 (by decide) (fun c_16 => absurd c_16 (by decide)) (fun c_16 => ?_)
      refine lv_iconst (v := 0) hx hb d_M_commit_47 (by decide) ?_
      exact W.iret (v := 0) hx hb hr (fun t ht hW => ⟨⟨_, (1, lg, tm, rm, no, M), rfl, Or.inr ⟨fun h => hp_p1 h.2.1, rfl⟩, by show va_P _ _ _ t.heap; rw [ht]; exact hP⟩, hS.F ht⟩) hS.2.2 d_M_commit_48
  · skip
    refine lv_if_eq (tgt := 40) hx hb d_M_commit_5 (by decide) (fun c_17 => ?_) (fun c_17 => absurd c_17 (by decide))
    refine lv_iconst (v := 0) hx hb d_M_commit_40 (by decide) ?_
    refine kc_i (Wd := mwv cI cJ cZ a) (va_runV (As := [.int 0]) (rest := []) ⟨hx, hb, hml, hown, hw⟩ (c_M_goes0 l hnd co lg tm rm no M _) (cwV 1 hw (kb_V kb_385 kb_387 kb_s5 kb_6 kb_388) rfl rfl rfl (by decide +kernel) ⟨Nat.le_of_ble_eq_true rfl, Nat.le_of_ble_eq_true rfl⟩) (kPV (va_recv hK hP (ci := 3) (q0 := 0) rfl rfl) hP hK) rfl rfl hl.1 rfl (lv_room (Nat.le_of_ble_eq_true rfl)) d_M_commit_41 ⟨Nat.le_of_ble_eq_true rfl, Nat.le_of_ble_eq_true rfl⟩) hS hA hAL (fun r_18 u_17 H locs hw9 hP _ _ hS => ?_)
    obtain ⟨rfl, rfl⟩ := hw9
    have hP : va_P (dC, dI) vwCl (mw cI cJ cZ a 1 lg tm rm no M) _ := hP
    refine lv_if_ne (tgt := 49) hx hb d_M_commit_44 (by decide) (fun c_18 => absurd c_18 (by decide)) (fun c_18 => ?_)
    refine lv_iconst (v := 0) hx hb d_M_commit_47 (by decide) ?_
    exact W.iret (v := 0) hx hb hr (fun t ht hW => ⟨⟨_, (1, lg, tm, rm, no, M), rfl, Or.inr ⟨fun h => hp_p0 h.1, rfl⟩, by show va_P _ _ _ t.heap; rw [ht]; exact hP⟩, hS.F ht⟩) hS.2.2 d_M_commit_48
set_option maxHeartbeats 4000000 in
set_option maxRecDepth 100000 in
theorem c_M_committed (l : Launch) {dC : Nat → ClassId} {dI : Nat → Nat → Nat} {cI cJ cZ : ClassId} {a : Nat → Nat} (hnd : (mad a).Nodup) (co lg tm rm no : Int32) (M : Nat → mGV) (p0 : Int32) (p1 : Int32) (hlg : ∃ n : Nat, n ≤ 8 ∧ lg = nI n) (sz : Nat) : Met l y_M_committed w_M_committed ({ frames := 1, cells := 0, slots := 0, locals := 30 }) (kPre (dC, dI) vwCl (mty cI cJ cZ) [.ref (a 0), .int p0, .int p1] sz (mw cI cJ cZ a co lg tm rm no M)) (va_Ql (fun (r : Int64) (u : mDV) => ((vp_in p0 8 ∧ (¬ p1 < 0 ∧ p1 < lg)) ∧ (r = (M p0.toNatClampNeg).2.2.2.2.2.2 p1.toNatClampNeg ∧ u = (0, lg, tm, rm, no, M))) ∨ (¬ (vp_in p0 8 ∧ (¬ p1 < 0 ∧ p1 < lg)) ∧ u = (1, lg, tm, rm, no, M))) (fun u t => va_P (dC, dI) vwCl (mwv cI cJ cZ a u) t.heap) (kA (mad a) sz)) 0 0 (kA (mad a) sz) := by
  refine Met.ofW (cc := b_M_committed) (maxL := 3) (ret := (some .long)) (by decide) rfl ?_
  intro p e s m args below meth c s₁ B hml hv
  obtain ⟨rfl, hsz, hP, hK⟩ := hv
  have hx := B.exec
  have hb := B.bytes
  have hr := B.returns
  have hts := atoms_spec (ws := w_M_committed) B.pre
  have hw := fun (w : Cond) (h : w ∈ kb_B) => hts w (List.mem_cons_of_mem _ h)
  have hown : s.vm.findClass R_M = some m.cls := findClass_of_methodNamed B.named
  have hlocks := B.notSynchronized
  subst hsz
  generalize hAe : kA (mad a) s.heap.size = A
  have hA : ∀ q : Nat, s.heap.size ≤ q → A q := fun q h => by rw [← hAe]; exact Or.inr h
  have hAL : ∀ q ∈ (mad a), A q := fun q h => by rw [← hAe]; exact Or.inl h
  have hS : va_S A s.heap s.heap [] := va_S.rf
  have hl := lv_entry ([.ref (a 0), .int p0, .int p1]) (n := 3) (Nat.le_of_ble_eq_true rfl)
  rw [lg_entry_eq]
  generalize (lg_sl ([.ref (a 0), .int p0, .int p1]) ++ List.replicate (3 - (lg_sl ([.ref (a 0), .int p0, .int p1])).length) Slot.unset).toArray = ls at hl ⊢
  have hl : lv_has ls 3 [(0, .ref (a 0)), (1, .int p0), (2, .int p1)] := hl
  refine lv_aload_n hx hb d_M_committed_0 rfl (lv_at hl 0 rfl) ?_
  refine lv_iload_n hx hb d_M_committed_1 rfl (lv_at hl 1 rfl) ?_
  refine vp_callSi (W.runS (As := [.int p0]) (rest := [.ref (a 0)]) ⟨hx, hb, hml, hown, hw⟩ (c_M_isOne l p0) (va_cwS 1 hw (kb_S kb_382 kb_383 kb_6 kb_384) rfl rfl rfl (by decide +kernel) ⟨Nat.le_of_ble_eq_true rfl, Nat.le_of_ble_eq_true rfl⟩) preEq rfl rfl hl.1 rfl (lv_room (Nat.le_of_ble_eq_true rfl)) d_M_committed_2 ⟨Nat.le_of_ble_eq_true rfl, Nat.le_of_ble_eq_true rfl⟩) (fun r_1 er_1 => ?_)
  rcases er_1 with ⟨rfl, hp_p0⟩ | ⟨rfl, hp_p0⟩
  · skip
    obtain ⟨g, hg, rfl⟩ := vp_in_of hp_p0 (by decide)
    have hcg : (nI g).toNatClampNeg = g := nI_clamp (by omega)
    refine lv_if_eq (tgt := 24) hx hb d_M_committed_5 (by decide) (fun c_1 => absurd c_1 (by decide)) (fun c_1 => ?_)
    refine lv_iload_n hx hb d_M_committed_8 rfl (lv_at hl 2 rfl) ?_
    refine lv_if_lt (tgt := 24) hx hb d_M_committed_9 (by decide) (fun c_2 => ?_) (fun c_2 => ?_)
    · refine lv_iconst (v := 1) hx hb d_M_committed_24 (by decide) ?_
      refine va_put (D := (dC, dI)) (ci := 3) (v := .int 1) (ty := .int) (C := R_M) (T := F_M) (N := 12) hx hb hw i_M t_M t_M_ok n_M hown hK hP (mw_D hnd hAL) hS 0 rfl rfl 0 (by decide) (hw _ kb_336) (fun _ h9 => h9) rfl (by decide +kernel) rfl rfl (Nat.le_of_ble_eq_true rfl) d_M_committed_25 (fun H locs hP _ hS => ?_)
      have hP : va_P (dC, dI) vwCl (mw cI cJ cZ a 1 lg tm rm no M) _ := hP
      refine lv_aload_n hx hb d_M_committed_28 rfl (lv_at hl 0 rfl) ?_
      refine va_get (D := (dC, dI)) (ci := 3) (v := .int 1) (C := R_M) (T := F_M) (N := 12) hx hb hw i_M hown hK hP 0 rfl rfl 0 (by decide) (hw _ kb_336) (fun _ h9 => h9) rfl d_M_committed_29 ?_
      refine lv_if_le (tgt := 39) hx hb d_M_committed_32 (by decide) (fun c_3 => absurd c_3 (by decide)) (fun c_3 => ?_)
      refine lv_lconst (v := 0) hx hb d_M_committed_35 (by decide) ?_
      refine lv_goto (tgt := 50) hx hb d_M_committed_36 (by decide) ?_
      exact W.lret (v := 0) hx hb hr (fun t ht hW => ⟨⟨_, (1, lg, tm, rm, no, M), rfl, Or.inr ⟨fun h => h.2.1 c_2, rfl⟩, by show va_P _ _ _ t.heap; rw [ht]; exact hP⟩, hS.F ht⟩) hS.2.2 d_M_committed_50
    · refine lv_iload_n hx hb d_M_committed_12 rfl (lv_at hl 2 rfl) ?_
      refine lv_aload_n hx hb d_M_committed_13 rfl (lv_at hl 0 rfl) ?_
      refine va_get (D := (dC, dI)) (ci := 3) (v := .int lg) (C := R_M) (T := F_M) (N := 12) hx hb hw i_M hown hK hP 0 rfl rfl 1 (by decide) (hw _ kb_337) (fun _ h9 => h9) rfl d_M_committed_14 ?_
      refine lv_icmp_ge (tgt := 24) hx hb d_M_committed_17 (by decide) (fun c_4 => ?_) (fun c_4 => ?_)
      · refine lv_iconst (v := 1) hx hb d_M_committed_24 (by decide) ?_
        refine va_put (D := (dC, dI)) (ci := 3) (v := .int 1) (ty := .int) (C := R_M) (T := F_M) (N := 12) hx hb hw i_M t_M t_M_ok n_M hown hK hP (mw_D hnd hAL) hS 0 rfl rfl 0 (by decide) (hw _ kb_336) (fun _ h9 => h9) rfl (by decide +kernel) rfl rfl (Nat.le_of_ble_eq_true rfl) d_M_committed_25 (fun H locs hP _ hS => ?_)
        have hP : va_P (dC, dI) vwCl (mw cI cJ cZ a 1 lg tm rm no M) _ := hP
        refine lv_aload_n hx hb d_M_committed_28 rfl (lv_at hl 0 rfl) ?_
        refine va_get (D := (dC, dI)) (ci := 3) (v := .int 1) (C := R_M) (T := F_M) (N := 12) hx hb hw i_M hown hK hP 0 rfl rfl 0 (by decide) (hw _ kb_336) (fun _ h9 => h9) rfl d_M_committed_29 ?_
        refine lv_if_le (tgt := 39) hx hb d_M_committed_32 (by decide) (fun c_5 => absurd c_5 (by decide)) (fun c_5 => ?_)
        refine lv_lconst (v := 0) hx hb d_M_committed_35 (by decide) ?_
        refine lv_goto (tgt := 50) hx hb d_M_committed_36 (by decide) ?_
        exact W.lret (v := 0) hx hb hr (fun t ht hW => ⟨⟨_, (1, lg, tm, rm, no, M), rfl, Or.inr ⟨fun h => absurd h.2.2 (Int32.not_lt.mpr c_4), rfl⟩, by show va_P _ _ _ t.heap; rw [ht]; exact hP⟩, hS.F ht⟩) hS.2.2 d_M_committed_50
      · have hp_p1 : ¬ p1 < 0 ∧ p1 < lg := ⟨c_2, Int32.not_le.mp c_4⟩
        have hp_lg : p1 < lg := hp_p1.2
        obtain ⟨b, hb8, hbe⟩ := vp_in_of (k_in8 hlg hp_p1) (by decide)
        subst hbe
        have hcb : (nI b).toNatClampNeg = b := nI_clamp (by omega)
        rw [← mv_at M g] at hP
        generalize hMg : M g = gv at hP
        obtain ⟨x0, x1, x2, x3, x4, x5, x6⟩ := gv
        have hMu : va_up M g (x0, x1, x2, x3, x4, x5, x6) = M := by rw [← hMg]; exact mv_at M g
        refine lv_iconst (v := 0) hx hb d_M_committed_20 (by decide) ?_
        refine lv_goto (tgt := 25) hx hb d_M_committed_21 (by decide) ?_
        refine va_put (D := (dC, dI)) (ci := 3) (v := .int 0) (ty := .int) (C := R_M) (T := F_M) (N := 12) hx hb hw i_M t_M t_M_ok n_M hown hK hP (mw_D hnd hAL) hS 0 rfl rfl 0 (by decide) (hw _ kb_336) (fun _ h9 => h9) rfl (by decide +kernel) rfl rfl (Nat.le_of_ble_eq_true rfl) d_M_committed_25 (fun H locs hP _ hS => ?_)
        have hP : va_P (dC, dI) vwCl (mw cI cJ cZ a 0 lg tm rm no (va_up M g (x0, x1, x2, x3, x4, x5, x6))) _ := hP
        refine lv_aload_n hx hb d_M_committed_28 rfl (lv_at hl 0 rfl) ?_
        refine va_get (D := (dC, dI)) (ci := 3) (v := .int 0) (C := R_M) (T := F_M) (N := 12) hx hb hw i_M hown hK hP 0 rfl rfl 0 (by decide) (hw _ kb_336) (fun _ h9 => h9) rfl d_M_committed_29 ?_
        refine lv_if_le (tgt := 39) hx hb d_M_committed_32 (by decide) (fun c_6 => ?_) (fun c_6 => absurd c_6 (by decide))
        refine lv_aload_n hx hb d_M_committed_39 rfl (lv_at hl 0 rfl) ?_
        refine va_get (D := (dC, dI)) (ci := 3) (v := .ref (a 7)) (C := R_M) (T := F_M) (N := 12) hx hb hw i_M hown hK hP 0 rfl rfl 11 (by decide) (hw _ kb_347) (fun _ h9 => h9) rfl d_M_committed_40 ?_
        refine lv_bipush (v := 8) hx hb d_M_committed_43 (by decide) ?_
        refine lv_iload_n hx hb d_M_committed_45 rfl (lv_at hl 1 rfl) ?_
        refine lv_imul hx hb d_M_committed_46 ?_
        refine lv_iload_n hx hb d_M_committed_47 rfl (lv_at hl 2 rfl) ?_
        refine lv_iadd hx hb d_M_committed_48 ?_
        refine ml_of (i := b) hx hb hK hP hg hb8 d_M_committed_49 ?_
        exact W.lret (v := (x6 b)) hx hb hr (fun t ht hW => ⟨⟨_, (0, lg, tm, rm, no, (va_up M g (x0, x1, x2, x3, x4, x5, x6))), rfl, Or.inl ⟨⟨hp_p0, hp_p1⟩, by first | (simp only [hcg, if_neg c_2, hcb, hMg, hMu, if_neg c_4]; done) | (simp [hcg, c_2, hcb, hMg, hMu, c_4]; done)⟩, by show va_P _ _ _ t.heap; rw [ht]; exact hP⟩, hS.F ht⟩) hS.2.2 d_M_committed_50
  · skip
    refine lv_if_eq (tgt := 24) hx hb d_M_committed_5 (by decide) (fun c_7 => ?_) (fun c_7 => absurd c_7 (by decide))
    refine lv_iconst (v := 1) hx hb d_M_committed_24 (by decide) ?_
    refine va_put (D := (dC, dI)) (ci := 3) (v := .int 1) (ty := .int) (C := R_M) (T := F_M) (N := 12) hx hb hw i_M t_M t_M_ok n_M hown hK hP (mw_D hnd hAL) hS 0 rfl rfl 0 (by decide) (hw _ kb_336) (fun _ h9 => h9) rfl (by decide +kernel) rfl rfl (Nat.le_of_ble_eq_true rfl) d_M_committed_25 (fun H locs hP _ hS => ?_)
    have hP : va_P (dC, dI) vwCl (mw cI cJ cZ a 1 lg tm rm no M) _ := hP
    refine lv_aload_n hx hb d_M_committed_28 rfl (lv_at hl 0 rfl) ?_
    refine va_get (D := (dC, dI)) (ci := 3) (v := .int 1) (C := R_M) (T := F_M) (N := 12) hx hb hw i_M hown hK hP 0 rfl rfl 0 (by decide) (hw _ kb_336) (fun _ h9 => h9) rfl d_M_committed_29 ?_
    refine lv_if_le (tgt := 39) hx hb d_M_committed_32 (by decide) (fun c_8 => absurd c_8 (by decide)) (fun c_8 => ?_)
    refine lv_lconst (v := 0) hx hb d_M_committed_35 (by decide) ?_
    refine lv_goto (tgt := 50) hx hb d_M_committed_36 (by decide) ?_
    exact W.lret (v := 0) hx hb hr (fun t ht hW => ⟨⟨_, (1, lg, tm, rm, no, M), rfl, Or.inr ⟨fun h => hp_p0 h.1, rfl⟩, by show va_P _ _ _ t.heap; rw [ht]; exact hP⟩, hS.F ht⟩) hS.2.2 d_M_committed_50
set_option maxHeartbeats 4000000 in
set_option maxRecDepth 100000 in
theorem c_M_room (l : Launch) {dC : Nat → ClassId} {dI : Nat → Nat → Nat} {cI cJ cZ : ClassId} {a : Nat → Nat} (hnd : (mad a).Nodup) (co lg tm rm no : Int32) (M : Nat → mGV) (p0 : Int32) (sz : Nat) : Met l y_M_room w_M_room ({ frames := 1, cells := 0, slots := 0, locals := 30 }) (kPre (dC, dI) vwCl (mty cI cJ cZ) [.ref (a 0), .int p0] sz (mw cI cJ cZ a co lg tm rm no M)) (va_Qi (fun (r : Int32) (u : mDV) => ((¬ p0 < 0 ∧ p0 ≤ 100000) ∧ (r, u) = (rm, (0, lg, tm, p0, no, M))) ∨ (¬ (¬ p0 < 0 ∧ p0 ≤ 100000) ∧ u = (1, lg, tm, rm, no, M))) (fun u t => va_P (dC, dI) vwCl (mwv cI cJ cZ a u) t.heap) (kA (mad a) sz)) 0 0 (kA (mad a) sz) := by
  refine Met.ofW (cc := b_M_room) (maxL := 3) (ret := (some .int)) (by decide) rfl ?_
  intro p e s m args below meth c s₁ B hml hv
  obtain ⟨rfl, hsz, hP, hK⟩ := hv
  have hx := B.exec
  have hb := B.bytes
  have hr := B.returns
  have hts := atoms_spec (ws := w_M_room) B.pre
  have hw := fun (w : Cond) (h : w ∈ kb_B) => hts w (List.mem_cons_of_mem _ h)
  have hown : s.vm.findClass R_M = some m.cls := findClass_of_methodNamed B.named
  have hlocks := B.notSynchronized
  subst hsz
  generalize hAe : kA (mad a) s.heap.size = A
  have hA : ∀ q : Nat, s.heap.size ≤ q → A q := fun q h => by rw [← hAe]; exact Or.inr h
  have hAL : ∀ q ∈ (mad a), A q := fun q h => by rw [← hAe]; exact Or.inl h
  have hS : va_S A s.heap s.heap [] := va_S.rf
  have hl := lv_entry ([.ref (a 0), .int p0]) (n := 3) (Nat.le_of_ble_eq_true rfl)
  rw [lg_entry_eq]
  generalize (lg_sl ([.ref (a 0), .int p0]) ++ List.replicate (3 - (lg_sl ([.ref (a 0), .int p0])).length) Slot.unset).toArray = ls at hl ⊢
  have hl : lv_has ls 3 [(0, .ref (a 0)), (1, .int p0)] := hl
  refine lv_aload_n hx hb d_M_room_0 rfl (lv_at hl 0 rfl) ?_
  refine lv_iload_n hx hb d_M_room_1 rfl (lv_at hl 1 rfl) ?_
  refine lv_if_lt (tgt := 15) hx hb d_M_room_2 (by decide) (fun c_1 => ?_) (fun c_1 => ?_)
  · refine lv_iconst (v := 0) hx hb d_M_room_15 (by decide) ?_
    refine kc_i (Wd := mwv cI cJ cZ a) (va_runV (As := [.int 0]) (rest := []) ⟨hx, hb, hml, hown, hw⟩ (c_M_goes0 l hnd co lg tm rm no M _) (cwV 1 hw (kb_V kb_385 kb_387 kb_s5 kb_6 kb_388) rfl rfl rfl (by decide +kernel) ⟨Nat.le_of_ble_eq_true rfl, Nat.le_of_ble_eq_true rfl⟩) (kPV (va_recv hK hP (ci := 3) (q0 := 0) rfl rfl) hP hK) rfl rfl hl.1 rfl (lv_room (Nat.le_of_ble_eq_true rfl)) d_M_room_16 ⟨Nat.le_of_ble_eq_true rfl, Nat.le_of_ble_eq_true rfl⟩) hS hA hAL (fun r_2 u_1 H locs hw9 hP _ _ hS => ?_)
    obtain ⟨rfl, rfl⟩ := hw9
    have hP : va_P (dC, dI) vwCl (mw cI cJ cZ a 1 lg tm rm no M) _ := hP
    refine lv_if_ne (tgt := 24) hx hb d_M_room_19 (by decide) (fun c_2 => absurd c_2 (by decide)) (fun c_2 => ?_)
    refine lv_iconst (v := 0) hx hb d_M_room_22 (by decide) ?_
    exact W.iret (v := 0) hx hb hr (fun t ht hW => ⟨⟨_, (1, lg, tm, rm, no, M), rfl, Or.inr ⟨fun h => h.1 c_1, rfl⟩, by show va_P _ _ _ t.heap; rw [ht]; exact hP⟩, hS.F ht⟩) hS.2.2 d_M_room_23
  · refine lv_iload_n hx hb d_M_room_5 rfl (lv_at hl 1 rfl) ?_
    refine lv_ldc (v := 100000) hx hb hown (hw _ kb_449) d_M_room_6 ?_
    refine lv_icmp_gt (tgt := 15) hx hb d_M_room_8 (by decide) (fun c_3 => ?_) (fun c_3 => ?_)
    · refine lv_iconst (v := 0) hx hb d_M_room_15 (by decide) ?_
      refine kc_i (Wd := mwv cI cJ cZ a) (va_runV (As := [.int 0]) (rest := []) ⟨hx, hb, hml, hown, hw⟩ (c_M_goes0 l hnd co lg tm rm no M _) (cwV 1 hw (kb_V kb_385 kb_387 kb_s5 kb_6 kb_388) rfl rfl rfl (by decide +kernel) ⟨Nat.le_of_ble_eq_true rfl, Nat.le_of_ble_eq_true rfl⟩) (kPV (va_recv hK hP (ci := 3) (q0 := 0) rfl rfl) hP hK) rfl rfl hl.1 rfl (lv_room (Nat.le_of_ble_eq_true rfl)) d_M_room_16 ⟨Nat.le_of_ble_eq_true rfl, Nat.le_of_ble_eq_true rfl⟩) hS hA hAL (fun r_4 u_3 H locs hw9 hP _ _ hS => ?_)
      obtain ⟨rfl, rfl⟩ := hw9
      have hP : va_P (dC, dI) vwCl (mw cI cJ cZ a 1 lg tm rm no M) _ := hP
      refine lv_if_ne (tgt := 24) hx hb d_M_room_19 (by decide) (fun c_4 => absurd c_4 (by decide)) (fun c_4 => ?_)
      refine lv_iconst (v := 0) hx hb d_M_room_22 (by decide) ?_
      exact W.iret (v := 0) hx hb hr (fun t ht hW => ⟨⟨_, (1, lg, tm, rm, no, M), rfl, Or.inr ⟨fun h => absurd h.2 (Int32.not_le.mpr c_3), rfl⟩, by show va_P _ _ _ t.heap; rw [ht]; exact hP⟩, hS.F ht⟩) hS.2.2 d_M_room_23
    · refine lv_iconst (v := 1) hx hb d_M_room_11 (by decide) ?_
      refine lv_goto (tgt := 16) hx hb d_M_room_12 (by decide) ?_
      refine kc_i (Wd := mwv cI cJ cZ a) (va_runV (As := [.int 1]) (rest := []) ⟨hx, hb, hml, hown, hw⟩ (c_M_goes1 l hnd co lg tm rm no M _) (cwV 1 hw (kb_V kb_385 kb_387 kb_s5 kb_6 kb_388) rfl rfl rfl (by decide +kernel) ⟨Nat.le_of_ble_eq_true rfl, Nat.le_of_ble_eq_true rfl⟩) (kPV (va_recv hK hP (ci := 3) (q0 := 0) rfl rfl) hP hK) rfl rfl hl.1 rfl (lv_room (Nat.le_of_ble_eq_true rfl)) d_M_room_16 ⟨Nat.le_of_ble_eq_true rfl, Nat.le_of_ble_eq_true rfl⟩) hS hA hAL (fun r_6 u_5 H locs hw9 hP _ _ hS => ?_)
      obtain ⟨rfl, rfl⟩ := hw9
      have hP : va_P (dC, dI) vwCl (mw cI cJ cZ a 0 lg tm rm no M) _ := hP
      refine lv_if_ne (tgt := 24) hx hb d_M_room_19 (by decide) (fun c_5 => ?_) (fun c_5 => absurd c_5 (by decide))
      refine lv_aload_n hx hb d_M_room_24 rfl (lv_at hl 0 rfl) ?_
      refine va_get (D := (dC, dI)) (ci := 3) (v := .int rm) (C := R_M) (T := F_M) (N := 12) hx hb hw i_M hown hK hP 0 rfl rfl 3 (by decide) (hw _ kb_339) (fun _ h9 => h9) rfl d_M_room_25 ?_
      refine lv_istore_n (lv' := [(2, .int rm), (0, .ref (a 0)), (1, .int p0)]) hx hb d_M_room_28 rfl hl (by decide) rfl (fun ls hl => ?_)
      refine lv_aload_n hx hb d_M_room_29 rfl (lv_at hl 1 rfl) ?_
      refine lv_iload_n hx hb d_M_room_30 rfl (lv_at hl 2 rfl) ?_
      refine va_put (D := (dC, dI)) (ci := 3) (v := .int p0) (ty := .int) (C := R_M) (T := F_M) (N := 12) hx hb hw i_M t_M t_M_ok n_M hown hK hP (mw_D hnd hAL) hS 0 rfl rfl 3 (by decide) (hw _ kb_339) (fun _ h9 => h9) rfl (by decide +kernel) rfl rfl (Nat.le_of_ble_eq_true rfl) d_M_room_31 (fun H locs hP _ hS => ?_)
      have hP : va_P (dC, dI) vwCl (mw cI cJ cZ a 0 lg tm p0 no M) _ := hP
      refine lv_iload_n hx hb d_M_room_34 rfl (lv_at hl 0 rfl) ?_
      exact W.iret (v := rm) hx hb hr (fun t ht hW => ⟨⟨_, (0, lg, tm, p0, no, M), rfl, Or.inl ⟨⟨c_1, Int32.not_lt.mp c_3⟩, by first | (simp only [if_neg c_1, if_neg c_3]; done) | (simp [c_1, c_3]; done)⟩, by show va_P _ _ _ t.heap; rw [ht]; exact hP⟩, hS.F ht⟩) hS.2.2 d_M_room_35
set_option maxHeartbeats 4000000 in
set_option maxRecDepth 100000 in
theorem c_M_notes (l : Launch) {dC : Nat → ClassId} {dI : Nat → Nat → Nat} {cI cJ cZ : ClassId} {a : Nat → Nat} (hnd : (mad a).Nodup) (co lg tm rm no : Int32) (M : Nat → mGV) (sz : Nat) : Met l y_M_notes w_M_notes ({ frames := 0, cells := 0, slots := 0, locals := 0 }) (kPre (dC, dI) vwCl (mty cI cJ cZ) [.ref (a 0)] sz (mw cI cJ cZ a co lg tm rm no M)) (va_Qi (fun (r : Int32) (u : mDV) => r = no ∧ u = (0, lg, tm, rm, no, M)) (fun u t => va_P (dC, dI) vwCl (mwv cI cJ cZ a u) t.heap) (kA (mad a) sz)) 0 0 (kA (mad a) sz) := by
  refine Met.ofW (cc := b_M_notes) (maxL := 1) (ret := (some .int)) (by decide) rfl ?_
  intro p e s m args below meth c s₁ B hml hv
  obtain ⟨rfl, hsz, hP, hK⟩ := hv
  have hx := B.exec
  have hb := B.bytes
  have hr := B.returns
  have hts := atoms_spec (ws := w_M_notes) B.pre
  have hw := fun (w : Cond) (h : w ∈ kb_B) => hts w (List.mem_cons_of_mem _ h)
  have hown : s.vm.findClass R_M = some m.cls := findClass_of_methodNamed B.named
  have hlocks := B.notSynchronized
  subst hsz
  generalize hAe : kA (mad a) s.heap.size = A
  have hA : ∀ q : Nat, s.heap.size ≤ q → A q := fun q h => by rw [← hAe]; exact Or.inr h
  have hAL : ∀ q ∈ (mad a), A q := fun q h => by rw [← hAe]; exact Or.inl h
  have hS : va_S A s.heap s.heap [] := va_S.rf
  have hl := lv_entry ([.ref (a 0)]) (n := 1) (Nat.le_of_ble_eq_true rfl)
  rw [lg_entry_eq]
  generalize (lg_sl ([.ref (a 0)]) ++ List.replicate (1 - (lg_sl ([.ref (a 0)])).length) Slot.unset).toArray = ls at hl ⊢
  have hl : lv_has ls 1 [(0, .ref (a 0))] := hl
  refine lv_aload_n hx hb d_M_notes_0 rfl (lv_at hl 0 rfl) ?_
  refine lv_iconst (v := 0) hx hb d_M_notes_1 (by decide) ?_
  refine va_put (D := (dC, dI)) (ci := 3) (v := .int 0) (ty := .int) (C := R_M) (T := F_M) (N := 12) hx hb hw i_M t_M t_M_ok n_M hown hK hP (mw_D hnd hAL) hS 0 rfl rfl 0 (by decide) (hw _ kb_336) (fun _ h9 => h9) rfl (by decide +kernel) rfl rfl (Nat.le_of_ble_eq_true rfl) d_M_notes_2 (fun H locs hP _ hS => ?_)
  have hP : va_P (dC, dI) vwCl (mw cI cJ cZ a 0 lg tm rm no M) _ := hP
  refine lv_aload_n hx hb d_M_notes_5 rfl (lv_at hl 0 rfl) ?_
  refine va_get (D := (dC, dI)) (ci := 3) (v := .int no) (C := R_M) (T := F_M) (N := 12) hx hb hw i_M hown hK hP 0 rfl rfl 4 (by decide) (hw _ kb_340) (fun _ h9 => h9) rfl d_M_notes_6 ?_
  exact W.iret (v := no) hx hb hr (fun t ht hW => ⟨⟨_, (0, lg, tm, rm, no, M), rfl, ⟨by first | (simp only []; done) | (simp []; done), by first | (simp only []; done) | (simp []; done)⟩, by show va_P _ _ _ t.heap; rw [ht]; exact hP⟩, hS.F ht⟩) hS.2.2 d_M_notes_9
