set_option maxHeartbeats 4000000 in
set_option maxRecDepth 100000 in
theorem lp_M_done {p : Program} {l : Launch} {e : Env} {s : State} {m : MethodId} {args : Array Value} {below : List Frame} {meth : Method} {c : Code} {Q : State → Prop} {dC : Nat → ClassId} {dI : Nat → Nat → Nat} {cI cJ cZ : ClassId} {a : Nat → Nat} (hnd : (mad a).Nodup) {co lg tm rm no : Int32} {M : Nat → mGV} {g : Nat} (hg : g < 8) {x0 x1 x2 : Int32} {x3 x4 x5 : Nat → Int32} {x6 : Nat → Int64} {A : Nat → Prop} (hx : p.tables.exec = Jvm.exec) (hb : c.code = b_M_mayBeDone) (hml : c.maxLocals = 5) (hown : s.vm.findClass R_M = some m.cls) (hw : ∀ w ∈ kb_B, w.before args s = true) (hK : va_K (dC, dI) vwCl (mty cI cJ cZ) s) (hA : ∀ q : Nat, s.heap.size ≤ q → A q) (hAL : ∀ q ∈ mad a, A q) 
    (kk : ∀ (H : Heap) (locs : List Loc) (ls : Array Slot), va_P (dC, dI) vwCl (mw cI cJ cZ a co lg tm rm no (va_up M g (x0, x1, x2, md x3 x4 8, x4, mt x5 tm 8, x6))) H → va_S A s.heap H locs → lv_has ls 5 [(4, .int (nI 8)), (3, .int (mg_jn x3 x4 8)), (2, .int (mg_cnt x3 8)), (0, .ref (a 0)), (1, .int (nI g))] → W p l e (headSpec w_M_mayBeDone ({ frames := 1, cells := 0, slots := 0, locals := 30 })).room s m args below meth c H locs 0 0 Q (F0 m 139 ls [])) :
    ∀ (k i : Nat) (H : Heap) (locs : List Loc) (ls : Array Slot), i + k = 8 → va_P (dC, dI) vwCl (mw cI cJ cZ a co lg tm rm no (va_up M g (x0, x1, x2, md x3 x4 i, x4, mt x5 tm i, x6))) H → va_S A s.heap H locs → lv_has ls 5 [(4, .int (nI i)), (3, .int (mg_jn x3 x4 8)), (2, .int (mg_cnt x3 8)), (0, .ref (a 0)), (1, .int (nI g))] → W p l e (headSpec w_M_mayBeDone ({ frames := 1, cells := 0, slots := 0, locals := 30 })).room s m args below meth c H locs 0 0 Q (F0 m 63 ls []) := by
  intro k
  induction k with
  | zero =>
    intro i H locs ls hi hP hS hl
    have hi8 : i = 8 := by omega
    subst hi8
    refine lv_iload hx hb d_M_mayBeDone_63 (lv_at hl 0 rfl) ?_
    refine lv_bipush (v := 8) hx hb d_M_mayBeDone_65 (by decide) ?_
    refine lv_icmp_ge (tgt := 139) hx hb d_M_mayBeDone_67 (by decide) (fun c_1 => ?_) (fun c_1 => ?_)
    · exact kk H locs ls hP hS hl
    · exact absurd (nI_le (Nat.le_refl 8) (by decide)) c_1
  | succ k ih =>
    intro i H locs ls hi hP hS hl
    refine lv_iload hx hb d_M_mayBeDone_63 (lv_at hl 0 rfl) ?_
    refine lv_bipush (v := 8) hx hb d_M_mayBeDone_65 (by decide) ?_
    refine lv_icmp_ge (tgt := 139) hx hb d_M_mayBeDone_67 (by decide) (fun c_1 => ?_) (fun c_1 => ?_)
    · exact absurd c_1 (nI_ge (a := i) (b := 8) (by omega) (by decide))
    · refine lv_aload_n hx hb d_M_mayBeDone_70 rfl (lv_at hl 3 rfl) ?_
      refine va_get (D := (dC, dI)) (ci := 3) (v := .ref (a 4)) (C := R_M) (T := F_M) (N := 12) hx hb hw i_M hown hK hP 0 rfl rfl 8 (by decide) (hw _ kb_344) (fun _ h9 => h9) rfl d_M_mayBeDone_71 ?_
      refine lv_bipush (v := 8) hx hb d_M_mayBeDone_74 (by decide) ?_
      refine lv_iload_n hx hb d_M_mayBeDone_76 rfl (lv_at hl 4 rfl) ?_
      refine lv_imul hx hb d_M_mayBeDone_77 ?_
      refine lv_iload hx hb d_M_mayBeDone_78 (lv_at hl 0 rfl) ?_
      refine lv_iadd hx hb d_M_mayBeDone_80 ?_
      refine lv_aload_n hx hb d_M_mayBeDone_81 rfl (lv_at hl 3 rfl) ?_
      refine va_get (D := (dC, dI)) (ci := 3) (v := .ref (a 4)) (C := R_M) (T := F_M) (N := 12) hx hb hw i_M hown hK hP 0 rfl rfl 8 (by decide) (hw _ kb_344) (fun _ h9 => h9) rfl d_M_mayBeDone_82 ?_
      refine lv_bipush (v := 8) hx hb d_M_mayBeDone_85 (by decide) ?_
      refine lv_iload_n hx hb d_M_mayBeDone_87 rfl (lv_at hl 4 rfl) ?_
      refine lv_imul hx hb d_M_mayBeDone_88 ?_
      refine lv_iload hx hb d_M_mayBeDone_89 (lv_at hl 0 rfl) ?_
      refine lv_iadd hx hb d_M_mayBeDone_91 ?_
      refine ml_me (i := i) hx hb hK hP hg (show i < 8 by omega) d_M_mayBeDone_92 ?_
      refine lv_if_eq (tgt := 115) hx hb d_M_mayBeDone_93 (by decide) (fun c_2 => ?_) (fun c_2 => ?_)
      · refine lv_iconst (v := 0) hx hb d_M_mayBeDone_115 (by decide) ?_
        refine ms_me (i := i) (v := 0) hx hb hK hP hnd hAL hS hg (show i < 8 by omega) d_M_mayBeDone_116 (fun H locs hP hS => ?_)
        rw [vz0] at hP
        refine lv_aload_n hx hb d_M_mayBeDone_117 rfl (lv_at hl 3 rfl) ?_
        refine va_get (D := (dC, dI)) (ci := 3) (v := .ref (a 6)) (C := R_M) (T := F_M) (N := 12) hx hb hw i_M hown hK hP 0 rfl rfl 10 (by decide) (hw _ kb_346) (fun _ h9 => h9) rfl d_M_mayBeDone_118 ?_
        refine lv_bipush (v := 8) hx hb d_M_mayBeDone_121 (by decide) ?_
        refine lv_iload_n hx hb d_M_mayBeDone_123 rfl (lv_at hl 4 rfl) ?_
        refine lv_imul hx hb d_M_mayBeDone_124 ?_
        refine lv_iload hx hb d_M_mayBeDone_125 (lv_at hl 0 rfl) ?_
        refine lv_iadd hx hb d_M_mayBeDone_127 ?_
        refine lv_aload_n hx hb d_M_mayBeDone_128 rfl (lv_at hl 3 rfl) ?_
        refine va_get (D := (dC, dI)) (ci := 3) (v := .int tm) (C := R_M) (T := F_M) (N := 12) hx hb hw i_M hown hK hP 0 rfl rfl 2 (by decide) (hw _ kb_338) (fun _ h9 => h9) rfl d_M_mayBeDone_129 ?_
        refine ms_he (i := i) (v := tm) hx hb hK hP hnd hAL hS hg (show i < 8 by omega) d_M_mayBeDone_132 (fun H locs hP hS => ?_)
        refine lv_iinc (v := (nI i) + 1) (lv' := [(4, .int ((nI i) + 1)), (3, .int (mg_jn x3 x4 8)), (2, .int (mg_cnt x3 8)), (0, .ref (a 0)), (1, .int (nI g))]) hx hb d_M_mayBeDone_133 hl (k := 0) rfl rfl (by decide) rfl (fun ls hl => ?_)
        refine lv_goto (tgt := 63) hx hb d_M_mayBeDone_136 (by decide) ?_
        have hs0 : md x3 x4 (i + 1) = upd (md x3 x4 i) i 0 := by simp only [md, if_pos c_2]
        refine ih (i + 1) H locs ls (by omega) ?_ hS ?_
        · rw [hs0]; exact hP
        · rw [nI_succ]; exact lv_sub hl [0, 1, 2, 3, 4] rfl
      · refine lv_aload_n hx hb d_M_mayBeDone_96 rfl (lv_at hl 3 rfl) ?_
        refine va_get (D := (dC, dI)) (ci := 3) (v := .ref (a 5)) (C := R_M) (T := F_M) (N := 12) hx hb hw i_M hown hK hP 0 rfl rfl 9 (by decide) (hw _ kb_345) (fun _ h9 => h9) rfl d_M_mayBeDone_97 ?_
        refine lv_bipush (v := 8) hx hb d_M_mayBeDone_100 (by decide) ?_
        refine lv_iload_n hx hb d_M_mayBeDone_102 rfl (lv_at hl 4 rfl) ?_
        refine lv_imul hx hb d_M_mayBeDone_103 ?_
        refine lv_iload hx hb d_M_mayBeDone_104 (lv_at hl 0 rfl) ?_
        refine lv_iadd hx hb d_M_mayBeDone_106 ?_
        refine ml_jo (i := i) hx hb hK hP hg (show i < 8 by omega) d_M_mayBeDone_107 ?_
        refine lv_if_eq (tgt := 115) hx hb d_M_mayBeDone_108 (by decide) (fun c_3 => ?_) (fun c_3 => ?_)
        · refine lv_iconst (v := 0) hx hb d_M_mayBeDone_115 (by decide) ?_
          refine ms_me (i := i) (v := 0) hx hb hK hP hnd hAL hS hg (show i < 8 by omega) d_M_mayBeDone_116 (fun H locs hP hS => ?_)
          rw [vz0] at hP
          refine lv_aload_n hx hb d_M_mayBeDone_117 rfl (lv_at hl 3 rfl) ?_
          refine va_get (D := (dC, dI)) (ci := 3) (v := .ref (a 6)) (C := R_M) (T := F_M) (N := 12) hx hb hw i_M hown hK hP 0 rfl rfl 10 (by decide) (hw _ kb_346) (fun _ h9 => h9) rfl d_M_mayBeDone_118 ?_
          refine lv_bipush (v := 8) hx hb d_M_mayBeDone_121 (by decide) ?_
          refine lv_iload_n hx hb d_M_mayBeDone_123 rfl (lv_at hl 4 rfl) ?_
          refine lv_imul hx hb d_M_mayBeDone_124 ?_
          refine lv_iload hx hb d_M_mayBeDone_125 (lv_at hl 0 rfl) ?_
          refine lv_iadd hx hb d_M_mayBeDone_127 ?_
          refine lv_aload_n hx hb d_M_mayBeDone_128 rfl (lv_at hl 3 rfl) ?_
          refine va_get (D := (dC, dI)) (ci := 3) (v := .int tm) (C := R_M) (T := F_M) (N := 12) hx hb hw i_M hown hK hP 0 rfl rfl 2 (by decide) (hw _ kb_338) (fun _ h9 => h9) rfl d_M_mayBeDone_129 ?_
          refine ms_he (i := i) (v := tm) hx hb hK hP hnd hAL hS hg (show i < 8 by omega) d_M_mayBeDone_132 (fun H locs hP hS => ?_)
          refine lv_iinc (v := (nI i) + 1) (lv' := [(4, .int ((nI i) + 1)), (3, .int (mg_jn x3 x4 8)), (2, .int (mg_cnt x3 8)), (0, .ref (a 0)), (1, .int (nI g))]) hx hb d_M_mayBeDone_133 hl (k := 0) rfl rfl (by decide) rfl (fun ls hl => ?_)
          refine lv_goto (tgt := 63) hx hb d_M_mayBeDone_136 (by decide) ?_
          have hs0 : md x3 x4 (i + 1) = upd (md x3 x4 i) i 0 := by simp only [md, if_neg c_2, if_pos c_3]
          refine ih (i + 1) H locs ls (by omega) ?_ hS ?_
          · rw [hs0]; exact hP
          · rw [nI_succ]; exact lv_sub hl [0, 1, 2, 3, 4] rfl
        · refine lv_iconst (v := 1) hx hb d_M_mayBeDone_111 (by decide) ?_
          refine lv_goto (tgt := 116) hx hb d_M_mayBeDone_112 (by decide) ?_
          refine ms_me (i := i) (v := 1) hx hb hK hP hnd hAL hS hg (show i < 8 by omega) d_M_mayBeDone_116 (fun H locs hP hS => ?_)
          rw [vz1] at hP
          refine lv_aload_n hx hb d_M_mayBeDone_117 rfl (lv_at hl 3 rfl) ?_
          refine va_get (D := (dC, dI)) (ci := 3) (v := .ref (a 6)) (C := R_M) (T := F_M) (N := 12) hx hb hw i_M hown hK hP 0 rfl rfl 10 (by decide) (hw _ kb_346) (fun _ h9 => h9) rfl d_M_mayBeDone_118 ?_
          refine lv_bipush (v := 8) hx hb d_M_mayBeDone_121 (by decide) ?_
          refine lv_iload_n hx hb d_M_mayBeDone_123 rfl (lv_at hl 4 rfl) ?_
          refine lv_imul hx hb d_M_mayBeDone_124 ?_
          refine lv_iload hx hb d_M_mayBeDone_125 (lv_at hl 0 rfl) ?_
          refine lv_iadd hx hb d_M_mayBeDone_127 ?_
          refine lv_aload_n hx hb d_M_mayBeDone_128 rfl (lv_at hl 3 rfl) ?_
          refine va_get (D := (dC, dI)) (ci := 3) (v := .int tm) (C := R_M) (T := F_M) (N := 12) hx hb hw i_M hown hK hP 0 rfl rfl 2 (by decide) (hw _ kb_338) (fun _ h9 => h9) rfl d_M_mayBeDone_129 ?_
          refine ms_he (i := i) (v := tm) hx hb hK hP hnd hAL hS hg (show i < 8 by omega) d_M_mayBeDone_132 (fun H locs hP hS => ?_)
          refine lv_iinc (v := (nI i) + 1) (lv' := [(4, .int ((nI i) + 1)), (3, .int (mg_jn x3 x4 8)), (2, .int (mg_cnt x3 8)), (0, .ref (a 0)), (1, .int (nI g))]) hx hb d_M_mayBeDone_133 hl (k := 0) rfl rfl (by decide) rfl (fun ls hl => ?_)
          refine lv_goto (tgt := 63) hx hb d_M_mayBeDone_136 (by decide) ?_
          have hs0 : md x3 x4 (i + 1) = upd (md x3 x4 i) i 1 := by simp only [md, if_neg c_2, if_neg c_3]
          refine ih (i + 1) H locs ls (by omega) ?_ hS ?_
          · rw [hs0]; exact hP
          · rw [nI_succ]; exact lv_sub hl [0, 1, 2, 3, 4] rfl
set_option maxHeartbeats 4000000 in
set_option maxRecDepth 100000 in
theorem c_M_mayBeDone (l : Launch) {dC : Nat → ClassId} {dI : Nat → Nat → Nat} {cI cJ cZ : ClassId} {a : Nat → Nat} (hnd : (mad a).Nodup) (co lg tm rm no : Int32) (M : Nat → mGV) {g : Nat} (hg : g < 8) (x0 x1 x2 : Int32) (x3 x4 x5 : Nat → Int32) (x6 : Nat → Int64) (sz : Nat) : Met l y_M_mayBeDone w_M_mayBeDone ({ frames := 1, cells := 0, slots := 0, locals := 30 }) (kPre (dC, dI) vwCl (mty cI cJ cZ) [.ref (a 0), .int (nI g)] sz (mw cI cJ cZ a co lg tm rm no (va_up M g (x0, x1, x2, x3, x4, x5, x6)))) (va_Qv (fun u : mDV => u = (co, lg, tm, (mg_done tm rm no (x0, x1, x2, x3, x4, x5, x6)).2.1, (mg_done tm rm no (x0, x1, x2, x3, x4, x5, x6)).2.2, va_up M g ((mg_done tm rm no (x0, x1, x2, x3, x4, x5, x6)).1))) (fun u t => va_P (dC, dI) vwCl (mwv cI cJ cZ a u) t.heap) (kA (mad a) sz)) 0 0 (kA (mad a) sz) := by
  refine Met.ofW (cc := b_M_mayBeDone) (maxL := 5) (ret := none) (by decide) rfl ?_
  intro p e s m args below meth c s₁ B hml hv
  obtain ⟨rfl, hsz, hP, hK⟩ := hv
  have hx := B.exec
  have hb := B.bytes
  have hr := B.returns
  have hts := atoms_spec (ws := w_M_mayBeDone) B.pre
  have hw := fun (w : Cond) (h : w ∈ kb_B) => hts w (List.mem_cons_of_mem _ h)
  have hown : s.vm.findClass R_M = some m.cls := findClass_of_methodNamed B.named
  have hlocks := B.notSynchronized
  subst hsz
  generalize hAe : kA (mad a) s.heap.size = A
  have hA : ∀ q : Nat, s.heap.size ≤ q → A q := fun q h => by rw [← hAe]; exact Or.inr h
  have hAL : ∀ q ∈ (mad a), A q := fun q h => by rw [← hAe]; exact Or.inl h
  have hS : va_S A s.heap s.heap [] := va_S.rf
  have hl := lv_entry ([.ref (a 0), .int (nI g)]) (n := 5) (Nat.le_of_ble_eq_true rfl)
  rw [lg_entry_eq]
  generalize (lg_sl ([.ref (a 0), .int (nI g)]) ++ List.replicate (5 - (lg_sl ([.ref (a 0), .int (nI g)])).length) Slot.unset).toArray = ls at hl ⊢
  have hl : lv_has ls 5 [(0, .ref (a 0)), (1, .int (nI g))] := hl
  refine lv_aload_n hx hb d_M_mayBeDone_0 rfl (lv_at hl 0 rfl) ?_
  refine va_get (D := (dC, dI)) (ci := 3) (v := .ref (a 1)) (C := R_M) (T := F_M) (N := 12) hx hb hw i_M hown hK hP 0 rfl rfl 5 (by decide) (hw _ kb_341) (fun _ h9 => h9) rfl d_M_mayBeDone_1 ?_
  refine lv_iload_n hx hb d_M_mayBeDone_4 rfl (lv_at hl 1 rfl) ?_
  refine ml_st hx hb hK hP hg d_M_mayBeDone_5 ?_
  refine lv_iconst (v := 1) hx hb d_M_mayBeDone_6 (by decide) ?_
  refine lv_icmp_eq (tgt := 11) hx hb d_M_mayBeDone_7 (by decide) (fun c_1 => ?_) (fun c_1 => ?_)
  · refine lv_aload_n hx hb d_M_mayBeDone_11 rfl (lv_at hl 0 rfl) ?_
    refine lv_iload_n hx hb d_M_mayBeDone_12 rfl (lv_at hl 1 rfl) ?_
    refine vp_callSi (W.runV (As := [.int (nI g)]) (rest := []) ⟨hx, hb, hml, hown, hw⟩ (c_M_count l hnd co lg tm rm no M hg x0 x1 x2 x3 x4 x5 x6 _) (cwV 1 hw (kb_V kb_397 kb_399 kb_s8 kb_6 kb_400) rfl rfl rfl (by decide +kernel) ⟨Nat.le_of_ble_eq_true rfl, Nat.le_of_ble_eq_true rfl⟩) (kPV (va_recv hK hP (ci := 3) (q0 := 0) rfl rfl) hP hK) rfl rfl hl.1 rfl (lv_room (Nat.le_of_ble_eq_true rfl)) d_M_mayBeDone_13 ⟨Nat.le_of_ble_eq_true rfl, Nat.le_of_ble_eq_true rfl⟩) (fun r_1 er_1 => ?_)
    subst er_1
    refine lv_istore_n (lv' := [(2, .int (mg_cnt x3 8)), (0, .ref (a 0)), (1, .int (nI g))]) hx hb d_M_mayBeDone_16 rfl hl (by decide) rfl (fun ls hl => ?_)
    refine lv_aload_n hx hb d_M_mayBeDone_17 rfl (lv_at hl 1 rfl) ?_
    refine lv_iload_n hx hb d_M_mayBeDone_18 rfl (lv_at hl 2 rfl) ?_
    refine vp_callSi (W.runV (As := [.int (nI g)]) (rest := []) ⟨hx, hb, hml, hown, hw⟩ (c_M_joinedOf l hnd co lg tm rm no M hg x0 x1 x2 x3 x4 x5 x6 _) (cwV 1 hw (kb_V kb_401 kb_403 kb_s9 kb_6 kb_404) rfl rfl rfl (by decide +kernel) ⟨Nat.le_of_ble_eq_true rfl, Nat.le_of_ble_eq_true rfl⟩) (kPV (va_recv hK hP (ci := 3) (q0 := 0) rfl rfl) hP hK) rfl rfl hl.1 rfl (lv_room (Nat.le_of_ble_eq_true rfl)) d_M_mayBeDone_19 ⟨Nat.le_of_ble_eq_true rfl, Nat.le_of_ble_eq_true rfl⟩) (fun r_2 er_2 => ?_)
    subst er_2
    refine lv_istore_n (lv' := [(3, .int (mg_jn x3 x4 8)), (2, .int (mg_cnt x3 8)), (0, .ref (a 0)), (1, .int (nI g))]) hx hb d_M_mayBeDone_22 rfl hl (by decide) rfl (fun ls hl => ?_)
    refine lv_iload_n hx hb d_M_mayBeDone_23 rfl (lv_at hl 0 rfl) ?_
    refine lv_iload_n hx hb d_M_mayBeDone_24 rfl (lv_at hl 1 rfl) ?_
    refine lv_icmp_ge (tgt := 42) hx hb d_M_mayBeDone_25 (by decide) (fun c_2 => ?_) (fun c_2 => ?_)
    · refine lv_iload_n hx hb d_M_mayBeDone_42 rfl (lv_at hl 0 rfl) ?_
      refine lv_if_ne (tgt := 52) hx hb d_M_mayBeDone_43 (by decide) (fun c_3 => ?_) (fun c_3 => ?_)
      · refine lv_aload_n hx hb d_M_mayBeDone_52 rfl (lv_at hl 2 rfl) ?_
        refine kc_i (Wd := mwv cI cJ cZ a) (va_runV (As := []) (rest := []) ⟨hx, hb, hml, hown, hw⟩ (c_M_takesNote l hnd co lg tm rm no (va_up M g (x0, x1, x2, x3, x4, x5, x6)) _) (cwV 0 hw (kb_V kb_409 kb_411 kb_s11 kb_6 kb_412) rfl rfl rfl (by decide +kernel) ⟨Nat.le_of_ble_eq_true rfl, Nat.le_of_ble_eq_true rfl⟩) (kPV (va_recv hK hP (ci := 3) (q0 := 0) rfl rfl) hP hK) rfl rfl hl.1 rfl (lv_room (Nat.le_of_ble_eq_true rfl)) d_M_mayBeDone_53 ⟨Nat.le_of_ble_eq_true rfl, Nat.le_of_ble_eq_true rfl⟩) hS hA hAL (fun r_4 u_3 H locs hw9 hP _ _ hS => ?_)
        obtain ⟨rfl, rfl⟩ := hw9
        generalize hq_5 : mn_take rm no = z_5 at hP ⊢
        obtain ⟨r_5, rm_5, no_5⟩ := z_5
        have hP : va_P (dC, dI) vwCl (mw cI cJ cZ a co lg tm rm_5 no_5 (va_up M g (x0, x1, x2, x3, x4, x5, x6))) _ := hP
        refine lv_if_ne (tgt := 60) hx hb d_M_mayBeDone_56 (by decide) (fun c_4 => ?_) (fun c_4 => ?_)
        · refine lv_iconst (v := 0) hx hb d_M_mayBeDone_60 (by decide) ?_
          refine lv_istore (lv' := [(4, .int 0), (3, .int (mg_jn x3 x4 8)), (2, .int (mg_cnt x3 8)), (0, .ref (a 0)), (1, .int (nI g))]) hx hb d_M_mayBeDone_61 hl (by decide) rfl (fun ls hl => ?_)
          refine lp_M_done (x0 := x0) (x1 := x1) (x2 := x2) (x3 := x3) (x4 := x4) (x5 := x5) (x6 := x6) hnd hg hx hb hml hown hw hK hA hAL (fun H locs ls hP hS hl => ?_) 8 0 _ _ ls rfl hP hS (lv_sub hl [0, 1, 2, 3, 4] rfl)
          refine lv_aload_n hx hb d_M_mayBeDone_139 rfl (lv_at hl 3 rfl) ?_
          refine va_get (D := (dC, dI)) (ci := 3) (v := .ref (a 2)) (C := R_M) (T := F_M) (N := 12) hx hb hw i_M hown hK hP 0 rfl rfl 6 (by decide) (hw _ kb_342) (fun _ h9 => h9) rfl d_M_mayBeDone_140 ?_
          refine lv_iload_n hx hb d_M_mayBeDone_143 rfl (lv_at hl 4 rfl) ?_
          refine lv_dup2_11 hx hb d_M_mayBeDone_144 rfl rfl ?_
          refine ml_ge hx hb hK hP hg d_M_mayBeDone_145 ?_
          refine lv_iconst (v := 1) hx hb d_M_mayBeDone_146 (by decide) ?_
          refine lv_iadd hx hb d_M_mayBeDone_147 ?_
          refine ms_ge (v := x1 + (1 : Int32)) hx hb hK hP hnd hAL hS hg d_M_mayBeDone_148 (fun H locs hP hS => ?_)
          refine lv_aload_n hx hb d_M_mayBeDone_149 rfl (lv_at hl 3 rfl) ?_
          refine va_get (D := (dC, dI)) (ci := 3) (v := .ref (a 1)) (C := R_M) (T := F_M) (N := 12) hx hb hw i_M hown hK hP 0 rfl rfl 5 (by decide) (hw _ kb_341) (fun _ h9 => h9) rfl d_M_mayBeDone_150 ?_
          refine lv_iload_n hx hb d_M_mayBeDone_153 rfl (lv_at hl 4 rfl) ?_
          refine lv_iconst (v := 2) hx hb d_M_mayBeDone_154 (by decide) ?_
          refine ms_st (v := 2) hx hb hK hP hnd hAL hS hg d_M_mayBeDone_155 (fun H locs hP hS => ?_)
          exact W.vret hx hb hr (fun t ht hW => ⟨⟨(co, lg, tm, rm_5, no_5, (va_up M g (2, x1 + (1 : Int32), x2, md x3 x4 8, x4, mt x5 tm 8, x6))), rfl, by first | (simp only [mg_done, mg_go, mg_emp, mg_set, if_pos c_1, if_pos c_2, if_neg c_3, hq_5, if_neg c_4]; done) | (simp [mg_done, mg_go, mg_emp, mg_set, c_1, c_2, c_3, hq_5, c_4]; done), by show va_P _ _ _ t.heap; rw [ht]; exact hP⟩, hS.F ht⟩) hS.2.2 d_M_mayBeDone_156
        · exact W.vret hx hb hr (fun t ht hW => ⟨⟨(co, lg, tm, rm_5, no_5, (va_up M g (x0, x1, x2, x3, x4, x5, x6))), rfl, by first | (simp only [mg_done, mg_go, mg_emp, mg_set, if_pos c_1, if_pos c_2, if_neg c_3, hq_5, if_pos c_4]; done) | (simp [mg_done, mg_go, mg_emp, mg_set, c_1, c_2, c_3, hq_5, c_4]; done), by show va_P _ _ _ t.heap; rw [ht]; exact hP⟩, hS.F ht⟩) hS.2.2 d_M_mayBeDone_59
      · refine lv_aload_n hx hb d_M_mayBeDone_46 rfl (lv_at hl 2 rfl) ?_
        refine lv_iload_n hx hb d_M_mayBeDone_47 rfl (lv_at hl 3 rfl) ?_
        refine kc_v (Wd := mwv cI cJ cZ a) (va_runV (As := [.int (nI g)]) (rest := []) ⟨hx, hb, hml, hown, hw⟩ (c_M_empties l hnd co lg tm rm no M hg x0 x1 x2 x3 x4 x5 x6 _) (cwV 1 hw (kb_V kb_405 kb_407 kb_s10 kb_6 kb_408) rfl rfl rfl (by decide +kernel) ⟨Nat.le_of_ble_eq_true rfl, Nat.le_of_ble_eq_true rfl⟩) (kPV (va_recv hK hP (ci := 3) (q0 := 0) rfl rfl) hP hK) rfl rfl hl.1 rfl (lv_room (Nat.le_of_ble_eq_true rfl)) d_M_mayBeDone_48 ⟨Nat.le_of_ble_eq_true rfl, Nat.le_of_ble_eq_true rfl⟩) hS hA hAL (fun u_6 H locs hw9 hP _ _ hS => ?_)
        subst hw9
        have hP : va_P (dC, dI) vwCl (mw cI cJ cZ a co lg tm rm no (va_up M g (0, x1, x2, mz x3 8, mz x4 8, x5, x6))) _ := hP
        exact W.vret hx hb hr (fun t ht hW => ⟨⟨(co, lg, tm, rm, no, (va_up M g (0, x1, x2, mz x3 8, mz x4 8, x5, x6))), rfl, by first | (simp only [mg_done, mg_go, mg_emp, mg_set, if_pos c_1, if_pos c_2, if_pos c_3]; done) | (simp [mg_done, mg_go, mg_emp, mg_set, c_1, c_2, c_3]; done), by show va_P _ _ _ t.heap; rw [ht]; exact hP⟩, hS.F ht⟩) hS.2.2 d_M_mayBeDone_51
    · refine lv_aload_n hx hb d_M_mayBeDone_28 rfl (lv_at hl 2 rfl) ?_
      refine va_get (D := (dC, dI)) (ci := 3) (v := .int tm) (C := R_M) (T := F_M) (N := 12) hx hb hw i_M hown hK hP 0 rfl rfl 2 (by decide) (hw _ kb_338) (fun _ h9 => h9) rfl d_M_mayBeDone_29 ?_
      refine lv_aload_n hx hb d_M_mayBeDone_32 rfl (lv_at hl 2 rfl) ?_
      refine va_get (D := (dC, dI)) (ci := 3) (v := .ref (a 3)) (C := R_M) (T := F_M) (N := 12) hx hb hw i_M hown hK hP 0 rfl rfl 7 (by decide) (hw _ kb_343) (fun _ h9 => h9) rfl d_M_mayBeDone_33 ?_
      refine lv_iload_n hx hb d_M_mayBeDone_36 rfl (lv_at hl 3 rfl) ?_
      refine ml_li hx hb hK hP hg d_M_mayBeDone_37 ?_
      refine lv_icmp_ge (tgt := 42) hx hb d_M_mayBeDone_38 (by decide) (fun c_5 => ?_) (fun c_5 => ?_)
      · refine lv_iload_n hx hb d_M_mayBeDone_42 rfl (lv_at hl 0 rfl) ?_
        refine lv_if_ne (tgt := 52) hx hb d_M_mayBeDone_43 (by decide) (fun c_6 => ?_) (fun c_6 => ?_)
        · refine lv_aload_n hx hb d_M_mayBeDone_52 rfl (lv_at hl 2 rfl) ?_
          refine kc_i (Wd := mwv cI cJ cZ a) (va_runV (As := []) (rest := []) ⟨hx, hb, hml, hown, hw⟩ (c_M_takesNote l hnd co lg tm rm no (va_up M g (x0, x1, x2, x3, x4, x5, x6)) _) (cwV 0 hw (kb_V kb_409 kb_411 kb_s11 kb_6 kb_412) rfl rfl rfl (by decide +kernel) ⟨Nat.le_of_ble_eq_true rfl, Nat.le_of_ble_eq_true rfl⟩) (kPV (va_recv hK hP (ci := 3) (q0 := 0) rfl rfl) hP hK) rfl rfl hl.1 rfl (lv_room (Nat.le_of_ble_eq_true rfl)) d_M_mayBeDone_53 ⟨Nat.le_of_ble_eq_true rfl, Nat.le_of_ble_eq_true rfl⟩) hS hA hAL (fun r_9 u_8 H locs hw9 hP _ _ hS => ?_)
          obtain ⟨rfl, rfl⟩ := hw9
          generalize hq_10 : mn_take rm no = z_10 at hP ⊢
          obtain ⟨r_10, rm_10, no_10⟩ := z_10
          have hP : va_P (dC, dI) vwCl (mw cI cJ cZ a co lg tm rm_10 no_10 (va_up M g (x0, x1, x2, x3, x4, x5, x6))) _ := hP
          refine lv_if_ne (tgt := 60) hx hb d_M_mayBeDone_56 (by decide) (fun c_7 => ?_) (fun c_7 => ?_)
          · refine lv_iconst (v := 0) hx hb d_M_mayBeDone_60 (by decide) ?_
            refine lv_istore (lv' := [(4, .int 0), (3, .int (mg_jn x3 x4 8)), (2, .int (mg_cnt x3 8)), (0, .ref (a 0)), (1, .int (nI g))]) hx hb d_M_mayBeDone_61 hl (by decide) rfl (fun ls hl => ?_)
            refine lp_M_done (x0 := x0) (x1 := x1) (x2 := x2) (x3 := x3) (x4 := x4) (x5 := x5) (x6 := x6) hnd hg hx hb hml hown hw hK hA hAL (fun H locs ls hP hS hl => ?_) 8 0 _ _ ls rfl hP hS (lv_sub hl [0, 1, 2, 3, 4] rfl)
            refine lv_aload_n hx hb d_M_mayBeDone_139 rfl (lv_at hl 3 rfl) ?_
            refine va_get (D := (dC, dI)) (ci := 3) (v := .ref (a 2)) (C := R_M) (T := F_M) (N := 12) hx hb hw i_M hown hK hP 0 rfl rfl 6 (by decide) (hw _ kb_342) (fun _ h9 => h9) rfl d_M_mayBeDone_140 ?_
            refine lv_iload_n hx hb d_M_mayBeDone_143 rfl (lv_at hl 4 rfl) ?_
            refine lv_dup2_11 hx hb d_M_mayBeDone_144 rfl rfl ?_
            refine ml_ge hx hb hK hP hg d_M_mayBeDone_145 ?_
            refine lv_iconst (v := 1) hx hb d_M_mayBeDone_146 (by decide) ?_
            refine lv_iadd hx hb d_M_mayBeDone_147 ?_
            refine ms_ge (v := x1 + (1 : Int32)) hx hb hK hP hnd hAL hS hg d_M_mayBeDone_148 (fun H locs hP hS => ?_)
            refine lv_aload_n hx hb d_M_mayBeDone_149 rfl (lv_at hl 3 rfl) ?_
            refine va_get (D := (dC, dI)) (ci := 3) (v := .ref (a 1)) (C := R_M) (T := F_M) (N := 12) hx hb hw i_M hown hK hP 0 rfl rfl 5 (by decide) (hw _ kb_341) (fun _ h9 => h9) rfl d_M_mayBeDone_150 ?_
            refine lv_iload_n hx hb d_M_mayBeDone_153 rfl (lv_at hl 4 rfl) ?_
            refine lv_iconst (v := 2) hx hb d_M_mayBeDone_154 (by decide) ?_
            refine ms_st (v := 2) hx hb hK hP hnd hAL hS hg d_M_mayBeDone_155 (fun H locs hP hS => ?_)
            exact W.vret hx hb hr (fun t ht hW => ⟨⟨(co, lg, tm, rm_10, no_10, (va_up M g (2, x1 + (1 : Int32), x2, md x3 x4 8, x4, mt x5 tm 8, x6))), rfl, by first | (simp only [mg_done, mg_go, mg_emp, mg_set, if_pos c_1, if_neg c_2, if_pos c_5, if_neg c_6, hq_10, if_neg c_7]; done) | (simp [mg_done, mg_go, mg_emp, mg_set, c_1, c_2, c_5, c_6, hq_10, c_7]; done), by show va_P _ _ _ t.heap; rw [ht]; exact hP⟩, hS.F ht⟩) hS.2.2 d_M_mayBeDone_156
          · exact W.vret hx hb hr (fun t ht hW => ⟨⟨(co, lg, tm, rm_10, no_10, (va_up M g (x0, x1, x2, x3, x4, x5, x6))), rfl, by first | (simp only [mg_done, mg_go, mg_emp, mg_set, if_pos c_1, if_neg c_2, if_pos c_5, if_neg c_6, hq_10, if_pos c_7]; done) | (simp [mg_done, mg_go, mg_emp, mg_set, c_1, c_2, c_5, c_6, hq_10, c_7]; done), by show va_P _ _ _ t.heap; rw [ht]; exact hP⟩, hS.F ht⟩) hS.2.2 d_M_mayBeDone_59
        · refine lv_aload_n hx hb d_M_mayBeDone_46 rfl (lv_at hl 2 rfl) ?_
          refine lv_iload_n hx hb d_M_mayBeDone_47 rfl (lv_at hl 3 rfl) ?_
          refine kc_v (Wd := mwv cI cJ cZ a) (va_runV (As := [.int (nI g)]) (rest := []) ⟨hx, hb, hml, hown, hw⟩ (c_M_empties l hnd co lg tm rm no M hg x0 x1 x2 x3 x4 x5 x6 _) (cwV 1 hw (kb_V kb_405 kb_407 kb_s10 kb_6 kb_408) rfl rfl rfl (by decide +kernel) ⟨Nat.le_of_ble_eq_true rfl, Nat.le_of_ble_eq_true rfl⟩) (kPV (va_recv hK hP (ci := 3) (q0 := 0) rfl rfl) hP hK) rfl rfl hl.1 rfl (lv_room (Nat.le_of_ble_eq_true rfl)) d_M_mayBeDone_48 ⟨Nat.le_of_ble_eq_true rfl, Nat.le_of_ble_eq_true rfl⟩) hS hA hAL (fun u_11 H locs hw9 hP _ _ hS => ?_)
          subst hw9
          have hP : va_P (dC, dI) vwCl (mw cI cJ cZ a co lg tm rm no (va_up M g (0, x1, x2, mz x3 8, mz x4 8, x5, x6))) _ := hP
          exact W.vret hx hb hr (fun t ht hW => ⟨⟨(co, lg, tm, rm, no, (va_up M g (0, x1, x2, mz x3 8, mz x4 8, x5, x6))), rfl, by first | (simp only [mg_done, mg_go, mg_emp, mg_set, if_pos c_1, if_neg c_2, if_pos c_5, if_pos c_6]; done) | (simp [mg_done, mg_go, mg_emp, mg_set, c_1, c_2, c_5, c_6]; done), by show va_P _ _ _ t.heap; rw [ht]; exact hP⟩, hS.F ht⟩) hS.2.2 d_M_mayBeDone_51
      · exact W.vret hx hb hr (fun t ht hW => ⟨⟨(co, lg, tm, rm, no, (va_up M g (x0, x1, x2, x3, x4, x5, x6))), rfl, by first | (simp only [mg_done, mg_go, mg_emp, mg_set, if_pos c_1, if_neg c_2, if_neg c_5]; done) | (simp [mg_done, mg_go, mg_emp, mg_set, c_1, c_2, c_5]; done), by show va_P _ _ _ t.heap; rw [ht]; exact hP⟩, hS.F ht⟩) hS.2.2 d_M_mayBeDone_41
  · exact W.vret hx hb hr (fun t ht hW => ⟨⟨(co, lg, tm, rm, no, (va_up M g (x0, x1, x2, x3, x4, x5, x6))), rfl, by first | (simp only [mg_done, mg_go, mg_emp, mg_set, if_neg c_1]; done) | (simp [mg_done, mg_go, mg_emp, mg_set, c_1]; done), by show va_P _ _ _ t.heap; rw [ht]; exact hP⟩, hS.F ht⟩) hS.2.2 d_M_mayBeDone_10
set_option maxHeartbeats 4000000 in
set_option maxRecDepth 100000 in
theorem lp_M_tick {p : Program} {l : Launch} {e : Env} {s : State} {m : MethodId} {args : Array Value} {below : List Frame} {meth : Method} {c : Code} {Q : State → Prop} {dC : Nat → ClassId} {dI : Nat → Nat → Nat} {cI cJ cZ : ClassId} {a : Nat → Nat} (hnd : (mad a).Nodup) {co lg tm rm no : Int32} {M : Nat → mGV} {g : Nat} (hg : g < 8) {x0 x1 x2 : Int32} {x3 x4 x5 : Nat → Int32} {x6 : Nat → Int64} {A : Nat → Prop} (hx : p.tables.exec = Jvm.exec) (hb : c.code = b_M_tick) (hml : c.maxLocals = 4) (hown : s.vm.findClass R_M = some m.cls) (hw : ∀ w ∈ kb_B, w.before args s = true) (hK : va_K (dC, dI) vwCl (mty cI cJ cZ) s) (hA : ∀ q : Nat, s.heap.size ≤ q → A q) (hAL : ∀ q ∈ mad a, A q) (h2 : x0 = 2)
    (kk : ∀ (H : Heap) (locs : List Loc) (ls : Array Slot), va_P (dC, dI) vwCl (mw cI cJ cZ a co lg tm rm no (va_up M g (x0, x1, x2, (mtk x3 x5 tm 8).1, x4, x5, x6))) H → va_S A s.heap H locs → lv_has ls 4 [(3, .int (nI 8)), (2, .int ((mtk x3 x5 tm 8).2)), (0, .ref (a 0)), (1, .int (nI g))] → W p l e (headSpec w_M_tick ({ frames := 2, cells := 0, slots := 0, locals := 60 })).room s m args below meth c H locs 0 0 Q (F0 m 75 ls [])) :
    ∀ (k i : Nat) (H : Heap) (locs : List Loc) (ls : Array Slot), i + k = 8 → va_P (dC, dI) vwCl (mw cI cJ cZ a co lg tm rm no (va_up M g (x0, x1, x2, (mtk x3 x5 tm i).1, x4, x5, x6))) H → va_S A s.heap H locs → lv_has ls 4 [(3, .int (nI i)), (2, .int ((mtk x3 x5 tm i).2)), (0, .ref (a 0)), (1, .int (nI g))] → W p l e (headSpec w_M_tick ({ frames := 2, cells := 0, slots := 0, locals := 60 })).room s m args below meth c H locs 0 0 Q (F0 m 4 ls []) := by
  intro k
  induction k with
  | zero =>
    intro i H locs ls hi hP hS hl
    have hi8 : i = 8 := by omega
    subst hi8
    refine lv_iload_n hx hb d_M_tick_4 rfl (lv_at hl 0 rfl) ?_
    refine lv_bipush (v := 8) hx hb d_M_tick_5 (by decide) ?_
    refine lv_icmp_ge (tgt := 75) hx hb d_M_tick_7 (by decide) (fun c_1 => ?_) (fun c_1 => ?_)
    · exact kk H locs ls hP hS hl
    · exact absurd (nI_le (Nat.le_refl 8) (by decide)) c_1
  | succ k ih =>
    intro i H locs ls hi hP hS hl
    refine lv_iload_n hx hb d_M_tick_4 rfl (lv_at hl 0 rfl) ?_
    refine lv_bipush (v := 8) hx hb d_M_tick_5 (by decide) ?_
    refine lv_icmp_ge (tgt := 75) hx hb d_M_tick_7 (by decide) (fun c_1 => ?_) (fun c_1 => ?_)
    · exact absurd c_1 (nI_ge (a := i) (b := 8) (by omega) (by decide))
    · refine lv_aload_n hx hb d_M_tick_10 rfl (lv_at hl 2 rfl) ?_
      refine va_get (D := (dC, dI)) (ci := 3) (v := .ref (a 1)) (C := R_M) (T := F_M) (N := 12) hx hb hw i_M hown hK hP 0 rfl rfl 5 (by decide) (hw _ kb_341) (fun _ h9 => h9) rfl d_M_tick_11 ?_
      refine lv_iload_n hx hb d_M_tick_14 rfl (lv_at hl 3 rfl) ?_
      refine ml_st hx hb hK hP hg d_M_tick_15 ?_
      refine lv_iconst (v := 2) hx hb d_M_tick_16 (by decide) ?_
      refine lv_icmp_ne (tgt := 75) hx hb d_M_tick_17 (by decide) (fun c_2 => ?_) (fun c_2 => ?_)
      · exact absurd h2 c_2
      · refine lv_aload_n hx hb d_M_tick_20 rfl (lv_at hl 2 rfl) ?_
        refine va_get (D := (dC, dI)) (ci := 3) (v := .ref (a 4)) (C := R_M) (T := F_M) (N := 12) hx hb hw i_M hown hK hP 0 rfl rfl 8 (by decide) (hw _ kb_344) (fun _ h9 => h9) rfl d_M_tick_21 ?_
        refine lv_bipush (v := 8) hx hb d_M_tick_24 (by decide) ?_
        refine lv_iload_n hx hb d_M_tick_26 rfl (lv_at hl 3 rfl) ?_
        refine lv_imul hx hb d_M_tick_27 ?_
        refine lv_iload_n hx hb d_M_tick_28 rfl (lv_at hl 0 rfl) ?_
        refine lv_iadd hx hb d_M_tick_29 ?_
        refine ml_me (i := i) hx hb hK hP hg (show i < 8 by omega) d_M_tick_30 ?_
        refine lv_if_eq (tgt := 69) hx hb d_M_tick_31 (by decide) (fun c_3 => ?_) (fun c_3 => ?_)
        · refine lv_iinc (v := (nI i) + 1) (lv' := [(3, .int ((nI i) + 1)), (2, .int ((mtk x3 x5 tm i).2)), (0, .ref (a 0)), (1, .int (nI g))]) hx hb d_M_tick_69 hl (k := 0) rfl rfl (by decide) rfl (fun ls hl => ?_)
          refine lv_goto (tgt := 4) hx hb d_M_tick_72 (by decide) ?_
          have hs0 : mtk x3 x5 tm (i + 1) = mtk x3 x5 tm i := by simp only [mtk, if_pos c_2, if_pos c_3]
          refine ih (i + 1) H locs ls (by omega) ?_ hS ?_
          · rw [hs0]; exact hP
          · rw [nI_succ]; rw [hs0]; exact lv_sub hl [0, 1, 2, 3] rfl
        · refine lv_aload_n hx hb d_M_tick_34 rfl (lv_at hl 2 rfl) ?_
          refine va_get (D := (dC, dI)) (ci := 3) (v := .int tm) (C := R_M) (T := F_M) (N := 12) hx hb hw i_M hown hK hP 0 rfl rfl 2 (by decide) (hw _ kb_338) (fun _ h9 => h9) rfl d_M_tick_35 ?_
          refine lv_aload_n hx hb d_M_tick_38 rfl (lv_at hl 2 rfl) ?_
          refine va_get (D := (dC, dI)) (ci := 3) (v := .ref (a 6)) (C := R_M) (T := F_M) (N := 12) hx hb hw i_M hown hK hP 0 rfl rfl 10 (by decide) (hw _ kb_346) (fun _ h9 => h9) rfl d_M_tick_39 ?_
          refine lv_bipush (v := 8) hx hb d_M_tick_42 (by decide) ?_
          refine lv_iload_n hx hb d_M_tick_44 rfl (lv_at hl 3 rfl) ?_
          refine lv_imul hx hb d_M_tick_45 ?_
          refine lv_iload_n hx hb d_M_tick_46 rfl (lv_at hl 0 rfl) ?_
          refine lv_iadd hx hb d_M_tick_47 ?_
          refine ml_he (i := i) hx hb hK hP hg (show i < 8 by omega) d_M_tick_48 ?_
          refine lv_isub hx hb d_M_tick_49 ?_
          refine lv_bipush (v := 30) hx hb d_M_tick_50 (by decide) ?_
          refine lv_icmp_lt (tgt := 69) hx hb d_M_tick_52 (by decide) (fun c_4 => ?_) (fun c_4 => ?_)
          · refine lv_iinc (v := (nI i) + 1) (lv' := [(3, .int ((nI i) + 1)), (2, .int ((mtk x3 x5 tm i).2)), (0, .ref (a 0)), (1, .int (nI g))]) hx hb d_M_tick_69 hl (k := 0) rfl rfl (by decide) rfl (fun ls hl => ?_)
            refine lv_goto (tgt := 4) hx hb d_M_tick_72 (by decide) ?_
            have hs0 : mtk x3 x5 tm (i + 1) = mtk x3 x5 tm i := by simp only [mtk, if_pos c_2, if_neg c_3, if_pos c_4]
            refine ih (i + 1) H locs ls (by omega) ?_ hS ?_
            · rw [hs0]; exact hP
            · rw [nI_succ]; rw [hs0]; exact lv_sub hl [0, 1, 2, 3] rfl
          · refine lv_aload_n hx hb d_M_tick_55 rfl (lv_at hl 2 rfl) ?_
            refine va_get (D := (dC, dI)) (ci := 3) (v := .ref (a 4)) (C := R_M) (T := F_M) (N := 12) hx hb hw i_M hown hK hP 0 rfl rfl 8 (by decide) (hw _ kb_344) (fun _ h9 => h9) rfl d_M_tick_56 ?_
            refine lv_bipush (v := 8) hx hb d_M_tick_59 (by decide) ?_
            refine lv_iload_n hx hb d_M_tick_61 rfl (lv_at hl 3 rfl) ?_
            refine lv_imul hx hb d_M_tick_62 ?_
            refine lv_iload_n hx hb d_M_tick_63 rfl (lv_at hl 0 rfl) ?_
            refine lv_iadd hx hb d_M_tick_64 ?_
            refine lv_iconst (v := 0) hx hb d_M_tick_65 (by decide) ?_
            refine ms_me (i := i) (v := 0) hx hb hK hP hnd hAL hS hg (show i < 8 by omega) d_M_tick_66 (fun H locs hP hS => ?_)
            rw [vz0] at hP
            refine lv_iconst (v := 1) hx hb d_M_tick_67 (by decide) ?_
            refine lv_istore_n (lv' := [(2, .int 1), (3, .int (nI i)), (0, .ref (a 0)), (1, .int (nI g))]) hx hb d_M_tick_68 rfl hl (by decide) rfl (fun ls hl => ?_)
            refine lv_iinc (v := (nI i) + 1) (lv' := [(3, .int ((nI i) + 1)), (2, .int 1), (0, .ref (a 0)), (1, .int (nI g))]) hx hb d_M_tick_69 hl (k := 1) rfl rfl (by decide) rfl (fun ls hl => ?_)
            refine lv_goto (tgt := 4) hx hb d_M_tick_72 (by decide) ?_
            have hs0 : mtk x3 x5 tm (i + 1) = (upd ((mtk x3 x5 tm i).1) i 0, 1) := by simp only [mtk, if_pos c_2, if_neg c_3, if_neg c_4]
            refine ih (i + 1) H locs ls (by omega) ?_ hS ?_
            · rw [hs0]; exact hP
            · rw [nI_succ]; rw [hs0]; exact lv_sub hl [0, 1, 2, 3] rfl
set_option maxHeartbeats 4000000 in
set_option maxRecDepth 100000 in
theorem c_M_tick (l : Launch) {dC : Nat → ClassId} {dI : Nat → Nat → Nat} {cI cJ cZ : ClassId} {a : Nat → Nat} (hnd : (mad a).Nodup) (co lg tm rm no : Int32) (M : Nat → mGV) {g : Nat} (hg : g < 8) (x0 x1 x2 : Int32) (x3 x4 x5 : Nat → Int32) (x6 : Nat → Int64) (sz : Nat) : Met l y_M_tick w_M_tick ({ frames := 2, cells := 0, slots := 0, locals := 60 }) (kPre (dC, dI) vwCl (mty cI cJ cZ) [.ref (a 0), .int (nI g)] sz (mw cI cJ cZ a co lg tm rm no (va_up M g (x0, x1, x2, x3, x4, x5, x6)))) (va_Qv (fun u : mDV => u = (co, lg, tm, (mg_done tm rm no (mg_tk tm (x0, x1, x2, x3, x4, x5, x6))).2.1, (mg_done tm rm no (mg_tk tm (x0, x1, x2, x3, x4, x5, x6))).2.2, va_up M g ((mg_done tm rm no (mg_tk tm (x0, x1, x2, x3, x4, x5, x6))).1))) (fun u t => va_P (dC, dI) vwCl (mwv cI cJ cZ a u) t.heap) (kA (mad a) sz)) 0 0 (kA (mad a) sz) := by
  refine Met.ofW (cc := b_M_tick) (maxL := 4) (ret := none) (by decide) rfl ?_
  intro p e s m args below meth c s₁ B hml hv
  obtain ⟨rfl, hsz, hP, hK⟩ := hv
  have hx := B.exec
  have hb := B.bytes
  have hr := B.returns
  have hts := atoms_spec (ws := w_M_tick) B.pre
  have hw := fun (w : Cond) (h : w ∈ kb_B) => hts w (List.mem_cons_of_mem _ h)
  have hown : s.vm.findClass R_M = some m.cls := findClass_of_methodNamed B.named
  have hlocks := B.notSynchronized
  subst hsz
  generalize hAe : kA (mad a) s.heap.size = A
  have hA : ∀ q : Nat, s.heap.size ≤ q → A q := fun q h => by rw [← hAe]; exact Or.inr h
  have hAL : ∀ q ∈ (mad a), A q := fun q h => by rw [← hAe]; exact Or.inl h
  have hS : va_S A s.heap s.heap [] := va_S.rf
  have hl := lv_entry ([.ref (a 0), .int (nI g)]) (n := 4) (Nat.le_of_ble_eq_true rfl)
  rw [lg_entry_eq]
  generalize (lg_sl ([.ref (a 0), .int (nI g)]) ++ List.replicate (4 - (lg_sl ([.ref (a 0), .int (nI g)])).length) Slot.unset).toArray = ls at hl ⊢
  have hl : lv_has ls 4 [(0, .ref (a 0)), (1, .int (nI g))] := hl
  refine lv_iconst (v := 0) hx hb d_M_tick_0 (by decide) ?_
  refine lv_istore_n (lv' := [(2, .int 0), (0, .ref (a 0)), (1, .int (nI g))]) hx hb d_M_tick_1 rfl hl (by decide) rfl (fun ls hl => ?_)
  refine lv_iconst (v := 0) hx hb d_M_tick_2 (by decide) ?_
  refine lv_istore_n (lv' := [(3, .int 0), (2, .int 0), (0, .ref (a 0)), (1, .int (nI g))]) hx hb d_M_tick_3 rfl hl (by decide) rfl (fun ls hl => ?_)
  by_cases h2 : x0 = 2
  · refine lp_M_tick (x0 := x0) (x1 := x1) (x2 := x2) (x3 := x3) (x4 := x4) (x5 := x5) (x6 := x6) hnd hg hx hb hml hown hw hK hA hAL h2 (fun H locs ls hP hS hl => ?_) 8 0 _ _ ls rfl hP hS (lv_sub hl [0, 1, 2, 3] rfl)
    refine lv_iload_n hx hb d_M_tick_75 rfl (lv_at hl 1 rfl) ?_
    refine lv_if_eq (tgt := 84) hx hb d_M_tick_76 (by decide) (fun c_1 => ?_) (fun c_1 => ?_)
    · refine lv_aload_n hx hb d_M_tick_84 rfl (lv_at hl 2 rfl) ?_
      refine lv_iload_n hx hb d_M_tick_85 rfl (lv_at hl 3 rfl) ?_
      refine kc_v (Wd := mwv cI cJ cZ a) (va_runV (As := [.int (nI g)]) (rest := []) ⟨hx, hb, hml, hown, hw⟩ (c_M_mayBeDone l hnd co lg tm rm no M hg x0 x1 x2 ((mtk x3 x5 tm 8).1) x4 x5 x6 _) (cwV 1 hw (kb_V kb_393 kb_395 kb_s7 kb_6 kb_396) rfl rfl rfl (by decide +kernel) ⟨Nat.le_of_ble_eq_true rfl, Nat.le_of_ble_eq_true rfl⟩) (kPV (va_recv hK hP (ci := 3) (q0 := 0) rfl rfl) hP hK) rfl rfl hl.1 rfl (lv_room (Nat.le_of_ble_eq_true rfl)) d_M_tick_86 ⟨Nat.le_of_ble_eq_true rfl, Nat.le_of_ble_eq_true rfl⟩) hS hA hAL (fun u_1 H locs hw9 hP _ _ hS => ?_)
      subst hw9
      have hP : va_P (dC, dI) vwCl (mw cI cJ cZ a co lg tm (mg_done tm rm no (x0, x1, x2, ((mtk x3 x5 tm 8).1), x4, x5, x6)).2.1 (mg_done tm rm no (x0, x1, x2, ((mtk x3 x5 tm 8).1), x4, x5, x6)).2.2 (va_up M g (mg_done tm rm no (x0, x1, x2, ((mtk x3 x5 tm 8).1), x4, x5, x6)).1)) _ := hP
      generalize hq_3 : mg_done tm rm no (x0, x1, x2, ((mtk x3 x5 tm 8).1), x4, x5, x6) = z_3 at hP
      obtain ⟨⟨y3_0, y3_1, y3_2, y3_3, y3_4, y3_5, y3_6⟩, rm_3, no_3⟩ := z_3
      have hP : va_P (dC, dI) vwCl (mw cI cJ cZ a co lg tm rm_3 no_3 (va_up M g (y3_0, y3_1, y3_2, y3_3, y3_4, y3_5, y3_6))) _ := hP
      exact W.vret hx hb hr (fun t ht hW => ⟨⟨(co, lg, tm, rm_3, no_3, (va_up M g (y3_0, y3_1, y3_2, y3_3, y3_4, y3_5, y3_6))), rfl, by first | (simp only [mg_tk, if_pos h2, if_pos c_1, hq_3]; done) | (simp [mg_tk, h2, c_1, hq_3]; done), by show va_P _ _ _ t.heap; rw [ht]; exact hP⟩, hS.F ht⟩) hS.2.2 d_M_tick_89
    · refine lv_aload_n hx hb d_M_tick_79 rfl (lv_at hl 2 rfl) ?_
      refine lv_iload_n hx hb d_M_tick_80 rfl (lv_at hl 3 rfl) ?_
      refine kc_v (Wd := mwv cI cJ cZ a) (va_runV (As := [.int (nI g)]) (rest := []) ⟨hx, hb, hml, hown, hw⟩ (c_M_without l hnd co lg tm rm no M hg x0 x1 x2 ((mtk x3 x5 tm 8).1) x4 x5 x6 _) (cwV 1 hw (kb_V kb_417 kb_419 kb_s12 kb_6 kb_420) rfl rfl rfl (by decide +kernel) ⟨Nat.le_of_ble_eq_true rfl, Nat.le_of_ble_eq_true rfl⟩) (kPV (va_recv hK hP (ci := 3) (q0 := 0) rfl rfl) hP hK) rfl rfl hl.1 rfl (lv_room (Nat.le_of_ble_eq_true rfl)) d_M_tick_81 ⟨Nat.le_of_ble_eq_true rfl, Nat.le_of_ble_eq_true rfl⟩) hS hA hAL (fun u_4 H locs hw9 hP _ _ hS => ?_)
      subst hw9
      have hP : va_P (dC, dI) vwCl (mw cI cJ cZ a co lg tm rm no (va_up M g (mg_wo tm (x0, x1, x2, ((mtk x3 x5 tm 8).1), x4, x5, x6)))) _ := hP
      generalize hq_6 : mg_wo tm (x0, x1, x2, ((mtk x3 x5 tm 8).1), x4, x5, x6) = z_6 at hP
      obtain ⟨y6_0, y6_1, y6_2, y6_3, y6_4, y6_5, y6_6⟩ := z_6
      refine lv_aload_n hx hb d_M_tick_84 rfl (lv_at hl 2 rfl) ?_
      refine lv_iload_n hx hb d_M_tick_85 rfl (lv_at hl 3 rfl) ?_
      refine kc_v (Wd := mwv cI cJ cZ a) (va_runV (As := [.int (nI g)]) (rest := []) ⟨hx, hb, hml, hown, hw⟩ (c_M_mayBeDone l hnd co lg tm rm no M hg y6_0 y6_1 y6_2 y6_3 y6_4 y6_5 y6_6 _) (cwV 1 hw (kb_V kb_393 kb_395 kb_s7 kb_6 kb_396) rfl rfl rfl (by decide +kernel) ⟨Nat.le_of_ble_eq_true rfl, Nat.le_of_ble_eq_true rfl⟩) (kPV (va_recv hK hP (ci := 3) (q0 := 0) rfl rfl) hP hK) rfl rfl hl.1 rfl (lv_room (Nat.le_of_ble_eq_true rfl)) d_M_tick_86 ⟨Nat.le_of_ble_eq_true rfl, Nat.le_of_ble_eq_true rfl⟩) hS hA hAL (fun u_7 H locs hw9 hP _ _ hS => ?_)
      subst hw9
      have hP : va_P (dC, dI) vwCl (mw cI cJ cZ a co lg tm (mg_done tm rm no (y6_0, y6_1, y6_2, y6_3, y6_4, y6_5, y6_6)).2.1 (mg_done tm rm no (y6_0, y6_1, y6_2, y6_3, y6_4, y6_5, y6_6)).2.2 (va_up M g (mg_done tm rm no (y6_0, y6_1, y6_2, y6_3, y6_4, y6_5, y6_6)).1)) _ := hP
      generalize hq_9 : mg_done tm rm no (y6_0, y6_1, y6_2, y6_3, y6_4, y6_5, y6_6) = z_9 at hP
      obtain ⟨⟨y9_0, y9_1, y9_2, y9_3, y9_4, y9_5, y9_6⟩, rm_9, no_9⟩ := z_9
      have hP : va_P (dC, dI) vwCl (mw cI cJ cZ a co lg tm rm_9 no_9 (va_up M g (y9_0, y9_1, y9_2, y9_3, y9_4, y9_5, y9_6))) _ := hP
      exact W.vret hx hb hr (fun t ht hW => ⟨⟨(co, lg, tm, rm_9, no_9, (va_up M g (y9_0, y9_1, y9_2, y9_3, y9_4, y9_5, y9_6))), rfl, by first | (simp only [mg_tk, if_pos h2, if_neg c_1, hq_6, hq_9]; done) | (simp [mg_tk, h2, c_1, hq_6, hq_9]; done), by show va_P _ _ _ t.heap; rw [ht]; exact hP⟩, hS.F ht⟩) hS.2.2 d_M_tick_89
  · refine lv_iload_n hx hb d_M_tick_4 rfl (lv_at hl 0 rfl) ?_
    refine lv_bipush (v := 8) hx hb d_M_tick_5 (by decide) ?_
    refine lv_icmp_ge (tgt := 75) hx hb d_M_tick_7 (by decide) (fun c_2 => absurd c_2 (by decide)) (fun c_2 => ?_)
    refine lv_aload_n hx hb d_M_tick_10 rfl (lv_at hl 2 rfl) ?_
    refine va_get (D := (dC, dI)) (ci := 3) (v := .ref (a 1)) (C := R_M) (T := F_M) (N := 12) hx hb hw i_M hown hK hP 0 rfl rfl 5 (by decide) (hw _ kb_341) (fun _ h9 => h9) rfl d_M_tick_11 ?_
    refine lv_iload_n hx hb d_M_tick_14 rfl (lv_at hl 3 rfl) ?_
    refine ml_st hx hb hK hP hg d_M_tick_15 ?_
    refine lv_iconst (v := 2) hx hb d_M_tick_16 (by decide) ?_
    refine lv_icmp_ne (tgt := 75) hx hb d_M_tick_17 (by decide) (fun c_3 => ?_) (fun c_3 => ?_)
    · refine lv_iload_n hx hb d_M_tick_75 rfl (lv_at hl 1 rfl) ?_
      refine lv_if_eq (tgt := 84) hx hb d_M_tick_76 (by decide) (fun c_4 => ?_) (fun c_4 => (c_4 (by decide)).elim)
      refine lv_aload_n hx hb d_M_tick_84 rfl (lv_at hl 2 rfl) ?_
      refine lv_iload_n hx hb d_M_tick_85 rfl (lv_at hl 3 rfl) ?_
      refine kc_v (Wd := mwv cI cJ cZ a) (va_runV (As := [.int (nI g)]) (rest := []) ⟨hx, hb, hml, hown, hw⟩ (c_M_mayBeDone l hnd co lg tm rm no M hg x0 x1 x2 x3 x4 x5 x6 _) (cwV 1 hw (kb_V kb_393 kb_395 kb_s7 kb_6 kb_396) rfl rfl rfl (by decide +kernel) ⟨Nat.le_of_ble_eq_true rfl, Nat.le_of_ble_eq_true rfl⟩) (kPV (va_recv hK hP (ci := 3) (q0 := 0) rfl rfl) hP hK) rfl rfl hl.1 rfl (lv_room (Nat.le_of_ble_eq_true rfl)) d_M_tick_86 ⟨Nat.le_of_ble_eq_true rfl, Nat.le_of_ble_eq_true rfl⟩) hS hA hAL (fun u_10 H locs hw9 hP _ _ hS => ?_)
      subst hw9
      have hP : va_P (dC, dI) vwCl (mw cI cJ cZ a co lg tm (mg_done tm rm no (x0, x1, x2, x3, x4, x5, x6)).2.1 (mg_done tm rm no (x0, x1, x2, x3, x4, x5, x6)).2.2 (va_up M g (mg_done tm rm no (x0, x1, x2, x3, x4, x5, x6)).1)) _ := hP
      generalize hq_12 : mg_done tm rm no (x0, x1, x2, x3, x4, x5, x6) = z_12 at hP
      obtain ⟨⟨y12_0, y12_1, y12_2, y12_3, y12_4, y12_5, y12_6⟩, rm_12, no_12⟩ := z_12
      have hP : va_P (dC, dI) vwCl (mw cI cJ cZ a co lg tm rm_12 no_12 (va_up M g (y12_0, y12_1, y12_2, y12_3, y12_4, y12_5, y12_6))) _ := hP
      exact W.vret hx hb hr (fun t ht hW => ⟨⟨(co, lg, tm, rm_12, no_12, (va_up M g (y12_0, y12_1, y12_2, y12_3, y12_4, y12_5, y12_6))), rfl, by first | (simp only [mg_tk, if_neg h2, if_neg c_3, hq_12]; done) | (simp [mg_tk, h2, c_3, hq_12]; done), by show va_P _ _ _ t.heap; rw [ht]; exact hP⟩, hS.F ht⟩) hS.2.2 d_M_tick_89
    · exact absurd c_3 h2
theorem mo_nx_le (me : Nat → Int32) (f m : Nat) : mo_nx me f m ≤ m + f := by
  induction f generalizing m with
  | zero => exact Nat.le_refl _
  | succ f ih =>
    unfold mo_nx
    split
    · have := ih (m + 1); omega
    · omega
theorem mo_s_le (me : Nat → Int32) (k : Nat) : mo_s me k ≤ 9 * k := by
  induction k with
  | zero => exact Nat.le_refl _
  | succ k ih =>
    have := mo_nx_le me 8 (mo_s me k)
    unfold mo_s
    omega
theorem mo_ex {me : Nat → Int32} (h : ∃ q, q < 8 ∧ me q ≠ 0) (m : Nat) : ∃ j, j < 8 ∧ me ((m + j) % 8) ≠ 0 := by
  obtain ⟨q, hq, hm⟩ := h
  refine ⟨(q + 8 - m % 8) % 8, by omega, ?_⟩
  rw [show (m + (q + 8 - m % 8) % 8) % 8 = q by omega]
  exact hm
set_option maxHeartbeats 4000000 in
set_option maxRecDepth 100000 in
theorem lp_M_own1 {p : Program} {l : Launch} {e : Env} {s : State} {m : MethodId} {args : Array Value} {below : List Frame} {meth : Method} {c : Code} {Q : State → Prop} {dC : Nat → ClassId} {dI : Nat → Nat → Nat} {cI cJ cZ : ClassId} {a : Nat → Nat} (hnd : (mad a).Nodup) {co lg tm rm no : Int32} {M : Nat → mGV} {g b k T : Nat} (hg : g < 8) {x0 x1 x2 : Int32} {x3 x4 x5 : Nat → Int32} {x6 : Nat → Int64} {H : Heap} {locs : List Loc} (hx : p.tables.exec = Jvm.exec) (hb : c.code = b_M_owner) (hml : c.maxLocals = 5) (hown : s.vm.findClass R_M = some m.cls) (hw : ∀ w ∈ kb_B, w.before args s = true) (hK : va_K (dC, dI) vwCl (mty cI cJ cZ) s) (hP : va_P (dC, dI) vwCl (mw cI cJ cZ a co lg tm rm no (va_up M g (x0, x1, x2, x3, x4, x5, x6))) H)
    (kk : ∀ ls : Array Slot, lv_has ls 5 [(3, .int (nI T)), (4, .int (nI k)), (0, .ref (a 0)), (1, .int (nI g)), (2, .int (nI b))] → W p l e (headSpec w_M_owner ({ frames := 0, cells := 0, slots := 0, locals := 0 })).room s m args below meth c H locs 0 0 Q (F0 m 37 ls [])) :
    ∀ (f m1 : Nat) (ls : Array Slot), m1 + f < 1000 → (∃ j, j < f ∧ x3 ((m1 + j) % 8) ≠ 0) → mo_nx x3 f m1 = T → lv_has ls 5 [(3, .int (nI m1)), (4, .int (nI k)), (0, .ref (a 0)), (1, .int (nI g)), (2, .int (nI b))] → W p l e (headSpec w_M_owner ({ frames := 0, cells := 0, slots := 0, locals := 0 })).room s m args below meth c H locs 0 0 Q (F0 m 14 ls []) := by
  intro f
  induction f with
  | zero =>
    intro m1 ls _ hj
    obtain ⟨j, hj, _⟩ := hj
    exact absurd hj (Nat.not_lt_zero j)
  | succ f ih =>
    intro m1 ls hm hj hT hl
    refine lv_aload_n hx hb d_M_owner_14 rfl (lv_at hl 2 rfl) ?_
    refine va_get (D := (dC, dI)) (ci := 3) (v := .ref (a 4)) (C := R_M) (T := F_M) (N := 12) hx hb hw i_M hown hK hP 0 rfl rfl 8 (by decide) (hw _ kb_344) (fun _ h9 => h9) rfl d_M_owner_15 ?_
    refine lv_bipush (v := 8) hx hb d_M_owner_18 (by decide) ?_
    refine lv_iload_n hx hb d_M_owner_20 rfl (lv_at hl 3 rfl) ?_
    refine lv_imul hx hb d_M_owner_21 ?_
    refine lv_iload_n hx hb d_M_owner_22 rfl (lv_at hl 0 rfl) ?_
    refine lv_bipush (v := 8) hx hb d_M_owner_23 (by decide) ?_
    refine lv_irem hx hb d_M_owner_25 (by decide) ?_
    rw [m_rem (by omega)]
    refine lv_iadd hx hb d_M_owner_26 ?_
    refine ml_me (i := (m1 % 8)) hx hb hK hP hg (Nat.mod_lt _ (by decide)) d_M_owner_27 ?_
    refine lv_if_ne (tgt := 37) hx hb d_M_owner_28 (by decide) (fun c_1 => ?_) (fun c_1 => ?_)
    · rw [mo_nx, if_neg c_1] at hT
      subst hT
      exact kk ls (lv_sub hl [0, 1, 2, 3, 4] rfl)
    · refine lv_iinc (v := (nI m1) + 1) (lv' := [(3, .int ((nI m1) + 1)), (4, .int (nI k)), (0, .ref (a 0)), (1, .int (nI g)), (2, .int (nI b))]) hx hb d_M_owner_31 hl (k := 0) rfl rfl (by decide) rfl (fun ls hl => ?_)
      refine lv_goto (tgt := 14) hx hb d_M_owner_34 (by decide) ?_
      refine ih (m1 + 1) ls (by omega) ?_ ?_ ?_
      · obtain ⟨j, hj, hne⟩ := hj
        by_cases h0 : j = 0
        · subst h0; exact absurd c_1 hne
        · refine ⟨j - 1, by omega, ?_⟩
          rw [show m1 + 1 + (j - 1) = m1 + j by omega]; exact hne
      · rw [← hT, mo_nx, if_pos c_1]
      · rw [nI_succ]; exact lv_sub hl [0, 1, 2, 3, 4] rfl
set_option maxHeartbeats 4000000 in
set_option maxRecDepth 100000 in
theorem lp_M_own2 {p : Program} {l : Launch} {e : Env} {s : State} {m : MethodId} {args : Array Value} {below : List Frame} {meth : Method} {c : Code} {Q : State → Prop} {dC : Nat → ClassId} {dI : Nat → Nat → Nat} {cI cJ cZ : ClassId} {a : Nat → Nat} (hnd : (mad a).Nodup) {co lg tm rm no : Int32} {M : Nat → mGV} {g b : Nat} (hg : g < 8) {x0 x1 x2 : Int32} {x3 x4 x5 : Nat → Int32} {x6 : Nat → Int64} (hb8 : b < 8) (hne : ∃ q, q < 8 ∧ x3 q ≠ 0) {H : Heap} {locs : List Loc} (hx : p.tables.exec = Jvm.exec) (hb : c.code = b_M_owner) (hml : c.maxLocals = 5) (hown : s.vm.findClass R_M = some m.cls) (hw : ∀ w ∈ kb_B, w.before args s = true) (hK : va_K (dC, dI) vwCl (mty cI cJ cZ) s) (hP : va_P (dC, dI) vwCl (mw cI cJ cZ a co lg tm rm no (va_up M g (x0, x1, x2, x3, x4, x5, x6))) H)
    (kk : ∀ ls : Array Slot, lv_has ls 5 [(4, .int (nI (b + 1))), (3, .int (nI (mo_s x3 (b + 1)) - 1)), (0, .ref (a 0)), (1, .int (nI g)), (2, .int (nI b))] → W p l e (headSpec w_M_owner ({ frames := 0, cells := 0, slots := 0, locals := 0 })).room s m args below meth c H locs 0 0 Q (F0 m 43 ls [])) :
    ∀ (j k : Nat) (ls : Array Slot), k + j = b + 1 → lv_has ls 5 [(4, .int (nI k)), (3, .int (nI (mo_s x3 k) - 1)), (0, .ref (a 0)), (1, .int (nI g)), (2, .int (nI b))] → W p l e (headSpec w_M_owner ({ frames := 0, cells := 0, slots := 0, locals := 0 })).room s m args below meth c H locs 0 0 Q (F0 m 5 ls []) := by
  intro j
  induction j with
  | zero =>
    intro k ls hk hl
    have hkb : k = b + 1 := by omega
    subst hkb
    refine lv_iload hx hb d_M_owner_5 (lv_at hl 0 rfl) ?_
    refine lv_iload_n hx hb d_M_owner_7 rfl (lv_at hl 4 rfl) ?_
    refine lv_icmp_gt (tgt := 43) hx hb d_M_owner_8 (by decide) (fun c_1 => ?_) (fun c_1 => ?_)
    · exact kk ls hl
    · exact absurd (nI_lt (a := b) (b := b + 1) (by omega) (by omega)) c_1
  | succ j ih =>
    intro k ls hk hl
    refine lv_iload hx hb d_M_owner_5 (lv_at hl 0 rfl) ?_
    refine lv_iload_n hx hb d_M_owner_7 rfl (lv_at hl 4 rfl) ?_
    refine lv_icmp_gt (tgt := 43) hx hb d_M_owner_8 (by decide) (fun c_1 => ?_) (fun c_1 => ?_)
    · exact absurd c_1 (nI_nlt (by omega) (by omega))
    · refine lv_iinc (v := (nI (mo_s x3 k) - 1) + 1) (lv' := [(3, .int ((nI (mo_s x3 k) - 1) + 1)), (4, .int (nI k)), (0, .ref (a 0)), (1, .int (nI g)), (2, .int (nI b))]) hx hb d_M_owner_11 hl (k := 1) rfl rfl (by decide) rfl (fun ls hl => ?_)
      have hms := mo_s_le x3 k
      have hl : lv_has ls 5 [(3, .int (nI (mo_s x3 k))), (4, .int (nI k)), (0, .ref (a 0)), (1, .int (nI g)), (2, .int (nI b))] := by rw [m_inc] at hl; exact lv_sub hl [0, 1, 2, 3, 4] rfl
      refine lp_M_own1 hnd hg hx hb hml hown hw hK hP (fun ls hl => ?_) 8 (mo_s x3 k) ls (by omega) (mo_ex hne _) rfl hl
      refine lv_iinc (v := (nI k) + 1) (lv' := [(4, .int ((nI k) + 1)), (3, .int (nI (mo_nx x3 8 (mo_s x3 k)))), (0, .ref (a 0)), (1, .int (nI g)), (2, .int (nI b))]) hx hb d_M_owner_37 hl (k := 1) rfl rfl (by decide) rfl (fun ls hl => ?_)
      refine lv_goto (tgt := 5) hx hb d_M_owner_40 (by decide) ?_
      refine ih (k + 1) ls (by omega) ?_
      rw [nI_succ, show nI (mo_s x3 (k + 1)) - 1 = nI (mo_nx x3 8 (mo_s x3 k)) from nI_pred _]
      exact lv_sub hl [0, 1, 2, 3, 4] rfl
set_option maxHeartbeats 4000000 in
set_option maxRecDepth 100000 in
theorem c_M_owner (l : Launch) {dC : Nat → ClassId} {dI : Nat → Nat → Nat} {cI cJ cZ : ClassId} {a : Nat → Nat} (hnd : (mad a).Nodup) (co lg tm rm no : Int32) (M : Nat → mGV) {g : Nat} (hg : g < 8) (x0 x1 x2 : Int32) (x3 x4 x5 : Nat → Int32) (x6 : Nat → Int64) {b : Nat} (hb8 : b < 8) (hne : ∃ q, q < 8 ∧ x3 q ≠ 0) (sz : Nat) : Met l y_M_owner w_M_owner ({ frames := 0, cells := 0, slots := 0, locals := 0 }) (kPre (dC, dI) vwCl (mty cI cJ cZ) [.ref (a 0), .int (nI g), .int (nI b)] sz (mw cI cJ cZ a co lg tm rm no (va_up M g (x0, x1, x2, x3, x4, x5, x6)))) (vp_Si (fun r => r = nI (mo x3 b))) 0 0 (fun _ => False) := by
  refine Met.ofW (cc := b_M_owner) (maxL := 5) (ret := (some .int)) (by decide) rfl ?_
  intro p e s m args below meth c s₁ B hml hv
  obtain ⟨rfl, hsz, hP, hK⟩ := hv
  have hx := B.exec
  have hb := B.bytes
  have hr := B.returns
  have hts := atoms_spec (ws := w_M_owner) B.pre
  have hw := fun (w : Cond) (h : w ∈ kb_B) => hts w (List.mem_cons_of_mem _ h)
  have hown : s.vm.findClass R_M = some m.cls := findClass_of_methodNamed B.named
  have hlocks := B.notSynchronized
  subst hsz
  have hl := lv_entry ([.ref (a 0), .int (nI g), .int (nI b)]) (n := 5) (Nat.le_of_ble_eq_true rfl)
  rw [lg_entry_eq]
  generalize (lg_sl ([.ref (a 0), .int (nI g), .int (nI b)]) ++ List.replicate (5 - (lg_sl ([.ref (a 0), .int (nI g), .int (nI b)])).length) Slot.unset).toArray = ls at hl ⊢
  have hl : lv_has ls 5 [(0, .ref (a 0)), (1, .int (nI g)), (2, .int (nI b))] := hl
  refine lv_iconst (v := (-1)) hx hb d_M_owner_0 (by decide) ?_
  refine lv_istore_n (lv' := [(3, .int (-1)), (0, .ref (a 0)), (1, .int (nI g)), (2, .int (nI b))]) hx hb d_M_owner_1 rfl hl (by decide) rfl (fun ls hl => ?_)
  refine lv_iconst (v := 0) hx hb d_M_owner_2 (by decide) ?_
  refine lv_istore (lv' := [(4, .int 0), (3, .int (-1)), (0, .ref (a 0)), (1, .int (nI g)), (2, .int (nI b))]) hx hb d_M_owner_3 hl (by decide) rfl (fun ls hl => ?_)
  refine lp_M_own2 hnd hg hb8 hne hx hb hml hown hw hK hP (fun ls hl => ?_) (b + 1) 0 ls (Nat.zero_add _) (lv_sub hl [0, 1, 2, 3, 4] rfl)
  have hms := mo_s_le x3 b
  have hmn := mo_nx_le x3 8 (mo_s x3 b)
  rw [show nI (mo_s x3 (b + 1)) - 1 = nI (mo_nx x3 8 (mo_s x3 b)) from nI_pred _] at hl
  refine lv_iload_n hx hb d_M_owner_43 rfl (lv_at hl 1 rfl) ?_
  refine lv_bipush (v := 8) hx hb d_M_owner_44 (by decide) ?_
  refine lv_irem hx hb d_M_owner_46 (by decide) ?_
  rw [m_rem (by omega)]
  exact W.iret (v := (nI ((mo_nx x3 8 (mo_s x3 b)) % 8))) hx hb hr (fun t ht hW => ⟨_, rfl, by first | (simp only [mo]; done) | (simp [mo]; done), ht⟩) (fun q h => by cases h) d_M_owner_47
