theorem m_45 {x : Int32} : 4 < x ↔ ¬ x < 5 := by
  rw [Int32.lt_iff_toInt_lt, Int32.lt_iff_toInt_lt]
  show 4 < x.toInt ↔ ¬ x.toInt < 5
  omega
theorem m_sub1 (x : Int32) : x - 1 = x + (-1) := Int32.sub_eq_add_neg x 1
set_option maxHeartbeats 4000000 in
set_option maxRecDepth 100000 in
theorem lp_M_group {p : Program} {l : Launch} {e : Env} {s : State} {m : MethodId} {args : Array Value} {below : List Frame} {meth : Method} {c : Code} {Q : State → Prop} {dC : Nat → ClassId} {dI : Nat → Nat → Nat} {cI cJ cZ : ClassId} {a : Nat → Nat} (hnd : (mad a).Nodup) {co lg tm rm no : Int32} {M : Nat → mGV} {g : Nat} (hg : g < 8) {x0 x1 x2 : Int32} {x3 x4 x5 : Nat → Int32} {x6 : Nat → Int64} {p1 : Int32} {B : Int32} {H : Heap} {locs : List Loc} (hx : p.tables.exec = Jvm.exec) (hb : c.code = b_M_group) (hml : c.maxLocals = 6) (hown : s.vm.findClass R_M = some m.cls) (hw : ∀ w ∈ kb_B, w.before args s = true) (hK : va_K (dC, dI) vwCl (mty cI cJ cZ) s)  (hP : va_P (dC, dI) vwCl (mw cI cJ cZ a co lg tm rm no (va_up M g (x0, x1, x2, x3, x4, x5, x6))) H)
    (kk : ∀ ls : Array Slot, lv_has ls 6 [(3, .int B), (0, .ref (a 0)), (1, .int (nI g)), (2, .int p1)] → W p l e (headSpec w_M_group ({ frames := 1, cells := 0, slots := 0, locals := 30 })).room s m args below meth c H locs 0 0 Q (F0 m 183 ls [])) :
    ∀ (k : Nat) (b : Int32) (ls : Array Slot), k ≤ 8 → mbd (mg_is p1 x0 x3 x4) k b = B → lv_has ls 6 [(4, .int (nI k + (-1))), (3, .int b), (0, .ref (a 0)), (1, .int (nI g)), (2, .int p1)] → W p l e (headSpec w_M_group ({ frames := 1, cells := 0, slots := 0, locals := 30 })).room s m args below meth c H locs 0 0 Q (F0 m 105 ls []) := by
  intro k
  induction k with
  | zero =>
    intro b ls hk hB hl
    have hB : b = B := hB
    subst hB
    refine lv_iload hx hb d_M_group_105 (lv_at hl 0 rfl) ?_
    refine lv_if_lt (tgt := 183) hx hb d_M_group_107 (by decide) (fun c_1 => ?_) (fun c_1 => ?_)
    · exact kk ls (lv_sub hl [1, 2, 3, 4] rfl)
    · exact absurd (show nI 0 + (-1) < 0 by decide) c_1
  | succ k ih =>
    intro b ls hk hB hl
    rw [m_pred] at hl
    refine lv_iload hx hb d_M_group_105 (lv_at hl 0 rfl) ?_
    refine lv_if_lt (tgt := 183) hx hb d_M_group_107 (by decide) (fun c_1 => ?_) (fun c_1 => ?_)
    · exact absurd c_1 (nI_pos (by omega))
    · refine lv_aload_n hx hb d_M_group_110 rfl (lv_at hl 2 rfl) ?_
      refine va_get (D := (dC, dI)) (ci := 3) (v := .ref (a 4)) (C := R_M) (T := F_M) (N := 12) hx hb hw i_M hown hK hP 0 rfl rfl 8 (by decide) (hw _ kb_344) (fun _ h9 => h9) rfl d_M_group_111 ?_
      refine lv_bipush (v := 8) hx hb d_M_group_114 (by decide) ?_
      refine lv_iload_n hx hb d_M_group_116 rfl (lv_at hl 3 rfl) ?_
      refine lv_imul hx hb d_M_group_117 ?_
      refine lv_iload hx hb d_M_group_118 (lv_at hl 0 rfl) ?_
      refine lv_iadd hx hb d_M_group_120 ?_
      refine ml_me (i := k) hx hb hK hP hg (show k < 8 by omega) d_M_group_121 ?_
      refine lv_if_eq (tgt := 159) hx hb d_M_group_122 (by decide) (fun c_2 => ?_) (fun c_2 => ?_)
      · refine lv_iconst (v := 0) hx hb d_M_group_159 (by decide) ?_
        refine lv_istore (lv' := [(5, .int 0), (4, .int (nI k)), (3, .int b), (0, .ref (a 0)), (1, .int (nI g)), (2, .int p1)]) hx hb d_M_group_160 hl (by decide) rfl (fun ls hl => ?_)
        refine lv_iconst (v := 2) hx hb d_M_group_162 (by decide) ?_
        refine lv_iload_n hx hb d_M_group_163 rfl (lv_at hl 2 rfl) ?_
        refine lv_imul hx hb d_M_group_164 ?_
        refine lv_iload hx hb d_M_group_165 (lv_at hl 0 rfl) ?_
        refine lv_if_eq (tgt := 174) hx hb d_M_group_167 (by decide) (fun c_3 => ?_) (fun c_3 => absurd c_3 (by decide))
        refine lv_iconst (v := 0) hx hb d_M_group_174 (by decide) ?_
        refine lv_iadd hx hb d_M_group_175 ?_
        refine lv_istore_n (lv' := [(3, .int (((2 : Int32) * b) + (0 : Int32))), (5, .int 0), (4, .int (nI k)), (0, .ref (a 0)), (1, .int (nI g)), (2, .int p1)]) hx hb d_M_group_176 rfl hl (by decide) rfl (fun ls hl => ?_)
        refine lv_iinc (v := (nI k) + (-1)) (lv' := [(4, .int ((nI k) + (-1))), (3, .int (((2 : Int32) * b) + (0 : Int32))), (5, .int 0), (0, .ref (a 0)), (1, .int (nI g)), (2, .int p1)]) hx hb d_M_group_177 hl (k := 2) rfl rfl (by decide) rfl (fun ls hl => ?_)
        refine lv_goto (tgt := 105) hx hb d_M_group_180 (by decide) ?_
        have hs : (mg_is p1 x0 x3 x4) k = 0 := by simp only [mg_is, if_pos c_2]
        exact ih _ ls (by omega) (by rw [← hB, mbd, hs]) (lv_sub hl [0, 1, 3, 4, 5] rfl)
      · refine lv_iload_n hx hb d_M_group_125 rfl (lv_at hl 4 rfl) ?_
        refine lv_iconst (v := 2) hx hb d_M_group_126 (by decide) ?_
        refine lv_icmp_eq (tgt := 155) hx hb d_M_group_127 (by decide) (fun c_4 => ?_) (fun c_4 => ?_)
        · refine lv_iconst (v := 1) hx hb d_M_group_155 (by decide) ?_
          refine lv_goto (tgt := 160) hx hb d_M_group_156 (by decide) ?_
          refine lv_istore (lv' := [(5, .int 1), (4, .int (nI k)), (3, .int b), (0, .ref (a 0)), (1, .int (nI g)), (2, .int p1)]) hx hb d_M_group_160 hl (by decide) rfl (fun ls hl => ?_)
          refine lv_iconst (v := 2) hx hb d_M_group_162 (by decide) ?_
          refine lv_iload_n hx hb d_M_group_163 rfl (lv_at hl 2 rfl) ?_
          refine lv_imul hx hb d_M_group_164 ?_
          refine lv_iload hx hb d_M_group_165 (lv_at hl 0 rfl) ?_
          refine lv_if_eq (tgt := 174) hx hb d_M_group_167 (by decide) (fun c_5 => absurd c_5 (by decide)) (fun c_5 => ?_)
          refine lv_iconst (v := 1) hx hb d_M_group_170 (by decide) ?_
          refine lv_goto (tgt := 175) hx hb d_M_group_171 (by decide) ?_
          refine lv_iadd hx hb d_M_group_175 ?_
          refine lv_istore_n (lv' := [(3, .int (((2 : Int32) * b) + (1 : Int32))), (5, .int 1), (4, .int (nI k)), (0, .ref (a 0)), (1, .int (nI g)), (2, .int p1)]) hx hb d_M_group_176 rfl hl (by decide) rfl (fun ls hl => ?_)
          refine lv_iinc (v := (nI k) + (-1)) (lv' := [(4, .int ((nI k) + (-1))), (3, .int (((2 : Int32) * b) + (1 : Int32))), (5, .int 1), (0, .ref (a 0)), (1, .int (nI g)), (2, .int p1)]) hx hb d_M_group_177 hl (k := 2) rfl rfl (by decide) rfl (fun ls hl => ?_)
          refine lv_goto (tgt := 105) hx hb d_M_group_180 (by decide) ?_
          have hs : (mg_is p1 x0 x3 x4) k = 1 := by simp only [mg_is, if_neg c_2, if_pos c_4]
          exact ih _ ls (by omega) (by rw [← hB, mbd, hs]) (lv_sub hl [0, 1, 3, 4, 5] rfl)
        · refine lv_aload_n hx hb d_M_group_130 rfl (lv_at hl 2 rfl) ?_
          refine va_get (D := (dC, dI)) (ci := 3) (v := .ref (a 1)) (C := R_M) (T := F_M) (N := 12) hx hb hw i_M hown hK hP 0 rfl rfl 5 (by decide) (hw _ kb_341) (fun _ h9 => h9) rfl d_M_group_131 ?_
          refine lv_iload_n hx hb d_M_group_134 rfl (lv_at hl 3 rfl) ?_
          refine ml_st hx hb hK hP hg d_M_group_135 ?_
          refine lv_iconst (v := 2) hx hb d_M_group_136 (by decide) ?_
          refine lv_icmp_eq (tgt := 155) hx hb d_M_group_137 (by decide) (fun c_6 => ?_) (fun c_6 => ?_)
          · refine lv_iconst (v := 1) hx hb d_M_group_155 (by decide) ?_
            refine lv_goto (tgt := 160) hx hb d_M_group_156 (by decide) ?_
            refine lv_istore (lv' := [(5, .int 1), (4, .int (nI k)), (3, .int b), (0, .ref (a 0)), (1, .int (nI g)), (2, .int p1)]) hx hb d_M_group_160 hl (by decide) rfl (fun ls hl => ?_)
            refine lv_iconst (v := 2) hx hb d_M_group_162 (by decide) ?_
            refine lv_iload_n hx hb d_M_group_163 rfl (lv_at hl 2 rfl) ?_
            refine lv_imul hx hb d_M_group_164 ?_
            refine lv_iload hx hb d_M_group_165 (lv_at hl 0 rfl) ?_
            refine lv_if_eq (tgt := 174) hx hb d_M_group_167 (by decide) (fun c_7 => absurd c_7 (by decide)) (fun c_7 => ?_)
            refine lv_iconst (v := 1) hx hb d_M_group_170 (by decide) ?_
            refine lv_goto (tgt := 175) hx hb d_M_group_171 (by decide) ?_
            refine lv_iadd hx hb d_M_group_175 ?_
            refine lv_istore_n (lv' := [(3, .int (((2 : Int32) * b) + (1 : Int32))), (5, .int 1), (4, .int (nI k)), (0, .ref (a 0)), (1, .int (nI g)), (2, .int p1)]) hx hb d_M_group_176 rfl hl (by decide) rfl (fun ls hl => ?_)
            refine lv_iinc (v := (nI k) + (-1)) (lv' := [(4, .int ((nI k) + (-1))), (3, .int (((2 : Int32) * b) + (1 : Int32))), (5, .int 1), (0, .ref (a 0)), (1, .int (nI g)), (2, .int p1)]) hx hb d_M_group_177 hl (k := 2) rfl rfl (by decide) rfl (fun ls hl => ?_)
            refine lv_goto (tgt := 105) hx hb d_M_group_180 (by decide) ?_
            have hs : (mg_is p1 x0 x3 x4) k = 1 := by simp only [mg_is, if_neg c_2, if_neg c_4, if_pos c_6]
            exact ih _ ls (by omega) (by rw [← hB, mbd, hs]) (lv_sub hl [0, 1, 3, 4, 5] rfl)
          · refine lv_aload_n hx hb d_M_group_140 rfl (lv_at hl 2 rfl) ?_
            refine va_get (D := (dC, dI)) (ci := 3) (v := .ref (a 5)) (C := R_M) (T := F_M) (N := 12) hx hb hw i_M hown hK hP 0 rfl rfl 9 (by decide) (hw _ kb_345) (fun _ h9 => h9) rfl d_M_group_141 ?_
            refine lv_bipush (v := 8) hx hb d_M_group_144 (by decide) ?_
            refine lv_iload_n hx hb d_M_group_146 rfl (lv_at hl 3 rfl) ?_
            refine lv_imul hx hb d_M_group_147 ?_
            refine lv_iload hx hb d_M_group_148 (lv_at hl 0 rfl) ?_
            refine lv_iadd hx hb d_M_group_150 ?_
            refine ml_jo (i := k) hx hb hK hP hg (show k < 8 by omega) d_M_group_151 ?_
            refine lv_if_eq (tgt := 159) hx hb d_M_group_152 (by decide) (fun c_8 => ?_) (fun c_8 => ?_)
            · refine lv_iconst (v := 0) hx hb d_M_group_159 (by decide) ?_
              refine lv_istore (lv' := [(5, .int 0), (4, .int (nI k)), (3, .int b), (0, .ref (a 0)), (1, .int (nI g)), (2, .int p1)]) hx hb d_M_group_160 hl (by decide) rfl (fun ls hl => ?_)
              refine lv_iconst (v := 2) hx hb d_M_group_162 (by decide) ?_
              refine lv_iload_n hx hb d_M_group_163 rfl (lv_at hl 2 rfl) ?_
              refine lv_imul hx hb d_M_group_164 ?_
              refine lv_iload hx hb d_M_group_165 (lv_at hl 0 rfl) ?_
              refine lv_if_eq (tgt := 174) hx hb d_M_group_167 (by decide) (fun c_9 => ?_) (fun c_9 => absurd c_9 (by decide))
              refine lv_iconst (v := 0) hx hb d_M_group_174 (by decide) ?_
              refine lv_iadd hx hb d_M_group_175 ?_
              refine lv_istore_n (lv' := [(3, .int (((2 : Int32) * b) + (0 : Int32))), (5, .int 0), (4, .int (nI k)), (0, .ref (a 0)), (1, .int (nI g)), (2, .int p1)]) hx hb d_M_group_176 rfl hl (by decide) rfl (fun ls hl => ?_)
              refine lv_iinc (v := (nI k) + (-1)) (lv' := [(4, .int ((nI k) + (-1))), (3, .int (((2 : Int32) * b) + (0 : Int32))), (5, .int 0), (0, .ref (a 0)), (1, .int (nI g)), (2, .int p1)]) hx hb d_M_group_177 hl (k := 2) rfl rfl (by decide) rfl (fun ls hl => ?_)
              refine lv_goto (tgt := 105) hx hb d_M_group_180 (by decide) ?_
              have hs : (mg_is p1 x0 x3 x4) k = 0 := by simp only [mg_is, if_neg c_2, if_neg c_4, if_neg c_6, if_pos c_8]
              exact ih _ ls (by omega) (by rw [← hB, mbd, hs]) (lv_sub hl [0, 1, 3, 4, 5] rfl)
            · refine lv_iconst (v := 1) hx hb d_M_group_155 (by decide) ?_
              refine lv_goto (tgt := 160) hx hb d_M_group_156 (by decide) ?_
              refine lv_istore (lv' := [(5, .int 1), (4, .int (nI k)), (3, .int b), (0, .ref (a 0)), (1, .int (nI g)), (2, .int p1)]) hx hb d_M_group_160 hl (by decide) rfl (fun ls hl => ?_)
              refine lv_iconst (v := 2) hx hb d_M_group_162 (by decide) ?_
              refine lv_iload_n hx hb d_M_group_163 rfl (lv_at hl 2 rfl) ?_
              refine lv_imul hx hb d_M_group_164 ?_
              refine lv_iload hx hb d_M_group_165 (lv_at hl 0 rfl) ?_
              refine lv_if_eq (tgt := 174) hx hb d_M_group_167 (by decide) (fun c_10 => absurd c_10 (by decide)) (fun c_10 => ?_)
              refine lv_iconst (v := 1) hx hb d_M_group_170 (by decide) ?_
              refine lv_goto (tgt := 175) hx hb d_M_group_171 (by decide) ?_
              refine lv_iadd hx hb d_M_group_175 ?_
              refine lv_istore_n (lv' := [(3, .int (((2 : Int32) * b) + (1 : Int32))), (5, .int 1), (4, .int (nI k)), (0, .ref (a 0)), (1, .int (nI g)), (2, .int p1)]) hx hb d_M_group_176 rfl hl (by decide) rfl (fun ls hl => ?_)
              refine lv_iinc (v := (nI k) + (-1)) (lv' := [(4, .int ((nI k) + (-1))), (3, .int (((2 : Int32) * b) + (1 : Int32))), (5, .int 1), (0, .ref (a 0)), (1, .int (nI g)), (2, .int p1)]) hx hb d_M_group_177 hl (k := 2) rfl rfl (by decide) rfl (fun ls hl => ?_)
              refine lv_goto (tgt := 105) hx hb d_M_group_180 (by decide) ?_
              have hs : (mg_is p1 x0 x3 x4) k = 1 := by simp only [mg_is, if_neg c_2, if_neg c_4, if_neg c_6, if_neg c_8]
              exact ih _ ls (by omega) (by rw [← hB, mbd, hs]) (lv_sub hl [0, 1, 3, 4, 5] rfl)
set_option maxHeartbeats 4000000 in
set_option maxRecDepth 100000 in
theorem c_M_group (l : Launch) {dC : Nat → ClassId} {dI : Nat → Nat → Nat} {cI cJ cZ : ClassId} {a : Nat → Nat} (hnd : (mad a).Nodup) (co lg tm rm no : Int32) (M : Nat → mGV) (p0 : Int32) (p1 : Int32) (sz : Nat) : Met l y_M_group w_M_group ({ frames := 1, cells := 0, slots := 0, locals := 30 }) (kPre (dC, dI) vwCl (mty cI cJ cZ) [.ref (a 0), .int p0, .int p1] sz (mw cI cJ cZ a co lg tm rm no M)) (va_Qi (fun (r : Int32) (u : mDV) => ((vp_in p0 8 ∧ vp_in p1 5) ∧ (r, u) = (mg_what tm p1 (M p0.toNatClampNeg), (0, lg, tm, rm, no, M))) ∨ (¬ (vp_in p0 8 ∧ vp_in p1 5) ∧ u = (1, lg, tm, rm, no, M))) (fun u t => va_P (dC, dI) vwCl (mwv cI cJ cZ a u) t.heap) (kA (mad a) sz)) 0 0 (kA (mad a) sz) := by
  refine Met.ofW (cc := b_M_group) (maxL := 6) (ret := (some .int)) (by decide) rfl ?_
  intro p e s m args below meth c s₁ B hml hv
  obtain ⟨rfl, hsz, hP, hK⟩ := hv
  have hx := B.exec
  have hb := B.bytes
  have hr := B.returns
  have hts := atoms_spec (ws := w_M_group) B.pre
  have hw := fun (w : Cond) (h : w ∈ kb_B) => hts w (List.mem_cons_of_mem _ h)
  have hown : s.vm.findClass R_M = some m.cls := findClass_of_methodNamed B.named
  have hlocks := B.notSynchronized
  subst hsz
  generalize hAe : kA (mad a) s.heap.size = A
  have hA : ∀ q : Nat, s.heap.size ≤ q → A q := fun q h => by rw [← hAe]; exact Or.inr h
  have hAL : ∀ q ∈ (mad a), A q := fun q h => by rw [← hAe]; exact Or.inl h
  have hS : va_S A s.heap s.heap [] := va_S.rf
  have hl := lv_entry ([.ref (a 0), .int p0, .int p1]) (n := 6) (Nat.le_of_ble_eq_true rfl)
  rw [lg_entry_eq]
  generalize (lg_sl ([.ref (a 0), .int p0, .int p1]) ++ List.replicate (6 - (lg_sl ([.ref (a 0), .int p0, .int p1])).length) Slot.unset).toArray = ls at hl ⊢
  have hl : lv_has ls 6 [(0, .ref (a 0)), (1, .int p0), (2, .int p1)] := hl
  refine lv_aload_n hx hb d_M_group_0 rfl (lv_at hl 0 rfl) ?_
  refine lv_iload_n hx hb d_M_group_1 rfl (lv_at hl 1 rfl) ?_
  refine vp_callSi (W.runS (As := [.int p0]) (rest := [.ref (a 0)]) ⟨hx, hb, hml, hown, hw⟩ (c_M_isOne l p0) (va_cwS 1 hw (kb_S kb_382 kb_383 kb_6 kb_384) rfl rfl rfl (by decide +kernel) ⟨Nat.le_of_ble_eq_true rfl, Nat.le_of_ble_eq_true rfl⟩) preEq rfl rfl hl.1 rfl (lv_room (Nat.le_of_ble_eq_true rfl)) d_M_group_2 ⟨Nat.le_of_ble_eq_true rfl, Nat.le_of_ble_eq_true rfl⟩) (fun r_1 er_1 => ?_)
  rcases er_1 with ⟨rfl, hp_p0⟩ | ⟨rfl, hp_p0⟩
  · skip
    obtain ⟨g, hg, rfl⟩ := vp_in_of hp_p0 (by decide)
    have hcg : (nI g).toNatClampNeg = g := nI_clamp (by omega)
    refine lv_if_eq (tgt := 21) hx hb d_M_group_5 (by decide) (fun c_1 => absurd c_1 (by decide)) (fun c_1 => ?_)
    refine lv_iload_n hx hb d_M_group_8 rfl (lv_at hl 2 rfl) ?_
    refine lv_if_lt (tgt := 21) hx hb d_M_group_9 (by decide) (fun c_2 => ?_) (fun c_2 => ?_)
    · refine lv_iconst (v := 0) hx hb d_M_group_21 (by decide) ?_
      refine kc_i (Wd := mwv cI cJ cZ a) (va_runV (As := [.int 0]) (rest := []) ⟨hx, hb, hml, hown, hw⟩ (c_M_goes0 l hnd co lg tm rm no M _) (cwV 1 hw (kb_V kb_385 kb_387 kb_s5 kb_6 kb_388) rfl rfl rfl (by decide +kernel) ⟨Nat.le_of_ble_eq_true rfl, Nat.le_of_ble_eq_true rfl⟩) (kPV (va_recv hK hP (ci := 3) (q0 := 0) rfl rfl) hP hK) rfl rfl hl.1 rfl (lv_room (Nat.le_of_ble_eq_true rfl)) d_M_group_22 ⟨Nat.le_of_ble_eq_true rfl, Nat.le_of_ble_eq_true rfl⟩) hS hA hAL (fun r_3 u_2 H locs hw9 hP _ _ hS => ?_)
      obtain ⟨rfl, rfl⟩ := hw9
      have hP : va_P (dC, dI) vwCl (mw cI cJ cZ a 1 lg tm rm no M) _ := hP
      refine lv_if_ne (tgt := 30) hx hb d_M_group_25 (by decide) (fun c_3 => absurd c_3 (by decide)) (fun c_3 => ?_)
      refine lv_iconst (v := 0) hx hb d_M_group_28 (by decide) ?_
      exact W.iret (v := 0) hx hb hr (fun t ht hW => ⟨⟨_, (1, lg, tm, rm, no, M), rfl, Or.inr ⟨fun h => kn_no0 c_2 h.2, rfl⟩, by show va_P _ _ _ t.heap; rw [ht]; exact hP⟩, hS.F ht⟩) hS.2.2 d_M_group_29
    · refine lv_iload_n hx hb d_M_group_12 rfl (lv_at hl 2 rfl) ?_
      refine lv_iconst (v := 4) hx hb d_M_group_13 (by decide) ?_
      refine lv_icmp_gt (tgt := 21) hx hb d_M_group_14 (by decide) (fun c_4 => ?_) (fun c_4 => ?_)
      · refine lv_iconst (v := 0) hx hb d_M_group_21 (by decide) ?_
        refine kc_i (Wd := mwv cI cJ cZ a) (va_runV (As := [.int 0]) (rest := []) ⟨hx, hb, hml, hown, hw⟩ (c_M_goes0 l hnd co lg tm rm no M _) (cwV 1 hw (kb_V kb_385 kb_387 kb_s5 kb_6 kb_388) rfl rfl rfl (by decide +kernel) ⟨Nat.le_of_ble_eq_true rfl, Nat.le_of_ble_eq_true rfl⟩) (kPV (va_recv hK hP (ci := 3) (q0 := 0) rfl rfl) hP hK) rfl rfl hl.1 rfl (lv_room (Nat.le_of_ble_eq_true rfl)) d_M_group_22 ⟨Nat.le_of_ble_eq_true rfl, Nat.le_of_ble_eq_true rfl⟩) hS hA hAL (fun r_5 u_4 H locs hw9 hP _ _ hS => ?_)
        obtain ⟨rfl, rfl⟩ := hw9
        have hP : va_P (dC, dI) vwCl (mw cI cJ cZ a 1 lg tm rm no M) _ := hP
        refine lv_if_ne (tgt := 30) hx hb d_M_group_25 (by decide) (fun c_5 => absurd c_5 (by decide)) (fun c_5 => ?_)
        refine lv_iconst (v := 0) hx hb d_M_group_28 (by decide) ?_
        exact W.iret (v := 0) hx hb hr (fun t ht hW => ⟨⟨_, (1, lg, tm, rm, no, M), rfl, Or.inr ⟨fun h => kn_ge (y := 5) (by decide) (m_45.mp c_4) h.2, rfl⟩, by show va_P _ _ _ t.heap; rw [ht]; exact hP⟩, hS.F ht⟩) hS.2.2 d_M_group_29
      · refine lv_iconst (v := 1) hx hb d_M_group_17 (by decide) ?_
        refine lv_goto (tgt := 22) hx hb d_M_group_18 (by decide) ?_
        refine kc_i (Wd := mwv cI cJ cZ a) (va_runV (As := [.int 1]) (rest := []) ⟨hx, hb, hml, hown, hw⟩ (c_M_goes1 l hnd co lg tm rm no M _) (cwV 1 hw (kb_V kb_385 kb_387 kb_s5 kb_6 kb_388) rfl rfl rfl (by decide +kernel) ⟨Nat.le_of_ble_eq_true rfl, Nat.le_of_ble_eq_true rfl⟩) (kPV (va_recv hK hP (ci := 3) (q0 := 0) rfl rfl) hP hK) rfl rfl hl.1 rfl (lv_room (Nat.le_of_ble_eq_true rfl)) d_M_group_22 ⟨Nat.le_of_ble_eq_true rfl, Nat.le_of_ble_eq_true rfl⟩) hS hA hAL (fun r_7 u_6 H locs hw9 hP _ _ hS => ?_)
        obtain ⟨rfl, rfl⟩ := hw9
        have hP : va_P (dC, dI) vwCl (mw cI cJ cZ a 0 lg tm rm no M) _ := hP
        rw [← mv_at M g] at hP
        generalize hMg : M g = gv at hP
        obtain ⟨x0, x1, x2, x3, x4, x5, x6⟩ := gv
        have hMu : va_up M g (x0, x1, x2, x3, x4, x5, x6) = M := by rw [← hMg]; exact mv_at M g
        refine lv_if_ne (tgt := 30) hx hb d_M_group_25 (by decide) (fun c_6 => ?_) (fun c_6 => absurd c_6 (by decide))
        refine lv_iload_n hx hb d_M_group_30 rfl (lv_at hl 2 rfl) ?_
        refine lv_iconst (v := 2) hx hb d_M_group_31 (by decide) ?_
        refine lv_icmp_ge (tgt := 55) hx hb d_M_group_32 (by decide) (fun c_7 => ?_) (fun c_7 => ?_)
        · refine lv_iload_n hx hb d_M_group_55 rfl (lv_at hl 2 rfl) ?_
          refine lv_iconst (v := 4) hx hb d_M_group_56 (by decide) ?_
          refine lv_icmp_ne (tgt := 99) hx hb d_M_group_57 (by decide) (fun c_8 => ?_) (fun c_8 => ?_)
          · refine lv_iconst (v := 0) hx hb d_M_group_99 (by decide) ?_
            refine lv_istore_n (lv' := [(3, .int 0), (0, .ref (a 0)), (1, .int (nI g)), (2, .int p1)]) hx hb d_M_group_100 rfl hl (by decide) rfl (fun ls hl => ?_)
            refine lv_bipush (v := 7) hx hb d_M_group_101 (by decide) ?_
            refine lv_istore (lv' := [(4, .int 7), (3, .int 0), (0, .ref (a 0)), (1, .int (nI g)), (2, .int p1)]) hx hb d_M_group_103 hl (by decide) rfl (fun ls hl => ?_)
            refine lp_M_group (x0 := x0) (x1 := x1) (x2 := x2) (x3 := x3) (x4 := x4) (x5 := x5) (x6 := x6) hnd hg hx hb hml hown hw hK hP (fun ls hl => ?_) 8 0 ls (Nat.le_refl 8) rfl (lv_sub hl [0, 1, 2, 3, 4] rfl)
            refine lv_iload_n hx hb d_M_group_183 rfl (lv_at hl 0 rfl) ?_
            exact W.iret (v := (mbd (mg_is p1 x0 x3 x4) 8 0)) hx hb hr (fun t ht hW => ⟨⟨_, (0, lg, tm, rm, no, (va_up M g (x0, x1, x2, x3, x4, x5, x6))), rfl, Or.inl ⟨⟨hp_p0, kn_lt (y := 5) (by decide) c_2 (Decidable.not_not.mp (fun z => c_4 (m_45.mpr z)))⟩, by first | (simp only [mg_what, mg_lim, hcg, if_neg c_2, if_neg c_4, hMg, hMu, if_pos c_7, if_neg c_8]; done) | (simp [mg_what, mg_lim, hcg, c_2, c_4, hMg, hMu, c_7, c_8]; done)⟩, by show va_P _ _ _ t.heap; rw [ht]; exact hP⟩, hS.F ht⟩) hS.2.2 d_M_group_184
          · refine lv_aload_n hx hb d_M_group_60 rfl (lv_at hl 0 rfl) ?_
            refine va_get (D := (dC, dI)) (ci := 3) (v := .ref (a 1)) (C := R_M) (T := F_M) (N := 12) hx hb hw i_M hown hK hP 0 rfl rfl 5 (by decide) (hw _ kb_341) (fun _ h9 => h9) rfl d_M_group_61 ?_
            refine lv_iload_n hx hb d_M_group_64 rfl (lv_at hl 1 rfl) ?_
            refine ml_st hx hb hK hP hg d_M_group_65 ?_
            refine lv_iconst (v := 1) hx hb d_M_group_66 (by decide) ?_
            refine lv_icmp_ne (tgt := 97) hx hb d_M_group_67 (by decide) (fun c_9 => ?_) (fun c_9 => ?_)
            · refine lv_iconst (v := 0) hx hb d_M_group_97 (by decide) ?_
              exact W.iret (v := 0) hx hb hr (fun t ht hW => ⟨⟨_, (0, lg, tm, rm, no, (va_up M g (x0, x1, x2, x3, x4, x5, x6))), rfl, Or.inl ⟨⟨hp_p0, kn_lt (y := 5) (by decide) c_2 (Decidable.not_not.mp (fun z => c_4 (m_45.mpr z)))⟩, by first | (simp only [mg_what, mg_lim, hcg, if_neg c_2, if_neg c_4, hMg, hMu, if_pos c_7, if_pos c_8, if_neg c_9]; done) | (simp [mg_what, mg_lim, hcg, c_2, c_4, hMg, hMu, c_7, c_8, c_9]; done)⟩, by show va_P _ _ _ t.heap; rw [ht]; exact hP⟩, hS.F ht⟩) hS.2.2 d_M_group_98
            · refine lv_aload_n hx hb d_M_group_70 rfl (lv_at hl 0 rfl) ?_
              refine va_get (D := (dC, dI)) (ci := 3) (v := .ref (a 3)) (C := R_M) (T := F_M) (N := 12) hx hb hw i_M hown hK hP 0 rfl rfl 7 (by decide) (hw _ kb_343) (fun _ h9 => h9) rfl d_M_group_71 ?_
              refine lv_iload_n hx hb d_M_group_74 rfl (lv_at hl 1 rfl) ?_
              refine ml_li hx hb hK hP hg d_M_group_75 ?_
              refine lv_aload_n hx hb d_M_group_76 rfl (lv_at hl 0 rfl) ?_
              refine va_get (D := (dC, dI)) (ci := 3) (v := .int tm) (C := R_M) (T := F_M) (N := 12) hx hb hw i_M hown hK hP 0 rfl rfl 2 (by decide) (hw _ kb_338) (fun _ h9 => h9) rfl d_M_group_77 ?_
              refine lv_icmp_le (tgt := 97) hx hb d_M_group_80 (by decide) (fun c_10 => ?_) (fun c_10 => ?_)
              · refine lv_iconst (v := 0) hx hb d_M_group_97 (by decide) ?_
                exact W.iret (v := 0) hx hb hr (fun t ht hW => ⟨⟨_, (0, lg, tm, rm, no, (va_up M g (x0, x1, x2, x3, x4, x5, x6))), rfl, Or.inl ⟨⟨hp_p0, kn_lt (y := 5) (by decide) c_2 (Decidable.not_not.mp (fun z => c_4 (m_45.mpr z)))⟩, by first | (simp only [mg_what, mg_lim, hcg, if_neg c_2, if_neg c_4, hMg, hMu, if_pos c_7, if_pos c_8, if_pos c_9, if_pos c_10]; done) | (simp [mg_what, mg_lim, hcg, c_2, c_4, hMg, hMu, c_7, c_8, c_9, c_10]; done)⟩, by show va_P _ _ _ t.heap; rw [ht]; exact hP⟩, hS.F ht⟩) hS.2.2 d_M_group_98
              · refine lv_aload_n hx hb d_M_group_83 rfl (lv_at hl 0 rfl) ?_
                refine va_get (D := (dC, dI)) (ci := 3) (v := .ref (a 3)) (C := R_M) (T := F_M) (N := 12) hx hb hw i_M hown hK hP 0 rfl rfl 7 (by decide) (hw _ kb_343) (fun _ h9 => h9) rfl d_M_group_84 ?_
                refine lv_iload_n hx hb d_M_group_87 rfl (lv_at hl 1 rfl) ?_
                refine ml_li hx hb hK hP hg d_M_group_88 ?_
                refine lv_aload_n hx hb d_M_group_89 rfl (lv_at hl 0 rfl) ?_
                refine va_get (D := (dC, dI)) (ci := 3) (v := .int tm) (C := R_M) (T := F_M) (N := 12) hx hb hw i_M hown hK hP 0 rfl rfl 2 (by decide) (hw _ kb_338) (fun _ h9 => h9) rfl d_M_group_90 ?_
                refine lv_isub hx hb d_M_group_93 ?_
                refine lv_goto (tgt := 98) hx hb d_M_group_94 (by decide) ?_
                exact W.iret (v := (x2 - tm)) hx hb hr (fun t ht hW => ⟨⟨_, (0, lg, tm, rm, no, (va_up M g (x0, x1, x2, x3, x4, x5, x6))), rfl, Or.inl ⟨⟨hp_p0, kn_lt (y := 5) (by decide) c_2 (Decidable.not_not.mp (fun z => c_4 (m_45.mpr z)))⟩, by first | (simp only [mg_what, mg_lim, hcg, if_neg c_2, if_neg c_4, hMg, hMu, if_pos c_7, if_pos c_8, if_pos c_9, if_neg c_10]; done) | (simp [mg_what, mg_lim, hcg, c_2, c_4, hMg, hMu, c_7, c_8, c_9, c_10]; done)⟩, by show va_P _ _ _ t.heap; rw [ht]; exact hP⟩, hS.F ht⟩) hS.2.2 d_M_group_98
        · refine lv_iload_n hx hb d_M_group_35 rfl (lv_at hl 2 rfl) ?_
          refine lv_if_ne (tgt := 48) hx hb d_M_group_36 (by decide) (fun c_11 => ?_) (fun c_11 => ?_)
          · refine lv_aload_n hx hb d_M_group_48 rfl (lv_at hl 0 rfl) ?_
            refine va_get (D := (dC, dI)) (ci := 3) (v := .ref (a 1)) (C := R_M) (T := F_M) (N := 12) hx hb hw i_M hown hK hP 0 rfl rfl 5 (by decide) (hw _ kb_341) (fun _ h9 => h9) rfl d_M_group_49 ?_
            refine lv_iload_n hx hb d_M_group_52 rfl (lv_at hl 1 rfl) ?_
            refine ml_st hx hb hK hP hg d_M_group_53 ?_
            exact W.iret (v := x0) hx hb hr (fun t ht hW => ⟨⟨_, (0, lg, tm, rm, no, (va_up M g (x0, x1, x2, x3, x4, x5, x6))), rfl, Or.inl ⟨⟨hp_p0, kn_lt (y := 5) (by decide) c_2 (Decidable.not_not.mp (fun z => c_4 (m_45.mpr z)))⟩, by first | (simp only [mg_what, mg_lim, hcg, if_neg c_2, if_neg c_4, hMg, hMu, if_neg c_7, if_neg c_11]; done) | (simp [mg_what, mg_lim, hcg, c_2, c_4, hMg, hMu, c_7, c_11]; done)⟩, by show va_P _ _ _ t.heap; rw [ht]; exact hP⟩, hS.F ht⟩) hS.2.2 d_M_group_54
          · refine lv_aload_n hx hb d_M_group_39 rfl (lv_at hl 0 rfl) ?_
            refine va_get (D := (dC, dI)) (ci := 3) (v := .ref (a 2)) (C := R_M) (T := F_M) (N := 12) hx hb hw i_M hown hK hP 0 rfl rfl 6 (by decide) (hw _ kb_342) (fun _ h9 => h9) rfl d_M_group_40 ?_
            refine lv_iload_n hx hb d_M_group_43 rfl (lv_at hl 1 rfl) ?_
            refine ml_ge hx hb hK hP hg d_M_group_44 ?_
            refine lv_goto (tgt := 54) hx hb d_M_group_45 (by decide) ?_
            exact W.iret (v := x1) hx hb hr (fun t ht hW => ⟨⟨_, (0, lg, tm, rm, no, (va_up M g (x0, x1, x2, x3, x4, x5, x6))), rfl, Or.inl ⟨⟨hp_p0, kn_lt (y := 5) (by decide) c_2 (Decidable.not_not.mp (fun z => c_4 (m_45.mpr z)))⟩, by first | (simp only [mg_what, mg_lim, hcg, if_neg c_2, if_neg c_4, hMg, hMu, if_neg c_7, if_pos c_11]; done) | (simp [mg_what, mg_lim, hcg, c_2, c_4, hMg, hMu, c_7, c_11]; done)⟩, by show va_P _ _ _ t.heap; rw [ht]; exact hP⟩, hS.F ht⟩) hS.2.2 d_M_group_54
  · skip
    refine lv_if_eq (tgt := 21) hx hb d_M_group_5 (by decide) (fun c_12 => ?_) (fun c_12 => absurd c_12 (by decide))
    refine lv_iconst (v := 0) hx hb d_M_group_21 (by decide) ?_
    refine kc_i (Wd := mwv cI cJ cZ a) (va_runV (As := [.int 0]) (rest := []) ⟨hx, hb, hml, hown, hw⟩ (c_M_goes0 l hnd co lg tm rm no M _) (cwV 1 hw (kb_V kb_385 kb_387 kb_s5 kb_6 kb_388) rfl rfl rfl (by decide +kernel) ⟨Nat.le_of_ble_eq_true rfl, Nat.le_of_ble_eq_true rfl⟩) (kPV (va_recv hK hP (ci := 3) (q0 := 0) rfl rfl) hP hK) rfl rfl hl.1 rfl (lv_room (Nat.le_of_ble_eq_true rfl)) d_M_group_22 ⟨Nat.le_of_ble_eq_true rfl, Nat.le_of_ble_eq_true rfl⟩) hS hA hAL (fun r_9 u_8 H locs hw9 hP _ _ hS => ?_)
    obtain ⟨rfl, rfl⟩ := hw9
    have hP : va_P (dC, dI) vwCl (mw cI cJ cZ a 1 lg tm rm no M) _ := hP
    refine lv_if_ne (tgt := 30) hx hb d_M_group_25 (by decide) (fun c_13 => absurd c_13 (by decide)) (fun c_13 => ?_)
    refine lv_iconst (v := 0) hx hb d_M_group_28 (by decide) ?_
    exact W.iret (v := 0) hx hb hr (fun t ht hW => ⟨⟨_, (1, lg, tm, rm, no, M), rfl, Or.inr ⟨fun h => hp_p0 h.1, rfl⟩, by show va_P _ _ _ t.heap; rw [ht]; exact hP⟩, hS.F ht⟩) hS.2.2 d_M_group_29
set_option maxHeartbeats 4000000 in
set_option maxRecDepth 100000 in
theorem lp_M_share {p : Program} {l : Launch} {e : Env} {s : State} {m : MethodId} {args : Array Value} {below : List Frame} {meth : Method} {c : Code} {Q : State → Prop} {dC : Nat → ClassId} {dI : Nat → Nat → Nat} {cI cJ cZ : ClassId} {a : Nat → Nat} (hnd : (mad a).Nodup) {co lg tm rm no : Int32} {M : Nat → mGV} {g : Nat} (hg : g < 8) {x0 x1 x2 : Int32} {x3 x4 x5 : Nat → Int32} {x6 : Nat → Int64} {n q : Nat} (hn : n ≤ 8) (hne : ∃ z, z < 8 ∧ x3 z ≠ 0) {B : Int32} {H : Heap} {locs : List Loc} (hx : p.tables.exec = Jvm.exec) (hb : c.code = b_M_share) (hml : c.maxLocals = 5) (hown : s.vm.findClass R_M = some m.cls) (hw : ∀ w ∈ kb_B, w.before args s = true) (hK : va_K (dC, dI) vwCl (mty cI cJ cZ) s)  (hP : va_P (dC, dI) vwCl (mw cI cJ cZ a co lg tm rm no (va_up M g (x0, x1, x2, x3, x4, x5, x6))) H)
    (kk : ∀ ls : Array Slot, lv_has ls 5 [(3, .int B), (0, .ref (a 0)), (1, .int (nI g)), (2, .int (nI q))] → W p l e (headSpec w_M_share ({ frames := 1, cells := 0, slots := 0, locals := 30 })).room s m args below meth c H locs 0 0 Q (F0 m 94 ls [])) :
    ∀ (k : Nat) (b : Int32) (ls : Array Slot), k ≤ n → mbd (mg_ow x3 q) k b = B → lv_has ls 5 [(4, .int (nI k + (-1))), (3, .int b), (0, .ref (a 0)), (1, .int (nI g)), (2, .int (nI q))] → W p l e (headSpec w_M_share ({ frames := 1, cells := 0, slots := 0, locals := 30 })).room s m args below meth c H locs 0 0 Q (F0 m 62 ls []) := by
  intro k
  induction k with
  | zero =>
    intro b ls hk hB hl
    have hB : b = B := hB
    subst hB
    refine lv_iload hx hb d_M_share_62 (lv_at hl 0 rfl) ?_
    refine lv_if_lt (tgt := 94) hx hb d_M_share_64 (by decide) (fun c_1 => ?_) (fun c_1 => ?_)
    · exact kk ls (lv_sub hl [1, 2, 3, 4] rfl)
    · exact absurd (show nI 0 + (-1) < 0 by decide) c_1
  | succ k ih =>
    intro b ls hk hB hl
    rw [m_pred] at hl
    refine lv_iload hx hb d_M_share_62 (lv_at hl 0 rfl) ?_
    refine lv_if_lt (tgt := 94) hx hb d_M_share_64 (by decide) (fun c_1 => ?_) (fun c_1 => ?_)
    · exact absurd c_1 (nI_pos (by omega))
    · refine lv_iconst (v := 2) hx hb d_M_share_67 (by decide) ?_
      refine lv_iload_n hx hb d_M_share_68 rfl (lv_at hl 1 rfl) ?_
      refine lv_imul hx hb d_M_share_69 ?_
      refine lv_aload_n hx hb d_M_share_70 rfl (lv_at hl 2 rfl) ?_
      refine lv_iload_n hx hb d_M_share_71 rfl (lv_at hl 3 rfl) ?_
      refine lv_iload hx hb d_M_share_72 (lv_at hl 0 rfl) ?_
      refine vp_callSi (W.runV (As := [.int (nI g), .int (nI k)]) (rest := [.int ((2 : Int32) * b)]) ⟨hx, hb, hml, hown, hw⟩ (c_M_owner l hnd co lg tm rm no M hg x0 x1 x2 x3 x4 x5 x6 (show k < 8 by omega) hne _) (cwV 2 hw (kb_V kb_429 kb_431 kb_s13 kb_6 kb_432) rfl rfl rfl (by decide +kernel) ⟨Nat.le_of_ble_eq_true rfl, Nat.le_of_ble_eq_true rfl⟩) (kPV (va_recv hK hP (ci := 3) (q0 := 0) rfl rfl) hP hK) rfl rfl hl.1 rfl (lv_room (Nat.le_of_ble_eq_true rfl)) d_M_share_74 ⟨Nat.le_of_ble_eq_true rfl, Nat.le_of_ble_eq_true rfl⟩) (fun r_1 er_1 => ?_)
      subst er_1
      refine lv_iload_n hx hb d_M_share_77 rfl (lv_at hl 4 rfl) ?_
      refine lv_icmp_ne (tgt := 85) hx hb d_M_share_78 (by decide) (fun c_2 => ?_) (fun c_2 => ?_)
      · refine lv_iconst (v := 0) hx hb d_M_share_85 (by decide) ?_
        refine lv_iadd hx hb d_M_share_86 ?_
        refine lv_istore_n (lv' := [(3, .int (((2 : Int32) * b) + (0 : Int32))), (4, .int (nI k)), (0, .ref (a 0)), (1, .int (nI g)), (2, .int (nI q))]) hx hb d_M_share_87 rfl hl (by decide) rfl (fun ls hl => ?_)
        refine lv_iinc (v := (nI k) + (-1)) (lv' := [(4, .int ((nI k) + (-1))), (3, .int (((2 : Int32) * b) + (0 : Int32))), (0, .ref (a 0)), (1, .int (nI g)), (2, .int (nI q))]) hx hb d_M_share_88 hl (k := 1) rfl rfl (by decide) rfl (fun ls hl => ?_)
        refine lv_goto (tgt := 62) hx hb d_M_share_91 (by decide) ?_
        have hs : (mg_ow x3 q) k = 0 := by simp only [mg_ow, if_neg c_2]
        exact ih _ ls (by omega) (by rw [← hB, mbd, hs]) (lv_sub hl [0, 1, 2, 3, 4] rfl)
      · refine lv_iconst (v := 1) hx hb d_M_share_81 (by decide) ?_
        refine lv_goto (tgt := 86) hx hb d_M_share_82 (by decide) ?_
        refine lv_iadd hx hb d_M_share_86 ?_
        refine lv_istore_n (lv' := [(3, .int (((2 : Int32) * b) + (1 : Int32))), (4, .int (nI k)), (0, .ref (a 0)), (1, .int (nI g)), (2, .int (nI q))]) hx hb d_M_share_87 rfl hl (by decide) rfl (fun ls hl => ?_)
        refine lv_iinc (v := (nI k) + (-1)) (lv' := [(4, .int ((nI k) + (-1))), (3, .int (((2 : Int32) * b) + (1 : Int32))), (0, .ref (a 0)), (1, .int (nI g)), (2, .int (nI q))]) hx hb d_M_share_88 hl (k := 1) rfl rfl (by decide) rfl (fun ls hl => ?_)
        refine lv_goto (tgt := 62) hx hb d_M_share_91 (by decide) ?_
        have hs : (mg_ow x3 q) k = 1 := by simp only [mg_ow, if_pos c_2]
        exact ih _ ls (by omega) (by rw [← hB, mbd, hs]) (lv_sub hl [0, 1, 2, 3, 4] rfl)
set_option maxHeartbeats 4000000 in
set_option maxRecDepth 100000 in
theorem c_M_share (l : Launch) {dC : Nat → ClassId} {dI : Nat → Nat → Nat} {cI cJ cZ : ClassId} {a : Nat → Nat} (hnd : (mad a).Nodup) (co lg tm rm no : Int32) (M : Nat → mGV) (p0 : Int32) (p1 : Int32) (hlg : ∃ n : Nat, n ≤ 8 ∧ lg = nI n) (sz : Nat) : Met l y_M_share w_M_share ({ frames := 1, cells := 0, slots := 0, locals := 30 }) (kPre (dC, dI) vwCl (mty cI cJ cZ) [.ref (a 0), .int p0, .int p1] sz (mw cI cJ cZ a co lg tm rm no M)) (va_Qi (fun (r : Int32) (u : mDV) => ((vp_in p0 8 ∧ vp_in p1 8) ∧ (r, u) = (mg_sh p1.toNatClampNeg lg.toNatClampNeg (M p0.toNatClampNeg), (0, lg, tm, rm, no, M))) ∨ (¬ (vp_in p0 8 ∧ vp_in p1 8) ∧ u = (1, lg, tm, rm, no, M))) (fun u t => va_P (dC, dI) vwCl (mwv cI cJ cZ a u) t.heap) (kA (mad a) sz)) 0 0 (kA (mad a) sz) := by
  refine Met.ofW (cc := b_M_share) (maxL := 5) (ret := (some .int)) (by decide) rfl ?_
  intro p e s m args below meth c s₁ B hml hv
  obtain ⟨rfl, hsz, hP, hK⟩ := hv
  have hx := B.exec
  have hb := B.bytes
  have hr := B.returns
  have hts := atoms_spec (ws := w_M_share) B.pre
  have hw := fun (w : Cond) (h : w ∈ kb_B) => hts w (List.mem_cons_of_mem _ h)
  have hown : s.vm.findClass R_M = some m.cls := findClass_of_methodNamed B.named
  have hlocks := B.notSynchronized
  subst hsz
  generalize hAe : kA (mad a) s.heap.size = A
  have hA : ∀ q : Nat, s.heap.size ≤ q → A q := fun q h => by rw [← hAe]; exact Or.inr h
  have hAL : ∀ q ∈ (mad a), A q := fun q h => by rw [← hAe]; exact Or.inl h
  have hS : va_S A s.heap s.heap [] := va_S.rf
  have hl := lv_entry ([.ref (a 0), .int p0, .int p1]) (n := 5) (Nat.le_of_ble_eq_true rfl)
  rw [lg_entry_eq]
  generalize (lg_sl ([.ref (a 0), .int p0, .int p1]) ++ List.replicate (5 - (lg_sl ([.ref (a 0), .int p0, .int p1])).length) Slot.unset).toArray = ls at hl ⊢
  have hl : lv_has ls 5 [(0, .ref (a 0)), (1, .int p0), (2, .int p1)] := hl
  obtain ⟨n, hn, rfl⟩ := hlg
  have hcn : (nI n).toNatClampNeg = n := nI_clamp (by omega)
  refine lv_aload_n hx hb d_M_share_0 rfl (lv_at hl 0 rfl) ?_
  refine lv_iload_n hx hb d_M_share_1 rfl (lv_at hl 1 rfl) ?_
  refine vp_callSi (W.runS (As := [.int p0]) (rest := [.ref (a 0)]) ⟨hx, hb, hml, hown, hw⟩ (c_M_isOne l p0) (va_cwS 1 hw (kb_S kb_382 kb_383 kb_6 kb_384) rfl rfl rfl (by decide +kernel) ⟨Nat.le_of_ble_eq_true rfl, Nat.le_of_ble_eq_true rfl⟩) preEq rfl rfl hl.1 rfl (lv_room (Nat.le_of_ble_eq_true rfl)) d_M_share_2 ⟨Nat.le_of_ble_eq_true rfl, Nat.le_of_ble_eq_true rfl⟩) (fun r_1 er_1 => ?_)
  rcases er_1 with ⟨rfl, hp_p0⟩ | ⟨rfl, hp_p0⟩
  · skip
    obtain ⟨g, hg, rfl⟩ := vp_in_of hp_p0 (by decide)
    have hcg : (nI g).toNatClampNeg = g := nI_clamp (by omega)
    refine lv_if_eq (tgt := 19) hx hb d_M_share_5 (by decide) (fun c_1 => absurd c_1 (by decide)) (fun c_1 => ?_)
    refine lv_iload_n hx hb d_M_share_8 rfl (lv_at hl 2 rfl) ?_
    refine vp_callSi (W.runS (As := [.int p1]) (rest := [.ref (a 0)]) ⟨hx, hb, hml, hown, hw⟩ (c_M_isOne l p1) (va_cwS 1 hw (kb_S kb_382 kb_383 kb_6 kb_384) rfl rfl rfl (by decide +kernel) ⟨Nat.le_of_ble_eq_true rfl, Nat.le_of_ble_eq_true rfl⟩) preEq rfl rfl hl.1 rfl (lv_room (Nat.le_of_ble_eq_true rfl)) d_M_share_9 ⟨Nat.le_of_ble_eq_true rfl, Nat.le_of_ble_eq_true rfl⟩) (fun r_2 er_2 => ?_)
    rcases er_2 with ⟨rfl, hp_p1⟩ | ⟨rfl, hp_p1⟩
    · skip
      obtain ⟨q, hq, rfl⟩ := vp_in_of hp_p1 (by decide)
      have hcq : (nI q).toNatClampNeg = q := nI_clamp (by omega)
      refine lv_if_eq (tgt := 19) hx hb d_M_share_12 (by decide) (fun c_2 => absurd c_2 (by decide)) (fun c_2 => ?_)
      refine lv_iconst (v := 1) hx hb d_M_share_15 (by decide) ?_
      refine lv_goto (tgt := 20) hx hb d_M_share_16 (by decide) ?_
      refine kc_i (Wd := mwv cI cJ cZ a) (va_runV (As := [.int 1]) (rest := []) ⟨hx, hb, hml, hown, hw⟩ (c_M_goes1 l hnd co (nI n) tm rm no M _) (cwV 1 hw (kb_V kb_385 kb_387 kb_s5 kb_6 kb_388) rfl rfl rfl (by decide +kernel) ⟨Nat.le_of_ble_eq_true rfl, Nat.le_of_ble_eq_true rfl⟩) (kPV (va_recv hK hP (ci := 3) (q0 := 0) rfl rfl) hP hK) rfl rfl hl.1 rfl (lv_room (Nat.le_of_ble_eq_true rfl)) d_M_share_20 ⟨Nat.le_of_ble_eq_true rfl, Nat.le_of_ble_eq_true rfl⟩) hS hA hAL (fun r_4 u_3 H locs hw9 hP _ _ hS => ?_)
      obtain ⟨rfl, rfl⟩ := hw9
      have hP : va_P (dC, dI) vwCl (mw cI cJ cZ a 0 (nI n) tm rm no M) _ := hP
      rw [← mv_at M g] at hP
      generalize hMg : M g = gv at hP
      obtain ⟨x0, x1, x2, x3, x4, x5, x6⟩ := gv
      have hMu : va_up M g (x0, x1, x2, x3, x4, x5, x6) = M := by rw [← hMg]; exact mv_at M g
      refine lv_if_eq (tgt := 50) hx hb d_M_share_23 (by decide) (fun c_3 => absurd c_3 (by decide)) (fun c_3 => ?_)
      refine lv_aload_n hx hb d_M_share_26 rfl (lv_at hl 0 rfl) ?_
      refine va_get (D := (dC, dI)) (ci := 3) (v := .ref (a 1)) (C := R_M) (T := F_M) (N := 12) hx hb hw i_M hown hK hP 0 rfl rfl 5 (by decide) (hw _ kb_341) (fun _ h9 => h9) rfl d_M_share_27 ?_
      refine lv_iload_n hx hb d_M_share_30 rfl (lv_at hl 1 rfl) ?_
      refine ml_st hx hb hK hP hg d_M_share_31 ?_
      refine lv_iconst (v := 2) hx hb d_M_share_32 (by decide) ?_
      refine lv_icmp_ne (tgt := 50) hx hb d_M_share_33 (by decide) (fun c_4 => ?_) (fun c_4 => ?_)
      · refine lv_iconst (v := 0) hx hb d_M_share_50 (by decide) ?_
        exact W.iret (v := 0) hx hb hr (fun t ht hW => ⟨⟨_, (0, nI n, tm, rm, no, (va_up M g (x0, x1, x2, x3, x4, x5, x6))), rfl, Or.inl ⟨⟨hp_p0, hp_p1⟩, by first | (simp only [mg_sh, hcn, hcg, hcq, hMg, hMu, if_neg c_4]; done) | (simp [mg_sh, hcn, hcg, hcq, hMg, hMu, c_4]; done)⟩, by show va_P _ _ _ t.heap; rw [ht]; exact hP⟩, hS.F ht⟩) hS.2.2 d_M_share_51
      · refine lv_aload_n hx hb d_M_share_36 rfl (lv_at hl 0 rfl) ?_
        refine va_get (D := (dC, dI)) (ci := 3) (v := .ref (a 4)) (C := R_M) (T := F_M) (N := 12) hx hb hw i_M hown hK hP 0 rfl rfl 8 (by decide) (hw _ kb_344) (fun _ h9 => h9) rfl d_M_share_37 ?_
        refine lv_bipush (v := 8) hx hb d_M_share_40 (by decide) ?_
        refine lv_iload_n hx hb d_M_share_42 rfl (lv_at hl 1 rfl) ?_
        refine lv_imul hx hb d_M_share_43 ?_
        refine lv_iload_n hx hb d_M_share_44 rfl (lv_at hl 2 rfl) ?_
        refine lv_iadd hx hb d_M_share_45 ?_
        refine ml_me (i := q) hx hb hK hP hg hq d_M_share_46 ?_
        refine lv_if_ne (tgt := 52) hx hb d_M_share_47 (by decide) (fun c_5 => ?_) (fun c_5 => ?_)
        · refine lv_iconst (v := 0) hx hb d_M_share_52 (by decide) ?_
          refine lv_istore_n (lv' := [(3, .int 0), (0, .ref (a 0)), (1, .int (nI g)), (2, .int (nI q))]) hx hb d_M_share_53 rfl hl (by decide) rfl (fun ls hl => ?_)
          refine lv_aload_n hx hb d_M_share_54 rfl (lv_at hl 1 rfl) ?_
          refine va_get (D := (dC, dI)) (ci := 3) (v := .int (nI n)) (C := R_M) (T := F_M) (N := 12) hx hb hw i_M hown hK hP 0 rfl rfl 1 (by decide) (hw _ kb_337) (fun _ h9 => h9) rfl d_M_share_55 ?_
          refine lv_iconst (v := 1) hx hb d_M_share_58 (by decide) ?_
          refine lv_isub hx hb d_M_share_59 ?_
          refine lv_istore (lv' := [(4, .int ((nI n) - (1 : Int32))), (3, .int 0), (0, .ref (a 0)), (1, .int (nI g)), (2, .int (nI q))]) hx hb d_M_share_60 hl (by decide) rfl (fun ls hl => ?_)
          refine lp_M_share (x0 := x0) (x1 := x1) (x2 := x2) (x3 := x3) (x4 := x4) (x5 := x5) (x6 := x6) hnd hg hn ⟨q, hq, c_5⟩ hx hb hml hown hw hK hP (fun ls hl => ?_) n 0 ls (Nat.le_refl n) rfl (by rw [m_sub1] at hl; exact lv_sub hl [0, 1, 2, 3, 4] rfl)
          refine lv_iload_n hx hb d_M_share_94 rfl (lv_at hl 0 rfl) ?_
          exact W.iret (v := (mbd (mg_ow x3 q) n 0)) hx hb hr (fun t ht hW => ⟨⟨_, (0, nI n, tm, rm, no, (va_up M g (x0, x1, x2, x3, x4, x5, x6))), rfl, Or.inl ⟨⟨hp_p0, hp_p1⟩, by first | (simp only [mg_sh, hcn, hcg, hcq, hMg, hMu, if_pos c_4, if_neg c_5]; done) | (simp [mg_sh, hcn, hcg, hcq, hMg, hMu, c_4, c_5]; done)⟩, by show va_P _ _ _ t.heap; rw [ht]; exact hP⟩, hS.F ht⟩) hS.2.2 d_M_share_95
        · refine lv_iconst (v := 0) hx hb d_M_share_50 (by decide) ?_
          exact W.iret (v := 0) hx hb hr (fun t ht hW => ⟨⟨_, (0, nI n, tm, rm, no, (va_up M g (x0, x1, x2, x3, x4, x5, x6))), rfl, Or.inl ⟨⟨hp_p0, hp_p1⟩, by first | (simp only [mg_sh, hcn, hcg, hcq, hMg, hMu, if_pos c_4, if_pos c_5]; done) | (simp [mg_sh, hcn, hcg, hcq, hMg, hMu, c_4, c_5]; done)⟩, by show va_P _ _ _ t.heap; rw [ht]; exact hP⟩, hS.F ht⟩) hS.2.2 d_M_share_51
    · skip
      refine lv_if_eq (tgt := 19) hx hb d_M_share_12 (by decide) (fun c_6 => ?_) (fun c_6 => absurd c_6 (by decide))
      refine lv_iconst (v := 0) hx hb d_M_share_19 (by decide) ?_
      refine kc_i (Wd := mwv cI cJ cZ a) (va_runV (As := [.int 0]) (rest := []) ⟨hx, hb, hml, hown, hw⟩ (c_M_goes0 l hnd co (nI n) tm rm no M _) (cwV 1 hw (kb_V kb_385 kb_387 kb_s5 kb_6 kb_388) rfl rfl rfl (by decide +kernel) ⟨Nat.le_of_ble_eq_true rfl, Nat.le_of_ble_eq_true rfl⟩) (kPV (va_recv hK hP (ci := 3) (q0 := 0) rfl rfl) hP hK) rfl rfl hl.1 rfl (lv_room (Nat.le_of_ble_eq_true rfl)) d_M_share_20 ⟨Nat.le_of_ble_eq_true rfl, Nat.le_of_ble_eq_true rfl⟩) hS hA hAL (fun r_6 u_5 H locs hw9 hP _ _ hS => ?_)
      obtain ⟨rfl, rfl⟩ := hw9
      have hP : va_P (dC, dI) vwCl (mw cI cJ cZ a 1 (nI n) tm rm no M) _ := hP
      refine lv_if_eq (tgt := 50) hx hb d_M_share_23 (by decide) (fun c_7 => ?_) (fun c_7 => absurd c_7 (by decide))
      refine lv_iconst (v := 0) hx hb d_M_share_50 (by decide) ?_
      exact W.iret (v := 0) hx hb hr (fun t ht hW => ⟨⟨_, (1, nI n, tm, rm, no, M), rfl, Or.inr ⟨fun h => hp_p1 h.2, rfl⟩, by show va_P _ _ _ t.heap; rw [ht]; exact hP⟩, hS.F ht⟩) hS.2.2 d_M_share_51
  · skip
    refine lv_if_eq (tgt := 19) hx hb d_M_share_5 (by decide) (fun c_8 => ?_) (fun c_8 => absurd c_8 (by decide))
    refine lv_iconst (v := 0) hx hb d_M_share_19 (by decide) ?_
    refine kc_i (Wd := mwv cI cJ cZ a) (va_runV (As := [.int 0]) (rest := []) ⟨hx, hb, hml, hown, hw⟩ (c_M_goes0 l hnd co (nI n) tm rm no M _) (cwV 1 hw (kb_V kb_385 kb_387 kb_s5 kb_6 kb_388) rfl rfl rfl (by decide +kernel) ⟨Nat.le_of_ble_eq_true rfl, Nat.le_of_ble_eq_true rfl⟩) (kPV (va_recv hK hP (ci := 3) (q0 := 0) rfl rfl) hP hK) rfl rfl hl.1 rfl (lv_room (Nat.le_of_ble_eq_true rfl)) d_M_share_20 ⟨Nat.le_of_ble_eq_true rfl, Nat.le_of_ble_eq_true rfl⟩) hS hA hAL (fun r_8 u_7 H locs hw9 hP _ _ hS => ?_)
    obtain ⟨rfl, rfl⟩ := hw9
    have hP : va_P (dC, dI) vwCl (mw cI cJ cZ a 1 (nI n) tm rm no M) _ := hP
    refine lv_if_eq (tgt := 50) hx hb d_M_share_23 (by decide) (fun c_9 => ?_) (fun c_9 => absurd c_9 (by decide))
    refine lv_iconst (v := 0) hx hb d_M_share_50 (by decide) ?_
    exact W.iret (v := 0) hx hb hr (fun t ht hW => ⟨⟨_, (1, nI n, tm, rm, no, M), rfl, Or.inr ⟨fun h => hp_p0 h.1, rfl⟩, by show va_P _ _ _ t.heap; rw [ht]; exact hP⟩, hS.F ht⟩) hS.2.2 d_M_share_51
set_option maxHeartbeats 4000000 in
set_option maxRecDepth 100000 in
theorem lp_M_restart {p : Program} {l : Launch} {e : Env} {s : State} {m : MethodId} {args : Array Value} {below : List Frame} {meth : Method} {c : Code} {Q : State → Prop} {dC : Nat → ClassId} {dI : Nat → Nat → Nat} {cI cJ cZ : ClassId} {a : Nat → Nat} (hnd : (mad a).Nodup) {co lg tm rm no : Int32} {M : Nat → mGV} {A : Nat → Prop} (hx : p.tables.exec = Jvm.exec) (hb : c.code = b_M_restart) (hml : c.maxLocals = 3) (hown : s.vm.findClass R_M = some m.cls) (hw : ∀ w ∈ kb_B, w.before args s = true) (hK : va_K (dC, dI) vwCl (mty cI cJ cZ) s) (hA : ∀ q : Nat, s.heap.size ≤ q → A q) (hAL : ∀ q ∈ mad a, A q)
    (kk : ∀ (H : Heap) (locs : List Loc) (ls : Array Slot), va_P (dC, dI) vwCl (mw cI cJ cZ a co lg tm rm no (mrs M 8).2) H → va_S A s.heap H locs → lv_has ls 3 [(2, .int (nI 8)), (1, .int ((mrs M 8).1)), (0, .ref (a 0))] → W p l e (headSpec w_M_restart ({ frames := 1, cells := 0, slots := 0, locals := 30 })).room s m args below meth c H locs 0 0 Q (F0 m 34 ls [])) :
    ∀ (k i : Nat) (H : Heap) (locs : List Loc) (ls : Array Slot), i + k = 8 → va_P (dC, dI) vwCl (mw cI cJ cZ a co lg tm rm no (mrs M i).2) H → va_S A s.heap H locs → lv_has ls 3 [(2, .int (nI i)), (1, .int ((mrs M i).1)), (0, .ref (a 0))] → W p l e (headSpec w_M_restart ({ frames := 1, cells := 0, slots := 0, locals := 30 })).room s m args below meth c H locs 0 0 Q (F0 m 9 ls []) := by
  intro k
  induction k with
  | zero =>
    intro i H locs ls hi hP hS hl
    have hi8 : i = 8 := by omega
    subst hi8
    refine lv_iload_n hx hb d_M_restart_9 rfl (lv_at hl 0 rfl) ?_
    refine lv_bipush (v := 8) hx hb d_M_restart_10 (by decide) ?_
    refine lv_icmp_ge (tgt := 34) hx hb d_M_restart_12 (by decide) (fun c_1 => ?_) (fun c_1 => ?_)
    · exact kk H locs ls hP hS hl
    · exact absurd (nI_le (Nat.le_refl 8) (by decide)) c_1
  | succ k ih =>
    intro i H locs ls hi hP hS hl
    generalize hz : mrs M i = z at hP hl
    obtain ⟨s1, M1⟩ := z
    have hP : va_P (dC, dI) vwCl (mw cI cJ cZ a co lg tm rm no M1) H := hP
    have hl : lv_has ls 3 [(2, .int (nI i)), (1, .int s1), (0, .ref (a 0))] := hl
    rw [← mv_at M1 i] at hP
    generalize hMi : M1 i = gv at hP
    obtain ⟨x0, x1, x2, x3, x4, x5, x6⟩ := gv
    refine lv_iload_n hx hb d_M_restart_9 rfl (lv_at hl 0 rfl) ?_
    refine lv_bipush (v := 8) hx hb d_M_restart_10 (by decide) ?_
    refine lv_icmp_ge (tgt := 34) hx hb d_M_restart_12 (by decide) (fun c_1 => ?_) (fun c_1 => ?_)
    · exact absurd c_1 (nI_ge (a := i) (b := 8) (by omega) (by decide))
    · refine lv_iload_n hx hb d_M_restart_15 rfl (lv_at hl 1 rfl) ?_
      refine lv_aload_n hx hb d_M_restart_16 rfl (lv_at hl 2 rfl) ?_
      refine lv_iload_n hx hb d_M_restart_17 rfl (lv_at hl 0 rfl) ?_
      refine vp_callSi (W.runV (As := [.int (nI i)]) (rest := [.int s1]) ⟨hx, hb, hml, hown, hw⟩ (c_M_count l hnd co lg tm rm no M1 (show i < 8 by omega) x0 x1 x2 x3 x4 x5 x6 _) (cwV 1 hw (kb_V kb_397 kb_399 kb_s8 kb_6 kb_400) rfl rfl rfl (by decide +kernel) ⟨Nat.le_of_ble_eq_true rfl, Nat.le_of_ble_eq_true rfl⟩) (kPV (va_recv hK hP (ci := 3) (q0 := 0) rfl rfl) hP hK) rfl rfl hl.1 rfl (lv_room (Nat.le_of_ble_eq_true rfl)) d_M_restart_18 ⟨Nat.le_of_ble_eq_true rfl, Nat.le_of_ble_eq_true rfl⟩) (fun r_1 er_1 => ?_)
      subst er_1
      refine lv_iadd hx hb d_M_restart_21 ?_
      refine lv_istore_n (lv' := [(1, .int (s1 + (mg_cnt x3 8))), (2, .int (nI i)), (0, .ref (a 0))]) hx hb d_M_restart_22 rfl hl (by decide) rfl (fun ls hl => ?_)
      refine lv_aload_n hx hb d_M_restart_23 rfl (lv_at hl 2 rfl) ?_
      refine lv_iload_n hx hb d_M_restart_24 rfl (lv_at hl 1 rfl) ?_
      refine kc_v (Wd := mwv cI cJ cZ a) (va_runV (As := [.int (nI i)]) (rest := []) ⟨hx, hb, hml, hown, hw⟩ (c_M_empties l hnd co lg tm rm no M1 (show i < 8 by omega) x0 x1 x2 x3 x4 x5 x6 _) (cwV 1 hw (kb_V kb_405 kb_407 kb_s10 kb_6 kb_408) rfl rfl rfl (by decide +kernel) ⟨Nat.le_of_ble_eq_true rfl, Nat.le_of_ble_eq_true rfl⟩) (kPV (va_recv hK hP (ci := 3) (q0 := 0) rfl rfl) hP hK) rfl rfl hl.1 rfl (lv_room (Nat.le_of_ble_eq_true rfl)) d_M_restart_25 ⟨Nat.le_of_ble_eq_true rfl, Nat.le_of_ble_eq_true rfl⟩) hS hA hAL (fun u_2 H locs hw9 hP _ _ hS => ?_)
      subst hw9
      have hP : va_P (dC, dI) vwCl (mw cI cJ cZ a co lg tm rm no (va_up M1 i (0, x1, x2, mz x3 8, mz x4 8, x5, x6))) _ := hP
      refine lv_iinc (v := (nI i) + 1) (lv' := [(2, .int ((nI i) + 1)), (1, .int (s1 + (mg_cnt x3 8))), (0, .ref (a 0))]) hx hb d_M_restart_28 hl (k := 1) rfl rfl (by decide) rfl (fun ls hl => ?_)
      refine lv_goto (tgt := 9) hx hb d_M_restart_31 (by decide) ?_
      have hs : mrs M (i + 1) = (s1 + (mg_cnt x3 8), (va_up M1 i (0, x1, x2, mz x3 8, mz x4 8, x5, x6))) := by simp only [mrs, hz, hMi, mg_emp]
      refine ih (i + 1) H locs ls (by omega) ?_ hS ?_
      · rw [hs]; exact hP
      · rw [nI_succ, hs]; exact lv_sub hl [0, 1, 2] rfl
set_option maxHeartbeats 4000000 in
set_option maxRecDepth 100000 in
theorem c_M_restart (l : Launch) {dC : Nat → ClassId} {dI : Nat → Nat → Nat} {cI cJ cZ : ClassId} {a : Nat → Nat} (hnd : (mad a).Nodup) (co lg tm rm no : Int32) (M : Nat → mGV) (sz : Nat) : Met l y_M_restart w_M_restart ({ frames := 1, cells := 0, slots := 0, locals := 30 }) (kPre (dC, dI) vwCl (mty cI cJ cZ) [.ref (a 0)] sz (mw cI cJ cZ a co lg tm rm no M)) (va_Qi (fun (r : Int32) (u : mDV) => r = (mrs M 8).1 ∧ u = (0, lg, tm, rm, no, (mrs M 8).2)) (fun u t => va_P (dC, dI) vwCl (mwv cI cJ cZ a u) t.heap) (kA (mad a) sz)) 0 0 (kA (mad a) sz) := by
  refine Met.ofW (cc := b_M_restart) (maxL := 3) (ret := (some .int)) (by decide) rfl ?_
  intro p e s m args below meth c s₁ B hml hv
  obtain ⟨rfl, hsz, hP, hK⟩ := hv
  have hx := B.exec
  have hb := B.bytes
  have hr := B.returns
  have hts := atoms_spec (ws := w_M_restart) B.pre
  have hw := fun (w : Cond) (h : w ∈ kb_B) => hts w (List.mem_cons_of_mem _ h)
  have hown : s.vm.findClass R_M = some m.cls := findClass_of_methodNamed B.named
  have hlocks := B.notSynchronized
  subst hsz
  generalize hAe : kA (mad a) s.heap.size = A
  have hA : ∀ q : Nat, s.heap.size ≤ q → A q := fun q h => by rw [← hAe]; exact Or.inr h
  have hAL : ∀ q ∈ (mad a), A q := fun q h => by rw [← hAe]; exact Or.inl h
  have hS : va_S A s.heap s.heap [] := va_S.rf
  have hl := lv_entry ([.ref (a 0)]) (n := 3) (Nat.le_of_ble_eq_true rfl)
  rw [lg_entry_eq]
  generalize (lg_sl ([.ref (a 0)]) ++ List.replicate (3 - (lg_sl ([.ref (a 0)])).length) Slot.unset).toArray = ls at hl ⊢
  have hl : lv_has ls 3 [(0, .ref (a 0))] := hl
  refine lv_aload_n hx hb d_M_restart_0 rfl (lv_at hl 0 rfl) ?_
  refine lv_iconst (v := 0) hx hb d_M_restart_1 (by decide) ?_
  refine va_put (D := (dC, dI)) (ci := 3) (v := .int 0) (ty := .int) (C := R_M) (T := F_M) (N := 12) hx hb hw i_M t_M t_M_ok n_M hown hK hP (mw_D hnd hAL) hS 0 rfl rfl 0 (by decide) (hw _ kb_336) (fun _ h9 => h9) rfl (by decide +kernel) rfl rfl (Nat.le_of_ble_eq_true rfl) d_M_restart_2 (fun H locs hP _ hS => ?_)
  have hP : va_P (dC, dI) vwCl (mw cI cJ cZ a 0 lg tm rm no M) _ := hP
  refine lv_iconst (v := 0) hx hb d_M_restart_5 (by decide) ?_
  refine lv_istore_n (lv' := [(1, .int 0), (0, .ref (a 0))]) hx hb d_M_restart_6 rfl hl (by decide) rfl (fun ls hl => ?_)
  refine lv_iconst (v := 0) hx hb d_M_restart_7 (by decide) ?_
  refine lv_istore_n (lv' := [(2, .int 0), (1, .int 0), (0, .ref (a 0))]) hx hb d_M_restart_8 rfl hl (by decide) rfl (fun ls hl => ?_)
  refine lp_M_restart (M := M) hnd hx hb hml hown hw hK hA hAL (fun H locs ls hP hS hl => ?_) 8 0 _ _ ls rfl hP hS (lv_sub hl [0, 1, 2] rfl)
  refine lv_iload_n hx hb d_M_restart_34 rfl (lv_at hl 1 rfl) ?_
  exact W.iret (v := ((mrs M 8).1)) hx hb hr (fun t ht hW => ⟨⟨_, (0, lg, tm, rm, no, (mrs M 8).2), rfl, ⟨by first | (simp only []; done) | (simp []; done), by first | (simp only []; done) | (simp []; done)⟩, by show va_P _ _ _ t.heap; rw [ht]; exact hP⟩, hS.F ht⟩) hS.2.2 d_M_restart_35
set_option maxHeartbeats 4000000 in
set_option maxRecDepth 100000 in
theorem lp_M_tk1 {p : Program} {l : Launch} {e : Env} {s : State} {m : MethodId} {args : Array Value} {below : List Frame} {meth : Method} {c : Code} {Q : State → Prop} {dC : Nat → ClassId} {dI : Nat → Nat → Nat} {cI cJ cZ : ClassId} {a : Nat → Nat} (hnd : (mad a).Nodup) {co lg tm rm no : Int32} {M : Nat → mGV} {k0 n : Nat} {A : Nat → Prop} (hx : p.tables.exec = Jvm.exec) (hb : c.code = b_M_ticks) (hml : c.maxLocals = 4) (hown : s.vm.findClass R_M = some m.cls) (hw : ∀ w ∈ kb_B, w.before args s = true) (hK : va_K (dC, dI) vwCl (mty cI cJ cZ) s) (hA : ∀ q : Nat, s.heap.size ≤ q → A q) (hAL : ∀ q ∈ mad a, A q)
    (kk : ∀ (H : Heap) (locs : List Loc) (ls : Array Slot), va_P (dC, dI) vwCl (mw cI cJ cZ a co lg tm (mdt tm rm no M 8).1 (mdt tm rm no M 8).2.1 (mdt tm rm no M 8).2.2) H → va_S A s.heap H locs → lv_has ls 4 [(3, .int (nI 8)), (2, .int (nI k0)), (0, .ref (a 0)), (1, .int (nI n))] → W p l e (headSpec w_M_ticks ({ frames := 3, cells := 0, slots := 0, locals := 100 })).room s m args below meth c H locs 0 0 Q (F0 m 73 ls [])) :
    ∀ (k i : Nat) (H : Heap) (locs : List Loc) (ls : Array Slot), i + k = 8 → va_P (dC, dI) vwCl (mw cI cJ cZ a co lg tm (mdt tm rm no M i).1 (mdt tm rm no M i).2.1 (mdt tm rm no M i).2.2) H → va_S A s.heap H locs → lv_has ls 4 [(3, .int (nI i)), (2, .int (nI k0)), (0, .ref (a 0)), (1, .int (nI n))] → W p l e (headSpec w_M_ticks ({ frames := 3, cells := 0, slots := 0, locals := 100 })).room s m args below meth c H locs 0 0 Q (F0 m 56 ls []) := by
  intro k
  induction k with
  | zero =>
    intro i H locs ls hi hP hS hl
    have hi8 : i = 8 := by omega
    subst hi8
    refine lv_iload_n hx hb d_M_ticks_56 rfl (lv_at hl 0 rfl) ?_
    refine lv_bipush (v := 8) hx hb d_M_ticks_57 (by decide) ?_
    refine lv_icmp_ge (tgt := 73) hx hb d_M_ticks_59 (by decide) (fun c_1 => ?_) (fun c_1 => ?_)
    · exact kk H locs ls hP hS hl
    · exact absurd (nI_le (Nat.le_refl 8) (by decide)) c_1
  | succ k ih =>
    intro i H locs ls hi hP hS hl
    generalize hz : mdt tm rm no M i = z at hP
    obtain ⟨rm1, no1, M1⟩ := z
    have hP : va_P (dC, dI) vwCl (mw cI cJ cZ a co lg tm rm1 no1 M1) H := hP
    rw [← mv_at M1 i] at hP
    generalize hMi : M1 i = gv at hP
    obtain ⟨x0, x1, x2, x3, x4, x5, x6⟩ := gv
    refine lv_iload_n hx hb d_M_ticks_56 rfl (lv_at hl 0 rfl) ?_
    refine lv_bipush (v := 8) hx hb d_M_ticks_57 (by decide) ?_
    refine lv_icmp_ge (tgt := 73) hx hb d_M_ticks_59 (by decide) (fun c_1 => ?_) (fun c_1 => ?_)
    · exact absurd c_1 (nI_ge (a := i) (b := 8) (by omega) (by decide))
    · refine lv_aload_n hx hb d_M_ticks_62 rfl (lv_at hl 2 rfl) ?_
      refine lv_iload_n hx hb d_M_ticks_63 rfl (lv_at hl 0 rfl) ?_
      refine kc_v (Wd := mwv cI cJ cZ a) (va_runV (As := [.int (nI i)]) (rest := []) ⟨hx, hb, hml, hown, hw⟩ (c_M_tick l hnd co lg tm rm1 no1 M1 (show i < 8 by omega) x0 x1 x2 x3 x4 x5 x6 _) (cwV 1 hw (kb_V kb_459 kb_461 kb_s14 kb_6 kb_462) rfl rfl rfl (by decide +kernel) ⟨Nat.le_of_ble_eq_true rfl, Nat.le_of_ble_eq_true rfl⟩) (kPV (va_recv hK hP (ci := 3) (q0 := 0) rfl rfl) hP hK) rfl rfl hl.1 rfl (lv_room (Nat.le_of_ble_eq_true rfl)) d_M_ticks_64 ⟨Nat.le_of_ble_eq_true rfl, Nat.le_of_ble_eq_true rfl⟩) hS hA hAL (fun u_1 H locs hw9 hP _ _ hS => ?_)
      subst hw9
      have hP : va_P (dC, dI) vwCl (mw cI cJ cZ a co lg tm (mg_done tm rm1 no1 (mg_tk tm (x0, x1, x2, x3, x4, x5, x6))).2.1 (mg_done tm rm1 no1 (mg_tk tm (x0, x1, x2, x3, x4, x5, x6))).2.2 (va_up M1 i (mg_done tm rm1 no1 (mg_tk tm (x0, x1, x2, x3, x4, x5, x6))).1)) _ := hP
      generalize hq_3 : mg_done tm rm1 no1 (mg_tk tm (x0, x1, x2, x3, x4, x5, x6)) = z_3 at hP
      obtain ⟨⟨y3_0, y3_1, y3_2, y3_3, y3_4, y3_5, y3_6⟩, rm_3, no_3⟩ := z_3
      have hP : va_P (dC, dI) vwCl (mw cI cJ cZ a co lg tm rm_3 no_3 (va_up M1 i (y3_0, y3_1, y3_2, y3_3, y3_4, y3_5, y3_6))) _ := hP
      refine lv_iinc (v := (nI i) + 1) (lv' := [(3, .int ((nI i) + 1)), (2, .int (nI k0)), (0, .ref (a 0)), (1, .int (nI n))]) hx hb d_M_ticks_67 hl (k := 0) rfl rfl (by decide) rfl (fun ls hl => ?_)
      refine lv_goto (tgt := 56) hx hb d_M_ticks_70 (by decide) ?_
      have hs : mdt tm rm no M (i + 1) = (rm_3, no_3, (va_up M1 i (y3_0, y3_1, y3_2, y3_3, y3_4, y3_5, y3_6))) := by simp only [mdt, hz, hMi, hq_3]
      refine ih (i + 1) H locs ls (by omega) ?_ hS ?_
      · rw [hs]; exact hP
      · rw [nI_succ]; exact lv_sub hl [0, 1, 2, 3] rfl
set_option maxHeartbeats 4000000 in
set_option maxRecDepth 100000 in
theorem lp_M_tk2 {p : Program} {l : Launch} {e : Env} {s : State} {m : MethodId} {args : Array Value} {below : List Frame} {meth : Method} {c : Code} {Q : State → Prop} {dC : Nat → ClassId} {dI : Nat → Nat → Nat} {cI cJ cZ : ClassId} {a : Nat → Nat} (hnd : (mad a).Nodup) {v : mDV} {n : Nat} (hn : n ≤ 200) {A : Nat → Prop} (hx : p.tables.exec = Jvm.exec) (hb : c.code = b_M_ticks) (hml : c.maxLocals = 4) (hown : s.vm.findClass R_M = some m.cls) (hw : ∀ w ∈ kb_B, w.before args s = true) (hK : va_K (dC, dI) vwCl (mty cI cJ cZ) s) (hA : ∀ q : Nat, s.heap.size ≤ q → A q) (hAL : ∀ q ∈ mad a, A q)
    (kk : ∀ (H : Heap) (locs : List Loc) (ls : Array Slot), va_P (dC, dI) vwCl (mwv cI cJ cZ a (md_ticks v n)) H → va_S A s.heap H locs → lv_has ls 4 [(2, .int (nI n)), (0, .ref (a 0)), (1, .int (nI n))] → W p l e (headSpec w_M_ticks ({ frames := 3, cells := 0, slots := 0, locals := 100 })).room s m args below meth c H locs 0 0 Q (F0 m 79 ls [])) :
    ∀ (k i : Nat) (H : Heap) (locs : List Loc) (ls : Array Slot), i + k = n → va_P (dC, dI) vwCl (mwv cI cJ cZ a (md_ticks v i)) H → va_S A s.heap H locs → lv_has ls 4 [(2, .int (nI i)), (0, .ref (a 0)), (1, .int (nI n))] → W p l e (headSpec w_M_ticks ({ frames := 3, cells := 0, slots := 0, locals := 100 })).room s m args below meth c H locs 0 0 Q (F0 m 39 ls []) := by
  intro k
  induction k with
  | zero =>
    intro i H locs ls hi hP hS hl
    have hin : i = n := by omega
    subst hin
    refine lv_iload_n hx hb d_M_ticks_39 rfl (lv_at hl 0 rfl) ?_
    refine lv_iload_n hx hb d_M_ticks_40 rfl (lv_at hl 2 rfl) ?_
    refine lv_icmp_ge (tgt := 79) hx hb d_M_ticks_41 (by decide) (fun c_1 => ?_) (fun c_1 => ?_)
    · exact kk H locs ls hP hS hl
    · exact absurd (nI_le (Nat.le_refl i) (by omega)) c_1
  | succ k ih =>
    intro i H locs ls hi hP hS hl
    generalize hz : md_ticks v i = z at hP
    obtain ⟨co, lg, tm, rm, no, M⟩ := z
    have hP : va_P (dC, dI) vwCl (mw cI cJ cZ a co lg tm rm no M) H := hP
    refine lv_iload_n hx hb d_M_ticks_39 rfl (lv_at hl 0 rfl) ?_
    refine lv_iload_n hx hb d_M_ticks_40 rfl (lv_at hl 2 rfl) ?_
    refine lv_icmp_ge (tgt := 79) hx hb d_M_ticks_41 (by decide) (fun c_1 => ?_) (fun c_1 => ?_)
    · exact absurd c_1 (nI_ge (a := i) (b := n) (by omega) (by omega))
    · refine lv_aload_n hx hb d_M_ticks_44 rfl (lv_at hl 1 rfl) ?_
      refine lv_dup hx hb d_M_ticks_45 rfl ?_
      refine va_get (D := (dC, dI)) (ci := 3) (v := .int tm) (C := R_M) (T := F_M) (N := 12) hx hb hw i_M hown hK hP 0 rfl rfl 2 (by decide) (hw _ kb_338) (fun _ h9 => h9) rfl d_M_ticks_46 ?_
      refine lv_iconst (v := 1) hx hb d_M_ticks_49 (by decide) ?_
      refine lv_iadd hx hb d_M_ticks_50 ?_
      refine va_put (D := (dC, dI)) (ci := 3) (v := .int (tm + (1 : Int32))) (ty := .int) (C := R_M) (T := F_M) (N := 12) hx hb hw i_M t_M t_M_ok n_M hown hK hP (mw_D hnd hAL) hS 0 rfl rfl 2 (by decide) (hw _ kb_338) (fun _ h9 => h9) rfl (by decide +kernel) rfl rfl (Nat.le_of_ble_eq_true rfl) d_M_ticks_51 (fun H locs hP _ hS => ?_)
      have hP : va_P (dC, dI) vwCl (mw cI cJ cZ a co lg (tm + (1 : Int32)) rm no M) _ := hP
      refine lv_iconst (v := 0) hx hb d_M_ticks_54 (by decide) ?_
      refine lv_istore_n (lv' := [(3, .int 0), (2, .int (nI i)), (0, .ref (a 0)), (1, .int (nI n))]) hx hb d_M_ticks_55 rfl hl (by decide) rfl (fun ls hl => ?_)
      refine lp_M_tk1 (k0 := i) (n := n) hnd hx hb hml hown hw hK hA hAL (fun H locs ls hP hS hl => ?_) 8 0 _ _ ls rfl hP hS (lv_sub hl [0, 1, 2, 3] rfl)
      refine lv_iinc (v := (nI i) + 1) (lv' := [(2, .int ((nI i) + 1)), (3, .int (nI 8)), (0, .ref (a 0)), (1, .int (nI n))]) hx hb d_M_ticks_73 hl (k := 1) rfl rfl (by decide) rfl (fun ls hl => ?_)
      refine lv_goto (tgt := 39) hx hb d_M_ticks_76 (by decide) ?_
      refine ih (i + 1) H locs ls (by omega) ?_ hS ?_
      · show va_P _ _ (mwv cI cJ cZ a (md_tick (md_ticks v i))) H; rw [hz]; exact hP
      · rw [nI_succ]; exact lv_sub hl [0, 2, 3] rfl
set_option maxHeartbeats 4000000 in
set_option maxRecDepth 100000 in
theorem c_M_ticks (l : Launch) {dC : Nat → ClassId} {dI : Nat → Nat → Nat} {cI cJ cZ : ClassId} {a : Nat → Nat} (hnd : (mad a).Nodup) (co lg tm rm no : Int32) (M : Nat → mGV) (p0 : Int32) (sz : Nat) : Met l y_M_ticks w_M_ticks ({ frames := 3, cells := 0, slots := 0, locals := 100 }) (kPre (dC, dI) vwCl (mty cI cJ cZ) [.ref (a 0), .int p0] sz (mw cI cJ cZ a co lg tm rm no M)) (va_Qi (fun (r : Int32) (u : mDV) => ((¬ p0 < 1 ∧ p0 ≤ 200 ∧ tm + p0 ≤ 1000000) ∧ (r, u) = ((md_ticks (0, lg, tm, rm, no, M) p0.toNatClampNeg).2.2.1, md_ticks (0, lg, tm, rm, no, M) p0.toNatClampNeg)) ∨ (¬ (¬ p0 < 1 ∧ p0 ≤ 200 ∧ tm + p0 ≤ 1000000) ∧ u = (1, lg, tm, rm, no, M))) (fun u t => va_P (dC, dI) vwCl (mwv cI cJ cZ a u) t.heap) (kA (mad a) sz)) 0 0 (kA (mad a) sz) := by
  refine Met.ofW (cc := b_M_ticks) (maxL := 4) (ret := (some .int)) (by decide) rfl ?_
  intro p e s m args below meth c s₁ B hml hv
  obtain ⟨rfl, hsz, hP, hK⟩ := hv
  have hx := B.exec
  have hb := B.bytes
  have hr := B.returns
  have hts := atoms_spec (ws := w_M_ticks) B.pre
  have hw := fun (w : Cond) (h : w ∈ kb_B) => hts w (List.mem_cons_of_mem _ h)
  have hown : s.vm.findClass R_M = some m.cls := findClass_of_methodNamed B.named
  have hlocks := B.notSynchronized
  subst hsz
  generalize hAe : kA (mad a) s.heap.size = A
  have hA : ∀ q : Nat, s.heap.size ≤ q → A q := fun q h => by rw [← hAe]; exact Or.inr h
  have hAL : ∀ q ∈ (mad a), A q := fun q h => by rw [← hAe]; exact Or.inl h
  have hS : va_S A s.heap s.heap [] := va_S.rf
  have hl := lv_entry ([.ref (a 0), .int p0]) (n := 4) (Nat.le_of_ble_eq_true rfl)
  rw [lg_entry_eq]
  generalize (lg_sl ([.ref (a 0), .int p0]) ++ List.replicate (4 - (lg_sl ([.ref (a 0), .int p0])).length) Slot.unset).toArray = ls at hl ⊢
  have hl : lv_has ls 4 [(0, .ref (a 0)), (1, .int p0)] := hl
  refine lv_aload_n hx hb d_M_ticks_0 rfl (lv_at hl 0 rfl) ?_
  refine lv_iload_n hx hb d_M_ticks_1 rfl (lv_at hl 1 rfl) ?_
  refine lv_iconst (v := 1) hx hb d_M_ticks_2 (by decide) ?_
  refine lv_icmp_lt (tgt := 28) hx hb d_M_ticks_3 (by decide) (fun c_1 => ?_) (fun c_1 => ?_)
  · refine lv_iconst (v := 0) hx hb d_M_ticks_28 (by decide) ?_
    refine kc_i (Wd := mwv cI cJ cZ a) (va_runV (As := [.int 0]) (rest := []) ⟨hx, hb, hml, hown, hw⟩ (c_M_goes0 l hnd co lg tm rm no M _) (cwV 1 hw (kb_V kb_385 kb_387 kb_s5 kb_6 kb_388) rfl rfl rfl (by decide +kernel) ⟨Nat.le_of_ble_eq_true rfl, Nat.le_of_ble_eq_true rfl⟩) (kPV (va_recv hK hP (ci := 3) (q0 := 0) rfl rfl) hP hK) rfl rfl hl.1 rfl (lv_room (Nat.le_of_ble_eq_true rfl)) d_M_ticks_29 ⟨Nat.le_of_ble_eq_true rfl, Nat.le_of_ble_eq_true rfl⟩) hS hA hAL (fun r_2 u_1 H locs hw9 hP _ _ hS => ?_)
    obtain ⟨rfl, rfl⟩ := hw9
    have hP : va_P (dC, dI) vwCl (mw cI cJ cZ a 1 lg tm rm no M) _ := hP
    refine lv_if_ne (tgt := 37) hx hb d_M_ticks_32 (by decide) (fun c_2 => absurd c_2 (by decide)) (fun c_2 => ?_)
    refine lv_iconst (v := 0) hx hb d_M_ticks_35 (by decide) ?_
    exact W.iret (v := 0) hx hb hr (fun t ht hW => ⟨⟨_, (1, lg, tm, rm, no, M), rfl, Or.inr ⟨fun h => h.1 c_1, rfl⟩, by show va_P _ _ _ t.heap; rw [ht]; exact hP⟩, hS.F ht⟩) hS.2.2 d_M_ticks_36
  · refine lv_iload_n hx hb d_M_ticks_6 rfl (lv_at hl 1 rfl) ?_
    refine lv_sipush (v := 200) hx hb d_M_ticks_7 (by decide) ?_
    refine lv_icmp_gt (tgt := 28) hx hb d_M_ticks_10 (by decide) (fun c_3 => ?_) (fun c_3 => ?_)
    · refine lv_iconst (v := 0) hx hb d_M_ticks_28 (by decide) ?_
      refine kc_i (Wd := mwv cI cJ cZ a) (va_runV (As := [.int 0]) (rest := []) ⟨hx, hb, hml, hown, hw⟩ (c_M_goes0 l hnd co lg tm rm no M _) (cwV 1 hw (kb_V kb_385 kb_387 kb_s5 kb_6 kb_388) rfl rfl rfl (by decide +kernel) ⟨Nat.le_of_ble_eq_true rfl, Nat.le_of_ble_eq_true rfl⟩) (kPV (va_recv hK hP (ci := 3) (q0 := 0) rfl rfl) hP hK) rfl rfl hl.1 rfl (lv_room (Nat.le_of_ble_eq_true rfl)) d_M_ticks_29 ⟨Nat.le_of_ble_eq_true rfl, Nat.le_of_ble_eq_true rfl⟩) hS hA hAL (fun r_4 u_3 H locs hw9 hP _ _ hS => ?_)
      obtain ⟨rfl, rfl⟩ := hw9
      have hP : va_P (dC, dI) vwCl (mw cI cJ cZ a 1 lg tm rm no M) _ := hP
      refine lv_if_ne (tgt := 37) hx hb d_M_ticks_32 (by decide) (fun c_4 => absurd c_4 (by decide)) (fun c_4 => ?_)
      refine lv_iconst (v := 0) hx hb d_M_ticks_35 (by decide) ?_
      exact W.iret (v := 0) hx hb hr (fun t ht hW => ⟨⟨_, (1, lg, tm, rm, no, M), rfl, Or.inr ⟨fun h => absurd h.2.1 (Int32.not_le.mpr c_3), rfl⟩, by show va_P _ _ _ t.heap; rw [ht]; exact hP⟩, hS.F ht⟩) hS.2.2 d_M_ticks_36
    · refine lv_aload_n hx hb d_M_ticks_13 rfl (lv_at hl 0 rfl) ?_
      refine va_get (D := (dC, dI)) (ci := 3) (v := .int tm) (C := R_M) (T := F_M) (N := 12) hx hb hw i_M hown hK hP 0 rfl rfl 2 (by decide) (hw _ kb_338) (fun _ h9 => h9) rfl d_M_ticks_14 ?_
      refine lv_iload_n hx hb d_M_ticks_17 rfl (lv_at hl 1 rfl) ?_
      refine lv_iadd hx hb d_M_ticks_18 ?_
      refine lv_ldc (v := 1000000) hx hb hown (hw _ kb_458) d_M_ticks_19 ?_
      refine lv_icmp_gt (tgt := 28) hx hb d_M_ticks_21 (by decide) (fun c_5 => ?_) (fun c_5 => ?_)
      · refine lv_iconst (v := 0) hx hb d_M_ticks_28 (by decide) ?_
        refine kc_i (Wd := mwv cI cJ cZ a) (va_runV (As := [.int 0]) (rest := []) ⟨hx, hb, hml, hown, hw⟩ (c_M_goes0 l hnd co lg tm rm no M _) (cwV 1 hw (kb_V kb_385 kb_387 kb_s5 kb_6 kb_388) rfl rfl rfl (by decide +kernel) ⟨Nat.le_of_ble_eq_true rfl, Nat.le_of_ble_eq_true rfl⟩) (kPV (va_recv hK hP (ci := 3) (q0 := 0) rfl rfl) hP hK) rfl rfl hl.1 rfl (lv_room (Nat.le_of_ble_eq_true rfl)) d_M_ticks_29 ⟨Nat.le_of_ble_eq_true rfl, Nat.le_of_ble_eq_true rfl⟩) hS hA hAL (fun r_6 u_5 H locs hw9 hP _ _ hS => ?_)
        obtain ⟨rfl, rfl⟩ := hw9
        have hP : va_P (dC, dI) vwCl (mw cI cJ cZ a 1 lg tm rm no M) _ := hP
        refine lv_if_ne (tgt := 37) hx hb d_M_ticks_32 (by decide) (fun c_6 => absurd c_6 (by decide)) (fun c_6 => ?_)
        refine lv_iconst (v := 0) hx hb d_M_ticks_35 (by decide) ?_
        exact W.iret (v := 0) hx hb hr (fun t ht hW => ⟨⟨_, (1, lg, tm, rm, no, M), rfl, Or.inr ⟨fun h => absurd h.2.2 (Int32.not_le.mpr c_5), rfl⟩, by show va_P _ _ _ t.heap; rw [ht]; exact hP⟩, hS.F ht⟩) hS.2.2 d_M_ticks_36
      · refine lv_iconst (v := 1) hx hb d_M_ticks_24 (by decide) ?_
        refine lv_goto (tgt := 29) hx hb d_M_ticks_25 (by decide) ?_
        refine kc_i (Wd := mwv cI cJ cZ a) (va_runV (As := [.int 1]) (rest := []) ⟨hx, hb, hml, hown, hw⟩ (c_M_goes1 l hnd co lg tm rm no M _) (cwV 1 hw (kb_V kb_385 kb_387 kb_s5 kb_6 kb_388) rfl rfl rfl (by decide +kernel) ⟨Nat.le_of_ble_eq_true rfl, Nat.le_of_ble_eq_true rfl⟩) (kPV (va_recv hK hP (ci := 3) (q0 := 0) rfl rfl) hP hK) rfl rfl hl.1 rfl (lv_room (Nat.le_of_ble_eq_true rfl)) d_M_ticks_29 ⟨Nat.le_of_ble_eq_true rfl, Nat.le_of_ble_eq_true rfl⟩) hS hA hAL (fun r_8 u_7 H locs hw9 hP _ _ hS => ?_)
        obtain ⟨rfl, rfl⟩ := hw9
        have hP : va_P (dC, dI) vwCl (mw cI cJ cZ a 0 lg tm rm no M) _ := hP
        refine lv_if_ne (tgt := 37) hx hb d_M_ticks_32 (by decide) (fun c_7 => ?_) (fun c_7 => absurd c_7 (by decide))
        refine lv_iconst (v := 0) hx hb d_M_ticks_37 (by decide) ?_
        refine lv_istore_n (lv' := [(2, .int 0), (0, .ref (a 0)), (1, .int p0)]) hx hb d_M_ticks_38 rfl hl (by decide) rfl (fun ls hl => ?_)
        obtain ⟨n, hn, rfl⟩ := nI_of2 (M := 200) (n := 200) rfl (k_n1 c_1) (Int32.not_lt.mp c_3)
        refine lp_M_tk2 (v := (0, lg, tm, rm, no, M)) hnd hn hx hb hml hown hw hK hA hAL (fun H locs ls hP hS hl => ?_) n 0 _ _ ls (Nat.zero_add n) hP hS (lv_sub hl [0, 1, 2] rfl)
        have hnn : (nI n).toNatClampNeg = n := nI_clamp (by omega)
        generalize hz : md_ticks (0, lg, tm, rm, no, M) n = z at hP
        obtain ⟨co1, lg1, tm1, rm1, no1, M1⟩ := z
        have hP : va_P (dC, dI) vwCl (mw cI cJ cZ a co1 lg1 tm1 rm1 no1 M1) _ := hP
        refine lv_aload_n hx hb d_M_ticks_79 rfl (lv_at hl 1 rfl) ?_
        refine va_get (D := (dC, dI)) (ci := 3) (v := .int tm1) (C := R_M) (T := F_M) (N := 12) hx hb hw i_M hown hK hP 0 rfl rfl 2 (by decide) (hw _ kb_338) (fun _ h9 => h9) rfl d_M_ticks_80 ?_
        exact W.iret (v := tm1) hx hb hr (fun t ht hW => ⟨⟨_, (co1, lg1, tm1, rm1, no1, M1), rfl, Or.inl ⟨⟨c_1, Int32.not_lt.mp c_3, Int32.not_lt.mp c_5⟩, by first | (simp only [hnn, hz]; done) | (simp [hnn, hz]; done)⟩, by show va_P _ _ _ t.heap; rw [ht]; exact hP⟩, hS.F ht⟩) hS.2.2 d_M_ticks_83
