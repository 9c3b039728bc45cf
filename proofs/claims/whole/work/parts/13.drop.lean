set_option maxHeartbeats 4000000 in
set_option maxRecDepth 100000 in
theorem lp_G_drop {p : Program} {l : Launch} {e : Env} {s : State} {m : MethodId} {args : Array Value} {below : List Frame} {meth : Method} {c : Code} {Q : State → Prop} {dC : Nat → ClassId} {dI : Nat → Nat → Nat} {cI cJ cR : ClassId} {d ar nb : Nat} {ga ha oa : Nat → Nat} (hnd : (kad d ar nb ga ha oa).Nodup) {lg tm lf wr : Int32} {G : Nat → kGV} {j : Nat} (hj : j < 8) {x0 x1 x2 x3 x4 : Int32} {x5 : Nat → Int32} {x6 : Nat → Int64} {p0 : Int32} {H : Heap} {locs : List Loc} (hx : p.tables.exec = Jvm.exec) (hb : c.code = b_G_dropSilent) (hml : c.maxLocals = 4) (hown : s.vm.findClass R_G = some m.cls) (hw : ∀ w ∈ kb_B, w.before args s = true) (hK : va_K (dC, dI) vwCl (kty cI cJ cR) s) (hP : va_P (dC, dI) vwCl (kw cI cJ cR d ar nb ga ha oa lg tm lf wr (va_up G j (x0, x1, x2, x3, x4, x5, x6))) H)
    (kk : ∀ ls : Array Slot, lv_has ls 4 [(3, .int (nI 8)), (2, .int (kg_sil x2 p0 x5 8)), (0, .ref (ga j)), (1, .int p0)] → W p l e (headSpec w_G_dropSilent ({ frames := 2, cells := 0, slots := 0, locals := 60 })).room s m args below meth c H locs 0 0 Q (F0 m 52 ls [])) :
    ∀ (k i : Nat) (ls : Array Slot), i + k = 8 → lv_has ls 4 [(3, .int (nI i)), (2, .int (kg_sil x2 p0 x5 i)), (0, .ref (ga j)), (1, .int p0)] → W p l e (headSpec w_G_dropSilent ({ frames := 2, cells := 0, slots := 0, locals := 60 })).room s m args below meth c H locs 0 0 Q (F0 m 13 ls []) := by
  intro k
  induction k with
  | zero =>
    intro i ls hi hl
    have hi8 : i = 8 := by omega
    subst hi8
    refine lv_iload_n hx hb d_G_dropSilent_13 rfl (lv_at hl 0 rfl) ?_
    refine lv_bipush (v := 8) hx hb d_G_dropSilent_14 (by decide) ?_
    refine lv_icmp_ge (tgt := 52) hx hb d_G_dropSilent_16 (by decide) (fun c_1 => ?_) (fun c_1 => ?_)
    · exact kk ls hl
    · exact absurd (nI_le (Nat.le_refl 8) (by decide)) c_1
  | succ k ih =>
    intro i ls hi hl
    refine lv_iload_n hx hb d_G_dropSilent_13 rfl (lv_at hl 0 rfl) ?_
    refine lv_bipush (v := 8) hx hb d_G_dropSilent_14 (by decide) ?_
    refine lv_icmp_ge (tgt := 52) hx hb d_G_dropSilent_16 (by decide) (fun c_1 => ?_) (fun c_1 => ?_)
    · exact absurd c_1 (nI_ge (a := i) (b := 8) (by omega) (by decide))
    · refine lv_aload_n hx hb d_G_dropSilent_19 rfl (lv_at hl 2 rfl) ?_
      refine lv_iload_n hx hb d_G_dropSilent_20 rfl (lv_at hl 0 rfl) ?_
      refine vp_callSi (W.runV (As := [.int (nI i)]) (rest := []) ⟨hx, hb, hml, hown, hw⟩ (c_G_has l hnd lg tm lf wr G hj x0 x1 x2 x3 x4 x5 x6 (nI i) _) (cwV 1 hw (kb_V kb_266 kb_231 kb_232 kb_4 kb_233) rfl rfl rfl (by decide +kernel) ⟨Nat.le_of_ble_eq_true rfl, Nat.le_of_ble_eq_true rfl⟩) (kPV (va_recv hK hP (ci := 2) (q0 := (3 * j + 3)) rfl (kw_gG hj)) hP hK) rfl rfl hl.1 rfl (lv_room (Nat.le_of_ble_eq_true rfl)) d_G_dropSilent_21 ⟨Nat.le_of_ble_eq_true rfl, Nat.le_of_ble_eq_true rfl⟩) (fun r_1 er_1 => ?_)
      subst er_1
      refine lv_if_eq (tgt := 46) hx hb d_G_dropSilent_24 (by decide) (fun c_2 => ?_) (fun c_2 => ?_)
      · refine lv_iinc (v := (nI i) + 1) (lv' := [(3, .int ((nI i) + 1)), (2, .int (kg_sil x2 p0 x5 i)), (0, .ref (ga j)), (1, .int p0)]) hx hb d_G_dropSilent_46 hl (k := 0) rfl rfl (by decide) rfl (fun ls hl => ?_)
        refine lv_goto (tgt := 13) hx hb d_G_dropSilent_49 (by decide) ?_
        have hs : kg_sil x2 p0 x5 (i + 1) = kg_sil x2 p0 x5 i := by simp only [kg_sil, if_pos c_2]
        refine ih (i + 1) ls (by omega) ?_
        rw [nI_succ, hs]
        exact lv_sub hl [0, 1, 2, 3] rfl
      · refine lv_iload_n hx hb d_G_dropSilent_27 rfl (lv_at hl 3 rfl) ?_
        refine lv_aload_n hx hb d_G_dropSilent_28 rfl (lv_at hl 2 rfl) ?_
        refine va_get (D := (dC, dI)) (ci := 2) (v := .ref (ha j)) (C := R_G) (T := F_G) (N := 7) hx hb hw i_G hown hK hP (3 * j + 3) (kw_gG hj) rfl 5 (by decide) (hw _ kb_61) (fun _ h9 => h9) rfl d_G_dropSilent_29 ?_
        refine lv_iload_n hx hb d_G_dropSilent_32 rfl (lv_at hl 0 rfl) ?_
        refine va_iald hx hb hK hP (3 * j + 4) 0 (kw_gH hj) rfl (vp_in_nI (by omega) (by decide)) d_G_dropSilent_33 ?_
        refine lv_isub hx hb d_G_dropSilent_34 ?_
        refine lv_bipush (v := 30) hx hb d_G_dropSilent_35 (by decide) ?_
        refine lv_icmp_lt (tgt := 46) hx hb d_G_dropSilent_37 (by decide) (fun c_3 => ?_) (fun c_3 => ?_)
        · rw [nI_clamp (by omega)] at c_3
          refine lv_iinc (v := (nI i) + 1) (lv' := [(3, .int ((nI i) + 1)), (2, .int (kg_sil x2 p0 x5 i)), (0, .ref (ga j)), (1, .int p0)]) hx hb d_G_dropSilent_46 hl (k := 0) rfl rfl (by decide) rfl (fun ls hl => ?_)
          refine lv_goto (tgt := 13) hx hb d_G_dropSilent_49 (by decide) ?_
          have hs : kg_sil x2 p0 x5 (i + 1) = kg_sil x2 p0 x5 i := by simp only [kg_sil, if_neg c_2, if_pos c_3]
          refine ih (i + 1) ls (by omega) ?_
          rw [nI_succ, hs]
          exact lv_sub hl [0, 1, 2, 3] rfl
        · rw [nI_clamp (by omega)] at c_3
          refine lv_iload_n hx hb d_G_dropSilent_40 rfl (lv_at hl 1 rfl) ?_
          refine lv_iconst (v := 1) hx hb d_G_dropSilent_41 (by decide) ?_
          refine lv_iload_n hx hb d_G_dropSilent_42 rfl (lv_at hl 0 rfl) ?_
          refine lv_ishl hx hb d_G_dropSilent_43 ?_
          refine lv_ior hx hb d_G_dropSilent_44 ?_
          refine lv_istore_n (lv' := [(2, .int ((kg_sil x2 p0 x5 i) ||| ((1 : Int32) <<< ((nI i) &&& 31)))), (3, .int (nI i)), (0, .ref (ga j)), (1, .int p0)]) hx hb d_G_dropSilent_45 rfl hl (by decide) rfl (fun ls hl => ?_)
          refine lv_iinc (v := (nI i) + 1) (lv' := [(3, .int ((nI i) + 1)), (2, .int ((kg_sil x2 p0 x5 i) ||| ((1 : Int32) <<< ((nI i) &&& 31)))), (0, .ref (ga j)), (1, .int p0)]) hx hb d_G_dropSilent_46 hl (k := 1) rfl rfl (by decide) rfl (fun ls hl => ?_)
          refine lv_goto (tgt := 13) hx hb d_G_dropSilent_49 (by decide) ?_
          have hs : kg_sil x2 p0 x5 (i + 1) = (kg_sil x2 p0 x5 i) ||| ((1 : Int32) <<< ((nI i) &&& 31)) := by simp only [kg_sil, if_neg c_2, if_neg c_3]
          refine ih (i + 1) ls (by omega) ?_
          rw [nI_succ, hs]
          exact lv_sub hl [0, 1, 2, 3] rfl
set_option maxHeartbeats 4000000 in
set_option maxRecDepth 100000 in
theorem c_G_dropSilent (l : Launch) {dC : Nat → ClassId} {dI : Nat → Nat → Nat} {cI cJ cR : ClassId} {d ar nb : Nat} {ga ha oa : Nat → Nat} (hnd : (kad d ar nb ga ha oa).Nodup) (lg tm lf wr : Int32) (G : Nat → kGV) {j : Nat} (hj : j < 8) (x0 x1 x2 x3 x4 : Int32) (x5 : Nat → Int32) (x6 : Nat → Int64) (p0 : Int32) (sz : Nat) : Met l y_G_dropSilent w_G_dropSilent ({ frames := 2, cells := 0, slots := 0, locals := 60 }) (kPre (dC, dI) vwCl (kty cI cJ cR) [.ref (ga j), .int p0] sz (kw cI cJ cR d ar nb ga ha oa lg tm lf wr (va_up G j (x0, x1, x2, x3, x4, x5, x6)))) (va_Qv (fun u : kDV => u = (lg, tm, lf, wr, va_up G j (kg_drop p0 (x0, x1, x2, x3, x4, x5, x6)))) (fun u t => va_P (dC, dI) vwCl (kwv cI cJ cR d ar nb ga ha oa u) t.heap) (kA (kad d ar nb ga ha oa) sz)) 0 0 (kA (kad d ar nb ga ha oa) sz) := by
  refine Met.ofW (cc := b_G_dropSilent) (maxL := 4) (ret := none) (by decide) rfl ?_
  intro p e s m args below meth c s₁ B hml hv
  obtain ⟨rfl, hsz, hP, hK⟩ := hv
  have hx := B.exec
  have hb := B.bytes
  have hr := B.returns
  have hts := atoms_spec (ws := w_G_dropSilent) B.pre
  have hw := fun (w : Cond) (h : w ∈ kb_B) => hts w (List.mem_cons_of_mem _ h)
  have hown : s.vm.findClass R_G = some m.cls := findClass_of_methodNamed B.named
  have hlocks := B.notSynchronized
  subst hsz
  generalize hAe : kA (kad d ar nb ga ha oa) s.heap.size = A
  have hA : ∀ q : Nat, s.heap.size ≤ q → A q := fun q h => by rw [← hAe]; exact Or.inr h
  have hAL : ∀ q ∈ (kad d ar nb ga ha oa), A q := fun q h => by rw [← hAe]; exact Or.inl h
  have hS : va_S A s.heap s.heap [] := va_S.rf
  have hl := lv_entry ([.ref (ga j), .int p0]) (n := 4) (Nat.le_of_ble_eq_true rfl)
  rw [lg_entry_eq]
  generalize (lg_sl ([.ref (ga j), .int p0]) ++ List.replicate (4 - (lg_sl ([.ref (ga j), .int p0])).length) Slot.unset).toArray = ls at hl ⊢
  have hl : lv_has ls 4 [(0, .ref (ga j)), (1, .int p0)] := hl
  refine lv_aload_n hx hb d_G_dropSilent_0 rfl (lv_at hl 0 rfl) ?_
  refine va_get (D := (dC, dI)) (ci := 2) (v := .int x1) (C := R_G) (T := F_G) (N := 7) hx hb hw i_G hown hK hP (3 * j + 3) (kw_gG hj) rfl 1 (by decide) (hw _ kb_54) (fun _ h9 => h9) rfl d_G_dropSilent_1 ?_
  refine lv_iconst (v := 2) hx hb d_G_dropSilent_4 (by decide) ?_
  refine lv_icmp_eq (tgt := 9) hx hb d_G_dropSilent_5 (by decide) (fun c_1 => ?_) (fun c_1 => ?_)
  · refine lv_iconst (v := 0) hx hb d_G_dropSilent_9 (by decide) ?_
    refine lv_istore_n (lv' := [(2, .int 0), (0, .ref (ga j)), (1, .int p0)]) hx hb d_G_dropSilent_10 rfl hl (by decide) rfl (fun ls hl => ?_)
    refine lv_iconst (v := 0) hx hb d_G_dropSilent_11 (by decide) ?_
    refine lv_istore_n (lv' := [(3, .int 0), (2, .int 0), (0, .ref (ga j)), (1, .int p0)]) hx hb d_G_dropSilent_12 rfl hl (by decide) rfl (fun ls hl => ?_)
    refine lp_G_drop hnd hj hx hb hml hown hw hK hP (fun ls hl => ?_) 8 0 ls rfl (lv_sub hl [0, 1, 2, 3] rfl)
    refine lv_iload_n hx hb d_G_dropSilent_52 rfl (lv_at hl 1 rfl) ?_
    refine lv_if_eq (tgt := 62) hx hb d_G_dropSilent_53 (by decide) (fun c_2 => ?_) (fun c_2 => ?_)
    · exact W.vret hx hb hr (fun t ht hW => ⟨⟨(lg, tm, lf, wr, (va_up G j (x0, x1, x2, x3, x4, x5, x6))), rfl, by first | (simp only [kg_drop, if_pos c_1, if_pos c_2]; done) | (simp [kg_drop, c_1, c_2]; done), by show va_P _ _ _ t.heap; rw [ht]; exact hP⟩, hS.F ht⟩) hS.2.2 d_G_dropSilent_62
    · refine lv_aload_n hx hb d_G_dropSilent_56 rfl (lv_at hl 2 rfl) ?_
      refine lv_iload_n hx hb d_G_dropSilent_57 rfl (lv_at hl 1 rfl) ?_
      refine lv_iload_n hx hb d_G_dropSilent_58 rfl (lv_at hl 3 rfl) ?_
      refine kc_v (Wd := kwv cI cJ cR d ar nb ga ha oa) (va_runV (As := [.int (kg_sil x2 p0 x5 8), .int p0]) (rest := []) ⟨hx, hb, hml, hown, hw⟩ (c_G_putOut l hnd lg tm lf wr G hj x0 x1 x2 x3 x4 x5 x6 (kg_sil x2 p0 x5 8) p0 _) (cwV 2 hw (kb_V kb_328 kb_235 kb_236 kb_4 kb_237) rfl rfl rfl (by decide +kernel) ⟨Nat.le_of_ble_eq_true rfl, Nat.le_of_ble_eq_true rfl⟩) (kPV (va_recv hK hP (ci := 2) (q0 := (3 * j + 3)) rfl (kw_gG hj)) hP hK) rfl rfl hl.1 rfl (lv_room (Nat.le_of_ble_eq_true rfl)) d_G_dropSilent_59 ⟨Nat.le_of_ble_eq_true rfl, Nat.le_of_ble_eq_true rfl⟩) hS hA hAL (fun u_1 H locs hw hP _ _ hS => ?_)
      subst hw
      have hP : va_P (dC, dI) vwCl (kw cI cJ cR d ar nb ga ha oa lg tm lf wr (va_up G j (kg_out (kg_sil x2 p0 x5 8) p0 (x0, x1, x2, x3, x4, x5, x6)))) _ := hP
      generalize hq_3 : kg_out (kg_sil x2 p0 x5 8) p0 (x0, x1, x2, x3, x4, x5, x6) = z_3 at hP
      obtain ⟨y3_0, y3_1, y3_2, y3_3, y3_4, y3_5, y3_6⟩ := z_3
      exact W.vret hx hb hr (fun t ht hW => ⟨⟨(lg, tm, lf, wr, (va_up G j (y3_0, y3_1, y3_2, y3_3, y3_4, y3_5, y3_6))), rfl, by first | (simp only [kg_drop, if_pos c_1, if_neg c_2, hq_3]; done) | (simp [kg_drop, c_1, c_2, hq_3]; done), by show va_P _ _ _ t.heap; rw [ht]; exact hP⟩, hS.F ht⟩) hS.2.2 d_G_dropSilent_62
  · exact W.vret hx hb hr (fun t ht hW => ⟨⟨(lg, tm, lf, wr, (va_up G j (x0, x1, x2, x3, x4, x5, x6))), rfl, by first | (simp only [kg_drop, if_neg c_1]; done) | (simp [kg_drop, c_1]; done), by show va_P _ _ _ t.heap; rw [ht]; exact hP⟩, hS.F ht⟩) hS.2.2 d_G_dropSilent_8
