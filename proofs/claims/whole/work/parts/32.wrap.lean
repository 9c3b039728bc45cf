theorem kw_len {cI cJ cR : ClassId} {d ar nb : Nat} {ga ha oa : Nat → Nat} {lg tm lf wr : Int32} {G : Nat → kGV} : (kw cI cJ cR d ar nb ga ha oa lg tm lf wr G).length = 27 := by simp [kw, kw_n]
theorem kw_oat {cI cJ cR : ClassId} {d ar nb : Nat} {ga ha oa : Nat → Nat} {v : kDV} {x : Nat × va_E} : (kwv cI cJ cR d ar nb ga ha oa v ++ [x])[27]? = some x := by
  rw [List.getElem?_append_right (by rw [kw_len]; exact Nat.le_refl _), kw_len]; rfl
theorem kw_oset {cI cJ cR : ClassId} {d ar nb : Nat} {ga ha oa : Nat → Nat} {v : kDV} {x y : Nat × va_E} : (kwv cI cJ cR d ar nb ga ha oa v ++ [x]).set 27 y = kwv cI cJ cR d ar nb ga ha oa v ++ [y] := by
  rw [List.set_append_right _ _ (by rw [kw_len]; exact Nat.le_refl _), kw_len]; rfl
theorem kw_oad {cI cJ cR : ClassId} {d ar nb : Nat} {ga ha oa : Nat → Nat} {v : kDV} {o : Nat} {x : va_E} : (kwv cI cJ cR d ar nb ga ha oa v ++ [(o, x)]).map Prod.fst = kad d ar nb ga ha oa ++ [o] := by
  rw [List.map_append, kw_ad]; rfl
set_option maxHeartbeats 4000000 in
set_option maxRecDepth 100000 in
theorem c_L_join (l : Launch) (hl0 : l.stackTraces = false) {dC : Nat → ClassId} {dI : Nat → Nat → Nat} {cI cJ cR : ClassId} {d ar nb : Nat} {ga ha oa : Nat → Nat} (hnd : (kad d ar nb ga ha oa).Nodup) (lg tm lf wr : Int32) (G : Nat → kGV) {o : Nat} (hno : o ∉ kad d ar nb ga ha oa) (p0 : Int32) (p1 : Int32) (f : Nat → Int64) (sz : Nat) : Met l y_L_join w_L_join ({ frames := 8, cells := 2, slots := 12, locals := 180 }) (kPreT (dC, dI) vwCl (kty cI cJ cR) [.ref d, .int p0, .int p1, .ref o] sz (kwv cI cJ cR d ar nb ga ha oa (lg, tm, lf, wr, G) ++ [(o, .inl (cJ, 1, .inr (.inl f)))])) (va_Qi (fun (r : Int32) (u : kDV × (Nat → Int64)) => (r = 0 ∧ ∃ i : Int32, ((fun (r : Int32) (u : kDV) => (vp_in p0 8 ∧ vp_in p1 8) ∧ (r, u) = kd_join p0 p1 (lg, tm, lf, wr, G)) i u.1) ∧ u.2 = vp_updL f 0 (i.toInt64)) ∨ (r = 1 ∧ (¬ (vp_in p0 8 ∧ vp_in p1 8)) ∧ u = ((lg, tm, lf, wr, G), f))) (fun u t => va_P (dC, dI) vwCl (kwv cI cJ cR d ar nb ga ha oa u.1 ++ [(o, .inl (cJ, 1, .inr (.inl u.2)))]) t.heap) (kA (kad d ar nb ga ha oa ++ [o]) sz)) 2 12 (kA (kad d ar nb ga ha oa ++ [o]) sz) := by
  refine va_MetW (cc := b_L_join) (maxL := 5) (ret := (some .int)) (hh := [(0, 10, 13, 13)]) (by decide) rfl ?_
  intro p e s m args below meth c s₁ B hml hv
  obtain ⟨⟨rfl, hsz, hP, hK⟩, hZ⟩ := hv
  have hx := B.exec
  have hb := B.bytes
  have hr := B.returns
  have hts := atoms_spec (ws := w_L_join) B.pre
  have hw := fun (w : Cond) (h : w ∈ kb_B) => hts w (List.mem_cons_of_mem _ h)
  have hown : s.vm.findClass "GroupDeskLaw" = some m.cls := findClass_of_methodNamed B.named
  obtain ⟨x, hx1, h0, h1, h2, h3⟩ := kx_table B.named B.method (Stand.of_body B).code (hts _ List.mem_cons_self)
  subst hsz
  generalize hAe : kA (kad d ar nb ga ha oa ++ [o]) s.heap.size = A
  have hA : ∀ q : Nat, s.heap.size ≤ q → A q := fun q h => by rw [← hAe]; exact Or.inr h
  have hAO : ∀ q ∈ (kad d ar nb ga ha oa ++ [o]), A q := fun q h => by rw [← hAe]; exact Or.inl h
  have hAL : ∀ q ∈ kad d ar nb ga ha oa, A q := fun q h => hAO q (List.mem_append_left _ h)
  have hnO : (kad d ar nb ga ha oa ++ [o]).Nodup := List.nodup_append.mpr ⟨hnd, by simp, fun a ha b hb e => hno (by rw [List.mem_singleton.mp hb] at e; rw [← e]; exact ha)⟩
  have hPk := kl_L hP
  have hPo := kl_R hP
  have hl := lv_entry ([.ref d, .int p0, .int p1, .ref o]) (n := 5) (Nat.le_of_ble_eq_true rfl)
  rw [lg_entry_eq]
  generalize (lg_sl ([.ref d, .int p0, .int p1, .ref o]) ++ List.replicate (5 - (lg_sl ([.ref d, .int p0, .int p1, .ref o])).length) Slot.unset).toArray = ls at hl ⊢
  have hl : lv_has ls 5 [(0, .ref d), (1, .int p0), (2, .int p1), (3, .ref o)] := hl
  refine lv_aload_n hx hb d_L_join_0 rfl (lv_at hl 3 rfl) ?_
  refine lv_iconst (v := 0) hx hb d_L_join_1 (by decide) ?_
  refine lv_aload_n hx hb d_L_join_2 rfl (lv_at hl 0 rfl) ?_
  refine lv_iload_n hx hb d_L_join_3 rfl (lv_at hl 1 rfl) ?_
  refine lv_iload_n hx hb d_L_join_4 rfl (lv_at hl 2 rfl) ?_
  refine kx_calli (L := kad d ar nb ga ha oa) (x := x) (own := "GroupDeskLaw") (kt_runV (As := [.int p0, .int p1]) (rest := [.int 0, .ref o]) ⟨hx, hb, hml, hown, hw⟩ (c_D_join l hl0 hnd lg tm lf wr G p0 p1 _) (cwV 2 hw (kb_V kb_120 kb_121 kb_122 kb_1 kb_123) rfl rfl rfl (by decide +kernel) ⟨Nat.le_of_ble_eq_true rfl, Nat.le_of_ble_eq_true rfl⟩) (kPVT (va_recv hK hPk (ci := 0) (q0 := 0) rfl rfl) hPk hK hZ (fun _ _ h => h)) rfl rfl hl.1 rfl (lv_room (Nat.le_of_ble_eq_true rfl)) d_L_join_5 ⟨Nat.le_of_ble_eq_true rfl, Nat.le_of_ble_eq_true rfl⟩) hA hAL hown hx1 (by simp [covers, h0, h1]) (by rw [h3]; decide) (by rw [h3]; exact hw _ kb_119) (fun q H locs ht hz hk hS => ?_) (fun r u H locs hp hP hz hk hS => ?_)
  · rw [h2]
    refine lv_astore (lv' := [(4, .ref q), (0, .ref d), (1, .int p0), (2, .int p1), (3, .ref o)]) hx hb d_L_join_13 hl (by decide) rfl (fun ls hl => ?_)
    refine lv_iconst (v := 1) hx hb d_L_join_15 (by decide) ?_
    refine W.widen (k := 2) (n := 12) (by decide) (by decide) ?_
    have hP := kl_keep hP (L := []) (fun _ _ z => by cases z) (fun q h1 _ => hk q h1)
    exact W.iret (v := 1) hx hb hr (fun t ht9 hW => ⟨⟨1, ((lg, tm, lf, wr, G), f), rfl, Or.inr ⟨rfl, ht, rfl⟩, by show va_P _ _ _ t.heap; rw [ht9]; exact hP⟩, hS.F ht9⟩) hS.2.2 d_L_join_16
  · skip
    have hPo := kl_keep hPo (L := kad d ar nb ga ha oa) (fun q hq => by rw [show q = o from List.mem_singleton.mp hq]; exact hno) hk
    have hP : va_P (dC, dI) vwCl (kwv cI cJ cR d ar nb ga ha oa u ++ [(o, .inl (cJ, 1, .inr (.inl f)))]) H := va_P.app hP hPo
    have hD : va_D A (kwv cI cJ cR d ar nb ga ha oa u ++ [(o, .inl (cJ, 1, .inr (.inl f)))]) := kl_D (by rw [kw_oad]; exact hnO) (by rw [kw_oad]; exact hAO)
    refine lv_i2l hx hb d_L_join_8 rfl ?_
    refine va_last hx hb hK hP hD hS 27 1 kw_oat rfl (vp_in_nI (n := 0) (N := 1) (by decide) (by decide)) d_L_join_9 (fun H locs hP _ hS => ?_)
    rw [kw_oset] at hP
    refine lv_goto (tgt := 17) hx hb d_L_join_10 (by decide) ?_
    refine lv_iconst (v := 0) hx hb d_L_join_17 (by decide) ?_
    refine W.widen (k := 2) (n := 12) (by decide) (by decide) ?_
    exact W.iret (v := 0) hx hb hr (fun t ht9 hW => ⟨⟨0, (u, _), rfl, Or.inl ⟨rfl, r, hp, rfl⟩, by show va_P _ _ _ t.heap; rw [ht9]; exact hP⟩, hS.F ht9⟩) hS.2.2 d_L_join_18
set_option maxHeartbeats 4000000 in
set_option maxRecDepth 100000 in
theorem c_L_leave (l : Launch) (hl0 : l.stackTraces = false) {dC : Nat → ClassId} {dI : Nat → Nat → Nat} {cI cJ cR : ClassId} {d ar nb : Nat} {ga ha oa : Nat → Nat} (hnd : (kad d ar nb ga ha oa).Nodup) (lg tm lf wr : Int32) (G : Nat → kGV) {o : Nat} (hno : o ∉ kad d ar nb ga ha oa) (p0 : Int32) (p1 : Int32) (f : Nat → Int64) (sz : Nat) : Met l y_L_leave w_L_leave ({ frames := 8, cells := 2, slots := 12, locals := 180 }) (kPreT (dC, dI) vwCl (kty cI cJ cR) [.ref d, .int p0, .int p1, .ref o] sz (kwv cI cJ cR d ar nb ga ha oa (lg, tm, lf, wr, G) ++ [(o, .inl (cJ, 1, .inr (.inl f)))])) (va_Qi (fun (r : Int32) (u : kDV × (Nat → Int64)) => (r = 0 ∧ ∃ i : Int32, ((fun (r : Int32) (u : kDV) => (vp_in p0 8 ∧ vp_in p1 8) ∧ (r, u) = kd_leave p0 p1 (lg, tm, lf, wr, G)) i u.1) ∧ u.2 = vp_updL f 0 (i.toInt64)) ∨ (r = 1 ∧ (¬ (vp_in p0 8 ∧ vp_in p1 8)) ∧ u = ((lg, tm, lf, wr, G), f))) (fun u t => va_P (dC, dI) vwCl (kwv cI cJ cR d ar nb ga ha oa u.1 ++ [(o, .inl (cJ, 1, .inr (.inl u.2)))]) t.heap) (kA (kad d ar nb ga ha oa ++ [o]) sz)) 2 12 (kA (kad d ar nb ga ha oa ++ [o]) sz) := by
  refine va_MetW (cc := b_L_leave) (maxL := 5) (ret := (some .int)) (hh := [(0, 10, 13, 13)]) (by decide) rfl ?_
  intro p e s m args below meth c s₁ B hml hv
  obtain ⟨⟨rfl, hsz, hP, hK⟩, hZ⟩ := hv
  have hx := B.exec
  have hb := B.bytes
  have hr := B.returns
  have hts := atoms_spec (ws := w_L_leave) B.pre
  have hw := fun (w : Cond) (h : w ∈ kb_B) => hts w (List.mem_cons_of_mem _ h)
  have hown : s.vm.findClass "GroupDeskLaw" = some m.cls := findClass_of_methodNamed B.named
  obtain ⟨x, hx1, h0, h1, h2, h3⟩ := kx_table B.named B.method (Stand.of_body B).code (hts _ List.mem_cons_self)
  subst hsz
  generalize hAe : kA (kad d ar nb ga ha oa ++ [o]) s.heap.size = A
  have hA : ∀ q : Nat, s.heap.size ≤ q → A q := fun q h => by rw [← hAe]; exact Or.inr h
  have hAO : ∀ q ∈ (kad d ar nb ga ha oa ++ [o]), A q := fun q h => by rw [← hAe]; exact Or.inl h
  have hAL : ∀ q ∈ kad d ar nb ga ha oa, A q := fun q h => hAO q (List.mem_append_left _ h)
  have hnO : (kad d ar nb ga ha oa ++ [o]).Nodup := List.nodup_append.mpr ⟨hnd, by simp, fun a ha b hb e => hno (by rw [List.mem_singleton.mp hb] at e; rw [← e]; exact ha)⟩
  have hPk := kl_L hP
  have hPo := kl_R hP
  have hl := lv_entry ([.ref d, .int p0, .int p1, .ref o]) (n := 5) (Nat.le_of_ble_eq_true rfl)
  rw [lg_entry_eq]
  generalize (lg_sl ([.ref d, .int p0, .int p1, .ref o]) ++ List.replicate (5 - (lg_sl ([.ref d, .int p0, .int p1, .ref o])).length) Slot.unset).toArray = ls at hl ⊢
  have hl : lv_has ls 5 [(0, .ref d), (1, .int p0), (2, .int p1), (3, .ref o)] := hl
  refine lv_aload_n hx hb d_L_leave_0 rfl (lv_at hl 3 rfl) ?_
  refine lv_iconst (v := 0) hx hb d_L_leave_1 (by decide) ?_
  refine lv_aload_n hx hb d_L_leave_2 rfl (lv_at hl 0 rfl) ?_
  refine lv_iload_n hx hb d_L_leave_3 rfl (lv_at hl 1 rfl) ?_
  refine lv_iload_n hx hb d_L_leave_4 rfl (lv_at hl 2 rfl) ?_
  refine kx_calli (L := kad d ar nb ga ha oa) (x := x) (own := "GroupDeskLaw") (kt_runV (As := [.int p0, .int p1]) (rest := [.int 0, .ref o]) ⟨hx, hb, hml, hown, hw⟩ (c_D_leave l hl0 hnd lg tm lf wr G p0 p1 _) (cwV 2 hw (kb_V kb_226 kb_227 kb_228 kb_1 kb_229) rfl rfl rfl (by decide +kernel) ⟨Nat.le_of_ble_eq_true rfl, Nat.le_of_ble_eq_true rfl⟩) (kPVT (va_recv hK hPk (ci := 0) (q0 := 0) rfl rfl) hPk hK hZ (fun _ _ h => h)) rfl rfl hl.1 rfl (lv_room (Nat.le_of_ble_eq_true rfl)) d_L_leave_5 ⟨Nat.le_of_ble_eq_true rfl, Nat.le_of_ble_eq_true rfl⟩) hA hAL hown hx1 (by simp [covers, h0, h1]) (by rw [h3]; decide) (by rw [h3]; exact hw _ kb_119) (fun q H locs ht hz hk hS => ?_) (fun r u H locs hp hP hz hk hS => ?_)
  · rw [h2]
    refine lv_astore (lv' := [(4, .ref q), (0, .ref d), (1, .int p0), (2, .int p1), (3, .ref o)]) hx hb d_L_leave_13 hl (by decide) rfl (fun ls hl => ?_)
    refine lv_iconst (v := 1) hx hb d_L_leave_15 (by decide) ?_
    refine W.widen (k := 2) (n := 12) (by decide) (by decide) ?_
    have hP := kl_keep hP (L := []) (fun _ _ z => by cases z) (fun q h1 _ => hk q h1)
    exact W.iret (v := 1) hx hb hr (fun t ht9 hW => ⟨⟨1, ((lg, tm, lf, wr, G), f), rfl, Or.inr ⟨rfl, ht, rfl⟩, by show va_P _ _ _ t.heap; rw [ht9]; exact hP⟩, hS.F ht9⟩) hS.2.2 d_L_leave_16
  · skip
    have hPo := kl_keep hPo (L := kad d ar nb ga ha oa) (fun q hq => by rw [show q = o from List.mem_singleton.mp hq]; exact hno) hk
    have hP : va_P (dC, dI) vwCl (kwv cI cJ cR d ar nb ga ha oa u ++ [(o, .inl (cJ, 1, .inr (.inl f)))]) H := va_P.app hP hPo
    have hD : va_D A (kwv cI cJ cR d ar nb ga ha oa u ++ [(o, .inl (cJ, 1, .inr (.inl f)))]) := kl_D (by rw [kw_oad]; exact hnO) (by rw [kw_oad]; exact hAO)
    refine lv_i2l hx hb d_L_leave_8 rfl ?_
    refine va_last hx hb hK hP hD hS 27 1 kw_oat rfl (vp_in_nI (n := 0) (N := 1) (by decide) (by decide)) d_L_leave_9 (fun H locs hP _ hS => ?_)
    rw [kw_oset] at hP
    refine lv_goto (tgt := 17) hx hb d_L_leave_10 (by decide) ?_
    refine lv_iconst (v := 0) hx hb d_L_leave_17 (by decide) ?_
    refine W.widen (k := 2) (n := 12) (by decide) (by decide) ?_
    exact W.iret (v := 0) hx hb hr (fun t ht9 hW => ⟨⟨0, (u, _), rfl, Or.inl ⟨rfl, r, hp, rfl⟩, by show va_P _ _ _ t.heap; rw [ht9]; exact hP⟩, hS.F ht9⟩) hS.2.2 d_L_leave_18
set_option maxHeartbeats 4000000 in
set_option maxRecDepth 100000 in
theorem c_L_beat (l : Launch) (hl0 : l.stackTraces = false) {dC : Nat → ClassId} {dI : Nat → Nat → Nat} {cI cJ cR : ClassId} {d ar nb : Nat} {ga ha oa : Nat → Nat} (hnd : (kad d ar nb ga ha oa).Nodup) (lg tm lf wr : Int32) (G : Nat → kGV) {o : Nat} (hno : o ∉ kad d ar nb ga ha oa) (p0 : Int32) (p1 : Int32) (p2 : Int32) (f : Nat → Int64) (sz : Nat) : Met l y_L_beat w_L_beat ({ frames := 8, cells := 2, slots := 12, locals := 180 }) (kPreT (dC, dI) vwCl (kty cI cJ cR) [.ref d, .int p0, .int p1, .int p2, .ref o] sz (kwv cI cJ cR d ar nb ga ha oa (lg, tm, lf, wr, G) ++ [(o, .inl (cJ, 1, .inr (.inl f)))])) (va_Qi (fun (r : Int32) (u : kDV × (Nat → Int64)) => (r = 0 ∧ ∃ i : Int32, ((fun (r : Int32) (u : kDV) => (vp_in p0 8 ∧ vp_in p1 8) ∧ (r, u) = kd_beat p0 p1 p2 (lg, tm, lf, wr, G)) i u.1) ∧ u.2 = vp_updL f 0 (i.toInt64)) ∨ (r = 1 ∧ (¬ (vp_in p0 8 ∧ vp_in p1 8)) ∧ u = ((lg, tm, lf, wr, G), f))) (fun u t => va_P (dC, dI) vwCl (kwv cI cJ cR d ar nb ga ha oa u.1 ++ [(o, .inl (cJ, 1, .inr (.inl u.2)))]) t.heap) (kA (kad d ar nb ga ha oa ++ [o]) sz)) 2 12 (kA (kad d ar nb ga ha oa ++ [o]) sz) := by
  refine va_MetW (cc := b_L_beat) (maxL := 6) (ret := (some .int)) (hh := [(0, 12, 15, 13)]) (by decide) rfl ?_
  intro p e s m args below meth c s₁ B hml hv
  obtain ⟨⟨rfl, hsz, hP, hK⟩, hZ⟩ := hv
  have hx := B.exec
  have hb := B.bytes
  have hr := B.returns
  have hts := atoms_spec (ws := w_L_beat) B.pre
  have hw := fun (w : Cond) (h : w ∈ kb_B) => hts w (List.mem_cons_of_mem _ h)
  have hown : s.vm.findClass "GroupDeskLaw" = some m.cls := findClass_of_methodNamed B.named
  obtain ⟨x, hx1, h0, h1, h2, h3⟩ := kx_table B.named B.method (Stand.of_body B).code (hts _ List.mem_cons_self)
  subst hsz
  generalize hAe : kA (kad d ar nb ga ha oa ++ [o]) s.heap.size = A
  have hA : ∀ q : Nat, s.heap.size ≤ q → A q := fun q h => by rw [← hAe]; exact Or.inr h
  have hAO : ∀ q ∈ (kad d ar nb ga ha oa ++ [o]), A q := fun q h => by rw [← hAe]; exact Or.inl h
  have hAL : ∀ q ∈ kad d ar nb ga ha oa, A q := fun q h => hAO q (List.mem_append_left _ h)
  have hnO : (kad d ar nb ga ha oa ++ [o]).Nodup := List.nodup_append.mpr ⟨hnd, by simp, fun a ha b hb e => hno (by rw [List.mem_singleton.mp hb] at e; rw [← e]; exact ha)⟩
  have hPk := kl_L hP
  have hPo := kl_R hP
  have hl := lv_entry ([.ref d, .int p0, .int p1, .int p2, .ref o]) (n := 6) (Nat.le_of_ble_eq_true rfl)
  rw [lg_entry_eq]
  generalize (lg_sl ([.ref d, .int p0, .int p1, .int p2, .ref o]) ++ List.replicate (6 - (lg_sl ([.ref d, .int p0, .int p1, .int p2, .ref o])).length) Slot.unset).toArray = ls at hl ⊢
  have hl : lv_has ls 6 [(0, .ref d), (1, .int p0), (2, .int p1), (3, .int p2), (4, .ref o)] := hl
  refine lv_aload hx hb d_L_beat_0 (lv_at hl 4 rfl) ?_
  refine lv_iconst (v := 0) hx hb d_L_beat_2 (by decide) ?_
  refine lv_aload_n hx hb d_L_beat_3 rfl (lv_at hl 0 rfl) ?_
  refine lv_iload_n hx hb d_L_beat_4 rfl (lv_at hl 1 rfl) ?_
  refine lv_iload_n hx hb d_L_beat_5 rfl (lv_at hl 2 rfl) ?_
  refine lv_iload_n hx hb d_L_beat_6 rfl (lv_at hl 3 rfl) ?_
  refine kx_calli (L := kad d ar nb ga ha oa) (x := x) (own := "GroupDeskLaw") (kt_runV (As := [.int p0, .int p1, .int p2]) (rest := [.int 0, .ref o]) ⟨hx, hb, hml, hown, hw⟩ (c_D_beat l hl0 hnd lg tm lf wr G p0 p1 p2 _) (cwV 3 hw (kb_V kb_241 kb_242 kb_243 kb_1 kb_244) rfl rfl rfl (by decide +kernel) ⟨Nat.le_of_ble_eq_true rfl, Nat.le_of_ble_eq_true rfl⟩) (kPVT (va_recv hK hPk (ci := 0) (q0 := 0) rfl rfl) hPk hK hZ (fun _ _ h => h)) rfl rfl hl.1 rfl (lv_room (Nat.le_of_ble_eq_true rfl)) d_L_beat_7 ⟨Nat.le_of_ble_eq_true rfl, Nat.le_of_ble_eq_true rfl⟩) hA hAL hown hx1 (by simp [covers, h0, h1]) (by rw [h3]; decide) (by rw [h3]; exact hw _ kb_119) (fun q H locs ht hz hk hS => ?_) (fun r u H locs hp hP hz hk hS => ?_)
  · rw [h2]
    refine lv_astore (lv' := [(5, .ref q), (0, .ref d), (1, .int p0), (2, .int p1), (3, .int p2), (4, .ref o)]) hx hb d_L_beat_15 hl (by decide) rfl (fun ls hl => ?_)
    refine lv_iconst (v := 1) hx hb d_L_beat_17 (by decide) ?_
    refine W.widen (k := 2) (n := 12) (by decide) (by decide) ?_
    have hP := kl_keep hP (L := []) (fun _ _ z => by cases z) (fun q h1 _ => hk q h1)
    exact W.iret (v := 1) hx hb hr (fun t ht9 hW => ⟨⟨1, ((lg, tm, lf, wr, G), f), rfl, Or.inr ⟨rfl, ht, rfl⟩, by show va_P _ _ _ t.heap; rw [ht9]; exact hP⟩, hS.F ht9⟩) hS.2.2 d_L_beat_18
  · skip
    have hPo := kl_keep hPo (L := kad d ar nb ga ha oa) (fun q hq => by rw [show q = o from List.mem_singleton.mp hq]; exact hno) hk
    have hP : va_P (dC, dI) vwCl (kwv cI cJ cR d ar nb ga ha oa u ++ [(o, .inl (cJ, 1, .inr (.inl f)))]) H := va_P.app hP hPo
    have hD : va_D A (kwv cI cJ cR d ar nb ga ha oa u ++ [(o, .inl (cJ, 1, .inr (.inl f)))]) := kl_D (by rw [kw_oad]; exact hnO) (by rw [kw_oad]; exact hAO)
    refine lv_i2l hx hb d_L_beat_10 rfl ?_
    refine va_last hx hb hK hP hD hS 27 1 kw_oat rfl (vp_in_nI (n := 0) (N := 1) (by decide) (by decide)) d_L_beat_11 (fun H locs hP _ hS => ?_)
    rw [kw_oset] at hP
    refine lv_goto (tgt := 19) hx hb d_L_beat_12 (by decide) ?_
    refine lv_iconst (v := 0) hx hb d_L_beat_19 (by decide) ?_
    refine W.widen (k := 2) (n := 12) (by decide) (by decide) ?_
    exact W.iret (v := 0) hx hb hr (fun t ht9 hW => ⟨⟨0, (u, _), rfl, Or.inl ⟨rfl, r, hp, rfl⟩, by show va_P _ _ _ t.heap; rw [ht9]; exact hP⟩, hS.F ht9⟩) hS.2.2 d_L_beat_20
set_option maxHeartbeats 4000000 in
set_option maxRecDepth 100000 in
theorem c_L_commit (l : Launch) (hl0 : l.stackTraces = false) {dC : Nat → ClassId} {dI : Nat → Nat → Nat} {cI cJ cR : ClassId} {d ar nb : Nat} {ga ha oa : Nat → Nat} (hnd : (kad d ar nb ga ha oa).Nodup) (lg tm lf wr : Int32) (G : Nat → kGV) {o : Nat} (hno : o ∉ kad d ar nb ga ha oa) (p0 : Int32) (p1 : Int32) (p2 : Int32) (p3 : Int32) (p4 : Int64) (hlg : ∃ n : Nat, n ≤ 8 ∧ lg = nI n) (f : Nat → Int64) (sz : Nat) : Met l y_L_commit w_L_commit ({ frames := 8, cells := 4, slots := 24, locals := 180 }) (kPreT (dC, dI) vwCl (kty cI cJ cR) [.ref d, .int p0, .int p1, .int p2, .int p3, .long p4, .ref o] sz (kwv cI cJ cR d ar nb ga ha oa (lg, tm, lf, wr, G) ++ [(o, .inl (cJ, 1, .inr (.inl f)))])) (va_Qi (fun (r : Int32) (u : kDV × (Nat → Int64)) => (r = 0 ∧ ∃ i : Int32, ((fun (r : Int32) (u : kDV) => (vp_in p0 8 ∧ vp_in p1 8 ∧ (¬ p3 < 0 ∧ p3 < lg) ∧ ¬ p4 < 0) ∧ (r, u) = kd_commit p0 p1 p2 p3 p4 (lg, tm, lf, wr, G)) i u.1) ∧ u.2 = vp_updL f 0 (i.toInt64)) ∨ (r = 1 ∧ (¬ (vp_in p0 8 ∧ vp_in p1 8 ∧ (¬ p3 < 0 ∧ p3 < lg) ∧ ¬ p4 < 0)) ∧ u = ((lg, tm, lf, wr, G), f))) (fun u t => va_P (dC, dI) vwCl (kwv cI cJ cR d ar nb ga ha oa u.1 ++ [(o, .inl (cJ, 1, .inr (.inl u.2)))]) t.heap) (kA (kad d ar nb ga ha oa ++ [o]) sz)) 4 24 (kA (kad d ar nb ga ha oa ++ [o]) sz) := by
  refine va_MetW (cc := b_L_commit) (maxL := 9) (ret := (some .int)) (hh := [(0, 16, 19, 13)]) (by decide) rfl ?_
  intro p e s m args below meth c s₁ B hml hv
  obtain ⟨⟨rfl, hsz, hP, hK⟩, hZ⟩ := hv
  have hx := B.exec
  have hb := B.bytes
  have hr := B.returns
  have hts := atoms_spec (ws := w_L_commit) B.pre
  have hw := fun (w : Cond) (h : w ∈ kb_B) => hts w (List.mem_cons_of_mem _ h)
  have hown : s.vm.findClass "GroupDeskLaw" = some m.cls := findClass_of_methodNamed B.named
  obtain ⟨x, hx1, h0, h1, h2, h3⟩ := kx_table B.named B.method (Stand.of_body B).code (hts _ List.mem_cons_self)
  subst hsz
  generalize hAe : kA (kad d ar nb ga ha oa ++ [o]) s.heap.size = A
  have hA : ∀ q : Nat, s.heap.size ≤ q → A q := fun q h => by rw [← hAe]; exact Or.inr h
  have hAO : ∀ q ∈ (kad d ar nb ga ha oa ++ [o]), A q := fun q h => by rw [← hAe]; exact Or.inl h
  have hAL : ∀ q ∈ kad d ar nb ga ha oa, A q := fun q h => hAO q (List.mem_append_left _ h)
  have hnO : (kad d ar nb ga ha oa ++ [o]).Nodup := List.nodup_append.mpr ⟨hnd, by simp, fun a ha b hb e => hno (by rw [List.mem_singleton.mp hb] at e; rw [← e]; exact ha)⟩
  have hPk := kl_L hP
  have hPo := kl_R hP
  have hl := lv_entry ([.ref d, .int p0, .int p1, .int p2, .int p3, .long p4, .ref o]) (n := 9) (Nat.le_of_ble_eq_true rfl)
  rw [lg_entry_eq]
  generalize (lg_sl ([.ref d, .int p0, .int p1, .int p2, .int p3, .long p4, .ref o]) ++ List.replicate (9 - (lg_sl ([.ref d, .int p0, .int p1, .int p2, .int p3, .long p4, .ref o])).length) Slot.unset).toArray = ls at hl ⊢
  have hl : lv_has ls 9 [(0, .ref d), (1, .int p0), (2, .int p1), (3, .int p2), (4, .int p3), (5, .long p4), (7, .ref o)] := hl
  refine lv_aload hx hb d_L_commit_0 (lv_at hl 6 rfl) ?_
  refine lv_iconst (v := 0) hx hb d_L_commit_2 (by decide) ?_
  refine lv_aload_n hx hb d_L_commit_3 rfl (lv_at hl 0 rfl) ?_
  refine lv_iload_n hx hb d_L_commit_4 rfl (lv_at hl 1 rfl) ?_
  refine lv_iload_n hx hb d_L_commit_5 rfl (lv_at hl 2 rfl) ?_
  refine lv_iload_n hx hb d_L_commit_6 rfl (lv_at hl 3 rfl) ?_
  refine lv_iload hx hb d_L_commit_7 (lv_at hl 4 rfl) ?_
  refine lv_lload hx hb d_L_commit_9 (lv_at hl 5 rfl) ?_
  refine kx_calli (L := kad d ar nb ga ha oa) (x := x) (own := "GroupDeskLaw") (kt_runV (As := [.int p0, .int p1, .int p2, .int p3, .long p4]) (rest := [.int 0, .ref o]) ⟨hx, hb, hml, hown, hw⟩ (c_D_commit l hl0 hnd lg tm lf wr G p0 p1 p2 p3 p4 hlg _) (cwV 5 hw (kb_V kb_252 kb_253 kb_254 kb_1 kb_255) rfl rfl rfl (by decide +kernel) ⟨Nat.le_of_ble_eq_true rfl, Nat.le_of_ble_eq_true rfl⟩) (kPVT (va_recv hK hPk (ci := 0) (q0 := 0) rfl rfl) hPk hK hZ (fun _ _ h => h)) rfl rfl hl.1 rfl (lv_room (Nat.le_of_ble_eq_true rfl)) d_L_commit_11 ⟨Nat.le_of_ble_eq_true rfl, Nat.le_of_ble_eq_true rfl⟩) hA hAL hown hx1 (by simp [covers, h0, h1]) (by rw [h3]; decide) (by rw [h3]; exact hw _ kb_119) (fun q H locs ht hz hk hS => ?_) (fun r u H locs hp hP hz hk hS => ?_)
  · rw [h2]
    refine lv_astore (lv' := [(8, .ref q), (0, .ref d), (1, .int p0), (2, .int p1), (3, .int p2), (4, .int p3), (5, .long p4), (7, .ref o)]) hx hb d_L_commit_19 hl (by decide) rfl (fun ls hl => ?_)
    refine lv_iconst (v := 1) hx hb d_L_commit_21 (by decide) ?_
    refine W.widen (k := 4) (n := 24) (by decide) (by decide) ?_
    have hP := kl_keep hP (L := []) (fun _ _ z => by cases z) (fun q h1 _ => hk q h1)
    exact W.iret (v := 1) hx hb hr (fun t ht9 hW => ⟨⟨1, ((lg, tm, lf, wr, G), f), rfl, Or.inr ⟨rfl, ht, rfl⟩, by show va_P _ _ _ t.heap; rw [ht9]; exact hP⟩, hS.F ht9⟩) hS.2.2 d_L_commit_22
  · skip
    have hPo := kl_keep hPo (L := kad d ar nb ga ha oa) (fun q hq => by rw [show q = o from List.mem_singleton.mp hq]; exact hno) hk
    have hP : va_P (dC, dI) vwCl (kwv cI cJ cR d ar nb ga ha oa u ++ [(o, .inl (cJ, 1, .inr (.inl f)))]) H := va_P.app hP hPo
    have hD : va_D A (kwv cI cJ cR d ar nb ga ha oa u ++ [(o, .inl (cJ, 1, .inr (.inl f)))]) := kl_D (by rw [kw_oad]; exact hnO) (by rw [kw_oad]; exact hAO)
    refine lv_i2l hx hb d_L_commit_14 rfl ?_
    refine va_last hx hb hK hP hD hS 27 1 kw_oat rfl (vp_in_nI (n := 0) (N := 1) (by decide) (by decide)) d_L_commit_15 (fun H locs hP _ hS => ?_)
    rw [kw_oset] at hP
    refine lv_goto (tgt := 23) hx hb d_L_commit_16 (by decide) ?_
    refine lv_iconst (v := 0) hx hb d_L_commit_23 (by decide) ?_
    refine W.widen (k := 4) (n := 24) (by decide) (by decide) ?_
    exact W.iret (v := 0) hx hb hr (fun t ht9 hW => ⟨⟨0, (u, _), rfl, Or.inl ⟨rfl, r, hp, rfl⟩, by show va_P _ _ _ t.heap; rw [ht9]; exact hP⟩, hS.F ht9⟩) hS.2.2 d_L_commit_24
set_option maxHeartbeats 4000000 in
set_option maxRecDepth 100000 in
theorem c_L_committed (l : Launch) (hl0 : l.stackTraces = false) {dC : Nat → ClassId} {dI : Nat → Nat → Nat} {cI cJ cR : ClassId} {d ar nb : Nat} {ga ha oa : Nat → Nat} (hnd : (kad d ar nb ga ha oa).Nodup) (lg tm lf wr : Int32) (G : Nat → kGV) {o : Nat} (hno : o ∉ kad d ar nb ga ha oa) (p0 : Int32) (p1 : Int32) (hlg : ∃ n : Nat, n ≤ 8 ∧ lg = nI n) (f : Nat → Int64) (sz : Nat) : Met l y_L_committed w_L_committed ({ frames := 8, cells := 2, slots := 12, locals := 180 }) (kPreT (dC, dI) vwCl (kty cI cJ cR) [.ref d, .int p0, .int p1, .ref o] sz (kwv cI cJ cR d ar nb ga ha oa (lg, tm, lf, wr, G) ++ [(o, .inl (cJ, 1, .inr (.inl f)))])) (va_Qi (fun (r : Int32) (u : kDV × (Nat → Int64)) => (r = 0 ∧ ∃ i : Int64, ((fun (r : Int64) (u : kDV) => (vp_in p0 8 ∧ (¬ p1 < 0 ∧ p1 < lg)) ∧ r = (G p0.toNatClampNeg).2.2.2.2.2.2 p1.toNatClampNeg ∧ u = (lg, tm, lf, wr, G)) i u.1) ∧ u.2 = vp_updL f 0 (i)) ∨ (r = 1 ∧ (¬ (vp_in p0 8 ∧ (¬ p1 < 0 ∧ p1 < lg))) ∧ u = ((lg, tm, lf, wr, G), f))) (fun u t => va_P (dC, dI) vwCl (kwv cI cJ cR d ar nb ga ha oa u.1 ++ [(o, .inl (cJ, 1, .inr (.inl u.2)))]) t.heap) (kA (kad d ar nb ga ha oa ++ [o]) sz)) 2 12 (kA (kad d ar nb ga ha oa ++ [o]) sz) := by
  refine va_MetW (cc := b_L_committed) (maxL := 5) (ret := (some .int)) (hh := [(0, 9, 12, 13)]) (by decide) rfl ?_
  intro p e s m args below meth c s₁ B hml hv
  obtain ⟨⟨rfl, hsz, hP, hK⟩, hZ⟩ := hv
  have hx := B.exec
  have hb := B.bytes
  have hr := B.returns
  have hts := atoms_spec (ws := w_L_committed) B.pre
  have hw := fun (w : Cond) (h : w ∈ kb_B) => hts w (List.mem_cons_of_mem _ h)
  have hown : s.vm.findClass "GroupDeskLaw" = some m.cls := findClass_of_methodNamed B.named
  obtain ⟨x, hx1, h0, h1, h2, h3⟩ := kx_table B.named B.method (Stand.of_body B).code (hts _ List.mem_cons_self)
  subst hsz
  generalize hAe : kA (kad d ar nb ga ha oa ++ [o]) s.heap.size = A
  have hA : ∀ q : Nat, s.heap.size ≤ q → A q := fun q h => by rw [← hAe]; exact Or.inr h
  have hAO : ∀ q ∈ (kad d ar nb ga ha oa ++ [o]), A q := fun q h => by rw [← hAe]; exact Or.inl h
  have hAL : ∀ q ∈ kad d ar nb ga ha oa, A q := fun q h => hAO q (List.mem_append_left _ h)
  have hnO : (kad d ar nb ga ha oa ++ [o]).Nodup := List.nodup_append.mpr ⟨hnd, by simp, fun a ha b hb e => hno (by rw [List.mem_singleton.mp hb] at e; rw [← e]; exact ha)⟩
  have hPk := kl_L hP
  have hPo := kl_R hP
  have hl := lv_entry ([.ref d, .int p0, .int p1, .ref o]) (n := 5) (Nat.le_of_ble_eq_true rfl)
  rw [lg_entry_eq]
  generalize (lg_sl ([.ref d, .int p0, .int p1, .ref o]) ++ List.replicate (5 - (lg_sl ([.ref d, .int p0, .int p1, .ref o])).length) Slot.unset).toArray = ls at hl ⊢
  have hl : lv_has ls 5 [(0, .ref d), (1, .int p0), (2, .int p1), (3, .ref o)] := hl
  refine lv_aload_n hx hb d_L_committed_0 rfl (lv_at hl 3 rfl) ?_
  refine lv_iconst (v := 0) hx hb d_L_committed_1 (by decide) ?_
  refine lv_aload_n hx hb d_L_committed_2 rfl (lv_at hl 0 rfl) ?_
  refine lv_iload_n hx hb d_L_committed_3 rfl (lv_at hl 1 rfl) ?_
  refine lv_iload_n hx hb d_L_committed_4 rfl (lv_at hl 2 rfl) ?_
  refine kx_calll (L := kad d ar nb ga ha oa) (x := x) (own := "GroupDeskLaw") (kt_runV (As := [.int p0, .int p1]) (rest := [.int 0, .ref o]) ⟨hx, hb, hml, hown, hw⟩ (c_D_committed l hl0 hnd lg tm lf wr G p0 p1 hlg _) (cwV 2 hw (kb_V kb_276 kb_277 kb_278 kb_1 kb_279) rfl rfl rfl (by decide +kernel) ⟨Nat.le_of_ble_eq_true rfl, Nat.le_of_ble_eq_true rfl⟩) (kPVT (va_recv hK hPk (ci := 0) (q0 := 0) rfl rfl) hPk hK hZ (fun _ _ h => h)) rfl rfl hl.1 rfl (lv_room (Nat.le_of_ble_eq_true rfl)) d_L_committed_5 ⟨Nat.le_of_ble_eq_true rfl, Nat.le_of_ble_eq_true rfl⟩) hA hAL hown hx1 (by simp [covers, h0, h1]) (by rw [h3]; decide) (by rw [h3]; exact hw _ kb_119) (fun q H locs ht hz hk hS => ?_) (fun r u H locs hp hP hz hk hS => ?_)
  · rw [h2]
    refine lv_astore (lv' := [(4, .ref q), (0, .ref d), (1, .int p0), (2, .int p1), (3, .ref o)]) hx hb d_L_committed_12 hl (by decide) rfl (fun ls hl => ?_)
    refine lv_iconst (v := 1) hx hb d_L_committed_14 (by decide) ?_
    refine W.widen (k := 2) (n := 12) (by decide) (by decide) ?_
    have hP := kl_keep hP (L := []) (fun _ _ z => by cases z) (fun q h1 _ => hk q h1)
    exact W.iret (v := 1) hx hb hr (fun t ht9 hW => ⟨⟨1, ((lg, tm, lf, wr, G), f), rfl, Or.inr ⟨rfl, ht, rfl⟩, by show va_P _ _ _ t.heap; rw [ht9]; exact hP⟩, hS.F ht9⟩) hS.2.2 d_L_committed_15
  · skip
    have hPo := kl_keep hPo (L := kad d ar nb ga ha oa) (fun q hq => by rw [show q = o from List.mem_singleton.mp hq]; exact hno) hk
    have hP : va_P (dC, dI) vwCl (kwv cI cJ cR d ar nb ga ha oa u ++ [(o, .inl (cJ, 1, .inr (.inl f)))]) H := va_P.app hP hPo
    have hD : va_D A (kwv cI cJ cR d ar nb ga ha oa u ++ [(o, .inl (cJ, 1, .inr (.inl f)))]) := kl_D (by rw [kw_oad]; exact hnO) (by rw [kw_oad]; exact hAO)
    refine va_last hx hb hK hP hD hS 27 1 kw_oat rfl (vp_in_nI (n := 0) (N := 1) (by decide) (by decide)) d_L_committed_8 (fun H locs hP _ hS => ?_)
    rw [kw_oset] at hP
    refine lv_goto (tgt := 16) hx hb d_L_committed_9 (by decide) ?_
    refine lv_iconst (v := 0) hx hb d_L_committed_16 (by decide) ?_
    refine W.widen (k := 2) (n := 12) (by decide) (by decide) ?_
    exact W.iret (v := 0) hx hb hr (fun t ht9 hW => ⟨⟨0, (u, _), rfl, Or.inl ⟨rfl, r, hp, rfl⟩, by show va_P _ _ _ t.heap; rw [ht9]; exact hP⟩, hS.F ht9⟩) hS.2.2 d_L_committed_17
set_option maxHeartbeats 4000000 in
set_option maxRecDepth 100000 in
theorem c_L_group (l : Launch) (hl0 : l.stackTraces = false) {dC : Nat → ClassId} {dI : Nat → Nat → Nat} {cI cJ cR : ClassId} {d ar nb : Nat} {ga ha oa : Nat → Nat} (hnd : (kad d ar nb ga ha oa).Nodup) (lg tm lf wr : Int32) (G : Nat → kGV) {o : Nat} (hno : o ∉ kad d ar nb ga ha oa) (p0 : Int32) (p1 : Int32) (f : Nat → Int64) (sz : Nat) : Met l y_L_group w_L_group ({ frames := 8, cells := 2, slots := 12, locals := 180 }) (kPreT (dC, dI) vwCl (kty cI cJ cR) [.ref d, .int p0, .int p1, .ref o] sz (kwv cI cJ cR d ar nb ga ha oa (lg, tm, lf, wr, G) ++ [(o, .inl (cJ, 1, .inr (.inl f)))])) (va_Qi (fun (r : Int32) (u : kDV × (Nat → Int64)) => (r = 0 ∧ ∃ i : Int32, ((fun (r : Int32) (u : kDV) => (vp_in p0 8 ∧ vp_in p1 5) ∧ r = kg_what tm p1 (G p0.toNatClampNeg) ∧ u = (lg, tm, lf, wr, G)) i u.1) ∧ u.2 = vp_updL f 0 (i.toInt64)) ∨ (r = 1 ∧ (¬ (vp_in p0 8 ∧ vp_in p1 5)) ∧ u = ((lg, tm, lf, wr, G), f))) (fun u t => va_P (dC, dI) vwCl (kwv cI cJ cR d ar nb ga ha oa u.1 ++ [(o, .inl (cJ, 1, .inr (.inl u.2)))]) t.heap) (kA (kad d ar nb ga ha oa ++ [o]) sz)) 2 12 (kA (kad d ar nb ga ha oa ++ [o]) sz) := by
  refine va_MetW (cc := b_L_group) (maxL := 5) (ret := (some .int)) (hh := [(0, 10, 13, 13)]) (by decide) rfl ?_
  intro p e s m args below meth c s₁ B hml hv
  obtain ⟨⟨rfl, hsz, hP, hK⟩, hZ⟩ := hv
  have hx := B.exec
  have hb := B.bytes
  have hr := B.returns
  have hts := atoms_spec (ws := w_L_group) B.pre
  have hw := fun (w : Cond) (h : w ∈ kb_B) => hts w (List.mem_cons_of_mem _ h)
  have hown : s.vm.findClass "GroupDeskLaw" = some m.cls := findClass_of_methodNamed B.named
  obtain ⟨x, hx1, h0, h1, h2, h3⟩ := kx_table B.named B.method (Stand.of_body B).code (hts _ List.mem_cons_self)
  subst hsz
  generalize hAe : kA (kad d ar nb ga ha oa ++ [o]) s.heap.size = A
  have hA : ∀ q : Nat, s.heap.size ≤ q → A q := fun q h => by rw [← hAe]; exact Or.inr h
  have hAO : ∀ q ∈ (kad d ar nb ga ha oa ++ [o]), A q := fun q h => by rw [← hAe]; exact Or.inl h
  have hAL : ∀ q ∈ kad d ar nb ga ha oa, A q := fun q h => hAO q (List.mem_append_left _ h)
  have hnO : (kad d ar nb ga ha oa ++ [o]).Nodup := List.nodup_append.mpr ⟨hnd, by simp, fun a ha b hb e => hno (by rw [List.mem_singleton.mp hb] at e; rw [← e]; exact ha)⟩
  have hPk := kl_L hP
  have hPo := kl_R hP
  have hl := lv_entry ([.ref d, .int p0, .int p1, .ref o]) (n := 5) (Nat.le_of_ble_eq_true rfl)
  rw [lg_entry_eq]
  generalize (lg_sl ([.ref d, .int p0, .int p1, .ref o]) ++ List.replicate (5 - (lg_sl ([.ref d, .int p0, .int p1, .ref o])).length) Slot.unset).toArray = ls at hl ⊢
  have hl : lv_has ls 5 [(0, .ref d), (1, .int p0), (2, .int p1), (3, .ref o)] := hl
  refine lv_aload_n hx hb d_L_group_0 rfl (lv_at hl 3 rfl) ?_
  refine lv_iconst (v := 0) hx hb d_L_group_1 (by decide) ?_
  refine lv_aload_n hx hb d_L_group_2 rfl (lv_at hl 0 rfl) ?_
  refine lv_iload_n hx hb d_L_group_3 rfl (lv_at hl 1 rfl) ?_
  refine lv_iload_n hx hb d_L_group_4 rfl (lv_at hl 2 rfl) ?_
  refine kx_calli (L := kad d ar nb ga ha oa) (x := x) (own := "GroupDeskLaw") (kt_runV (As := [.int p0, .int p1]) (rest := [.int 0, .ref o]) ⟨hx, hb, hml, hown, hw⟩ (c_D_group l hl0 hnd lg tm lf wr G p0 p1 _) (cwV 2 hw (kb_V kb_283 kb_284 kb_285 kb_1 kb_286) rfl rfl rfl (by decide +kernel) ⟨Nat.le_of_ble_eq_true rfl, Nat.le_of_ble_eq_true rfl⟩) (kPVT (va_recv hK hPk (ci := 0) (q0 := 0) rfl rfl) hPk hK hZ (fun _ _ h => h)) rfl rfl hl.1 rfl (lv_room (Nat.le_of_ble_eq_true rfl)) d_L_group_5 ⟨Nat.le_of_ble_eq_true rfl, Nat.le_of_ble_eq_true rfl⟩) hA hAL hown hx1 (by simp [covers, h0, h1]) (by rw [h3]; decide) (by rw [h3]; exact hw _ kb_119) (fun q H locs ht hz hk hS => ?_) (fun r u H locs hp hP hz hk hS => ?_)
  · rw [h2]
    refine lv_astore (lv' := [(4, .ref q), (0, .ref d), (1, .int p0), (2, .int p1), (3, .ref o)]) hx hb d_L_group_13 hl (by decide) rfl (fun ls hl => ?_)
    refine lv_iconst (v := 1) hx hb d_L_group_15 (by decide) ?_
    refine W.widen (k := 2) (n := 12) (by decide) (by decide) ?_
    have hP := kl_keep hP (L := []) (fun _ _ z => by cases z) (fun q h1 _ => hk q h1)
    exact W.iret (v := 1) hx hb hr (fun t ht9 hW => ⟨⟨1, ((lg, tm, lf, wr, G), f), rfl, Or.inr ⟨rfl, ht, rfl⟩, by show va_P _ _ _ t.heap; rw [ht9]; exact hP⟩, hS.F ht9⟩) hS.2.2 d_L_group_16
  · skip
    have hPo := kl_keep hPo (L := kad d ar nb ga ha oa) (fun q hq => by rw [show q = o from List.mem_singleton.mp hq]; exact hno) hk
    have hP : va_P (dC, dI) vwCl (kwv cI cJ cR d ar nb ga ha oa u ++ [(o, .inl (cJ, 1, .inr (.inl f)))]) H := va_P.app hP hPo
    have hD : va_D A (kwv cI cJ cR d ar nb ga ha oa u ++ [(o, .inl (cJ, 1, .inr (.inl f)))]) := kl_D (by rw [kw_oad]; exact hnO) (by rw [kw_oad]; exact hAO)
    refine lv_i2l hx hb d_L_group_8 rfl ?_
    refine va_last hx hb hK hP hD hS 27 1 kw_oat rfl (vp_in_nI (n := 0) (N := 1) (by decide) (by decide)) d_L_group_9 (fun H locs hP _ hS => ?_)
    rw [kw_oset] at hP
    refine lv_goto (tgt := 17) hx hb d_L_group_10 (by decide) ?_
    refine lv_iconst (v := 0) hx hb d_L_group_17 (by decide) ?_
    refine W.widen (k := 2) (n := 12) (by decide) (by decide) ?_
    exact W.iret (v := 0) hx hb hr (fun t ht9 hW => ⟨⟨0, (u, _), rfl, Or.inl ⟨rfl, r, hp, rfl⟩, by show va_P _ _ _ t.heap; rw [ht9]; exact hP⟩, hS.F ht9⟩) hS.2.2 d_L_group_18
set_option maxHeartbeats 4000000 in
set_option maxRecDepth 100000 in
theorem c_L_share (l : Launch) (hl0 : l.stackTraces = false) {dC : Nat → ClassId} {dI : Nat → Nat → Nat} {cI cJ cR : ClassId} {d ar nb : Nat} {ga ha oa : Nat → Nat} (hnd : (kad d ar nb ga ha oa).Nodup) (lg tm lf wr : Int32) (G : Nat → kGV) {o : Nat} (hno : o ∉ kad d ar nb ga ha oa) (p0 : Int32) (p1 : Int32) (hlg : ∃ n : Nat, n ≤ 8 ∧ lg = nI n) (f : Nat → Int64) (sz : Nat) : Met l y_L_share w_L_share ({ frames := 8, cells := 2, slots := 12, locals := 180 }) (kPreT (dC, dI) vwCl (kty cI cJ cR) [.ref d, .int p0, .int p1, .ref o] sz (kwv cI cJ cR d ar nb ga ha oa (lg, tm, lf, wr, G) ++ [(o, .inl (cJ, 1, .inr (.inl f)))])) (va_Qi (fun (r : Int32) (u : kDV × (Nat → Int64)) => (r = 0 ∧ ∃ i : Int32, ((fun (r : Int32) (u : kDV) => (vp_in p0 8 ∧ vp_in p1 8) ∧ r = kg_sh p1 (G p0.toNatClampNeg) lg.toNatClampNeg ∧ u = (lg, tm, lf, wr, G)) i u.1) ∧ u.2 = vp_updL f 0 (i.toInt64)) ∨ (r = 1 ∧ (¬ (vp_in p0 8 ∧ vp_in p1 8)) ∧ u = ((lg, tm, lf, wr, G), f))) (fun u t => va_P (dC, dI) vwCl (kwv cI cJ cR d ar nb ga ha oa u.1 ++ [(o, .inl (cJ, 1, .inr (.inl u.2)))]) t.heap) (kA (kad d ar nb ga ha oa ++ [o]) sz)) 2 12 (kA (kad d ar nb ga ha oa ++ [o]) sz) := by
  refine va_MetW (cc := b_L_share) (maxL := 5) (ret := (some .int)) (hh := [(0, 10, 13, 13)]) (by decide) rfl ?_
  intro p e s m args below meth c s₁ B hml hv
  obtain ⟨⟨rfl, hsz, hP, hK⟩, hZ⟩ := hv
  have hx := B.exec
  have hb := B.bytes
  have hr := B.returns
  have hts := atoms_spec (ws := w_L_share) B.pre
  have hw := fun (w : Cond) (h : w ∈ kb_B) => hts w (List.mem_cons_of_mem _ h)
  have hown : s.vm.findClass "GroupDeskLaw" = some m.cls := findClass_of_methodNamed B.named
  obtain ⟨x, hx1, h0, h1, h2, h3⟩ := kx_table B.named B.method (Stand.of_body B).code (hts _ List.mem_cons_self)
  subst hsz
  generalize hAe : kA (kad d ar nb ga ha oa ++ [o]) s.heap.size = A
  have hA : ∀ q : Nat, s.heap.size ≤ q → A q := fun q h => by rw [← hAe]; exact Or.inr h
  have hAO : ∀ q ∈ (kad d ar nb ga ha oa ++ [o]), A q := fun q h => by rw [← hAe]; exact Or.inl h
  have hAL : ∀ q ∈ kad d ar nb ga ha oa, A q := fun q h => hAO q (List.mem_append_left _ h)
  have hnO : (kad d ar nb ga ha oa ++ [o]).Nodup := List.nodup_append.mpr ⟨hnd, by simp, fun a ha b hb e => hno (by rw [List.mem_singleton.mp hb] at e; rw [← e]; exact ha)⟩
  have hPk := kl_L hP
  have hPo := kl_R hP
  have hl := lv_entry ([.ref d, .int p0, .int p1, .ref o]) (n := 5) (Nat.le_of_ble_eq_true rfl)
  rw [lg_entry_eq]
  generalize (lg_sl ([.ref d, .int p0, .int p1, .ref o]) ++ List.replicate (5 - (lg_sl ([.ref d, .int p0, .int p1, .ref o])).length) Slot.unset).toArray = ls at hl ⊢
  have hl : lv_has ls 5 [(0, .ref d), (1, .int p0), (2, .int p1), (3, .ref o)] := hl
  refine lv_aload_n hx hb d_L_share_0 rfl (lv_at hl 3 rfl) ?_
  refine lv_iconst (v := 0) hx hb d_L_share_1 (by decide) ?_
  refine lv_aload_n hx hb d_L_share_2 rfl (lv_at hl 0 rfl) ?_
  refine lv_iload_n hx hb d_L_share_3 rfl (lv_at hl 1 rfl) ?_
  refine lv_iload_n hx hb d_L_share_4 rfl (lv_at hl 2 rfl) ?_
  refine kx_calli (L := kad d ar nb ga ha oa) (x := x) (own := "GroupDeskLaw") (kt_runV (As := [.int p0, .int p1]) (rest := [.int 0, .ref o]) ⟨hx, hb, hml, hown, hw⟩ (c_D_share l hl0 hnd lg tm lf wr G p0 p1 hlg _) (cwV 2 hw (kb_V kb_296 kb_297 kb_298 kb_1 kb_299) rfl rfl rfl (by decide +kernel) ⟨Nat.le_of_ble_eq_true rfl, Nat.le_of_ble_eq_true rfl⟩) (kPVT (va_recv hK hPk (ci := 0) (q0 := 0) rfl rfl) hPk hK hZ (fun _ _ h => h)) rfl rfl hl.1 rfl (lv_room (Nat.le_of_ble_eq_true rfl)) d_L_share_5 ⟨Nat.le_of_ble_eq_true rfl, Nat.le_of_ble_eq_true rfl⟩) hA hAL hown hx1 (by simp [covers, h0, h1]) (by rw [h3]; decide) (by rw [h3]; exact hw _ kb_119) (fun q H locs ht hz hk hS => ?_) (fun r u H locs hp hP hz hk hS => ?_)
  · rw [h2]
    refine lv_astore (lv' := [(4, .ref q), (0, .ref d), (1, .int p0), (2, .int p1), (3, .ref o)]) hx hb d_L_share_13 hl (by decide) rfl (fun ls hl => ?_)
    refine lv_iconst (v := 1) hx hb d_L_share_15 (by decide) ?_
    refine W.widen (k := 2) (n := 12) (by decide) (by decide) ?_
    have hP := kl_keep hP (L := []) (fun _ _ z => by cases z) (fun q h1 _ => hk q h1)
    exact W.iret (v := 1) hx hb hr (fun t ht9 hW => ⟨⟨1, ((lg, tm, lf, wr, G), f), rfl, Or.inr ⟨rfl, ht, rfl⟩, by show va_P _ _ _ t.heap; rw [ht9]; exact hP⟩, hS.F ht9⟩) hS.2.2 d_L_share_16
  · skip
    have hPo := kl_keep hPo (L := kad d ar nb ga ha oa) (fun q hq => by rw [show q = o from List.mem_singleton.mp hq]; exact hno) hk
    have hP : va_P (dC, dI) vwCl (kwv cI cJ cR d ar nb ga ha oa u ++ [(o, .inl (cJ, 1, .inr (.inl f)))]) H := va_P.app hP hPo
    have hD : va_D A (kwv cI cJ cR d ar nb ga ha oa u ++ [(o, .inl (cJ, 1, .inr (.inl f)))]) := kl_D (by rw [kw_oad]; exact hnO) (by rw [kw_oad]; exact hAO)
    refine lv_i2l hx hb d_L_share_8 rfl ?_
    refine va_last hx hb hK hP hD hS 27 1 kw_oat rfl (vp_in_nI (n := 0) (N := 1) (by decide) (by decide)) d_L_share_9 (fun H locs hP _ hS => ?_)
    rw [kw_oset] at hP
    refine lv_goto (tgt := 17) hx hb d_L_share_10 (by decide) ?_
    refine lv_iconst (v := 0) hx hb d_L_share_17 (by decide) ?_
    refine W.widen (k := 2) (n := 12) (by decide) (by decide) ?_
    exact W.iret (v := 0) hx hb hr (fun t ht9 hW => ⟨⟨0, (u, _), rfl, Or.inl ⟨rfl, r, hp, rfl⟩, by show va_P _ _ _ t.heap; rw [ht9]; exact hP⟩, hS.F ht9⟩) hS.2.2 d_L_share_18
set_option maxHeartbeats 4000000 in
set_option maxRecDepth 100000 in
theorem c_L_room (l : Launch) (hl0 : l.stackTraces = false) {dC : Nat → ClassId} {dI : Nat → Nat → Nat} {cI cJ cR : ClassId} {d ar nb : Nat} {ga ha oa : Nat → Nat} (hnd : (kad d ar nb ga ha oa).Nodup) (lg tm lf wr : Int32) (G : Nat → kGV) {o : Nat} (hno : o ∉ kad d ar nb ga ha oa) (p0 : Int32) (f : Nat → Int64) (sz : Nat) : Met l y_L_room w_L_room ({ frames := 8, cells := 1, slots := 6, locals := 180 }) (kPreT (dC, dI) vwCl (kty cI cJ cR) [.ref d, .int p0, .ref o] sz (kwv cI cJ cR d ar nb ga ha oa (lg, tm, lf, wr, G) ++ [(o, .inl (cJ, 1, .inr (.inl f)))])) (va_Qi (fun (r : Int32) (u : kDV × (Nat → Int64)) => (r = 0 ∧ ∃ i : Int32, ((fun (r : Int32) (u : kDV) => (¬ p0 < 0 ∧ p0 ≤ 100000) ∧ (r, u) = (lf, (lg, tm, p0, wr, G))) i u.1) ∧ u.2 = vp_updL f 0 (i.toInt64)) ∨ (r = 1 ∧ (¬ (¬ p0 < 0 ∧ p0 ≤ 100000)) ∧ u = ((lg, tm, lf, wr, G), f))) (fun u t => va_P (dC, dI) vwCl (kwv cI cJ cR d ar nb ga ha oa u.1 ++ [(o, .inl (cJ, 1, .inr (.inl u.2)))]) t.heap) (kA (kad d ar nb ga ha oa ++ [o]) sz)) 1 6 (kA (kad d ar nb ga ha oa ++ [o]) sz) := by
  refine va_MetW (cc := b_L_room) (maxL := 4) (ret := (some .int)) (hh := [(0, 9, 12, 13)]) (by decide) rfl ?_
  intro p e s m args below meth c s₁ B hml hv
  obtain ⟨⟨rfl, hsz, hP, hK⟩, hZ⟩ := hv
  have hx := B.exec
  have hb := B.bytes
  have hr := B.returns
  have hts := atoms_spec (ws := w_L_room) B.pre
  have hw := fun (w : Cond) (h : w ∈ kb_B) => hts w (List.mem_cons_of_mem _ h)
  have hown : s.vm.findClass "GroupDeskLaw" = some m.cls := findClass_of_methodNamed B.named
  obtain ⟨x, hx1, h0, h1, h2, h3⟩ := kx_table B.named B.method (Stand.of_body B).code (hts _ List.mem_cons_self)
  subst hsz
  generalize hAe : kA (kad d ar nb ga ha oa ++ [o]) s.heap.size = A
  have hA : ∀ q : Nat, s.heap.size ≤ q → A q := fun q h => by rw [← hAe]; exact Or.inr h
  have hAO : ∀ q ∈ (kad d ar nb ga ha oa ++ [o]), A q := fun q h => by rw [← hAe]; exact Or.inl h
  have hAL : ∀ q ∈ kad d ar nb ga ha oa, A q := fun q h => hAO q (List.mem_append_left _ h)
  have hnO : (kad d ar nb ga ha oa ++ [o]).Nodup := List.nodup_append.mpr ⟨hnd, by simp, fun a ha b hb e => hno (by rw [List.mem_singleton.mp hb] at e; rw [← e]; exact ha)⟩
  have hPk := kl_L hP
  have hPo := kl_R hP
  have hl := lv_entry ([.ref d, .int p0, .ref o]) (n := 4) (Nat.le_of_ble_eq_true rfl)
  rw [lg_entry_eq]
  generalize (lg_sl ([.ref d, .int p0, .ref o]) ++ List.replicate (4 - (lg_sl ([.ref d, .int p0, .ref o])).length) Slot.unset).toArray = ls at hl ⊢
  have hl : lv_has ls 4 [(0, .ref d), (1, .int p0), (2, .ref o)] := hl
  refine lv_aload_n hx hb d_L_room_0 rfl (lv_at hl 2 rfl) ?_
  refine lv_iconst (v := 0) hx hb d_L_room_1 (by decide) ?_
  refine lv_aload_n hx hb d_L_room_2 rfl (lv_at hl 0 rfl) ?_
  refine lv_iload_n hx hb d_L_room_3 rfl (lv_at hl 1 rfl) ?_
  refine kx_calli (L := kad d ar nb ga ha oa) (x := x) (own := "GroupDeskLaw") (kt_runV (As := [.int p0]) (rest := [.int 0, .ref o]) ⟨hx, hb, hml, hown, hw⟩ (c_D_room l hl0 hnd lg tm lf wr G p0 _) (cwV 1 hw (kb_V kb_304 kb_305 kb_306 kb_1 kb_307) rfl rfl rfl (by decide +kernel) ⟨Nat.le_of_ble_eq_true rfl, Nat.le_of_ble_eq_true rfl⟩) (kPVT (va_recv hK hPk (ci := 0) (q0 := 0) rfl rfl) hPk hK hZ (fun _ _ h => h)) rfl rfl hl.1 rfl (lv_room (Nat.le_of_ble_eq_true rfl)) d_L_room_4 ⟨Nat.le_of_ble_eq_true rfl, Nat.le_of_ble_eq_true rfl⟩) hA hAL hown hx1 (by simp [covers, h0, h1]) (by rw [h3]; decide) (by rw [h3]; exact hw _ kb_119) (fun q H locs ht hz hk hS => ?_) (fun r u H locs hp hP hz hk hS => ?_)
  · rw [h2]
    refine lv_astore_n (lv' := [(3, .ref q), (0, .ref d), (1, .int p0), (2, .ref o)]) hx hb d_L_room_12 rfl hl (by decide) rfl (fun ls hl => ?_)
    refine lv_iconst (v := 1) hx hb d_L_room_13 (by decide) ?_
    refine W.widen (k := 1) (n := 6) (by decide) (by decide) ?_
    have hP := kl_keep hP (L := []) (fun _ _ z => by cases z) (fun q h1 _ => hk q h1)
    exact W.iret (v := 1) hx hb hr (fun t ht9 hW => ⟨⟨1, ((lg, tm, lf, wr, G), f), rfl, Or.inr ⟨rfl, ht, rfl⟩, by show va_P _ _ _ t.heap; rw [ht9]; exact hP⟩, hS.F ht9⟩) hS.2.2 d_L_room_14
  · skip
    have hPo := kl_keep hPo (L := kad d ar nb ga ha oa) (fun q hq => by rw [show q = o from List.mem_singleton.mp hq]; exact hno) hk
    have hP : va_P (dC, dI) vwCl (kwv cI cJ cR d ar nb ga ha oa u ++ [(o, .inl (cJ, 1, .inr (.inl f)))]) H := va_P.app hP hPo
    have hD : va_D A (kwv cI cJ cR d ar nb ga ha oa u ++ [(o, .inl (cJ, 1, .inr (.inl f)))]) := kl_D (by rw [kw_oad]; exact hnO) (by rw [kw_oad]; exact hAO)
    refine lv_i2l hx hb d_L_room_7 rfl ?_
    refine va_last hx hb hK hP hD hS 27 1 kw_oat rfl (vp_in_nI (n := 0) (N := 1) (by decide) (by decide)) d_L_room_8 (fun H locs hP _ hS => ?_)
    rw [kw_oset] at hP
    refine lv_goto (tgt := 15) hx hb d_L_room_9 (by decide) ?_
    refine lv_iconst (v := 0) hx hb d_L_room_15 (by decide) ?_
    refine W.widen (k := 1) (n := 6) (by decide) (by decide) ?_
    exact W.iret (v := 0) hx hb hr (fun t ht9 hW => ⟨⟨0, (u, _), rfl, Or.inl ⟨rfl, r, hp, rfl⟩, by show va_P _ _ _ t.heap; rw [ht9]; exact hP⟩, hS.F ht9⟩) hS.2.2 d_L_room_16
set_option maxHeartbeats 4000000 in
set_option maxRecDepth 100000 in
theorem c_L_ticks (l : Launch) (hl0 : l.stackTraces = false) {dC : Nat → ClassId} {dI : Nat → Nat → Nat} {cI cJ cR : ClassId} {d ar nb : Nat} {ga ha oa : Nat → Nat} (hnd : (kad d ar nb ga ha oa).Nodup) (lg tm lf wr : Int32) (G : Nat → kGV) {o : Nat} (hno : o ∉ kad d ar nb ga ha oa) (p0 : Int32) (f : Nat → Int64) (sz : Nat) : Met l y_L_ticks w_L_ticks ({ frames := 8, cells := 1, slots := 6, locals := 180 }) (kPreT (dC, dI) vwCl (kty cI cJ cR) [.ref d, .int p0, .ref o] sz (kwv cI cJ cR d ar nb ga ha oa (lg, tm, lf, wr, G) ++ [(o, .inl (cJ, 1, .inr (.inl f)))])) (va_Qi (fun (r : Int32) (u : kDV × (Nat → Int64)) => (r = 0 ∧ ∃ i : Int32, ((fun (r : Int32) (u : kDV) => (¬ p0 < 1 ∧ p0 ≤ 200 ∧ tm + p0 ≤ 1000000) ∧ (r, u) = ((kd_ticks (lg, tm, lf, wr, G) p0.toNatClampNeg).2.1, kd_ticks (lg, tm, lf, wr, G) p0.toNatClampNeg)) i u.1) ∧ u.2 = vp_updL f 0 (i.toInt64)) ∨ (r = 1 ∧ (¬ (¬ p0 < 1 ∧ p0 ≤ 200 ∧ tm + p0 ≤ 1000000)) ∧ u = ((lg, tm, lf, wr, G), f))) (fun u t => va_P (dC, dI) vwCl (kwv cI cJ cR d ar nb ga ha oa u.1 ++ [(o, .inl (cJ, 1, .inr (.inl u.2)))]) t.heap) (kA (kad d ar nb ga ha oa ++ [o]) sz)) 1 6 (kA (kad d ar nb ga ha oa ++ [o]) sz) := by
  refine va_MetW (cc := b_L_ticks) (maxL := 4) (ret := (some .int)) (hh := [(0, 9, 12, 13)]) (by decide) rfl ?_
  intro p e s m args below meth c s₁ B hml hv
  obtain ⟨⟨rfl, hsz, hP, hK⟩, hZ⟩ := hv
  have hx := B.exec
  have hb := B.bytes
  have hr := B.returns
  have hts := atoms_spec (ws := w_L_ticks) B.pre
  have hw := fun (w : Cond) (h : w ∈ kb_B) => hts w (List.mem_cons_of_mem _ h)
  have hown : s.vm.findClass "GroupDeskLaw" = some m.cls := findClass_of_methodNamed B.named
  obtain ⟨x, hx1, h0, h1, h2, h3⟩ := kx_table B.named B.method (Stand.of_body B).code (hts _ List.mem_cons_self)
  subst hsz
  generalize hAe : kA (kad d ar nb ga ha oa ++ [o]) s.heap.size = A
  have hA : ∀ q : Nat, s.heap.size ≤ q → A q := fun q h => by rw [← hAe]; exact Or.inr h
  have hAO : ∀ q ∈ (kad d ar nb ga ha oa ++ [o]), A q := fun q h => by rw [← hAe]; exact Or.inl h
  have hAL : ∀ q ∈ kad d ar nb ga ha oa, A q := fun q h => hAO q (List.mem_append_left _ h)
  have hnO : (kad d ar nb ga ha oa ++ [o]).Nodup := List.nodup_append.mpr ⟨hnd, by simp, fun a ha b hb e => hno (by rw [List.mem_singleton.mp hb] at e; rw [← e]; exact ha)⟩
  have hPk := kl_L hP
  have hPo := kl_R hP
  have hl := lv_entry ([.ref d, .int p0, .ref o]) (n := 4) (Nat.le_of_ble_eq_true rfl)
  rw [lg_entry_eq]
  generalize (lg_sl ([.ref d, .int p0, .ref o]) ++ List.replicate (4 - (lg_sl ([.ref d, .int p0, .ref o])).length) Slot.unset).toArray = ls at hl ⊢
  have hl : lv_has ls 4 [(0, .ref d), (1, .int p0), (2, .ref o)] := hl
  refine lv_aload_n hx hb d_L_ticks_0 rfl (lv_at hl 2 rfl) ?_
  refine lv_iconst (v := 0) hx hb d_L_ticks_1 (by decide) ?_
  refine lv_aload_n hx hb d_L_ticks_2 rfl (lv_at hl 0 rfl) ?_
  refine lv_iload_n hx hb d_L_ticks_3 rfl (lv_at hl 1 rfl) ?_
  refine kx_calli (L := kad d ar nb ga ha oa) (x := x) (own := "GroupDeskLaw") (kt_runV (As := [.int p0]) (rest := [.int 0, .ref o]) ⟨hx, hb, hml, hown, hw⟩ (c_D_ticks l hl0 hnd lg tm lf wr G p0 _) (cwV 1 hw (kb_V kb_313 kb_314 kb_315 kb_1 kb_316) rfl rfl rfl (by decide +kernel) ⟨Nat.le_of_ble_eq_true rfl, Nat.le_of_ble_eq_true rfl⟩) (kPVT (va_recv hK hPk (ci := 0) (q0 := 0) rfl rfl) hPk hK hZ (fun _ _ h => h)) rfl rfl hl.1 rfl (lv_room (Nat.le_of_ble_eq_true rfl)) d_L_ticks_4 ⟨Nat.le_of_ble_eq_true rfl, Nat.le_of_ble_eq_true rfl⟩) hA hAL hown hx1 (by simp [covers, h0, h1]) (by rw [h3]; decide) (by rw [h3]; exact hw _ kb_119) (fun q H locs ht hz hk hS => ?_) (fun r u H locs hp hP hz hk hS => ?_)
  · rw [h2]
    refine lv_astore_n (lv' := [(3, .ref q), (0, .ref d), (1, .int p0), (2, .ref o)]) hx hb d_L_ticks_12 rfl hl (by decide) rfl (fun ls hl => ?_)
    refine lv_iconst (v := 1) hx hb d_L_ticks_13 (by decide) ?_
    refine W.widen (k := 1) (n := 6) (by decide) (by decide) ?_
    have hP := kl_keep hP (L := []) (fun _ _ z => by cases z) (fun q h1 _ => hk q h1)
    exact W.iret (v := 1) hx hb hr (fun t ht9 hW => ⟨⟨1, ((lg, tm, lf, wr, G), f), rfl, Or.inr ⟨rfl, ht, rfl⟩, by show va_P _ _ _ t.heap; rw [ht9]; exact hP⟩, hS.F ht9⟩) hS.2.2 d_L_ticks_14
  · skip
    have hPo := kl_keep hPo (L := kad d ar nb ga ha oa) (fun q hq => by rw [show q = o from List.mem_singleton.mp hq]; exact hno) hk
    have hP : va_P (dC, dI) vwCl (kwv cI cJ cR d ar nb ga ha oa u ++ [(o, .inl (cJ, 1, .inr (.inl f)))]) H := va_P.app hP hPo
    have hD : va_D A (kwv cI cJ cR d ar nb ga ha oa u ++ [(o, .inl (cJ, 1, .inr (.inl f)))]) := kl_D (by rw [kw_oad]; exact hnO) (by rw [kw_oad]; exact hAO)
    refine lv_i2l hx hb d_L_ticks_7 rfl ?_
    refine va_last hx hb hK hP hD hS 27 1 kw_oat rfl (vp_in_nI (n := 0) (N := 1) (by decide) (by decide)) d_L_ticks_8 (fun H locs hP _ hS => ?_)
    rw [kw_oset] at hP
    refine lv_goto (tgt := 15) hx hb d_L_ticks_9 (by decide) ?_
    refine lv_iconst (v := 0) hx hb d_L_ticks_15 (by decide) ?_
    refine W.widen (k := 1) (n := 6) (by decide) (by decide) ?_
    exact W.iret (v := 0) hx hb hr (fun t ht9 hW => ⟨⟨0, (u, _), rfl, Or.inl ⟨rfl, r, hp, rfl⟩, by show va_P _ _ _ t.heap; rw [ht9]; exact hP⟩, hS.F ht9⟩) hS.2.2 d_L_ticks_16
