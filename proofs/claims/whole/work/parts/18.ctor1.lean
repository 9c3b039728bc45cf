/-! a world whose cells are apart -/
theorem kl_oneD {D : va_G} {cl : List vw_C} {ws : va_W} {A : Nat → Prop} {H H1 : Heap} {k x : Nat} {e0 e1 : va_E} (hP : va_P D cl ws H) (hD : va_D A ws) (hk : ws[k]? = some (x, e0)) (hP1 : va_P D cl [(x, e1)] H1) (ho : ∀ q : Nat, q < H.size → q ∉ [x] → H1[q]? = H[q]?) : va_P D cl (ws.set k (x, e1)) H1 := by
  have hl := (List.getElem?_eq_some_iff.mp hk).1
  intro i q hi
  by_cases hik : i = k
  · subst hik
    rw [List.getElem?_set_self hl] at hi
    cases hi
    exact hP1 0 _ rfl
  · rw [List.getElem?_set_ne (Ne.symm hik)] at hi
    refine (hP i q hi).kept (ho q.1 (hP i q hi).lt (fun h => ?_))
    exact hik (hD.1 i k q (x, e0) hi hk (List.mem_singleton.mp h))
theorem kl_tail {A : Nat → Prop} {x : Nat × va_E} {ws : va_W} (h : va_D A (x :: ws)) : va_D A ws :=
  ⟨fun i j p q hi hj e => by have := h.1 (i + 1) (j + 1) p q hi hj e; omega, fun k q hk => h.2 (k + 1) q hk⟩
theorem kl_nd {A : Nat → Prop} : ∀ {ws : va_W}, va_D A ws → (ws.map Prod.fst).Nodup
  | [], _ => by simp
  | x :: ws, h => by
    rw [List.map_cons, List.nodup_cons]
    refine ⟨fun hm => ?_, kl_nd (kl_tail h)⟩
    obtain ⟨y, hy, e⟩ := List.mem_map.mp hm
    obtain ⟨j, hj⟩ := List.getElem?_of_mem hy
    exact absurd (h.1 0 (j + 1) x y rfl hj e.symm) (by omega)
set_option maxHeartbeats 4000000 in
set_option maxRecDepth 100000 in
theorem c_N_init (l : Launch) {dC : Nat → ClassId} {dI : Nat → Nat → Nat} {cI cJ cR : ClassId} (q : Nat) (a b : Int32) (sz : Nat) : Met l y_N_init w_N_init ({ frames := 1, cells := 0, slots := 0, locals := 20 }) (kPre (dC, dI) vwCl (kty cI cJ cR) [.ref q] sz [(q, .inr (1, [.int a, .int b]))]) (va_Qv (fun _ : Unit => True) (fun _ t => va_P (dC, dI) vwCl [(q, .inr (1, [.int 1000, .int b]))] t.heap) (kA [q] sz)) 0 0 (kA [q] sz) := by
  refine Met.ofW (cc := b_N_init) (maxL := 1) (ret := none) (by decide) rfl ?_
  intro p e s m args below meth c s₁ B hml hv
  obtain ⟨rfl, hsz, hP, hK⟩ := hv
  have hx := B.exec
  have hb := B.bytes
  have hr := B.returns
  have hts := atoms_spec (ws := w_N_init) B.pre
  have hw := fun (w : Cond) (h : w ∈ kb_B) => hts w (List.mem_cons_of_mem _ h)
  have hown : s.vm.findClass R_N = some m.cls := findClass_of_methodNamed B.named
  have hlocks := B.notSynchronized
  have hin : meth.name = "<init>" := (name_of_methodNamed B.named B.method).1
  subst hsz
  generalize hAe : kA [q] s.heap.size = A
  have hA : ∀ q : Nat, s.heap.size ≤ q → A q := fun q h => by rw [← hAe]; exact Or.inr h
  have hAL : ∀ z ∈ [q], A z := fun z h => by rw [← hAe]; exact Or.inl h
  have hS : va_S A s.heap s.heap [] := va_S.rf
  have hl := lv_entry ([.ref q]) (n := 1) (Nat.le_of_ble_eq_true rfl)
  rw [lg_entry_eq]
  generalize (lg_sl ([.ref q]) ++ List.replicate (1 - (lg_sl ([.ref q])).length) Slot.unset).toArray = ls at hl ⊢
  have hl : lv_has ls 1 [(0, .ref q)] := hl
  have hD : va_D A [(q, .inr (1, [.int a, .int b]))] := kl_D (by simp) (fun z h => hAL z h)
  refine lv_aload_n hx hb d_N_init_0 rfl (lv_at hl 0 rfl) ?_
  refine W.objInit hx hb hown (hw _ kb_31) (hw _ kb_18) (hw _ kb_19) rfl (by rw [hml]; exact hl.1) rfl d_N_init_1 (Nat.le_of_ble_eq_true rfl) (Nat.le_of_ble_eq_true rfl) ?_
  refine W.eq (g2 := F0 m 4 ls []) rfl ?_
  refine lv_aload_n hx hb d_N_init_4 rfl (lv_at hl 0 rfl) ?_
  refine lv_sipush (v := 1000) hx hb d_N_init_5 (by decide) ?_
  refine va_put (D := (dC, dI)) (ci := 1) (v := .int 1000) (ty := .int) (C := R_N) (T := F_N) (N := 2) hx hb hw i_N t_N t_N_ok n_N hown hK hP hD hS 0 rfl rfl 0 (by decide) (hw _ kb_32) (fun _ h9 => h9) rfl (by decide +kernel) rfl rfl (Nat.le_of_ble_eq_true rfl) d_N_init_8 (fun H locs hP hD hS => ?_)
  have hP : va_P (dC, dI) vwCl [(q, .inr (1, [.int 1000, .int b]))] H := hP
  exact W.vret hx hb hr (fun t ht hW => ⟨⟨(), rfl, trivial, by show va_P _ _ _ t.heap; rw [ht]; exact hP⟩, hS.F ht⟩) hS.2.2 d_N_init_11
set_option maxHeartbeats 4000000 in
set_option maxRecDepth 100000 in
theorem c_G_init (l : Launch) {dC : Nat → ClassId} {dI : Nat → Nat → Nat} {cI cJ cR : ClassId} (g : Nat) (sz : Nat) : Met l y_G_init w_G_init ({ frames := 1, cells := 2, slots := 16, locals := 40 }) (kPre (dC, dI) vwCl (kty cI cJ cR) [.ref g] sz [(g, .inr (2, [.int 0, .int 0, .int 0, .int 0, .int 0, .null, .null]))]) (va_Qv (fun u : Nat × Nat => sz ≤ u.1 ∧ sz ≤ u.2 ∧ u.1 ≠ u.2) (fun u t => va_P (dC, dI) vwCl [(g, .inr (2, [.int 0, .int 0, .int 0, .int 0, .int 0, .ref u.1, .ref u.2])), (u.1, .inl (cI, 8, .inl (fun _ => 0))), (u.2, .inl (cJ, 8, .inr (.inl (fun _ => -1))))] t.heap) (kA [g] sz)) 2 16 (kA [g] sz) := by
  refine Met.ofW (cc := b_G_init) (maxL := 1) (ret := none) (by decide) rfl ?_
  intro p e s m args below meth c s₁ B hml hv
  obtain ⟨rfl, hsz, hP, hK⟩ := hv
  have hx := B.exec
  have hb := B.bytes
  have hr := B.returns
  have hts := atoms_spec (ws := w_G_init) B.pre
  have hw := fun (w : Cond) (h : w ∈ kb_B) => hts w (List.mem_cons_of_mem _ h)
  have hown : s.vm.findClass R_G = some m.cls := findClass_of_methodNamed B.named
  have hlocks := B.notSynchronized
  have hin : meth.name = "<init>" := (name_of_methodNamed B.named B.method).1
  subst hsz
  generalize hAe : kA [g] s.heap.size = A
  have hA : ∀ q : Nat, s.heap.size ≤ q → A q := fun q h => by rw [← hAe]; exact Or.inr h
  have hAL : ∀ z ∈ [g], A z := fun z h => by rw [← hAe]; exact Or.inl h
  have hS : va_S A s.heap s.heap [] := va_S.rf
  have hl := lv_entry ([.ref g]) (n := 1) (Nat.le_of_ble_eq_true rfl)
  rw [lg_entry_eq]
  generalize (lg_sl ([.ref g]) ++ List.replicate (1 - (lg_sl ([.ref g])).length) Slot.unset).toArray = ls at hl ⊢
  have hl : lv_has ls 1 [(0, .ref g)] := hl
  have hD : va_D A [(g, .inr (2, [.int 0, .int 0, .int 0, .int 0, .int 0, .null, .null]))] := kl_D (by simp) (fun z h => hAL z h)
  refine lv_aload_n hx hb d_G_init_0 rfl (lv_at hl 0 rfl) ?_
  refine W.objInit hx hb hown (hw _ kb_47) (hw _ kb_18) (hw _ kb_19) rfl (by rw [hml]; exact hl.1) rfl d_G_init_1 (Nat.le_of_ble_eq_true rfl) (Nat.le_of_ble_eq_true rfl) ?_
  refine W.eq (g2 := F0 m 4 ls []) rfl ?_
  refine lv_aload_n hx hb d_G_init_4 rfl (lv_at hl 0 rfl) ?_
  refine lv_iconst (v := 0) hx hb d_G_init_5 (by decide) ?_
  refine va_put (D := (dC, dI)) (ci := 2) (v := .int 0) (ty := .int) (C := R_G) (T := F_G) (N := 7) hx hb hw i_G t_G t_G_ok n_G hown hK hP hD hS 0 rfl rfl 1 (by decide) (hw _ kb_54) (fun _ h9 => h9) rfl (by decide +kernel) rfl rfl (Nat.le_of_ble_eq_true rfl) d_G_init_6 (fun H locs hP hD hS => ?_)
  have hP : va_P (dC, dI) vwCl [(g, .inr (2, [.int 0, .int 0, .int 0, .int 0, .int 0, .null, .null]))] H := hP
  have hD : va_D A [(g, .inr (2, [.int 0, .int 0, .int 0, .int 0, .int 0, .null, .null]))] := hD
  refine lv_aload_n hx hb d_G_init_9 rfl (lv_at hl 0 rfl) ?_
  refine lv_bipush (v := 8) hx hb d_G_init_10 (by decide) ?_
  refine va_newa (atype := .int) (a0 := (8, .inl (fun _ => 0))) hx hb (hw _ kb_80) rfl hK hP hD hS hA (fun _ => rfl) (by decide) rfl (by decide) (Nat.le_of_ble_eq_true rfl) (Nat.le_of_ble_eq_true rfl) d_G_init_12 (fun h cA H hK2 hP hD hS => ?_)
  obtain rfl : cI = cA := Option.some.inj ((hK2.2 0 _ rfl).2.symm.trans (hK2.2 3 _ rfl).2)
  have hP : va_P (dC, dI) vwCl [(g, .inr (2, [.int 0, .int 0, .int 0, .int 0, .int 0, .null, .null])), (h, .inl (cI, 8, .inl (fun _ => 0)))] H := hP
  have hD : va_D A [(g, .inr (2, [.int 0, .int 0, .int 0, .int 0, .int 0, .null, .null])), (h, .inl (cI, 8, .inl (fun _ => 0)))] := hD
  refine va_putF (D := (dC, dI)) (ci := 2) (v := .ref h) (ty := .array .int) (C := R_G) (T := F_G) (N := 7) hx hb hw i_G t_G t_G_ok n_G hown hK hP hD hS 0 rfl rfl 5 (by decide) (hw _ kb_61) (fun _ h9 => h9) rfl hin rfl (by decide +kernel) rfl rfl (Nat.le_of_ble_eq_true rfl) d_G_init_14 (fun H locs hP hD hS => ?_)
  have hP : va_P (dC, dI) vwCl [(g, .inr (2, [.int 0, .int 0, .int 0, .int 0, .int 0, .ref h, .null])), (h, .inl (cI, 8, .inl (fun _ => 0)))] H := hP
  have hD : va_D A [(g, .inr (2, [.int 0, .int 0, .int 0, .int 0, .int 0, .ref h, .null])), (h, .inl (cI, 8, .inl (fun _ => 0)))] := hD
  refine lv_aload_n hx hb d_G_init_17 rfl (lv_at hl 0 rfl) ?_
  refine lv_bipush (v := 8) hx hb d_G_init_18 (by decide) ?_
  refine va_newa (atype := .long) (a0 := (8, .inr (.inl (fun _ => 0)))) hx hb (hw _ kb_81) rfl hK hP hD hS hA (fun _ => rfl) (by decide) rfl (by decide) (Nat.le_of_ble_eq_true rfl) (Nat.le_of_ble_eq_true rfl) d_G_init_20 (fun o cA H hK2 hP hD hS => ?_)
  obtain rfl : cJ = cA := Option.some.inj ((hK2.2 1 _ rfl).2.symm.trans (hK2.2 3 _ rfl).2)
  have hP : va_P (dC, dI) vwCl [(g, .inr (2, [.int 0, .int 0, .int 0, .int 0, .int 0, .ref h, .null])), (h, .inl (cI, 8, .inl (fun _ => 0))), (o, .inl (cJ, 8, .inr (.inl (fun _ => 0))))] H := hP
  have hD : va_D A [(g, .inr (2, [.int 0, .int 0, .int 0, .int 0, .int 0, .ref h, .null])), (h, .inl (cI, 8, .inl (fun _ => 0))), (o, .inl (cJ, 8, .inr (.inl (fun _ => 0))))] := hD
  refine va_putF (D := (dC, dI)) (ci := 2) (v := .ref o) (ty := .array .long) (C := R_G) (T := F_G) (N := 7) hx hb hw i_G t_G t_G_ok n_G hown hK hP hD hS 0 rfl rfl 6 (by decide) (hw _ kb_63) (fun _ h9 => h9) rfl hin rfl (by decide +kernel) rfl rfl (Nat.le_of_ble_eq_true rfl) d_G_init_22 (fun H locs hP hD hS => ?_)
  have hP : va_P (dC, dI) vwCl [(g, .inr (2, [.int 0, .int 0, .int 0, .int 0, .int 0, .ref h, .ref o])), (h, .inl (cI, 8, .inl (fun _ => 0))), (o, .inl (cJ, 8, .inr (.inl (fun _ => 0))))] H := hP
  have hD : va_D A [(g, .inr (2, [.int 0, .int 0, .int 0, .int 0, .int 0, .ref h, .ref o])), (h, .inl (cI, 8, .inl (fun _ => 0))), (o, .inl (cJ, 8, .inr (.inl (fun _ => 0))))] := hD
  refine lv_aload_n hx hb d_G_init_25 rfl (lv_at hl 0 rfl) ?_
  refine va_get (D := (dC, dI)) (ci := 2) (v := .ref o) (C := R_G) (T := F_G) (N := 7) hx hb hw i_G hown hK hP 0 rfl rfl 6 (by decide) (hw _ kb_63) (fun _ h9 => h9) rfl d_G_init_26 ?_
  refine lv_ldc2 (v := -1) hx hb hown (hw _ kb_48) d_G_init_29 ?_
  have hP1 := hP.sub (ws' := [(o, .inl (cJ, 8, .inr (.inl (fun _ => 0))))]) [2] rfl
  refine kc_v (σ := Unit) (Wd := fun _ => [(o, .inl (cJ, 8, .inr (.inl (fun _ => -1))))]) (L := [o]) (va_runS (As := [.ref o, .long (-1)]) (rest := []) ⟨hx, hb, hml, hown, hw⟩ (c_J_fillL l (kty cI cJ cR) 1 rfl _ 8 _ _ (by decide) _) (va_cwS 2 hw (kb_S kb_49 kb_50 kb_5 kb_51) rfl rfl rfl (by decide +kernel) ⟨Nat.le_of_ble_eq_true rfl, Nat.le_of_ble_eq_true rfl⟩) (kPS hP1 hK) rfl rfl hl.1 rfl (lv_room (Nat.le_of_ble_eq_true rfl)) d_G_init_32 ⟨Nat.le_of_ble_eq_true rfl, Nat.le_of_ble_eq_true rfl⟩) hS hA (fun q h => by rw [List.mem_singleton.mp h]; exact hD.2 2 _ rfl) (fun u H locs _ hP1 _ ho hS => ?_)
  have hP := kl_oneD hP hD (k := 2) rfl hP1 ho
  have hP : va_P (dC, dI) vwCl [(g, .inr (2, [.int 0, .int 0, .int 0, .int 0, .int 0, .ref h, .ref o])), (h, .inl (cI, 8, .inl (fun _ => 0))), (o, .inl (cJ, 8, .inr (.inl (fun _ => -1))))] H := hP
  have hh : s.heap.size ≤ h := by
    have h1 := hD.2 1 _ rfl
    rw [← hAe] at h1
    exact h1.resolve_left (fun z => absurd (hD.1 1 0 _ _ rfl rfl (List.mem_singleton.mp z)) (by decide))
  have hoo : s.heap.size ≤ o := by
    have h1 := hD.2 2 _ rfl
    rw [← hAe] at h1
    exact h1.resolve_left (fun z => absurd (hD.1 2 0 _ _ rfl rfl (List.mem_singleton.mp z)) (by decide))
  have hne : h ≠ o := fun z => absurd (hD.1 1 2 _ _ rfl rfl z) (by decide)
  exact W.vret hx hb hr (fun t ht hW => ⟨⟨(h, o), rfl, ⟨hh, hoo, hne⟩, by show va_P _ _ _ t.heap; rw [ht]; exact hP⟩, hS.F ht⟩) hS.2.2 d_G_init_35
