/-! the desk while it is made -/
section KCA
variable {D : va_G} {cl : List vw_C} {w1 w2 : va_W} {H : Heap} {A : Nat → Prop}
theorem kl_L (h : va_P D cl (w1 ++ w2) H) : va_P D cl w1 H := fun k q hk => h k q (by rw [List.getElem?_append_left (List.getElem?_eq_some_iff.mp hk).1]; exact hk)
theorem kl_R (h : va_P D cl (w1 ++ w2) H) : va_P D cl w2 H := fun k q hk => h (w1.length + k) q (by rw [List.getElem?_append_right (by omega), Nat.add_sub_cancel_left]; exact hk)
theorem kl_DL (h : va_D A (w1 ++ w2)) : va_D A w1 := ⟨fun i j p q hi hj e => h.1 i j p q (by rw [List.getElem?_append_left (List.getElem?_eq_some_iff.mp hi).1]; exact hi) (by rw [List.getElem?_append_left (List.getElem?_eq_some_iff.mp hj).1]; exact hj) e, fun k q hk => h.2 k q (by rw [List.getElem?_append_left (List.getElem?_eq_some_iff.mp hk).1]; exact hk)⟩
theorem kl_lt (h : va_P D cl w1 H) : ∀ q ∈ w1.map Prod.fst, q < H.size := by
  intro q hq
  obtain ⟨x, hx, rfl⟩ := List.mem_map.mp hq
  obtain ⟨k, hk⟩ := List.getElem?_of_mem hx
  exact (h k x hk).lt
/-- new cells beside old ones -/
theorem kl_new {w : va_W} (hD : va_D A w1) (hl : ∀ q ∈ w1.map Prod.fst, q < H.size) (hn : (w.map Prod.fst).Nodup) (hw : ∀ q ∈ w.map Prod.fst, H.size ≤ q ∧ A q) : va_D A (w1 ++ w) := by
  refine va_D.app hD (kl_D hn (fun q h => (hw q h).2)) (fun i j x y hx hy e => ?_)
  have h1 := hl x.1 (List.mem_map.mpr ⟨x, List.mem_of_getElem? hx, rfl⟩)
  have h2 := (hw y.1 (List.mem_map.mpr ⟨y, List.mem_of_getElem? hy, rfl⟩)).1
  omega
end KCA
def kG0 : Nat → kGV := fun _ => (0, 0, 0, 0, 0, fun _ => 0, fun _ => -1)
def kwp (cI cJ cR : ClassId) (d ar nb : Nat) (ga ha oa : Nat → Nat) (lg : Int32) (i : Nat) : va_W :=
  (d, .inr (0, [.int lg, .ref ar, .ref nb, .int 0])) :: (ar, .inl (cR, 8, .inr (.inr (.inr (.inr (fun q => if q < i then some (ga q) else none)))))) :: (nb, .inr (1, [.int 1000, .int 0])) :: kw_n cI cJ ga ha oa i kG0
def k_lg (x : Int32) : Int32 := if 8 < (if x < 1 then 1 else x) then 8 else (if x < 1 then 1 else x)
theorem kwp_len {cI cJ cR : ClassId} {d ar nb : Nat} {ga ha oa : Nat → Nat} {lg : Int32} {i : Nat} : (kwp cI cJ cR d ar nb ga ha oa lg i).length = 3 * i + 3 := by simp [kwp, kw_n]
theorem kw_n_succ {cI cJ : ClassId} {ga ha oa : Nat → Nat} {i g h o : Nat} : kw_n cI cJ ga ha oa i kG0 ++ [(g, .inr (2, [.int 0, .int 0, .int 0, .int 0, .int 0, .ref h, .ref o])), (h, .inl (cI, 8, .inl (fun _ => 0))), (o, .inl (cJ, 8, .inr (.inl (fun _ => -1))))] = kw_n cI cJ (va_up ga i g) (va_up ha i h) (va_up oa i o) (i + 1) kG0 := by
  have e : 3 * (i + 1) = 3 * i + 1 + 1 + 1 := by omega
  unfold kw_n
  rw [e, List.range_succ, List.range_succ, List.range_succ]
  simp only [List.map_append, List.map_cons, List.map_nil, List.append_assoc, List.cons_append, List.nil_append]
  congr 1
  · apply List.map_congr_left
    intro q hq
    have hq := List.mem_range.mp hq
    have h1 : q / 3 ≠ i := by omega
    simp [kw_a, kw_e, va_up_ne _ _ h1]
  · have a0 : 3 * i % 3 = 0 := by omega
    have a1 : (3 * i + 1) % 3 = 1 := by omega
    have a2 : (3 * i + 1 + 1) % 3 = 2 := by omega
    have b0 : 3 * i / 3 = i := by omega
    have b1 : (3 * i + 1) / 3 = i := by omega
    have b2 : (3 * i + 1 + 1) / 3 = i := by omega
    simp [kw_a, kw_e, kw_f, kG0, a0, a1, a2, b0, b1, b2, va_up_self]
theorem kwp_succ {cI cJ cR : ClassId} {d ar nb : Nat} {ga ha oa : Nat → Nat} {lg : Int32} {i g h o : Nat} : (kwp cI cJ cR d ar nb ga ha oa lg i ++ ([(g, .inr (2, [.int 0, .int 0, .int 0, .int 0, .int 0, .ref h, .ref o])), (h, .inl (cI, 8, .inl (fun _ => 0))), (o, .inl (cJ, 8, .inr (.inl (fun _ => -1))))] : va_W)).set 1 (ar, .inl (cR, 8, .inr (.inr (.inr (.inr (va_up (fun q => if q < i then some (ga q) else none) i (some g)))))))
    = kwp cI cJ cR d ar nb (va_up ga i g) (va_up ha i h) (va_up oa i o) lg (i + 1) := by
  show _ :: _ :: _ :: (kw_n cI cJ ga ha oa i kG0 ++ _) = _ :: _ :: _ :: _
  rw [kw_n_succ]
  have e : (va_up (fun q => if q < i then some (ga q) else none) i (some g)) = (fun q => if q < i + 1 then some (va_up ga i g q) else none) := by
    funext q
    by_cases hq : q = i
    · subst hq; simp [va_up]
    · by_cases h2 : q < i
      · have h3 : q < i + 1 := by omega
        simp [va_up, hq, h2, h3]
      · have h3 : ¬ q < i + 1 := by omega
        simp [va_up, hq, h2, h3]
  rw [e]
theorem kwp_8 {D : va_G} {cl : List vw_C} {cI cJ cR : ClassId} {d ar nb : Nat} {ga ha oa : Nat → Nat} {lg : Int32} {H : Heap} (hP : va_P D cl (kwp cI cJ cR d ar nb ga ha oa lg 8) H) : va_P D cl (kw cI cJ cR d ar nb ga ha oa lg 0 1000 0 kG0) H := by
  intro k q hk
  match k, hk with
  | 0, hk => exact hP 0 q hk
  | 1, hk =>
    cases hk
    have h1 := hP 1 _ rfl
    show H[ar]? = some (vp_cell cR (8, .inr (.inr (.inr (.inr (fun q => some (ga q)))))))
    rw [show H[ar]? = some (vp_cell cR (8, .inr (.inr (.inr (.inr (fun q => if q < 8 then some (ga q) else none)))))) from h1]
    rw [vp_cell_q, vp_cell_q]
    have e : ∀ j : Fin 8, va_rf (if j.val < 8 then some (ga j.val) else none) = va_rf (some (ga j.val)) := fun j => by rw [if_pos j.isLt]
    simp only [arrV, e]
  | k + 2, hk => exact hP (k + 2) q hk
/-- what the desk's making asks of the tables beside its words -/
def kPreI (D : va_G) (cl : List vw_C) (tys : List (ClassId × FieldType)) (As : List Value) (sz : Nat) (ws : va_W) : Array Value → State → Prop := fun v U => kPre D cl tys As sz ws v U ∧ va_Nw (.methodLinkNest "GroupDesk" 24 y_N_init "GroupDesk") U ∧ va_AO "GroupDesk$Group" U
theorem kPreI_blind {D : va_G} {cl : List vw_C} {tys : List (ClassId × FieldType)} {As : List Value} {sz : Nat} {ws : va_W} : FrameBlind (kPreI D cl tys As sz ws) := fun a U g mk q => ⟨kPre_blind a U g mk q.1, va_Nw.same rfl (show U.vm = (U.calling g mk a).vm from rfl) q.2.1, va_AO.moved (U := U.calling g mk a) (Vm.Alike.refl U.vm) q.2.2⟩
set_option maxHeartbeats 4000000 in
set_option maxRecDepth 100000 in
theorem lp_D_init {p : Program} {l : Launch} {e : Env} {s : State} {m : MethodId} {args : Array Value} {below : List Frame} {meth : Method} {c : Code} {Q : State → Prop} {dC : Nat → ClassId} {dI : Nat → Nat → Nat} {cI cJ cR : ClassId} {d ar nb : Nat} {lg p0 : Int32} {A : Nat → Prop} (hx : p.tables.exec = Jvm.exec) (hb : c.code = b_D_init) (hml : c.maxLocals = 3) (hown : s.vm.findClass R_D = some m.cls) (hw : ∀ w ∈ kb_B, w.before args s = true) (hK : va_K (dC, dI) vwCl (kty cI cJ cR) s) (hA : ∀ q : Nat, s.heap.size ≤ q → A q)
    (kk : ∀ (ga ha oa : Nat → Nat) (H : Heap) (locs : List Loc) (ls : Array Slot), va_P (dC, dI) vwCl (kwp cI cJ cR d ar nb ga ha oa lg 8) H → va_D A (kwp cI cJ cR d ar nb ga ha oa lg 8) → va_S A s.heap H locs → W p l e (headSpec w_D_init ({ frames := 2, cells := 26, slots := 194, locals := 80 })).room s m args below meth c H locs (2 + 3 * 8) (10 + 23 * 8) Q (F0 m 65 ls [])) :
    ∀ (k i : Nat) (ga ha oa : Nat → Nat) (H : Heap) (locs : List Loc) (ls : Array Slot), i + k = 8 → va_P (dC, dI) vwCl (kwp cI cJ cR d ar nb ga ha oa lg i) H → va_D A (kwp cI cJ cR d ar nb ga ha oa lg i) → va_S A s.heap H locs → lv_has ls 3 [(2, .int (nI i)), (0, .ref d), (1, .int p0)] → W p l e (headSpec w_D_init ({ frames := 2, cells := 26, slots := 194, locals := 80 })).room s m args below meth c H locs (2 + 3 * i) (10 + 23 * i) Q (F0 m 40 ls []) := by
  intro k
  induction k with
  | zero =>
    intro i ga ha oa H locs ls hi hP hD hS hl
    have hi8 : i = 8 := by omega
    subst hi8
    refine lv_iload_n hx hb d_D_init_40 rfl (lv_at hl 0 rfl) ?_
    refine lv_bipush (v := 8) hx hb d_D_init_41 (by decide) ?_
    refine lv_icmp_ge (tgt := 65) hx hb d_D_init_43 (by decide) (fun c_1 => ?_) (fun c_1 => ?_)
    · exact kk ga ha oa H locs ls hP hD hS
    · exact absurd (nI_le (Nat.le_refl 8) (by decide)) c_1
  | succ k ih =>
    intro i ga ha oa H locs ls hi hP hD hS hl
    refine lv_iload_n hx hb d_D_init_40 rfl (lv_at hl 0 rfl) ?_
    refine lv_bipush (v := 8) hx hb d_D_init_41 (by decide) ?_
    refine lv_icmp_ge (tgt := 65) hx hb d_D_init_43 (by decide) (fun c_1 => ?_) (fun c_1 => ?_)
    · exact absurd c_1 (nI_ge (a := i) (b := 8) (by omega) (by decide))
    · refine lv_aload_n hx hb d_D_init_46 rfl (lv_at hl 1 rfl) ?_
      refine va_get (D := (dC, dI)) (ci := 0) (v := .ref ar) (C := R_D) (T := F_D) (N := 4) hx hb hw i_D hown hK hP 0 rfl rfl 1 (by decide) (hw _ kb_83) (fun _ h9 => h9) rfl d_D_init_47 ?_
      refine lv_iload_n hx hb d_D_init_50 rfl (lv_at hl 0 rfl) ?_
      refine va_new (ci := 2) (fs := [.int 0, .int 0, .int 0, .int 0, .int 0, .null, .null]) (C := R_G) (T := F_G) (N := 7) hx hb hw i_G t_G t_G_ok hown (hw _ kb_41) (hw _ kb_43) (hw _ kb_4) hK hP hD hS hA rfl (fun j hj => by rcases (show j = 0 ∨ j = 1 ∨ j = 2 ∨ j = 3 ∨ j = 4 ∨ j = 5 ∨ j = 6 by omega) with rfl | rfl | rfl | rfl | rfl | rfl | rfl <;> rfl) (by show 2 + 3 * i + 1 ≤ 26; omega) (by show 10 + 23 * i + 7 ≤ 194; omega) d_D_init_51 (fun g H hP hD hS => ?_)
      have hS0 := hS
      refine lv_dup hx hb d_D_init_54 rfl ?_
      have hPa := kl_L hP
      have hPq := kl_R hP
      have hlt := kl_lt hP
      refine kc_v (σ := Nat × Nat) (Wd := fun u => [(g, .inr (2, [.int 0, .int 0, .int 0, .int 0, .int 0, .ref u.1, .ref u.2])), (u.1, .inl (cI, 8, .inl (fun _ => 0))), (u.2, .inl (cJ, 8, .inr (.inl (fun _ => -1))))]) (L := [g]) (va_runI (As := []) (rest := [.ref g, .int (nI i), .ref ar]) ⟨hx, hb, hml, hown, hw⟩ (c_G_init l g _) (cwI 0 hw (kb_self kb_46) rfl rfl rfl (hw _ kb_4) (hw _ kb_44) (hw _ kb_45) rfl (by decide +kernel) ⟨Nat.le_of_ble_eq_true rfl, Nat.le_of_ble_eq_true rfl⟩) (kPS hPq hK) rfl rfl hl.1 rfl (lv_room (Nat.le_of_ble_eq_true rfl)) d_D_init_55 ⟨by show 2 + 3 * i + 1 + 2 ≤ 26; omega, by show 10 + 23 * i + 7 + 16 ≤ 194; omega⟩) hS hA (fun q h => by rw [List.mem_singleton.mp h]; exact hD.2 _ _ (by rw [List.getElem?_append_right (Nat.le_refl _), Nat.sub_self]; rfl)) (fun u H1 locs hw2 hP1 hz ho hS => ?_)
      obtain ⟨h, o⟩ := u
      obtain ⟨hh, hoo, hne⟩ := hw2
      dsimp only at hh hoo hne hP1
      have hga : g ∉ (kwp cI cJ cR d ar nb ga ha oa lg i).map Prod.fst := fun z => by
        have h1 := kl_nd hD
        rw [List.map_append, List.nodup_append] at h1
        exact h1.2.2 g z g (by simp) rfl
      have hPa := kl_keep hPa (L := [g]) (fun q hq z => hga (by rw [List.mem_singleton.mp z] at hq; exact hq)) ho
      have hP : va_P (dC, dI) vwCl (kwp cI cJ cR d ar nb ga ha oa lg i ++ [(g, .inr (2, [.int 0, .int 0, .int 0, .int 0, .int 0, .ref h, .ref o])), (h, .inl (cI, 8, .inl (fun _ => 0))), (o, .inl (cJ, 8, .inr (.inl (fun _ => -1))))]) H1 := va_P.app hPa hP1
      have hD : va_D A (kwp cI cJ cR d ar nb ga ha oa lg i ++ [(g, .inr (2, [.int 0, .int 0, .int 0, .int 0, .int 0, .ref h, .ref o])), (h, .inl (cI, 8, .inl (fun _ => 0))), (o, .inl (cJ, 8, .inr (.inl (fun _ => -1))))]) := by
        have h1 := kl_new (w := [(h, (.inl (cI, 8, .inl (fun _ => 0)) : va_E)), (o, .inl (cJ, 8, .inr (.inl (fun _ => -1))))]) hD hlt (by simpa using hne) (fun q hq => by
          simp only [List.map_cons, List.map_nil, List.mem_cons, List.not_mem_nil, or_false] at hq
          rcases hq with rfl | rfl
          · exact ⟨hh, hA _ (Nat.le_trans (Nat.le_trans hS0.1 (Nat.le_refl _)) hh)⟩
          · exact ⟨hoo, hA _ (Nat.le_trans (Nat.le_trans hS0.1 (Nat.le_refl _)) hoo)⟩)
        rw [List.append_assoc] at h1
        refine kl_D ?_ ?_
        · have h2 := kl_nd h1; simpa using h2
        · intro q hq
          have h2 : q ∈ (kwp cI cJ cR d ar nb ga ha oa lg i ++ ([(g, (.inr (2, [.int 0, .int 0, .int 0, .int 0, .int 0, .null, .null]) : va_E))] ++ [(h, (.inl (cI, 8, .inl (fun _ => 0)) : va_E)), (o, .inl (cJ, 8, .inr (.inl (fun _ => -1))))])).map Prod.fst := by simpa using hq
          obtain ⟨x, hx1, rfl⟩ := List.mem_map.mp h2
          obtain ⟨k1, hk1⟩ := List.getElem?_of_mem hx1
          exact h1.2 k1 x hk1
      refine va_astq hx hb hK hP hD hS 1 2 (3 * i + 3) 2 (r := (R_G, F_G, 7)) rfl rfl (by rw [List.getElem?_append_right (by rw [kwp_len]; exact Nat.le_refl _), kwp_len, Nat.sub_self]; rfl) rfl (vp_in_nI (by omega) (by decide)) d_D_init_58 (fun H locs hP hD hS => ?_)
      rw [nI_clamp (by omega), kwp_succ] at hP hD
      refine lv_iinc (v := nI i + 1) (lv' := [(2, .int (nI i + 1)), (0, .ref d), (1, .int p0)]) hx hb d_D_init_59 hl (k := 0) rfl rfl (by decide) rfl (fun ls hl => ?_)
      refine lv_goto (tgt := 40) hx hb d_D_init_62 (by decide) ?_
      refine W.cs (cells' := 2 + 3 * (i + 1)) (slots' := 10 + 23 * (i + 1)) (by omega) (by omega) ?_
      exact ih (i + 1) _ _ _ H locs ls (by omega) hP hD hS (by rw [nI_succ]; exact hl)
set_option maxHeartbeats 4000000 in
set_option maxRecDepth 100000 in
theorem c_D_init (l : Launch) {dC : Nat → ClassId} {dI : Nat → Nat → Nat} {cI cJ cR : ClassId} (d : Nat) (p0 : Int32) (sz : Nat) : Met l y_D_init w_D_init ({ frames := 2, cells := 26, slots := 194, locals := 80 }) (kPreI (dC, dI) vwCl (kty cI cJ cR) [.ref d, .int p0] sz [(d, .inr (0, [.int 0, .null, .null, .int 0]))]) (va_Qv (fun u : Nat × Nat × (Nat → Nat) × (Nat → Nat) × (Nat → Nat) => (kad d u.1 u.2.1 u.2.2.1 u.2.2.2.1 u.2.2.2.2).Nodup ∧ ∀ q ∈ (kad d u.1 u.2.1 u.2.2.1 u.2.2.2.1 u.2.2.2.2), q = d ∨ sz ≤ q) (fun u t => va_P (dC, dI) vwCl (kw cI cJ cR d u.1 u.2.1 u.2.2.1 u.2.2.2.1 u.2.2.2.2 (k_lg p0) 0 1000 0 kG0) t.heap) (kA [d] sz)) 26 194 (kA [d] sz) := by
  refine Met.ofW (cc := b_D_init) (maxL := 3) (ret := none) (by decide) rfl ?_
  intro p e s m args below meth c s₁ B hml hv
  obtain ⟨⟨rfl, hsz, hP, hK⟩, hNl, hAO⟩ := hv
  have hx := B.exec
  have hb := B.bytes
  have hr := B.returns
  have hts := atoms_spec (ws := w_D_init) B.pre
  have hw := fun (w : Cond) (h : w ∈ kb_B) => hts w (List.mem_cons_of_mem _ h)
  have hown : s.vm.findClass R_D = some m.cls := findClass_of_methodNamed B.named
  have hlocks := B.notSynchronized
  have hin : meth.name = "<init>" := (name_of_methodNamed B.named B.method).1
  subst hsz
  generalize hAe : kA [d] s.heap.size = A
  have hA : ∀ q : Nat, s.heap.size ≤ q → A q := fun q h => by rw [← hAe]; exact Or.inr h
  have hAL : ∀ z ∈ [d], A z := fun z h => by rw [← hAe]; exact Or.inl h
  have hS : va_S A s.heap s.heap [] := va_S.rf
  have hl := lv_entry ([.ref d, .int p0]) (n := 3) (Nat.le_of_ble_eq_true rfl)
  rw [lg_entry_eq]
  generalize (lg_sl ([.ref d, .int p0]) ++ List.replicate (3 - (lg_sl ([.ref d, .int p0])).length) Slot.unset).toArray = ls at hl ⊢
  have hl : lv_has ls 3 [(0, .ref d), (1, .int p0)] := hl
  have hD : va_D A [(d, .inr (0, [.int 0, .null, .null, .int 0]))] := kl_D (by simp) (fun z h => hAL z h)
  refine lv_aload_n hx hb d_D_init_0 rfl (lv_at hl 0 rfl) ?_
  refine W.objInit hx hb hown (hw _ kb_17) (hw _ kb_18) (hw _ kb_19) rfl (by rw [hml]; exact hl.1) rfl d_D_init_1 (Nat.le_of_ble_eq_true rfl) (Nat.le_of_ble_eq_true rfl) ?_
  refine W.eq (g2 := F0 m 4 ls []) rfl ?_
  refine lv_aload_n hx hb d_D_init_4 rfl (lv_at hl 0 rfl) ?_
  refine lv_iload_n hx hb d_D_init_5 rfl (lv_at hl 1 rfl) ?_
  refine lv_iconst (v := 1) hx hb d_D_init_6 (by decide) ?_
  refine va_mmax hx hb (hml.trans hl.1.symm) hown (hw _ kb_20) (hw _ kb_21) (hw _ kb_2) (hw _ kb_22) (Nat.le_of_ble_eq_true rfl) (Nat.le_of_ble_eq_true rfl) (Nat.le_of_ble_eq_true rfl) (Nat.le_of_ble_eq_true rfl) d_D_init_7 ?_
  refine lv_bipush (v := 8) hx hb d_D_init_10 (by decide) ?_
  refine va_mmin hx hb (hml.trans hl.1.symm) hown (hw _ kb_23) (hw _ kb_24) (hw _ kb_2) (hw _ kb_25) (Nat.le_of_ble_eq_true rfl) (Nat.le_of_ble_eq_true rfl) (Nat.le_of_ble_eq_true rfl) (Nat.le_of_ble_eq_true rfl) d_D_init_12 ?_
  refine va_putF (D := (dC, dI)) (ci := 0) (v := .int (k_lg p0)) (ty := .int) (C := R_D) (T := F_D) (N := 4) hx hb hw i_D t_D t_D_ok n_D hown hK hP hD hS 0 rfl rfl 0 (by decide) (hw _ kb_82) (fun _ h9 => h9) rfl hin rfl (by decide +kernel) rfl rfl (Nat.le_of_ble_eq_true rfl) d_D_init_15 (fun H locs hP hD hS => ?_)
  have hP : va_P (dC, dI) vwCl [(d, .inr (0, [.int (k_lg p0), .null, .null, .int 0]))] H := hP
  have hD : va_D A [(d, .inr (0, [.int (k_lg p0), .null, .null, .int 0]))] := hD
  refine lv_aload_n hx hb d_D_init_18 rfl (lv_at hl 0 rfl) ?_
  refine va_new (ci := 1) (fs := [.int 0, .int 0]) (C := R_N) (T := F_N) (N := 2) hx hb hw i_N t_N t_N_ok hown (hw _ kb_26) (hw _ kb_27) (hw _ kb_3) hK hP hD hS hA rfl (fun j hj => by rcases (show j = 0 ∨ j = 1 by omega) with rfl | rfl <;> rfl) (Nat.le_of_ble_eq_true rfl) (Nat.le_of_ble_eq_true rfl) d_D_init_19 (fun nb H hP hD hS => ?_)
  have hP : va_P (dC, dI) vwCl [(d, .inr (0, [.int (k_lg p0), .null, .null, .int 0])), (nb, .inr (1, [.int 0, .int 0]))] H := hP
  have hD : va_D A [(d, .inr (0, [.int (k_lg p0), .null, .null, .int 0])), (nb, .inr (1, [.int 0, .int 0]))] := hD
  refine lv_dup hx hb d_D_init_22 rfl ?_
  have hP1 := hP.sub (ws' := [(nb, .inr (1, [.int 0, .int 0]))]) [1] rfl
  refine kc_v (σ := Unit) (Wd := fun _ => [(nb, .inr (1, [.int 1000, .int 0]))]) (L := [nb]) (va_runIN (As := []) (rest := [.ref nb, .ref d]) ⟨hx, hb, hml, hown, hw⟩ (c_N_init l nb 0 0 _) ⟨va_cnB (host := "GroupDesk") 0 hw (kb_self kb_30) rfl rfl rfl hNl (hw _ kb_3) (by decide +kernel) ⟨Nat.le_of_ble_eq_true rfl, Nat.le_of_ble_eq_true rfl⟩, rfl, hw _ kb_29⟩ (kPS hP1 hK) rfl rfl hl.1 rfl (lv_room (Nat.le_of_ble_eq_true rfl)) d_D_init_23 ⟨Nat.le_of_ble_eq_true rfl, Nat.le_of_ble_eq_true rfl⟩) hS hA (fun q h => by rw [List.mem_singleton.mp h]; exact hD.2 1 _ rfl) (fun u H locs _ hP1 _ ho hS => ?_)
  have hP := kl_oneD hP hD (k := 1) rfl hP1 ho
  have hP : va_P (dC, dI) vwCl [(d, .inr (0, [.int (k_lg p0), .null, .null, .int 0])), (nb, .inr (1, [.int 1000, .int 0]))] H := hP
  have hD : va_D A [(d, .inr (0, [.int (k_lg p0), .null, .null, .int 0])), (nb, .inr (1, [.int 1000, .int 0]))] := hD.set (p := 1) (e := .inr (1, [.int 1000, .int 0])) rfl
  refine va_putF (D := (dC, dI)) (ci := 0) (v := .ref nb) (ty := .object "GroupDesk$Notebook") (C := R_D) (T := F_D) (N := 4) hx hb hw i_D t_D t_D_ok n_D hown hK hP hD hS 0 rfl rfl 2 (by decide) (hw _ kb_84) (fun _ h9 => h9) rfl hin rfl (by decide +kernel) rfl rfl (Nat.le_of_ble_eq_true rfl) d_D_init_26 (fun H locs hP hD hS => ?_)
  have hP : va_P (dC, dI) vwCl [(d, .inr (0, [.int (k_lg p0), .null, .ref nb, .int 0])), (nb, .inr (1, [.int 1000, .int 0]))] H := hP
  have hD : va_D A [(d, .inr (0, [.int (k_lg p0), .null, .ref nb, .int 0])), (nb, .inr (1, [.int 1000, .int 0]))] := hD
  refine lv_aload_n hx hb d_D_init_29 rfl (lv_at hl 0 rfl) ?_
  refine lv_bipush (v := 8) hx hb d_D_init_30 (by decide) ?_
  refine va_newq hx hb hown (hw _ kb_41) hAO hK hP hD hS hA (by decide) rfl (by decide) (Nat.le_of_ble_eq_true rfl) (Nat.le_of_ble_eq_true rfl) d_D_init_32 (fun ar cA H hK2 hP hD hS => ?_)
  obtain rfl : cR = cA := by
    obtain ⟨_, _, _, _, _, e1⟩ := (hK2.2 2 _ rfl).2
    obtain ⟨_, _, _, _, _, e2⟩ := (hK2.2 3 _ rfl).2
    exact Option.some.inj (e1.symm.trans e2)
  refine va_putF (D := (dC, dI)) (ci := 0) (v := .ref ar) (ty := .array (.object "GroupDesk$Group")) (C := R_D) (T := F_D) (N := 4) hx hb hw i_D t_D t_D_ok n_D hown hK hP hD hS 0 rfl rfl 1 (by decide) (hw _ kb_83) (fun _ h9 => h9) rfl hin rfl (by decide +kernel) rfl rfl (Nat.le_of_ble_eq_true rfl) d_D_init_35 (fun H locs hP hD hS => ?_)
  have hP : va_P (dC, dI) vwCl (kwp cI cJ cR d ar nb (fun _ => 0) (fun _ => 0) (fun _ => 0) (k_lg p0) 0) H := hP.sub [0, 2, 1] (by simp [kwp, kw_n])
  have hD : va_D A (kwp cI cJ cR d ar nb (fun _ => 0) (fun _ => 0) (fun _ => 0) (k_lg p0) 0) := hD.sub [0, 2, 1] (by decide) (by simp [kwp, kw_n])
  refine lv_iconst (v := 0) hx hb d_D_init_38 (by decide) ?_
  refine lv_istore_n (lv' := [(2, .int 0), (0, .ref d), (1, .int p0)]) hx hb d_D_init_39 rfl hl (by decide) rfl (fun ls hl => ?_)
  refine lp_D_init hx hb hml hown hw hK hA (fun ga ha oa H locs ls hP hD hS => ?_) 8 0 _ _ _ _ _ ls rfl hP hD hS hl
  have hnd : (kad d ar nb ga ha oa).Nodup := by
    have h1 := kl_nd hD
    have e1 : (kwp cI cJ cR d ar nb ga ha oa (k_lg p0) 8).map Prod.fst = kad d ar nb ga ha oa := by simp [kwp, kad, kw_n, List.map_map, Function.comp_def]
    rw [e1] at h1
    exact h1
  have hne : ∀ q ∈ kad d ar nb ga ha oa, q = d ∨ s.heap.size ≤ q := by
    intro q hq
    have e1 : (kwp cI cJ cR d ar nb ga ha oa (k_lg p0) 8).map Prod.fst = kad d ar nb ga ha oa := by simp [kwp, kad, kw_n, List.map_map, Function.comp_def]
    rw [← e1] at hq
    obtain ⟨x, hx1, rfl⟩ := List.mem_map.mp hq
    obtain ⟨k1, hk1⟩ := List.getElem?_of_mem hx1
    have h2 := hD.2 k1 x hk1
    rw [← hAe] at h2
    exact h2.imp (fun z => List.mem_singleton.mp z) id
  have hP := kwp_8 hP
  exact W.vret hx hb hr (fun t ht hW => ⟨⟨(ar, nb, ga, ha, oa), rfl, ⟨hnd, hne⟩, by show va_P _ _ _ t.heap; rw [ht]; exact hP⟩, hS.F ht⟩) hS.2.2 d_D_init_65
