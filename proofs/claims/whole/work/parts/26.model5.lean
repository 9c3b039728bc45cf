/-! the reference while it is made -/
def mM0 : mGV := (0, 0, 0, fun _ => 0, fun _ => 0, fun _ => 0, fun _ => 0)
def mo1 : Nat → Nat → Int64
  | 0 => fun _ => 0
  | j + 1 => vp_updL (mo1 j) j (-1)
def mMi : Nat → Nat → mGV
  | 0 => fun _ => mM0
  | g + 1 => va_up (mMi g) g (0, 0, 0, fun _ => 0, fun _ => 0, fun _ => 0, mo1 8)
theorem mMi_ge (g q : Nat) (h : g ≤ q) : mMi g q = mM0 := by
  induction g with
  | zero => rfl
  | succ g ih =>
    show va_up (mMi g) g _ q = mM0
    rw [va_up_ne _ _ (by omega)]
    exact ih (by omega)
def mAd (L : List Nat) : Nat → Nat := fun n => L.getD n 0
theorem m_lg (x : Int32) : (if 1 ≤ x then (if x ≤ 8 then x else 8) else 1) = k_lg x := by
  unfold k_lg
  by_cases h1 : 1 ≤ x
  · have h2 : ¬ x < 1 := Int32.not_lt.mpr h1
    by_cases h3 : x ≤ 8
    · have h4 : ¬ 8 < x := Int32.not_lt.mpr h3
      simp [h1, h2, h3, h4]
    · have h4 : 8 < x := Int32.not_le.mp h3
      simp [h1, h2, h3, h4]
  · have h2 : x < 1 := Int32.not_le.mp h1
    simp [h1, h2]
set_option maxHeartbeats 4000000 in
set_option maxRecDepth 100000 in
theorem lp_M_in1 {p : Program} {l : Launch} {e : Env} {s : State} {m : MethodId} {args : Array Value} {below : List Frame} {meth : Method} {c : Code} {Q : State → Prop} {dC : Nat → ClassId} {dI : Nat → Nat → Nat} {cI cJ cZ : ClassId} {a : Nat → Nat} (hnd : (mad a).Nodup) {p0 lg : Int32} {M : Nat → mGV} {g : Nat} (hg : g < 8) {A : Nat → Prop} (hx : p.tables.exec = Jvm.exec) (hb : c.code = b_M_init) (hml : c.maxLocals = 4) (hown : s.vm.findClass R_M = some m.cls) (hw : ∀ w ∈ kb_B, w.before args s = true) (hK : va_K (dC, dI) vwCl (mty cI cJ cZ) s) (hA : ∀ q : Nat, s.heap.size ≤ q → A q) (hAL : ∀ q ∈ mad a, A q)
    (kk : ∀ (H : Heap) (locs : List Loc) (ls : Array Slot), va_P (dC, dI) vwCl (mw cI cJ cZ a 0 lg 0 1000 0 (va_up M g (0, 0, 0, (fun _ => 0), (fun _ => 0), (fun _ => 0), mo1 8))) H → va_S A s.heap H locs → lv_has ls 4 [(3, .int (nI 8)), (2, .int (nI g)), (0, .ref (a 0)), (1, .int p0)] → W p l e (headSpec w_M_init ({ frames := 1, cells := 7, slots := 280, locals := 40 })).room s m args below meth c H locs 7 280 Q (F0 m 128 ls [])) :
    ∀ (k i : Nat) (H : Heap) (locs : List Loc) (ls : Array Slot), i + k = 8 → va_P (dC, dI) vwCl (mw cI cJ cZ a 0 lg 0 1000 0 (va_up M g (0, 0, 0, (fun _ => 0), (fun _ => 0), (fun _ => 0), mo1 i))) H → va_S A s.heap H locs → lv_has ls 4 [(3, .int (nI i)), (2, .int (nI g)), (0, .ref (a 0)), (1, .int p0)] → W p l e (headSpec w_M_init ({ frames := 1, cells := 7, slots := 280, locals := 40 })).room s m args below meth c H locs 7 280 Q (F0 m 102 ls []) := by
  intro k
  induction k with
  | zero =>
    intro i H locs ls hi hP hS hl
    have hi8 : i = 8 := by omega
    subst hi8
    refine lv_iload_n hx hb d_M_init_102 rfl (lv_at hl 0 rfl) ?_
    refine lv_bipush (v := 8) hx hb d_M_init_103 (by decide) ?_
    refine lv_icmp_ge (tgt := 128) hx hb d_M_init_105 (by decide) (fun c_1 => ?_) (fun c_1 => ?_)
    · exact kk H locs ls hP hS hl
    · exact absurd (nI_le (Nat.le_refl 8) (by decide)) c_1
  | succ k ih =>
    intro i H locs ls hi hP hS hl
    refine lv_iload_n hx hb d_M_init_102 rfl (lv_at hl 0 rfl) ?_
    refine lv_bipush (v := 8) hx hb d_M_init_103 (by decide) ?_
    refine lv_icmp_ge (tgt := 128) hx hb d_M_init_105 (by decide) (fun c_1 => ?_) (fun c_1 => ?_)
    · exact absurd c_1 (nI_ge (a := i) (b := 8) (by omega) (by decide))
    · refine lv_aload_n hx hb d_M_init_108 rfl (lv_at hl 2 rfl) ?_
      refine va_get (D := (dC, dI)) (ci := 3) (v := .ref (a 7)) (C := R_M) (T := F_M) (N := 12) hx hb hw i_M hown hK hP 0 rfl rfl 11 (by decide) (hw _ kb_347) (fun _ h9 => h9) rfl d_M_init_109 ?_
      refine lv_bipush (v := 8) hx hb d_M_init_112 (by decide) ?_
      refine lv_iload_n hx hb d_M_init_114 rfl (lv_at hl 1 rfl) ?_
      refine lv_imul hx hb d_M_init_115 ?_
      refine lv_iload_n hx hb d_M_init_116 rfl (lv_at hl 0 rfl) ?_
      refine lv_iadd hx hb d_M_init_117 ?_
      refine lv_ldc2 (v := -1) hx hb hown (hw _ kb_335) d_M_init_118 ?_
      refine ms_of (i := i) (v := -1) hx hb hK hP hnd hAL hS hg (show i < 8 by omega) d_M_init_121 (fun H locs hP hS => ?_)
      refine lv_iinc (v := (nI i) + 1) (lv' := [(3, .int ((nI i) + 1)), (2, .int (nI g)), (0, .ref (a 0)), (1, .int p0)]) hx hb d_M_init_122 hl (k := 0) rfl rfl (by decide) rfl (fun ls hl => ?_)
      refine lv_goto (tgt := 102) hx hb d_M_init_125 (by decide) ?_
      exact ih (i + 1) H locs ls (by omega) hP hS (by rw [nI_succ]; exact lv_sub hl [0, 1, 2, 3] rfl)
set_option maxHeartbeats 4000000 in
set_option maxRecDepth 100000 in
theorem lp_M_in2 {p : Program} {l : Launch} {e : Env} {s : State} {m : MethodId} {args : Array Value} {below : List Frame} {meth : Method} {c : Code} {Q : State → Prop} {dC : Nat → ClassId} {dI : Nat → Nat → Nat} {cI cJ cZ : ClassId} {a : Nat → Nat} (hnd : (mad a).Nodup) {p0 lg : Int32} {A : Nat → Prop} (hx : p.tables.exec = Jvm.exec) (hb : c.code = b_M_init) (hml : c.maxLocals = 4) (hown : s.vm.findClass R_M = some m.cls) (hw : ∀ w ∈ kb_B, w.before args s = true) (hK : va_K (dC, dI) vwCl (mty cI cJ cZ) s) (hA : ∀ q : Nat, s.heap.size ≤ q → A q) (hAL : ∀ q ∈ mad a, A q)
    (kk : ∀ (H : Heap) (locs : List Loc) (ls : Array Slot), va_P (dC, dI) vwCl (mw cI cJ cZ a 0 lg 0 1000 0 (mMi 8)) H → va_S A s.heap H locs → W p l e (headSpec w_M_init ({ frames := 1, cells := 7, slots := 280, locals := 40 })).room s m args below meth c H locs 7 280 Q (F0 m 134 ls [])) :
    ∀ (k g : Nat) (H : Heap) (locs : List Loc) (ls : Array Slot), g + k = 8 → va_P (dC, dI) vwCl (mw cI cJ cZ a 0 lg 0 1000 0 (mMi g)) H → va_S A s.heap H locs → (∃ lx, lv_has ls 4 ([(2, .int (nI g)), (0, .ref (a 0)), (1, .int p0)] ++ lx)) → W p l e (headSpec w_M_init ({ frames := 1, cells := 7, slots := 280, locals := 40 })).room s m args below meth c H locs 7 280 Q (F0 m 94 ls []) := by
  intro k
  induction k with
  | zero =>
    intro g H locs ls hg hP hS hl
    obtain ⟨lx, hl⟩ := hl
    have hg8 : g = 8 := by omega
    subst hg8
    refine lv_iload_n hx hb d_M_init_94 rfl (lv_at hl 0 rfl) ?_
    refine lv_bipush (v := 8) hx hb d_M_init_95 (by decide) ?_
    refine lv_icmp_ge (tgt := 134) hx hb d_M_init_97 (by decide) (fun c_1 => ?_) (fun c_1 => ?_)
    · exact kk H locs ls hP hS
    · exact absurd (nI_le (Nat.le_refl 8) (by decide)) c_1
  | succ k ih =>
    intro g H locs ls hg hP hS hl
    obtain ⟨lx, hl⟩ := hl
    have hl : lv_has ls 4 [(2, .int (nI g)), (0, .ref (a 0)), (1, .int p0)] := lv_sub hl [0, 1, 2] rfl
    rw [← mv_at (mMi g) g, mMi_ge g g (Nat.le_refl g)] at hP
    refine lv_iload_n hx hb d_M_init_94 rfl (lv_at hl 0 rfl) ?_
    refine lv_bipush (v := 8) hx hb d_M_init_95 (by decide) ?_
    refine lv_icmp_ge (tgt := 134) hx hb d_M_init_97 (by decide) (fun c_1 => ?_) (fun c_1 => ?_)
    · exact absurd c_1 (nI_ge (a := g) (b := 8) (by omega) (by decide))
    · refine lv_iconst (v := 0) hx hb d_M_init_100 (by decide) ?_
      refine lv_istore_n (lv' := [(3, .int 0), (2, .int (nI g)), (0, .ref (a 0)), (1, .int p0)]) hx hb d_M_init_101 rfl hl (by decide) rfl (fun ls hl => ?_)
      refine lp_M_in1 hnd (show g < 8 by omega) hx hb hml hown hw hK hA hAL (fun H locs ls hP hS hl => ?_) 8 0 _ _ ls rfl hP hS (lv_sub hl [0, 1, 2, 3] rfl)
      refine lv_iinc (v := (nI g) + 1) (lv' := [(2, .int ((nI g) + 1)), (3, .int (nI 8)), (0, .ref (a 0)), (1, .int p0)]) hx hb d_M_init_128 hl (k := 1) rfl rfl (by decide) rfl (fun ls hl => ?_)
      refine lv_goto (tgt := 94) hx hb d_M_init_131 (by decide) ?_
      refine ih (g + 1) H locs ls (by omega) hP hS ⟨[], ?_⟩
      rw [nI_succ]; exact lv_sub hl [0, 2, 3] rfl
set_option maxHeartbeats 4000000 in
set_option maxRecDepth 100000 in
theorem lp_M_in3 {p : Program} {l : Launch} {e : Env} {s : State} {m : MethodId} {args : Array Value} {below : List Frame} {meth : Method} {c : Code} {Q : State → Prop} {dC : Nat → ClassId} {dI : Nat → Nat → Nat} {cI cJ cZ : ClassId} {a : Nat → Nat} (hnd : (mad a).Nodup) {p0 lg : Int32} {A : Nat → Prop} (hx : p.tables.exec = Jvm.exec) (hb : c.code = b_M_init) (hml : c.maxLocals = 4) (hown : s.vm.findClass R_M = some m.cls) (hw : ∀ w ∈ kb_B, w.before args s = true) (hK : va_K (dC, dI) vwCl (mty cI cJ cZ) s) (hA : ∀ q : Nat, s.heap.size ≤ q → A q) (hAL : ∀ q ∈ mad a, A q) (hin : meth.name = "<init>") {v : Int32} {H : Heap} {locs : List Loc} {ls : Array Slot} (hP : va_P (dC, dI) vwCl (mw cI cJ cZ a 0 lg 0 1000 0 (mMi 0)) H) (hS : va_S A s.heap H locs) (hl : lv_has ls 4 [(0, .ref (a 0)), (1, .int p0)])
    (kk : ∀ (H : Heap) (locs : List Loc) (ls : Array Slot), va_P (dC, dI) vwCl (mw cI cJ cZ a 0 v 0 1000 0 (mMi 8)) H → va_S A s.heap H locs → W p l e (headSpec w_M_init ({ frames := 1, cells := 7, slots := 280, locals := 40 })).room s m args below meth c H locs 7 280 Q (F0 m 134 ls [])) :
    W p l e (headSpec w_M_init ({ frames := 1, cells := 7, slots := 280, locals := 40 })).room s m args below meth c H locs 7 280 Q (F0 m 89 ls [.int v, .ref (a 0)]) := by
  refine va_putF (D := (dC, dI)) (ci := 3) (v := .int v) (ty := .int) (C := R_M) (T := F_M) (N := 12) hx hb hw i_M t_M t_M_ok n_M hown hK hP (mw_D hnd hAL) hS 0 rfl rfl 1 (by decide) (hw _ kb_337) (fun _ h9 => h9) rfl hin rfl (by decide +kernel) rfl rfl (Nat.le_of_ble_eq_true rfl) d_M_init_89 (fun H locs hP _ hS => ?_)
  have hP : va_P (dC, dI) vwCl (mw cI cJ cZ a 0 v 0 1000 0 (mMi 0)) _ := hP
  refine lv_iconst (v := 0) hx hb d_M_init_92 (by decide) ?_
  refine lv_istore_n (lv' := [(2, .int 0), (0, .ref (a 0)), (1, .int p0)]) hx hb d_M_init_93 rfl hl (by decide) rfl (fun ls hl => ?_)
  exact lp_M_in2 hnd hx hb hml hown hw hK hA hAL kk 8 0 _ _ ls rfl hP hS ⟨[], lv_sub hl [0, 1, 2] rfl⟩
set_option maxHeartbeats 4000000 in
set_option maxRecDepth 100000 in
theorem c_M_init (l : Launch) {dC : Nat → ClassId} {dI : Nat → Nat → Nat} {cI cJ cZ : ClassId} (d : Nat) (p0 : Int32) (sz : Nat) : Met l y_M_init w_M_init ({ frames := 1, cells := 7, slots := 280, locals := 40 }) (kPre (dC, dI) vwCl (mty cI cJ cZ) [.ref d, .int p0] sz [(d, .inr (3, [.int 0, .int 0, .int 0, .int 0, .int 0, .null, .null, .null, .null, .null, .null, .null]))]) (va_Qv (fun u : Nat → Nat => u 0 = d ∧ (mad u).Nodup ∧ ∀ q ∈ mad u, q = d ∨ sz ≤ q) (fun u t => va_P (dC, dI) vwCl (mw cI cJ cZ u 0 (k_lg p0) 0 1000 0 (mMi 8)) t.heap) (kA [d] sz)) 7 280 (kA [d] sz) := by
  refine Met.ofW (cc := b_M_init) (maxL := 4) (ret := none) (by decide) rfl ?_
  intro p e s m args below meth c s₁ B hml hv
  obtain ⟨rfl, hsz, hP, hK⟩ := hv
  have hx := B.exec
  have hb := B.bytes
  have hr := B.returns
  have hts := atoms_spec (ws := w_M_init) B.pre
  have hw := fun (w : Cond) (h : w ∈ kb_B) => hts w (List.mem_cons_of_mem _ h)
  have hown : s.vm.findClass R_M = some m.cls := findClass_of_methodNamed B.named
  have hlocks := B.notSynchronized
  have hin : meth.name = "<init>" := (name_of_methodNamed B.named B.method).1
  subst hsz
  generalize hAe : kA [d] s.heap.size = A
  have hA : ∀ q : Nat, s.heap.size ≤ q → A q := fun q h => by rw [← hAe]; exact Or.inr h
  have hAL : ∀ z ∈ [d], A z := fun z h => by rw [← hAe]; exact Or.inl h
  have hS : va_S A s.heap s.heap [] := va_S.rf
  have hl := lv_entry ([.ref d, .int p0]) (n := 4) (Nat.le_of_ble_eq_true rfl)
  rw [lg_entry_eq]
  generalize (lg_sl ([.ref d, .int p0]) ++ List.replicate (4 - (lg_sl ([.ref d, .int p0])).length) Slot.unset).toArray = ls at hl ⊢
  have hl : lv_has ls 4 [(0, .ref d), (1, .int p0)] := hl
  have hD : va_D A [(d, .inr (3, [.int 0, .int 0, .int 0, .int 0, .int 0, .null, .null, .null, .null, .null, .null, .null]))] := kl_D (by simp) (fun z h => hAL z h)
  refine lv_aload_n hx hb d_M_init_0 rfl (lv_at hl 0 rfl) ?_
  refine W.objInit hx hb hown (hw _ kb_334) (hw _ kb_18) (hw _ kb_19) rfl (by rw [hml]; exact hl.1) rfl d_M_init_1 (Nat.le_of_ble_eq_true rfl) (Nat.le_of_ble_eq_true rfl) ?_
  refine W.eq (g2 := F0 m 4 ls []) rfl ?_
  refine lv_aload_n hx hb d_M_init_4 rfl (lv_at hl 0 rfl) ?_
  refine lv_sipush (v := 1000) hx hb d_M_init_5 (by decide) ?_
  refine va_put (D := (dC, dI)) (ci := 3) (v := .int 1000) (ty := .int) (C := R_M) (T := F_M) (N := 12) hx hb hw i_M t_M t_M_ok n_M hown hK hP hD hS 0 rfl rfl 3 (by decide) (hw _ kb_339) (fun _ h9 => h9) rfl (by decide +kernel) rfl rfl (Nat.le_of_ble_eq_true rfl) d_M_init_8 (fun H locs hP hD hS => ?_)
  have hP : va_P (dC, dI) vwCl [(d, .inr (3, [.int 0, .int 0, .int 0, .int 1000, .int 0, .null, .null, .null, .null, .null, .null, .null]))] H := hP
  have hD : va_D A [(d, .inr (3, [.int 0, .int 0, .int 0, .int 1000, .int 0, .null, .null, .null, .null, .null, .null, .null]))] := hD
  refine lv_aload_n hx hb d_M_init_11 rfl (lv_at hl 0 rfl) ?_
  refine lv_bipush (v := 8) hx hb d_M_init_12 (by decide) ?_
  refine va_newa (atype := .int) (a0 := (8, .inl (fun _ => 0))) hx hb (hw _ kb_80) rfl hK hP hD hS hA (fun _ => rfl) (by decide) rfl (by decide) (Nat.le_of_ble_eq_true rfl) (Nat.le_of_ble_eq_true rfl) d_M_init_14 (fun q1 cA H hK2 hP hD hS => ?_)
  obtain rfl : cI = cA := Option.some.inj ((hK2.2 0 _ rfl).2.symm.trans (hK2.2 3 _ rfl).2)
  have hP : va_P (dC, dI) vwCl [(d, .inr (3, [.int 0, .int 0, .int 0, .int 1000, .int 0, .null, .null, .null, .null, .null, .null, .null])), (q1, .inl (cI, 8, .inl (fun _ => 0)))] H := hP
  have hD : va_D A [(d, .inr (3, [.int 0, .int 0, .int 0, .int 1000, .int 0, .null, .null, .null, .null, .null, .null, .null])), (q1, .inl (cI, 8, .inl (fun _ => 0)))] := hD
  refine va_putF (D := (dC, dI)) (ci := 3) (v := .ref q1) (ty := .array .int) (C := R_M) (T := F_M) (N := 12) hx hb hw i_M t_M t_M_ok n_M hown hK hP hD hS 0 rfl rfl 5 (by decide) (hw _ kb_341) (fun _ h9 => h9) rfl hin rfl (by decide +kernel) rfl rfl (Nat.le_of_ble_eq_true rfl) d_M_init_16 (fun H locs hP hD hS => ?_)
  have hP : va_P (dC, dI) vwCl [(d, .inr (3, [.int 0, .int 0, .int 0, .int 1000, .int 0, .ref q1, .null, .null, .null, .null, .null, .null])), (q1, .inl (cI, 8, .inl (fun _ => 0)))] H := hP
  have hD : va_D A [(d, .inr (3, [.int 0, .int 0, .int 0, .int 1000, .int 0, .ref q1, .null, .null, .null, .null, .null, .null])), (q1, .inl (cI, 8, .inl (fun _ => 0)))] := hD
  refine lv_aload_n hx hb d_M_init_19 rfl (lv_at hl 0 rfl) ?_
  refine lv_bipush (v := 8) hx hb d_M_init_20 (by decide) ?_
  refine va_newa (atype := .int) (a0 := (8, .inl (fun _ => 0))) hx hb (hw _ kb_80) rfl hK hP hD hS hA (fun _ => rfl) (by decide) rfl (by decide) (Nat.le_of_ble_eq_true rfl) (Nat.le_of_ble_eq_true rfl) d_M_init_22 (fun q2 cA H hK2 hP hD hS => ?_)
  obtain rfl : cI = cA := Option.some.inj ((hK2.2 0 _ rfl).2.symm.trans (hK2.2 3 _ rfl).2)
  have hP : va_P (dC, dI) vwCl [(d, .inr (3, [.int 0, .int 0, .int 0, .int 1000, .int 0, .ref q1, .null, .null, .null, .null, .null, .null])), (q1, .inl (cI, 8, .inl (fun _ => 0))), (q2, .inl (cI, 8, .inl (fun _ => 0)))] H := hP
  have hD : va_D A [(d, .inr (3, [.int 0, .int 0, .int 0, .int 1000, .int 0, .ref q1, .null, .null, .null, .null, .null, .null])), (q1, .inl (cI, 8, .inl (fun _ => 0))), (q2, .inl (cI, 8, .inl (fun _ => 0)))] := hD
  refine va_putF (D := (dC, dI)) (ci := 3) (v := .ref q2) (ty := .array .int) (C := R_M) (T := F_M) (N := 12) hx hb hw i_M t_M t_M_ok n_M hown hK hP hD hS 0 rfl rfl 6 (by decide) (hw _ kb_342) (fun _ h9 => h9) rfl hin rfl (by decide +kernel) rfl rfl (Nat.le_of_ble_eq_true rfl) d_M_init_24 (fun H locs hP hD hS => ?_)
  have hP : va_P (dC, dI) vwCl [(d, .inr (3, [.int 0, .int 0, .int 0, .int 1000, .int 0, .ref q1, .ref q2, .null, .null, .null, .null, .null])), (q1, .inl (cI, 8, .inl (fun _ => 0))), (q2, .inl (cI, 8, .inl (fun _ => 0)))] H := hP
  have hD : va_D A [(d, .inr (3, [.int 0, .int 0, .int 0, .int 1000, .int 0, .ref q1, .ref q2, .null, .null, .null, .null, .null])), (q1, .inl (cI, 8, .inl (fun _ => 0))), (q2, .inl (cI, 8, .inl (fun _ => 0)))] := hD
  refine lv_aload_n hx hb d_M_init_27 rfl (lv_at hl 0 rfl) ?_
  refine lv_bipush (v := 8) hx hb d_M_init_28 (by decide) ?_
  refine va_newa (atype := .int) (a0 := (8, .inl (fun _ => 0))) hx hb (hw _ kb_80) rfl hK hP hD hS hA (fun _ => rfl) (by decide) rfl (by decide) (Nat.le_of_ble_eq_true rfl) (Nat.le_of_ble_eq_true rfl) d_M_init_30 (fun q3 cA H hK2 hP hD hS => ?_)
  obtain rfl : cI = cA := Option.some.inj ((hK2.2 0 _ rfl).2.symm.trans (hK2.2 3 _ rfl).2)
  have hP : va_P (dC, dI) vwCl [(d, .inr (3, [.int 0, .int 0, .int 0, .int 1000, .int 0, .ref q1, .ref q2, .null, .null, .null, .null, .null])), (q1, .inl (cI, 8, .inl (fun _ => 0))), (q2, .inl (cI, 8, .inl (fun _ => 0))), (q3, .inl (cI, 8, .inl (fun _ => 0)))] H := hP
  have hD : va_D A [(d, .inr (3, [.int 0, .int 0, .int 0, .int 1000, .int 0, .ref q1, .ref q2, .null, .null, .null, .null, .null])), (q1, .inl (cI, 8, .inl (fun _ => 0))), (q2, .inl (cI, 8, .inl (fun _ => 0))), (q3, .inl (cI, 8, .inl (fun _ => 0)))] := hD
  refine va_putF (D := (dC, dI)) (ci := 3) (v := .ref q3) (ty := .array .int) (C := R_M) (T := F_M) (N := 12) hx hb hw i_M t_M t_M_ok n_M hown hK hP hD hS 0 rfl rfl 7 (by decide) (hw _ kb_343) (fun _ h9 => h9) rfl hin rfl (by decide +kernel) rfl rfl (Nat.le_of_ble_eq_true rfl) d_M_init_32 (fun H locs hP hD hS => ?_)
  have hP : va_P (dC, dI) vwCl [(d, .inr (3, [.int 0, .int 0, .int 0, .int 1000, .int 0, .ref q1, .ref q2, .ref q3, .null, .null, .null, .null])), (q1, .inl (cI, 8, .inl (fun _ => 0))), (q2, .inl (cI, 8, .inl (fun _ => 0))), (q3, .inl (cI, 8, .inl (fun _ => 0)))] H := hP
  have hD : va_D A [(d, .inr (3, [.int 0, .int 0, .int 0, .int 1000, .int 0, .ref q1, .ref q2, .ref q3, .null, .null, .null, .null])), (q1, .inl (cI, 8, .inl (fun _ => 0))), (q2, .inl (cI, 8, .inl (fun _ => 0))), (q3, .inl (cI, 8, .inl (fun _ => 0)))] := hD
  refine lv_aload_n hx hb d_M_init_35 rfl (lv_at hl 0 rfl) ?_
  refine lv_bipush (v := 64) hx hb d_M_init_36 (by decide) ?_
  refine va_newa (atype := .boolean) (a0 := (64, .inl (fun _ => 0))) hx hb (hw _ kb_373) rfl hK hP hD hS hA (fun _ => rfl) (by decide) rfl (by decide) (Nat.le_of_ble_eq_true rfl) (Nat.le_of_ble_eq_true rfl) d_M_init_38 (fun q4 cA H hK2 hP hD hS => ?_)
  obtain rfl : cZ = cA := Option.some.inj ((hK2.2 2 _ rfl).2.symm.trans (hK2.2 3 _ rfl).2)
  have hP : va_P (dC, dI) vwCl [(d, .inr (3, [.int 0, .int 0, .int 0, .int 1000, .int 0, .ref q1, .ref q2, .ref q3, .null, .null, .null, .null])), (q1, .inl (cI, 8, .inl (fun _ => 0))), (q2, .inl (cI, 8, .inl (fun _ => 0))), (q3, .inl (cI, 8, .inl (fun _ => 0))), (q4, .inl (cZ, 64, .inl (fun _ => 0)))] H := hP
  have hD : va_D A [(d, .inr (3, [.int 0, .int 0, .int 0, .int 1000, .int 0, .ref q1, .ref q2, .ref q3, .null, .null, .null, .null])), (q1, .inl (cI, 8, .inl (fun _ => 0))), (q2, .inl (cI, 8, .inl (fun _ => 0))), (q3, .inl (cI, 8, .inl (fun _ => 0))), (q4, .inl (cZ, 64, .inl (fun _ => 0)))] := hD
  refine va_putF (D := (dC, dI)) (ci := 3) (v := .ref q4) (ty := .array .boolean) (C := R_M) (T := F_M) (N := 12) hx hb hw i_M t_M t_M_ok n_M hown hK hP hD hS 0 rfl rfl 8 (by decide) (hw _ kb_344) (fun _ h9 => h9) rfl hin rfl (by decide +kernel) rfl rfl (Nat.le_of_ble_eq_true rfl) d_M_init_40 (fun H locs hP hD hS => ?_)
  have hP : va_P (dC, dI) vwCl [(d, .inr (3, [.int 0, .int 0, .int 0, .int 1000, .int 0, .ref q1, .ref q2, .ref q3, .ref q4, .null, .null, .null])), (q1, .inl (cI, 8, .inl (fun _ => 0))), (q2, .inl (cI, 8, .inl (fun _ => 0))), (q3, .inl (cI, 8, .inl (fun _ => 0))), (q4, .inl (cZ, 64, .inl (fun _ => 0)))] H := hP
  have hD : va_D A [(d, .inr (3, [.int 0, .int 0, .int 0, .int 1000, .int 0, .ref q1, .ref q2, .ref q3, .ref q4, .null, .null, .null])), (q1, .inl (cI, 8, .inl (fun _ => 0))), (q2, .inl (cI, 8, .inl (fun _ => 0))), (q3, .inl (cI, 8, .inl (fun _ => 0))), (q4, .inl (cZ, 64, .inl (fun _ => 0)))] := hD
  refine lv_aload_n hx hb d_M_init_43 rfl (lv_at hl 0 rfl) ?_
  refine lv_bipush (v := 64) hx hb d_M_init_44 (by decide) ?_
  refine va_newa (atype := .boolean) (a0 := (64, .inl (fun _ => 0))) hx hb (hw _ kb_373) rfl hK hP hD hS hA (fun _ => rfl) (by decide) rfl (by decide) (Nat.le_of_ble_eq_true rfl) (Nat.le_of_ble_eq_true rfl) d_M_init_46 (fun q5 cA H hK2 hP hD hS => ?_)
  obtain rfl : cZ = cA := Option.some.inj ((hK2.2 2 _ rfl).2.symm.trans (hK2.2 3 _ rfl).2)
  have hP : va_P (dC, dI) vwCl [(d, .inr (3, [.int 0, .int 0, .int 0, .int 1000, .int 0, .ref q1, .ref q2, .ref q3, .ref q4, .null, .null, .null])), (q1, .inl (cI, 8, .inl (fun _ => 0))), (q2, .inl (cI, 8, .inl (fun _ => 0))), (q3, .inl (cI, 8, .inl (fun _ => 0))), (q4, .inl (cZ, 64, .inl (fun _ => 0))), (q5, .inl (cZ, 64, .inl (fun _ => 0)))] H := hP
  have hD : va_D A [(d, .inr (3, [.int 0, .int 0, .int 0, .int 1000, .int 0, .ref q1, .ref q2, .ref q3, .ref q4, .null, .null, .null])), (q1, .inl (cI, 8, .inl (fun _ => 0))), (q2, .inl (cI, 8, .inl (fun _ => 0))), (q3, .inl (cI, 8, .inl (fun _ => 0))), (q4, .inl (cZ, 64, .inl (fun _ => 0))), (q5, .inl (cZ, 64, .inl (fun _ => 0)))] := hD
  refine va_putF (D := (dC, dI)) (ci := 3) (v := .ref q5) (ty := .array .boolean) (C := R_M) (T := F_M) (N := 12) hx hb hw i_M t_M t_M_ok n_M hown hK hP hD hS 0 rfl rfl 9 (by decide) (hw _ kb_345) (fun _ h9 => h9) rfl hin rfl (by decide +kernel) rfl rfl (Nat.le_of_ble_eq_true rfl) d_M_init_48 (fun H locs hP hD hS => ?_)
  have hP : va_P (dC, dI) vwCl [(d, .inr (3, [.int 0, .int 0, .int 0, .int 1000, .int 0, .ref q1, .ref q2, .ref q3, .ref q4, .ref q5, .null, .null])), (q1, .inl (cI, 8, .inl (fun _ => 0))), (q2, .inl (cI, 8, .inl (fun _ => 0))), (q3, .inl (cI, 8, .inl (fun _ => 0))), (q4, .inl (cZ, 64, .inl (fun _ => 0))), (q5, .inl (cZ, 64, .inl (fun _ => 0)))] H := hP
  have hD : va_D A [(d, .inr (3, [.int 0, .int 0, .int 0, .int 1000, .int 0, .ref q1, .ref q2, .ref q3, .ref q4, .ref q5, .null, .null])), (q1, .inl (cI, 8, .inl (fun _ => 0))), (q2, .inl (cI, 8, .inl (fun _ => 0))), (q3, .inl (cI, 8, .inl (fun _ => 0))), (q4, .inl (cZ, 64, .inl (fun _ => 0))), (q5, .inl (cZ, 64, .inl (fun _ => 0)))] := hD
  refine lv_aload_n hx hb d_M_init_51 rfl (lv_at hl 0 rfl) ?_
  refine lv_bipush (v := 64) hx hb d_M_init_52 (by decide) ?_
  refine va_newa (atype := .int) (a0 := (64, .inl (fun _ => 0))) hx hb (hw _ kb_80) rfl hK hP hD hS hA (fun _ => rfl) (by decide) rfl (by decide) (Nat.le_of_ble_eq_true rfl) (Nat.le_of_ble_eq_true rfl) d_M_init_54 (fun q6 cA H hK2 hP hD hS => ?_)
  obtain rfl : cI = cA := Option.some.inj ((hK2.2 0 _ rfl).2.symm.trans (hK2.2 3 _ rfl).2)
  have hP : va_P (dC, dI) vwCl [(d, .inr (3, [.int 0, .int 0, .int 0, .int 1000, .int 0, .ref q1, .ref q2, .ref q3, .ref q4, .ref q5, .null, .null])), (q1, .inl (cI, 8, .inl (fun _ => 0))), (q2, .inl (cI, 8, .inl (fun _ => 0))), (q3, .inl (cI, 8, .inl (fun _ => 0))), (q4, .inl (cZ, 64, .inl (fun _ => 0))), (q5, .inl (cZ, 64, .inl (fun _ => 0))), (q6, .inl (cI, 64, .inl (fun _ => 0)))] H := hP
  have hD : va_D A [(d, .inr (3, [.int 0, .int 0, .int 0, .int 1000, .int 0, .ref q1, .ref q2, .ref q3, .ref q4, .ref q5, .null, .null])), (q1, .inl (cI, 8, .inl (fun _ => 0))), (q2, .inl (cI, 8, .inl (fun _ => 0))), (q3, .inl (cI, 8, .inl (fun _ => 0))), (q4, .inl (cZ, 64, .inl (fun _ => 0))), (q5, .inl (cZ, 64, .inl (fun _ => 0))), (q6, .inl (cI, 64, .inl (fun _ => 0)))] := hD
  refine va_putF (D := (dC, dI)) (ci := 3) (v := .ref q6) (ty := .array .int) (C := R_M) (T := F_M) (N := 12) hx hb hw i_M t_M t_M_ok n_M hown hK hP hD hS 0 rfl rfl 10 (by decide) (hw _ kb_346) (fun _ h9 => h9) rfl hin rfl (by decide +kernel) rfl rfl (Nat.le_of_ble_eq_true rfl) d_M_init_56 (fun H locs hP hD hS => ?_)
  have hP : va_P (dC, dI) vwCl [(d, .inr (3, [.int 0, .int 0, .int 0, .int 1000, .int 0, .ref q1, .ref q2, .ref q3, .ref q4, .ref q5, .ref q6, .null])), (q1, .inl (cI, 8, .inl (fun _ => 0))), (q2, .inl (cI, 8, .inl (fun _ => 0))), (q3, .inl (cI, 8, .inl (fun _ => 0))), (q4, .inl (cZ, 64, .inl (fun _ => 0))), (q5, .inl (cZ, 64, .inl (fun _ => 0))), (q6, .inl (cI, 64, .inl (fun _ => 0)))] H := hP
  have hD : va_D A [(d, .inr (3, [.int 0, .int 0, .int 0, .int 1000, .int 0, .ref q1, .ref q2, .ref q3, .ref q4, .ref q5, .ref q6, .null])), (q1, .inl (cI, 8, .inl (fun _ => 0))), (q2, .inl (cI, 8, .inl (fun _ => 0))), (q3, .inl (cI, 8, .inl (fun _ => 0))), (q4, .inl (cZ, 64, .inl (fun _ => 0))), (q5, .inl (cZ, 64, .inl (fun _ => 0))), (q6, .inl (cI, 64, .inl (fun _ => 0)))] := hD
  refine lv_aload_n hx hb d_M_init_59 rfl (lv_at hl 0 rfl) ?_
  refine lv_bipush (v := 64) hx hb d_M_init_60 (by decide) ?_
  refine va_newa (atype := .long) (a0 := (64, .inr (.inl (fun _ => 0)))) hx hb (hw _ kb_81) rfl hK hP hD hS hA (fun _ => rfl) (by decide) rfl (by decide) (Nat.le_of_ble_eq_true rfl) (Nat.le_of_ble_eq_true rfl) d_M_init_62 (fun q7 cA H hK2 hP hD hS => ?_)
  obtain rfl : cJ = cA := Option.some.inj ((hK2.2 1 _ rfl).2.symm.trans (hK2.2 3 _ rfl).2)
  have hP : va_P (dC, dI) vwCl [(d, .inr (3, [.int 0, .int 0, .int 0, .int 1000, .int 0, .ref q1, .ref q2, .ref q3, .ref q4, .ref q5, .ref q6, .null])), (q1, .inl (cI, 8, .inl (fun _ => 0))), (q2, .inl (cI, 8, .inl (fun _ => 0))), (q3, .inl (cI, 8, .inl (fun _ => 0))), (q4, .inl (cZ, 64, .inl (fun _ => 0))), (q5, .inl (cZ, 64, .inl (fun _ => 0))), (q6, .inl (cI, 64, .inl (fun _ => 0))), (q7, .inl (cJ, 64, .inr (.inl (fun _ => 0))))] H := hP
  have hD : va_D A [(d, .inr (3, [.int 0, .int 0, .int 0, .int 1000, .int 0, .ref q1, .ref q2, .ref q3, .ref q4, .ref q5, .ref q6, .null])), (q1, .inl (cI, 8, .inl (fun _ => 0))), (q2, .inl (cI, 8, .inl (fun _ => 0))), (q3, .inl (cI, 8, .inl (fun _ => 0))), (q4, .inl (cZ, 64, .inl (fun _ => 0))), (q5, .inl (cZ, 64, .inl (fun _ => 0))), (q6, .inl (cI, 64, .inl (fun _ => 0))), (q7, .inl (cJ, 64, .inr (.inl (fun _ => 0))))] := hD
  refine va_putF (D := (dC, dI)) (ci := 3) (v := .ref q7) (ty := .array .long) (C := R_M) (T := F_M) (N := 12) hx hb hw i_M t_M t_M_ok n_M hown hK hP hD hS 0 rfl rfl 11 (by decide) (hw _ kb_347) (fun _ h9 => h9) rfl hin rfl (by decide +kernel) rfl rfl (Nat.le_of_ble_eq_true rfl) d_M_init_64 (fun H locs hP hD hS => ?_)
  have hP : va_P (dC, dI) vwCl [(d, .inr (3, [.int 0, .int 0, .int 0, .int 1000, .int 0, .ref q1, .ref q2, .ref q3, .ref q4, .ref q5, .ref q6, .ref q7])), (q1, .inl (cI, 8, .inl (fun _ => 0))), (q2, .inl (cI, 8, .inl (fun _ => 0))), (q3, .inl (cI, 8, .inl (fun _ => 0))), (q4, .inl (cZ, 64, .inl (fun _ => 0))), (q5, .inl (cZ, 64, .inl (fun _ => 0))), (q6, .inl (cI, 64, .inl (fun _ => 0))), (q7, .inl (cJ, 64, .inr (.inl (fun _ => 0))))] H := hP
  have hD : va_D A [(d, .inr (3, [.int 0, .int 0, .int 0, .int 1000, .int 0, .ref q1, .ref q2, .ref q3, .ref q4, .ref q5, .ref q6, .ref q7])), (q1, .inl (cI, 8, .inl (fun _ => 0))), (q2, .inl (cI, 8, .inl (fun _ => 0))), (q3, .inl (cI, 8, .inl (fun _ => 0))), (q4, .inl (cZ, 64, .inl (fun _ => 0))), (q5, .inl (cZ, 64, .inl (fun _ => 0))), (q6, .inl (cI, 64, .inl (fun _ => 0))), (q7, .inl (cJ, 64, .inr (.inl (fun _ => 0))))] := hD
  have hnd : (mad (mAd [d, q1, q2, q3, q4, q5, q6, q7])).Nodup := kl_nd hD
  have hne : ∀ q ∈ mad (mAd [d, q1, q2, q3, q4, q5, q6, q7]), q = d ∨ s.heap.size ≤ q := by
    intro q hq
    obtain ⟨x, hx1, hx2⟩ := List.mem_map.mp (show q ∈ ([(d, .inr (3, [.int 0, .int 0, .int 0, .int 1000, .int 0, .ref q1, .ref q2, .ref q3, .ref q4, .ref q5, .ref q6, .ref q7])), (q1, .inl (cI, 8, .inl (fun _ => 0))), (q2, .inl (cI, 8, .inl (fun _ => 0))), (q3, .inl (cI, 8, .inl (fun _ => 0))), (q4, .inl (cZ, 64, .inl (fun _ => 0))), (q5, .inl (cZ, 64, .inl (fun _ => 0))), (q6, .inl (cI, 64, .inl (fun _ => 0))), (q7, .inl (cJ, 64, .inr (.inl (fun _ => 0))))] : va_W).map Prod.fst from hq)
    obtain ⟨k1, hk1⟩ := List.getElem?_of_mem hx1
    have h2 := hD.2 k1 x hk1
    rw [← hAe, hx2] at h2
    exact h2.imp (fun z => List.mem_singleton.mp z) id
  have hAM : ∀ q ∈ mad (mAd [d, q1, q2, q3, q4, q5, q6, q7]), A q := fun q h => by rw [← hAe]; exact (hne q h).imp (fun z => List.mem_singleton.mpr z) id
  have hP : va_P (dC, dI) vwCl (mw cI cJ cZ (mAd [d, q1, q2, q3, q4, q5, q6, q7]) 0 0 0 1000 0 (mMi 0)) H := hP
  clear hAL
  refine lv_aload_n hx hb d_M_init_67 rfl (lv_at hl 0 rfl) ?_
  refine lv_iload_n hx hb d_M_init_68 rfl (lv_at hl 1 rfl) ?_
  refine lv_iconst (v := 1) hx hb d_M_init_69 (by decide) ?_
  refine lv_icmp_ge (tgt := 77) hx hb d_M_init_70 (by decide) (fun c_1 => ?_) (fun c_1 => ?_)
  · refine lv_iload_n hx hb d_M_init_77 rfl (lv_at hl 1 rfl) ?_
    refine lv_bipush (v := 8) hx hb d_M_init_78 (by decide) ?_
    refine lv_icmp_le (tgt := 88) hx hb d_M_init_80 (by decide) (fun c_2 => ?_) (fun c_2 => ?_)
    · refine lv_iload_n hx hb d_M_init_88 rfl (lv_at hl 1 rfl) ?_
      refine lp_M_in3 (a := mAd [d, q1, q2, q3, q4, q5, q6, q7]) hnd hx hb hml hown hw hK hA hAM hin (v := p0) hP hS hl (fun H locs ls hP hS => ?_)
      exact W.vret hx hb hr (fun t ht hW => ⟨⟨mAd [d, q1, q2, q3, q4, q5, q6, q7], rfl, ⟨rfl, hnd, hne⟩, by show va_P _ _ _ t.heap; rw [ht, ← m_lg p0, if_pos c_1, if_pos c_2]; exact hP⟩, hS.F ht⟩) hS.2.2 d_M_init_134
    · refine lv_bipush (v := 8) hx hb d_M_init_83 (by decide) ?_
      refine lv_goto (tgt := 89) hx hb d_M_init_85 (by decide) ?_
      refine lp_M_in3 (a := mAd [d, q1, q2, q3, q4, q5, q6, q7]) hnd hx hb hml hown hw hK hA hAM hin (v := 8) hP hS hl (fun H locs ls hP hS => ?_)
      exact W.vret hx hb hr (fun t ht hW => ⟨⟨mAd [d, q1, q2, q3, q4, q5, q6, q7], rfl, ⟨rfl, hnd, hne⟩, by show va_P _ _ _ t.heap; rw [ht, ← m_lg p0, if_pos c_1, if_neg c_2]; exact hP⟩, hS.F ht⟩) hS.2.2 d_M_init_134
  · refine lv_iconst (v := 1) hx hb d_M_init_73 (by decide) ?_
    refine lv_goto (tgt := 89) hx hb d_M_init_74 (by decide) ?_
    refine lp_M_in3 (a := mAd [d, q1, q2, q3, q4, q5, q6, q7]) hnd hx hb hml hown hw hK hA hAM hin (v := 1) hP hS hl (fun H locs ls hP hS => ?_)
    exact W.vret hx hb hr (fun t ht hW => ⟨⟨mAd [d, q1, q2, q3, q4, q5, q6, q7], rfl, ⟨rfl, hnd, hne⟩, by show va_P _ _ _ t.heap; rw [ht, ← m_lg p0, if_neg c_1]; exact hP⟩, hS.F ht⟩) hS.2.2 d_M_init_134
