set_option maxHeartbeats 4000000 in
set_option maxRecDepth 100000 in
theorem whole_start {p : Program} {e : Env} {s : State} {m : MethodId} {below : List Frame} {meth : Method} {c : Code} (l : Launch) (hl0 : l.stackTraces = false) {b L : Nat} {xs : Nat → Int32} (hL : L ≤ 3585) (C0 : lw_At p s m meth c b L xs) : W p l e room_1 s m #[Value.ref b] below meth c s.heap [] 0 0 (lw_Z below #[Value.ref b] s) (entryFrame m ([Value.ref b] : List Value).toArray 8) := by
  obtain ⟨hx, hb, hr, hml, hown, hts, hX, hbl, hlocks, hgv⟩ := C0
  have hb : c.code = b_L_law := hb
  have hown : s.vm.findClass "GroupDeskLaw" = some m.cls := hown
  have hw := fun (w : Cond) (h : w ∈ kb_B) => hts w (List.mem_filter.mp h).1
  have hZ := kt_Z.of hts hgv
  have hAO : va_AO "GroupDesk$Group" s := va_AO.of (hts _ kb_42)
  have hNl : va_Nw (.methodLinkNest "GroupDesk" 24 y_N_init "GroupDesk") s := va_Nw.of rfl (hts _ kb_28)
  obtain ⟨dC, dI, cI, cJ, cR, cZ, hK1, hK2⟩ := ka_all hw hAO
  have hXb : FrameBlind (fun (v : Array Value) (U : State) => v = [Value.ref b, Value.int 0].toArray ∧ va_X b L xs U U.heap) := fun a U g mk q => ⟨q.1, va_X.moved (u := U) (U := U.calling g mk a) (Vm.Alike.refl U.vm) q.2⟩
  have hl := lv_entry ([.ref b]) (n := 8) (Nat.le_of_ble_eq_true rfl)
  rw [lg_entry_eq]
  generalize (lg_sl ([.ref b]) ++ List.replicate (8 - (lg_sl ([.ref b])).length) Slot.unset).toArray = ls at hl ⊢
  have hl : lv_has ls 8 [(0, .ref b)] := hl
  generalize hAe : (fun q : Nat => s.heap.size ≤ q) = A
  have hA : ∀ q : Nat, s.heap.size ≤ q → A q := fun q h => by rw [← hAe]; exact h
  have hA2 : ∀ q : Nat, A q → s.heap.size ≤ q := fun q h => by rw [← hAe] at h; exact h
  have hnA : ∀ q : Nat, q < s.heap.size → ¬ A q := fun q h z => absurd (hA2 q z) (Nat.not_le.mpr h)
  have hS : va_S A s.heap s.heap [] := va_S.rf
  have hP : va_P (dC, dI) vwCl [] s.heap := fun k q h => by cases h
  have hD : va_D A [] := ⟨fun i j x y h => (by cases h), fun k q h => (by cases h)⟩
  refine va_new (ci := 0) (fs := [.int 0, .null, .null, .int 0]) (C := R_D) (T := F_D) (N := 4) hx hb hw i_D t_D t_D_ok hown (hw _ kb_12) (hw _ kb_13) (hw _ kb_1) hK1 hP hD hS hA rfl (fun j hj => by rcases (show j = 0 ∨ j = 1 ∨ j = 2 ∨ j = 3 by omega) with rfl | rfl | rfl | rfl <;> rfl) (Nat.le_of_ble_eq_true rfl) (Nat.le_of_ble_eq_true rfl) d_L_law_0 (fun d H hP hD hS => ?_)
  have hP : va_P (dC, dI) vwCl [(d, .inr (0, [.int 0, .null, .null, .int 0]))] H := hP
  have hD : va_D A [(d, .inr (0, [.int 0, .null, .null, .int 0]))] := hD
  refine lv_dup hx hb d_L_law_3 rfl ?_
  refine lv_aload_n hx hb d_L_law_4 rfl (lv_at hl 0 rfl) ?_
  refine lv_iconst (v := 0) hx hb d_L_law_5 (by decide) ?_
  refine vp_callSi (W.runS (As := [.ref b, .int 0]) (rest := [.ref d, .ref d]) ⟨hx, hb, hml, hown, hw⟩ (c_L_cell l b L xs (by omega)) (va_cwS 2 hw (kb_S kb_113 kb_114 kb_0 kb_115) rfl rfl rfl (by decide +kernel) ⟨Nat.le_of_ble_eq_true rfl, Nat.le_of_ble_eq_true rfl⟩) ⟨hXb, fun U hU hW => ⟨rfl, by rw [hU]; exact va_X.moved hW.alike (hX.kept (hS.2.1 b hbl (hnA b hbl)))⟩⟩ rfl rfl hl.1 rfl (lv_room (Nat.le_of_ble_eq_true rfl)) d_L_law_6 ⟨Nat.le_of_ble_eq_true rfl, Nat.le_of_ble_eq_true rfl⟩) (fun r9 e9 => ?_)
  subst e9
  refine kc_v (σ := Nat × Nat × (Nat → Nat) × (Nat → Nat) × (Nat → Nat)) (Wd := fun u => kw cI cJ cR d u.1 u.2.1 u.2.2.1 u.2.2.2.1 u.2.2.2.2 (k_lg (if L = 0 then 0 else xs 0)) 0 1000 0 kG0) (L := [d]) (va_runI (As := [.int (if L = 0 then 0 else xs 0)]) (rest := [.ref d]) ⟨hx, hb, hml, hown, hw⟩ (c_D_init l d (if L = 0 then 0 else xs 0) _) (cwI 1 hw (kb_self kb_16) rfl rfl rfl (hw _ kb_1) (hw _ kb_14) (hw _ kb_15) rfl (by decide +kernel) ⟨Nat.le_of_ble_eq_true rfl, Nat.le_of_ble_eq_true rfl⟩) ⟨kPreI_blind, fun U hU hW => ⟨⟨rfl, by rw [hU], by rw [hU]; exact hP, va_K.moved hW.alike hK1⟩, va_Nw.warmM hW hNl, va_AO.moved hW.alike hAO⟩⟩ rfl rfl hl.1 rfl (lv_room (Nat.le_of_ble_eq_true rfl)) d_L_law_9 ⟨Nat.le_of_ble_eq_true rfl, Nat.le_of_ble_eq_true rfl⟩) hS hA (fun q h => by rw [List.mem_singleton.mp h]; exact hD.2 0 _ rfl) (fun u H1 locs hu hPk hz ho hS1 => ?_)
  obtain ⟨ar, nb, ga, ha, oa⟩ := u
  obtain ⟨hnd, hne⟩ := hu
  dsimp only at hnd hne hPk
  have hdA : A d := hD.2 0 _ rfl
  have hAk : ∀ q ∈ kad d ar nb ga ha oa, A q := fun q h => (hne q h).elim (fun z => by rw [z]; exact hdA) (fun z => hA q (Nat.le_trans hS.1 z))
  refine lv_astore_n (lv' := [(1, .ref d), (0, .ref b)]) hx hb d_L_law_12 rfl hl (by decide) rfl (fun ls hl => ?_)
  have hPk : va_P (dC, dI) vwCl (kwv cI cJ cR d ar nb ga ha oa (k_lg (if L = 0 then 0 else xs 0), 0, 1000, 0, kG0)) H1 := hPk
  have hDk : va_D A (kwv cI cJ cR d ar nb ga ha oa (k_lg (if L = 0 then 0 else xs 0), 0, 1000, 0, kG0)) := kl_D (by rw [kw_ad]; exact hnd) (by rw [kw_ad]; exact hAk)
  refine va_new (ci := 3) (fs := [.int 0, .int 0, .int 0, .int 0, .int 0, .null, .null, .null, .null, .null, .null, .null]) (C := R_M) (T := F_M) (N := 12) hx hb hw i_M t_M t_M_ok hown (hw _ kb_329) (hw _ kb_330) (hw _ kb_6) hK1 hPk hDk hS1 hA rfl (fun j hj => by rcases (show j = 0 ∨ j = 1 ∨ j = 2 ∨ j = 3 ∨ j = 4 ∨ j = 5 ∨ j = 6 ∨ j = 7 ∨ j = 8 ∨ j = 9 ∨ j = 10 ∨ j = 11 by omega) with rfl | rfl | rfl | rfl | rfl | rfl | rfl | rfl | rfl | rfl | rfl | rfl <;> rfl) (Nat.le_of_ble_eq_true rfl) (Nat.le_of_ble_eq_true rfl) d_L_law_13 (fun m0 H hP hD hS => ?_)
  have hPk := kl_L hP
  have hPq := kl_R hP
  have hm0 : m0 ∉ kad d ar nb ga ha oa := fun z => by
    have h1 := kl_nd hD
    rw [List.map_append, List.nodup_append, kw_ad] at h1
    exact h1.2.2 m0 z m0 (by simp) rfl
  have hmA : A m0 := hD.2 27 _ kw_oat
  have hlt := kl_lt hP
  refine lv_dup hx hb d_L_law_16 rfl ?_
  refine lv_aload_n hx hb d_L_law_17 rfl (lv_at hl 1 rfl) ?_
  refine lv_iconst (v := 0) hx hb d_L_law_18 (by decide) ?_
  refine vp_callSi (W.runS (As := [.ref b, .int 0]) (rest := [.ref m0, .ref m0]) ⟨hx, hb, hml, hown, hw⟩ (c_L_cell l b L xs (by omega)) (va_cwS 2 hw (kb_S kb_113 kb_114 kb_0 kb_115) rfl rfl rfl (by decide +kernel) ⟨Nat.le_of_ble_eq_true rfl, Nat.le_of_ble_eq_true rfl⟩) ⟨hXb, fun U hU hW => ⟨rfl, by rw [hU]; exact va_X.moved hW.alike (hX.kept (hS.2.1 b hbl (hnA b hbl)))⟩⟩ rfl rfl hl.1 rfl (lv_room (Nat.le_of_ble_eq_true rfl)) d_L_law_19 ⟨Nat.le_of_ble_eq_true rfl, Nat.le_of_ble_eq_true rfl⟩) (fun r9 e9 => ?_)
  subst e9
  refine kc_v (σ := Nat → Nat) (Wd := fun u => mw cI cJ cZ u 0 (k_lg (if L = 0 then 0 else xs 0)) 0 1000 0 (mMi 8)) (L := [m0]) (va_runI (As := [.int (if L = 0 then 0 else xs 0)]) (rest := [.ref m0]) ⟨hx, hb, hml, hown, hw⟩ (c_M_init l m0 (if L = 0 then 0 else xs 0) _) (cwI 1 hw (kb_self kb_333) rfl rfl rfl (hw _ kb_6) (hw _ kb_331) (hw _ kb_332) rfl (by decide +kernel) ⟨Nat.le_of_ble_eq_true rfl, Nat.le_of_ble_eq_true rfl⟩) (kPS hPq hK2) rfl rfl hl.1 rfl (lv_room (Nat.le_of_ble_eq_true rfl)) d_L_law_22 ⟨Nat.le_of_ble_eq_true rfl, Nat.le_of_ble_eq_true rfl⟩) hS hA (fun q h => by rw [List.mem_singleton.mp h]; exact hmA) (fun a H2 locs hu hPm hz2 ho hS2 => ?_)
  obtain ⟨ha0, hma, hmn⟩ := hu
  have hPm : va_P (dC, dI) vwCl (mwv cI cJ cZ a (0, k_lg (if L = 0 then 0 else xs 0), 0, 1000, 0, mMi 8)) H2 := hPm
  have hPk := kl_keep hPk (L := [m0]) (fun q hq z => hm0 (by rw [kw_ad] at hq; rw [← List.mem_singleton.mp z]; exact hq)) ho
  have hAm : ∀ q ∈ mad a, A q := fun q h => (hmn q h).elim (fun z => by rw [z]; exact hmA) (fun z => hA q (Nat.le_trans hS.1 z))
  have hkm : ∀ q ∈ mad a, q ∉ kad d ar nb ga ha oa := fun q h z => by
    rcases hmn q h with y | y
    · rw [y] at z; exact hm0 z
    · have := hlt q (by rw [List.map_append, kw_ad]; exact List.mem_append_left _ z)
      omega
  refine lv_astore_n (lv' := [(2, .ref m0), (1, .ref d), (0, .ref b)]) hx hb d_L_law_25 rfl hl (by decide) rfl (fun ls hl => ?_)
  refine lv_iconst (v := 1) hx hb d_L_law_26 (by decide) ?_
  have hP := va_P.app hPk hPm
  have hD : va_D A (kwv cI cJ cR d ar nb ga ha oa (k_lg (if L = 0 then 0 else xs 0), 0, 1000, 0, kG0) ++ mwv cI cJ cZ a (0, k_lg (if L = 0 then 0 else xs 0), 0, 1000, 0, mMi 8)) := kl_D (by rw [List.map_append, kw_ad]; exact List.nodup_append.mpr ⟨hnd, hma, fun x hx1 y hy1 e => hkm y hy1 (by rw [← e]; exact hx1)⟩) (by rw [List.map_append, kw_ad]; intro q hq; exact (List.mem_append.mp hq).elim (hAk q) (hAm q))
  refine va_newa (atype := .long) (a0 := (1, .inr (.inl (fun _ => 0)))) hx hb (hw _ kb_81) rfl hK1 hP hD hS2 hA (fun _ => rfl) (by decide) rfl (by decide) (Nat.le_of_ble_eq_true rfl) (Nat.le_of_ble_eq_true rfl) d_L_law_27 (fun o cA H hKn hP hD hS => ?_)
  obtain rfl : cJ = cA := Option.some.inj ((hKn.2 1 _ rfl).2.symm.trans (hKn.2 3 _ rfl).2)
  have hPk := va_P.app (kl_L (kl_L hP)) (kl_R hP)
  have hPm := kl_R (kl_L hP)
  have hnn := kl_nd hD
  rw [List.map_append, List.map_append, kw_ad] at hnn
  have hnO := (List.nodup_append.mp hnn).2.2
  have hno : o ∉ kad d ar nb ga ha oa := fun z => hnO o (List.mem_append_left _ z) o (by simp) rfl
  have hom : ∀ q ∈ mad a, q ≠ o := fun q h z => hnO q (List.mem_append_right _ h) o (by simp) z
  have hoA : A o := by
    have h1 := hD.2 35 (o, .inl (cJ, (1, .inr (.inl (fun _ => 0))))) (by rw [List.getElem?_append_right (by rw [List.length_append, kw_len]; exact Nat.le_refl _), List.length_append, kw_len]; rfl)
    exact h1
  refine lv_astore_n (lv' := [(3, .ref o), (2, .ref m0), (1, .ref d), (0, .ref b)]) hx hb d_L_law_29 rfl hl (by decide) rfl (fun ls hl => ?_)
  refine lv_iconst (v := 1) hx hb d_L_law_30 (by decide) ?_
  refine lv_istore (lv' := [(4, .int 1), (3, .ref o), (2, .ref m0), (1, .ref d), (0, .ref b)]) hx hb d_L_law_31 hl (by decide) rfl (fun ls hl => ?_)
  refine W.widen (k := 100 + 4 * 0) (n := 1000 + 24 * 0) (Nat.le_of_ble_eq_true rfl) (Nat.le_of_ble_eq_true rfl) ?_
  subst hAe
  rw [← ha0] at hl
  exact lp_law (xs := xs) hl0 hx hb hml hown hw hK1 hK2 hZ hX hbl hnd hno hma (fun q h z => (List.mem_append.mp z).elim (hkm q h) (fun y => hom q h (List.mem_singleton.mp y))) (fun q h => (List.mem_append.mp h).elim (hAk q) (fun y => by rw [List.mem_singleton.mp y]; exact hoA)) hAm hL hr hlocks 513 0 _ _ _ _ _ ls rfl (rel_init (if L = 0 then 0 else xs 0)) hPk hPm hS hl
set_option maxHeartbeats 4000000 in
theorem lw_walk (l : Launch) (hl0 : l.stackTraces = false) (b : Addr) (xs : List Int32) : MetFree l x (headSpec (Jvm.Cond.code x code maxLocals ret :: tables_1) room_1) (lw_P b xs) (fun _ _ _ _ _ => True) lw_Q := by
  refine MetFree.of_bodyS (code := code) (maxLocals := maxLocals) (ret := ret) (by decide) ?_ ?_
  · intro args s m h hn
    obtain ⟨meth, c, h1, h2, h3, h4, h5, h6, -, -⟩ := Cond.code_spec hn (atoms_spec (ws := Jvm.Cond.code x code maxLocals ret :: tables_1) h _ List.mem_cons_self)
    exact ⟨meth, c, h1, h2, h3, h4, h5, h6⟩
  · intro p e s m args below meth c s₁ B hml0 hP _
    obtain ⟨rfl, hx, hbd, hgv⟩ := hP
    obtain ⟨scr, harrAt, hlist, hof, hsmall⟩ := hx
    obtain ⟨hcb, hkn, -, -⟩ := State.arrayAt?_spec harrAt
    have hown : s.vm.findClass R_law = some m.cls := findClass_of_methodNamed B.named
    have hts0 : ∀ c ∈ (Jvm.Cond.code x code maxLocals ret :: tables_1), c.before #[Value.ref b] s = true := atoms_spec (ws := Jvm.Cond.code x code maxLocals ret :: tables_1) B.pre
    have hts : ∀ w ∈ lw_tbl, w.before #[Value.ref b] s = true := k2_hts_sels lw_privs (fun w hw => hts0 w (List.mem_cons_of_mem _ hw)) lw_privs_ok
    have hml : c.maxLocals = 8 := B.maxLocals_eq (hts0 _ List.mem_cons_self)
    have X₀ : Stand p l e room_1 s m #[Value.ref b] below meth c s₁ [] 0 0 := Stand.of_body B
    have hh0 : s₁.heap = s.heap := by rw [B.state]; rfl
    have hsz : scr.slots.size = xs.length := by rw [← Array.length_toList, hlist, List.length_map]
    have hval : ∀ j : Nat, j < xs.length → scr.slots[j]? = some (.int (xs.getD j 0)) := fun j hj => by
      rw [← Array.getElem?_toList, hlist]
      simp [hj]
    have hbl : b < s.heap.size := (Array.getElem?_eq_some_iff.mp hcb).1
    have hX : va_X b xs.length (fun j => xs.getD j 0) s s.heap := ⟨scr, hcb, hof, hkn, hsz, hval⟩
    have K : W p l e room_1 s m #[Value.ref b] below meth c s₁.heap [] 0 0 (lw_Z below #[Value.ref b] s) (entryFrame m ([Value.ref b] : List Value).toArray 8) := by
      rw [hh0]
      exact whole_start l hl0 hbd ⟨B.exec, B.bytes, B.returns, hml, hown, hts, hX, hbl, B.notSynchronized, hgv⟩
    obtain ⟨t, a1, o, b1, b2, b3⟩ := K s₁ rfl X₀
    exact ⟨t, o, a1, b1, b2, b3⟩
theorem lw_pre_spec {args : Array Value} {s : State} (h : (Jvm.Cond.and given_1 narrow_1).before args s = true) (hr : rest_1_c.before args s = true) : ∃ (b : Addr) (xs : List Int32), lw_P b xs args s := by
  have hs := flat_of_before _ h
  have hq := flat_of_before _ hr
  have hc : (Cond.count 1).before args s = true := hs _ (by decide +kernel)
  have harr : (Cond.arrayOf (.arg 0) .int).before args s = true := hs _ (by decide +kernel)
  have hle : (Cond.le (.length (.arg 0)) (.int 3585)).before args s = true := hs _ (by decide +kernel)
  have hlen : (Cond.isInt (.length (.arg 0))).before args s = true := hq _ (by decide +kernel)
  have hall : (Cond.all (.arg 0) (.isInt (.elem (.arg 0) (.index 0)))).before args s = true := hq _ (by decide +kernel)
  obtain ⟨b, xs, hb, hx⟩ := State.ints_of_pre rfl harr hlen hall
  have hsm : xs.length < 2 ^ 31 := hx.choose_spec.2.2.2
  have hev : (Term.length (.arg 0)).eval args s none [] s = some (.int xs.length.toInt32) := hx.length_eval hb
  have hv := Cond.le_ints hev (show (Term.int 3585).eval args s none [] s = some (.int 3585) from rfl)
  have hd : xs.length.toInt32 ≤ 3585 := by
    simpa [Cond.before, Cond.holds, hv] using hle
  have hN : xs.length ≤ 3585 := (Int32.ofNat_le_ofNat hsm (by decide)).mp (show Int32.ofNat xs.length ≤ Int32.ofNat 3585 from hd)
  exact ⟨b, xs, Cond.one_arg hc (show args[0]? = some (.ref b) from hb), hx, hN, h⟩
theorem lw_comes (l : Launch) (hl0 : l.stackTraces = false) : Comes l x (Jvm.Cond.code x code maxLocals ret :: tables_1) room_1 (fun tb e args s => Calls_1 tb e args s ∧ rest_1 tb e args s ∧ Pre_1 tb e args s)
    (fun _ _ args s o t => lw_Q args s o t) := by
  intro p e ha hc hk s m args below hf hfit hheap happ hpre
  obtain ⟨b, xs, hP⟩ := lw_pre_spec hpre.2.2 hpre.2.1
  obtain ⟨k, o, h1, h2, h3, hQ⟩ := lw_walk l hl0 b xs p e ha hc hk s m args below hf ((Spec.applies_iff_loose hf).mp happ).1 hP trivial
  exact ⟨k, o, h1, h2, h3, hQ⟩
theorem lw_frame {s t : State} {o : Outcome} {args : Array Value} (h : Framed s o t [] 649434 7147768) :
    Framed s o t (fieldLocs frame_1_writes args s ++ arrayLocs frame_1_arrays args s ++ staticLocs frame_1_statics s) 649434 7147768 := h
theorem lw_limb (L : Cond) (hL : ∀ (args : Array Value) (s t : State), L.after args s (.returned (some (.int 1))) t = true) :
    ArmFor flags0 classFile x code maxLocals ret World_1 tables_1 room_1 Calls_1 rest_1 Pre_1
      (fun tb e a s o t => postC L tb e a s o t ∧ Framed s o t (fieldLocs frame_1_writes a s ++ arrayLocs frame_1_arrays a s ++ staticLocs frame_1_statics s) 649434 7147768) := by
  intro l hfl _ _ p e ha hc hk s m args below hf hfit hheap happ hpre
  obtain ⟨k, o, h1, h2, h3, rfl, hF⟩ := lw_comes l (by unfold Launch.stackTraces; rw [hfl]; decide +kernel) p e ha hc hk s m args below hf hfit hheap happ hpre
  exact ⟨k, _, h1, h2, h3, hL args s _, lw_frame hF⟩
theorem i_vc : Claimed_1_1 ∧ Claimed_1_2 := ⟨lw_limb limb_1_1 (fun args s t => by simp [limb_1_1, Cond.after, Cond.holds, Cond.value]), lw_limb limb_1_2 (fun args s t => Cond.after_iff.mpr (by
  first | (rw [show limb_1_2 = Cond.eq .result (.int 1) from rfl, Cond.eq_ints (x := 1) (y := 1) rfl rfl]; simp; done) | (simp [limb_1_2, Cond.value, Term.eval]; done)))⟩
