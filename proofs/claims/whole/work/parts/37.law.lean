/-! THE CLAIM OUT OF ONE WALK OF THE LAW'S BODY. Your part is whole_start (and what it stands on); all else here is the same for every law, but numbers. -/
def R_law : String := "GroupDeskLaw"
def lw_P (b : Addr) (xs : List Int32) (args : Array Value) (s : State) : Prop := args = #[.ref b] ∧ s.IntsAt b xs ∧ xs.length ≤ 3585 ∧ (Jvm.Cond.and given_1 narrow_1).before args s = true
def lw_Q (_ : Array Value) (s : State) (o : Outcome) (t : State) : Prop := o = .returned (some (.int 1)) ∧ Framed s o t [] 649434 7147768
def lw_Z (below : List Frame) (a : Array Value) (s : State) : State → Prop := fun t => ∃ o, t.status = .running ∧ Ended t below o ∧ lw_Q a s o t
/-- the law's own end, with 1 on the stack, nothing written that was there before, its room as the claim has it -/
theorem lw_ret {p : Program} {l : Launch} {e : Env} {s : State} {m : MethodId} {below : List Frame} {meth : Method} {c : Code} {b : Nat} (hx : p.tables.exec = Jvm.exec) (hb : c.code = code) (hr : meth.sig.returnType = ret) (hlocks : meth.locks = false) {pc : Nat} {H : Heap} {ls : Array Slot} (hdg : decode code pc = .ok (.ireturn, 1)) : W p l e room_1 s m #[Value.ref b] below meth c H [] 649434 7147768 (lw_Z below #[Value.ref b] s) (F0 m pc ls [.int 1]) := by
  intro T hT X
  obtain ⟨fs, hret, hrun, hended, hW, hframe⟩ := X.leave (v := some (.int 1)) (hlocks := hlocks) (fun h => by rw [hr] at h; cases h)
  have hmeth' : T.vm.method? m = some meth := X.method'
  refine ⟨T.setFrames fs, ?_, .returned (some (.int 1)), hrun, hended, rfl, ⟨_, rfl⟩, hW, hframe⟩
  jvm_step X.here [X.here.top, hx, hb, hdg, hmeth', hr, ret, narrow_b1]
  (try refine ⟨rfl, ?_⟩); (try refine ⟨rfl, ?_⟩)
  first | (intro acts; rw [hret _ acts rfl rfl rfl]) | rw [hret _ _ rfl rfl rfl]
  exact Steps.refl _
/-- what holds at the law's entry: the machine, the code, the tables' words (any of lw_tbl by 'hts w (by decide +kernel)'), the script of L ints xs at the cell b, what the Statement gives of the start (any of its parts by flat_of_before) -/
def lw_At (p : Program) (s : State) (m : MethodId) (meth : Method) (c : Code) (b L : Nat) (xs : Nat → Int32) : Prop :=
  p.tables.exec = Jvm.exec ∧ c.code = code ∧ meth.sig.returnType = ret ∧ c.maxLocals = 8 ∧ s.vm.findClass R_law = some m.cls ∧ (∀ w ∈ lw_tbl, w.before #[Value.ref b] s = true) ∧ va_X b L xs s s.heap ∧ b < s.heap.size ∧ meth.locks = false ∧ (Jvm.Cond.and given_1 narrow_1).before #[Value.ref b] s = true
theorem law_cmp {L i : Nat} (hL : L ≤ 3585) (hi : i < 5000) : nI L - 7 < nI i ↔ L < i + 7 := by
  rw [Int32.lt_iff_toInt_lt, Int32.toInt_sub, nI_toInt (by omega), nI_toInt (by omega), show (7 : Int32).toInt = 7 from rfl, Int.bmod_eq_of_le (by omega) (by omega)]
  omega
set_option maxHeartbeats 4000000 in
set_option maxRecDepth 100000 in
theorem lp_law {p : Program} {l : Launch} {e : Env} {s : State} {m : MethodId} {below : List Frame} {meth : Method} {c : Code} {b L : Nat} {xs : Nat → Int32} {dC : Nat → ClassId} {dI : Nat → Nat → Nat} {cI cJ cR cZ : ClassId} {d ar nb o : Nat} {ga ha oa a : Nat → Nat} (hl0 : l.stackTraces = false) (hx : p.tables.exec = Jvm.exec) (hb : c.code = b_L_law) (hml : c.maxLocals = 8) (hown : s.vm.findClass "GroupDeskLaw" = some m.cls) (hw : ∀ w ∈ kb_B, w.before #[Value.ref b] s = true) (hK1 : va_K (dC, dI) vwCl (kty cI cJ cR) s) (hK2 : va_K (dC, dI) vwCl (mty cI cJ cZ) s) (hZ : kt_Z s) (hX : va_X b L xs s s.heap) (hbl : b < s.heap.size) (hnd : (kad d ar nb ga ha oa).Nodup) (hno : o ∉ kad d ar nb ga ha oa) (hma : (mad a).Nodup) (hdis : ∀ q ∈ mad a, q ∉ (kad d ar nb ga ha oa ++ [o])) (hAk : ∀ q ∈ (kad d ar nb ga ha oa ++ [o]), s.heap.size ≤ q) (hAm : ∀ q ∈ mad a, s.heap.size ≤ q) (hL : L ≤ 3585) (hr : meth.sig.returnType = ret) (hlocks : meth.locks = false) : ∀ (r n : Nat) (v : kDV) (w : mDV) (f : Nat → Int64) (H : Heap) (locs : List Loc) (ls : Array Slot), n + r = 513 → kRel v w → va_P (dC, dI) vwCl (kwv cI cJ cR d ar nb ga ha oa v ++ [(o, .inl (cJ, 1, .inr (.inl f)))]) H → va_P (dC, dI) vwCl (mwv cI cJ cZ a w) H → va_S (fun q : Nat => s.heap.size ≤ q) s.heap H locs → lv_has ls 8 [(4, .int (nI (1 + 7 * n))), (3, .ref o), (2, .ref (a 0)), (1, .ref d), (0, .ref b)] → W p l e room_1 s m #[Value.ref b] below meth c H locs (100 + 4 * n) (1000 + 24 * n) (lw_Z below #[Value.ref b] s) (F0 m 33 ls []) := by
  intro r
  induction r with
  | zero =>
    intro n v w f H locs ls hn hR hPk hPm hS hl
    refine lv_iload hx hb d_L_law_33 (lv_at hl 0 rfl) ?_
    refine lv_aload_n hx hb d_L_law_35 rfl (lv_at hl 4 rfl) ?_
    refine va_slen hx hb hX hbl (Nat.not_le.mpr hbl) hS d_L_law_36 ?_
    refine lv_bipush (v := 7) hx hb d_L_law_37 (by decide) ?_
    refine lv_isub hx hb d_L_law_39 ?_
    refine lv_icmp_gt (tgt := 809) hx hb d_L_law_40 (by decide) (fun c_1 => ?_) (fun c_1 => ?_)
    · refine lv_iconst (v := 1) hx hb d_L_law_809 (by decide) ?_
      refine va_forget (fun q hq => hS.2.2 q hq) ?_
      refine W.widen (k := 649434) (n := 7147768) (by omega) (by omega) ?_
      exact lw_ret hx hb hr hlocks d_L_law_810
    · exact absurd ((law_cmp (L := L) (i := 1 + 7 * n) hL (by omega)).mpr (by omega)) c_1
  | succ r ih =>
    intro n v w f H locs ls hn hR hPk hPm hS hl
    refine lv_iload hx hb d_L_law_33 (lv_at hl 0 rfl) ?_
    refine lv_aload_n hx hb d_L_law_35 rfl (lv_at hl 4 rfl) ?_
    refine va_slen hx hb hX hbl (Nat.not_le.mpr hbl) hS d_L_law_36 ?_
    refine lv_bipush (v := 7) hx hb d_L_law_37 (by decide) ?_
    refine lv_isub hx hb d_L_law_39 ?_
    refine lv_icmp_gt (tgt := 809) hx hb d_L_law_40 (by decide) (fun c_1 => ?_) (fun c_1 => ?_)
    · refine lv_iconst (v := 1) hx hb d_L_law_809 (by decide) ?_
      refine va_forget (fun q hq => hS.2.2 q hq) ?_
      refine W.widen (k := 649434) (n := 7147768) (by omega) (by omega) ?_
      exact lw_ret hx hb hr hlocks d_L_law_810
    · have hi : 1 + 7 * n + 7 ≤ L := Nat.le_of_not_lt (fun z => c_1 ((law_cmp (L := L) (i := 1 + 7 * n) hL (by omega)).mpr z))
      have kk : ∀ (v : kDV) (w : mDV) (f : Nat → Int64) (H : Heap) (locs : List Loc) (ls : Array Slot), kRel v w → va_P (dC, dI) vwCl (kwv cI cJ cR d ar nb ga ha oa v ++ [(o, .inl (cJ, 1, .inr (.inl f)))]) H → va_P (dC, dI) vwCl (mwv cI cJ cZ a w) H → va_S (fun q : Nat => s.heap.size ≤ q) s.heap H locs → lv_has ls 8 [(4, .int (nI (1 + 7 * n))), (3, .ref o), (2, .ref (a 0)), (1, .ref d), (0, .ref b)] → W p l e room_1 s m #[Value.ref b] below meth c H locs (100 + 4 * n + 4) (1000 + 24 * n + 24) (lw_Z below #[Value.ref b] s) (F0 m 803 ls []) := by
        intro v w f H locs ls hR hPk hPm hS hl
        refine lv_iinc (v := nI (1 + 7 * n) + 7) (lv' := [(4, .int (nI (1 + 7 * n) + 7)), (3, .ref o), (2, .ref (a 0)), (1, .ref d), (0, .ref b)]) hx hb d_L_law_803 hl (k := 0) rfl rfl (by decide) rfl (fun ls hl => ?_)
        refine lv_goto (tgt := 33) hx hb d_L_law_806 (by decide) ?_
        refine W.cs (cells' := 100 + 4 * (n + 1)) (slots' := 1000 + 24 * (n + 1)) (by omega) (by omega) ?_
        refine ih (n + 1) v w f H locs ls (by omega) hR hPk hPm hS ?_
        rw [show nI (1 + 7 * (n + 1)) = nI (1 + 7 * n) + 7 from (nI_add (1 + 7 * n) 7).symm]
        exact hl
      refine lv_aload_n hx hb d_L_law_43 rfl (lv_at hl 4 rfl) ?_
      refine lv_iload hx hb d_L_law_44 (lv_at hl 0 rfl) ?_
      refine va_sld hx hb hX hbl (Nat.not_le.mpr hbl) hS (vp_in_nI (show 1 + 7 * n < L by omega) (by omega)) d_L_law_46 ?_
      refine lv_bipush (v := 15) hx hb d_L_law_47 (by decide) ?_
      refine lv_iand hx hb d_L_law_49 ?_
      generalize xs (nI (1 + 7 * n)).toNatClampNeg &&& 15 = kx
      by_cases hsw : vp_in kx 11
      · obtain ⟨lg1, tm1, lf1, wr1, G⟩ := v
        obtain ⟨co, lg, tm, lf, wr, M⟩ := w
        have hR0 := hR
        obtain ⟨rfl, rfl, rfl, rfl, -⟩ := hR0
        obtain ⟨q, hq, rfl⟩ := vp_in_of hsw (by decide)
        rcases (show q = 0 ∨ q = 1 ∨ q = 2 ∨ q = 3 ∨ q = 4 ∨ q = 5 ∨ q = 6 ∨ q = 7 ∨ q = 8 ∨ q = 9 ∨ q = 10 by omega) with rfl | rfl | rfl | rfl | rfl | rfl | rfl | rfl | rfl | rfl | rfl
        · refine lv_tableIn (tgt := 108) hx hb d_L_law_50 (by decide) (by decide) rfl (by decide) ?_
          exact lc_join hl0 hx hb hml hown hw hK1 hK2 hZ hX hbl hnd hno hma hdis hAk hAm hL hi (cs := 100 + 4 * n) (ss := 1000 + 24 * n) (by omega) (by omega) hR hPk hPm hS hl kk
        · refine lv_tableIn (tgt := 176) hx hb d_L_law_50 (by decide) (by decide) rfl (by decide) ?_
          exact lc_leave hl0 hx hb hml hown hw hK1 hK2 hZ hX hbl hnd hno hma hdis hAk hAm hL hi (cs := 100 + 4 * n) (ss := 1000 + 24 * n) (by omega) (by omega) hR hPk hPm hS hl kk
        · refine lv_tableIn (tgt := 244) hx hb d_L_law_50 (by decide) (by decide) rfl (by decide) ?_
          exact lc_beat hl0 hx hb hml hown hw hK1 hK2 hZ hX hbl hnd hno hma hdis hAk hAm hL hi (cs := 100 + 4 * n) (ss := 1000 + 24 * n) (by omega) (by omega) hR hPk hPm hS hl kk
        · refine lv_tableIn (tgt := 324) hx hb d_L_law_50 (by decide) (by decide) rfl (by decide) ?_
          exact lc_commit hl0 hx hb hml hown hw hK1 hK2 hZ hX hbl hnd hno hma hdis hAk hAm hL hi (cs := 100 + 4 * n) (ss := 1000 + 24 * n) (by omega) (by omega) hR hPk hPm hS hl kk
        · refine lv_tableIn (tgt := 462) hx hb d_L_law_50 (by decide) (by decide) rfl (by decide) ?_
          exact lc_committed hl0 hx hb hml hown hw hK1 hK2 hZ hX hbl hnd hno hma hdis hAk hAm hL hi (cs := 100 + 4 * n) (ss := 1000 + 24 * n) (by omega) (by omega) hR hPk hPm hS hl kk
        · refine lv_tableIn (tgt := 529) hx hb d_L_law_50 (by decide) (by decide) rfl (by decide) ?_
          exact lc_group hl0 hx hb hml hown hw hK1 hK2 hZ hX hbl hnd hno hma hdis hAk hAm hL hi (cs := 100 + 4 * n) (ss := 1000 + 24 * n) (by omega) (by omega) hR hPk hPm hS hl kk
        · refine lv_tableIn (tgt := 597) hx hb d_L_law_50 (by decide) (by decide) rfl (by decide) ?_
          exact lc_share hl0 hx hb hml hown hw hK1 hK2 hZ hX hbl hnd hno hma hdis hAk hAm hL hi (cs := 100 + 4 * n) (ss := 1000 + 24 * n) (by omega) (by omega) hR hPk hPm hS hl kk
        · refine lv_tableIn (tgt := 665) hx hb d_L_law_50 (by decide) (by decide) rfl (by decide) ?_
          exact lc_room hl0 hx hb hml hown hw hK1 hK2 hZ hX hbl hnd hno hma hdis hAk hAm hL hi (cs := 100 + 4 * n) (ss := 1000 + 24 * n) (by omega) (by omega) hR hPk hPm hS hl kk
        · refine lv_tableIn (tgt := 721) hx hb d_L_law_50 (by decide) (by decide) rfl (by decide) ?_
          exact lc_restart hl0 hx hb hml hown hw hK1 hK2 hZ hX hbl hnd hno hma hdis hAk hAm hL hi (cs := 100 + 4 * n) (ss := 1000 + 24 * n) (by omega) (by omega) hR hPk hPm hS hl kk
        · refine lv_tableIn (tgt := 734) hx hb d_L_law_50 (by decide) (by decide) rfl (by decide) ?_
          exact lc_ticks hl0 hx hb hml hown hw hK1 hK2 hZ hX hbl hnd hno hma hdis hAk hAm hL hi (cs := 100 + 4 * n) (ss := 1000 + 24 * n) (by omega) (by omega) hR hPk hPm hS hl kk
        · refine lv_tableIn (tgt := 790) hx hb d_L_law_50 (by decide) (by decide) rfl (by decide) ?_
          exact lc_notes hl0 hx hb hml hown hw hK1 hK2 hZ hX hbl hnd hno hma hdis hAk hAm hL hi (cs := 100 + 4 * n) (ss := 1000 + 24 * n) (by omega) (by omega) hR hPk hPm hS hl kk
      · refine lv_tableOut (tgt := 803) hx hb d_L_law_50 (by rw [vp_in_iff] at hsw; omega) (by decide) ?_
        refine W.widen (k := 100 + 4 * n + 4) (n := 1000 + 24 * n + 24) (by omega) (by omega) ?_
        exact kk v w f H locs ls hR hPk hPm hS hl
