set_option maxHeartbeats 4000000 in
set_option maxRecDepth 100000 in
theorem lc_join {p : Program} {l : Launch} {e : Env} {s : State} {m : MethodId} {below : List Frame} {meth : Method} {c : Code} {Q : State → Prop} {b L i : Nat} {xs : Nat → Int32} {dC : Nat → ClassId} {dI : Nat → Nat → Nat} {cI cJ cR cZ : ClassId} {d ar nb o : Nat} {ga ha oa a : Nat → Nat} (hl0 : l.stackTraces = false) (hx : p.tables.exec = Jvm.exec) (hb : c.code = b_L_law) (hml : c.maxLocals = 8) (hown : s.vm.findClass "GroupDeskLaw" = some m.cls) (hw : ∀ w ∈ kb_B, w.before #[Value.ref b] s = true) (hK1 : va_K (dC, dI) vwCl (kty cI cJ cR) s) (hK2 : va_K (dC, dI) vwCl (mty cI cJ cZ) s) (hZ : kt_Z s) (hX : va_X b L xs s s.heap) (hbl : b < s.heap.size) (hnd : (kad d ar nb ga ha oa).Nodup) (hno : o ∉ kad d ar nb ga ha oa) (hma : (mad a).Nodup) (hdis : ∀ q ∈ mad a, q ∉ (kad d ar nb ga ha oa ++ [o])) (hAk : ∀ q ∈ (kad d ar nb ga ha oa ++ [o]), s.heap.size ≤ q) (hAm : ∀ q ∈ mad a, s.heap.size ≤ q) (hL : L ≤ 3585) (hi : i + 7 ≤ L) {lg tm lf wr co : Int32} {G : Nat → kGV} {M : Nat → mGV} {f : Nat → Int64} {H : Heap} {locs : List Loc} {ls : Array Slot} {cs ss : Nat} (hcs : cs + 4 ≤ 649434) (hss : ss + 24 ≤ 7147768) (hR : kRel (lg, tm, lf, wr, G) (co, lg, tm, lf, wr, M)) (hPk : va_P (dC, dI) vwCl (kwv cI cJ cR d ar nb ga ha oa (lg, tm, lf, wr, G) ++ [(o, .inl (cJ, 1, .inr (.inl f)))]) H) (hPm : va_P (dC, dI) vwCl (mwv cI cJ cZ a (co, lg, tm, lf, wr, M)) H) (hS : va_S (fun q : Nat => s.heap.size ≤ q) s.heap H locs) (hl : lv_has ls 8 [(4, .int (nI i)), (3, .ref o), (2, .ref (a 0)), (1, .ref d), (0, .ref b)])
    (kk : ∀ (v : kDV) (w : mDV) (f : Nat → Int64) (H : Heap) (locs : List Loc) (ls : Array Slot), kRel v w → va_P (dC, dI) vwCl (kwv cI cJ cR d ar nb ga ha oa v ++ [(o, .inl (cJ, 1, .inr (.inl f)))]) H → va_P (dC, dI) vwCl (mwv cI cJ cZ a w) H → va_S (fun q : Nat => s.heap.size ≤ q) s.heap H locs → lv_has ls 8 [(4, .int (nI i)), (3, .ref o), (2, .ref (a 0)), (1, .ref d), (0, .ref b)] → W p l e room_1 s m #[Value.ref b] below meth c H locs (cs + 4) (ss + 24) Q (F0 m 803 ls [])) : W p l e room_1 s m #[Value.ref b] below meth c H locs cs ss Q (F0 m 108 ls []) := by
  have hnA : ∀ q : Nat, q < s.heap.size → ¬ s.heap.size ≤ q := fun q h => Nat.not_le.mpr h
  have hA : ∀ q : Nat, s.heap.size ≤ q → (fun q : Nat => s.heap.size ≤ q) q := fun _ h => h
  refine lv_aload_n hx hb d_L_law_108 rfl (lv_at hl 3 rfl) ?_
  refine lv_aload_n hx hb d_L_law_109 rfl (lv_at hl 4 rfl) ?_
  refine lv_iload hx hb d_L_law_110 (lv_at hl 0 rfl) ?_
  refine lv_iconst (v := 1) hx hb d_L_law_112 (by decide) ?_
  refine lv_iadd hx hb d_L_law_113 ?_
  rw [show nI i + 1 = nI (i + 1) from nI_add i 1]
  refine va_sld hx hb hX hbl (hnA b hbl) hS (vp_in_nI (show i + 1 < L by omega) (by omega)) d_L_law_114 ?_
  rw [nI_clamp (show i + 1 < 2 ^ 31 by omega)]
  refine lv_aload_n hx hb d_L_law_115 rfl (lv_at hl 4 rfl) ?_
  refine lv_iload hx hb d_L_law_116 (lv_at hl 0 rfl) ?_
  refine lv_iconst (v := 2) hx hb d_L_law_118 (by decide) ?_
  refine lv_iadd hx hb d_L_law_119 ?_
  rw [show nI i + 2 = nI (i + 2) from nI_add i 2]
  refine va_sld hx hb hX hbl (hnA b hbl) hS (vp_in_nI (show i + 2 < L by omega) (by omega)) d_L_law_120 ?_
  rw [nI_clamp (show i + 2 < 2 ^ 31 by omega)]
  refine lv_aload_n hx hb d_L_law_121 rfl (lv_at hl 1 rfl) ?_
  refine kc_i (σ := kDV × (Nat → Int64)) (Wd := fun u => kwv cI cJ cR d ar nb ga ha oa u.1 ++ [(o, .inl (cJ, 1, .inr (.inl u.2)))]) (L := (kad d ar nb ga ha oa ++ [o])) (kx_runS (n := 4) (As := [.ref d, .int (xs (i + 1)), .int (xs (i + 2)), .ref o]) (rest := []) ⟨hx, hb, hml, hown, hw⟩ (c_L_join l hl0 hnd lg tm lf wr G hno (xs (i + 1)) (xs (i + 2)) f _) rfl kb_116 kb_117 kb_0 kb_118 rfl rfl (by decide +kernel) ⟨Nat.le_of_ble_eq_true rfl, Nat.le_of_ble_eq_true rfl⟩ (kPST hPk hK1 hZ hnA hS) rfl rfl hl.1 rfl (lv_room (Nat.le_of_ble_eq_true rfl)) d_L_law_122 ⟨by show cs + 2 ≤ 649434; omega, by show ss + 12 ≤ 7147768; omega⟩) hS hA hAk (fun r v H locs hw9 hPk _ ho hS => ?_)
  have hPm := kl_keep hPm (L := (kad d ar nb ga ha oa ++ [o])) hdis ho
  obtain ⟨v1, f1⟩ := v
  refine lv_istore (lv' := [(5, .int r), (4, .int (nI i)), (3, .ref o), (2, .ref (a 0)), (1, .ref d), (0, .ref b)]) hx hb d_L_law_125 hl (by decide) rfl (fun ls hl => ?_)
  refine lv_aload_n hx hb d_L_law_127 rfl (lv_at hl 3 rfl) ?_
  refine lv_aload_n hx hb d_L_law_128 rfl (lv_at hl 5 rfl) ?_
  refine lv_iload hx hb d_L_law_129 (lv_at hl 1 rfl) ?_
  refine lv_iconst (v := 1) hx hb d_L_law_131 (by decide) ?_
  refine lv_iadd hx hb d_L_law_132 ?_
  rw [show nI i + 1 = nI (i + 1) from nI_add i 1]
  refine va_sld hx hb hX hbl (hnA b hbl) hS (vp_in_nI (show i + 1 < L by omega) (by omega)) d_L_law_133 ?_
  rw [nI_clamp (show i + 1 < 2 ^ 31 by omega)]
  refine lv_aload_n hx hb d_L_law_134 rfl (lv_at hl 5 rfl) ?_
  refine lv_iload hx hb d_L_law_135 (lv_at hl 1 rfl) ?_
  refine lv_iconst (v := 2) hx hb d_L_law_137 (by decide) ?_
  refine lv_iadd hx hb d_L_law_138 ?_
  rw [show nI i + 2 = nI (i + 2) from nI_add i 2]
  refine va_sld hx hb hX hbl (hnA b hbl) hS (vp_in_nI (show i + 2 < L by omega) (by omega)) d_L_law_139 ?_
  rw [nI_clamp (show i + 2 < 2 ^ 31 by omega)]
  refine kc_i (σ := mDV) (Wd := mwv cI cJ cZ a) (L := mad a) (va_runV (As := [.int (xs (i + 1)), .int (xs (i + 2))]) (rest := []) ⟨hx, hb, hml, hown, hw⟩ (c_M_join l hma co lg tm lf wr M (xs (i + 1)) (xs (i + 2)) _) (cwV 2 hw (kb_V kb_378 kb_379 kb_380 kb_6 kb_381) rfl rfl rfl (by decide +kernel) ⟨Nat.le_of_ble_eq_true rfl, Nat.le_of_ble_eq_true rfl⟩) (kPV (va_recv hK2 hPm (ci := 3) (q0 := 0) rfl rfl) hPm hK2) rfl rfl hl.1 rfl (lv_room (Nat.le_of_ble_eq_true rfl)) d_L_law_140 ⟨by show cs + 2 + 0 ≤ 649434; omega, by show ss + 12 + 0 ≤ 7147768; omega⟩) hS hA hAm (fun r2 w H locs hm9 hPm _ ho hS => ?_)
  have hPk := kl_keep hPk (L := mad a) (fun q hq z => hdis q z (by rw [kw_oad] at hq; exact hq)) ho
  obtain ⟨h1, h2, hR1⟩ := ls_join hR hw9 hm9
  dsimp only at h2 hR1 hPk
  refine lv_istore (lv' := [(6, .int r2), (5, .int r), (4, .int (nI i)), (3, .ref o), (2, .ref (a 0)), (1, .ref d), (0, .ref b)]) hx hb d_L_law_143 hl (by decide) rfl (fun ls hl => ?_)
  refine lv_aload_n hx hb d_L_law_145 rfl (lv_at hl 4 rfl) ?_
  refine vp_callSi (W.runV (As := []) (rest := []) ⟨hx, hb, hml, hown, hw⟩ (c_M_thrown l hma w.1 w.2.1 w.2.2.1 w.2.2.2.1 w.2.2.2.2.1 w.2.2.2.2.2 _) (cwV 0 hw (kb_V kb_374 kb_375 kb_376 kb_6 kb_377) rfl rfl rfl (by decide +kernel) ⟨Nat.le_of_ble_eq_true rfl, Nat.le_of_ble_eq_true rfl⟩) (kPV (va_recv hK2 hPm (ci := 3) (q0 := 0) rfl rfl) hPm hK2) rfl rfl hl.1 rfl (lv_room (Nat.le_of_ble_eq_true rfl)) d_L_law_146 ⟨by show cs + 2 + 0 + 0 ≤ 649434; omega, by show ss + 12 + 0 + 0 ≤ 7147768; omega⟩) (fun r9 e9 => ?_)
  subst e9
  refine lv_iload hx hb d_L_law_149 (lv_at hl 1 rfl) ?_
  refine lv_icmp_eq (tgt := 156) hx hb d_L_law_151 (by decide) (fun c_1 => ?_) (fun c_1 => ?_)
  · refine lv_iload hx hb d_L_law_156 (lv_at hl 1 rfl) ?_
    refine lv_if_ne (tgt := 173) hx hb d_L_law_158 (by decide) (fun c_2 => ?_) (fun c_2 => ?_)
    · refine lv_goto (tgt := 803) hx hb d_L_law_173 (by decide) ?_
      refine W.widen (k := cs + 4) (n := ss + 24) (by show cs + 2 + 0 ≤ cs + 4; omega) (by show ss + 12 + 0 ≤ ss + 24; omega) ?_
      exact kk v1 w f1 H locs ls hR1 hPk hPm hS (lv_sub hl [2, 3, 4, 5, 6] rfl)
    · refine lv_aload_n hx hb d_L_law_161 rfl (lv_at hl 3 rfl) ?_
      refine lv_iconst (v := 0) hx hb d_L_law_162 (by decide) ?_
      refine va_lald hx hb hK1 hPk 27 1 kw_oat rfl (vp_in_nI (n := 0) (N := 1) (by decide) (by decide)) d_L_law_163 ?_
      refine lv_iload hx hb d_L_law_164 (lv_at hl 0 rfl) ?_
      refine lv_i2l hx hb d_L_law_166 rfl ?_
      refine W.lcmp hx hb d_L_law_167 ?_
      refine lv_if_eq (tgt := 173) hx hb d_L_law_168 (by decide) (fun c_3 => ?_) (fun c_3 => ?_)
      · refine lv_goto (tgt := 803) hx hb d_L_law_173 (by decide) ?_
        refine W.widen (k := cs + 4) (n := ss + 24) (by show cs + 2 + 0 ≤ cs + 4; omega) (by show ss + 12 + 0 ≤ ss + 24; omega) ?_
        exact kk v1 w f1 H locs ls hR1 hPk hPm hS (lv_sub hl [2, 3, 4, 5, 6] rfl)
      · exact absurd (lg_eq (h2 c_2)) c_3
  · exact absurd h1 c_1
set_option maxHeartbeats 4000000 in
set_option maxRecDepth 100000 in
theorem lc_leave {p : Program} {l : Launch} {e : Env} {s : State} {m : MethodId} {below : List Frame} {meth : Method} {c : Code} {Q : State → Prop} {b L i : Nat} {xs : Nat → Int32} {dC : Nat → ClassId} {dI : Nat → Nat → Nat} {cI cJ cR cZ : ClassId} {d ar nb o : Nat} {ga ha oa a : Nat → Nat} (hl0 : l.stackTraces = false) (hx : p.tables.exec = Jvm.exec) (hb : c.code = b_L_law) (hml : c.maxLocals = 8) (hown : s.vm.findClass "GroupDeskLaw" = some m.cls) (hw : ∀ w ∈ kb_B, w.before #[Value.ref b] s = true) (hK1 : va_K (dC, dI) vwCl (kty cI cJ cR) s) (hK2 : va_K (dC, dI) vwCl (mty cI cJ cZ) s) (hZ : kt_Z s) (hX : va_X b L xs s s.heap) (hbl : b < s.heap.size) (hnd : (kad d ar nb ga ha oa).Nodup) (hno : o ∉ kad d ar nb ga ha oa) (hma : (mad a).Nodup) (hdis : ∀ q ∈ mad a, q ∉ (kad d ar nb ga ha oa ++ [o])) (hAk : ∀ q ∈ (kad d ar nb ga ha oa ++ [o]), s.heap.size ≤ q) (hAm : ∀ q ∈ mad a, s.heap.size ≤ q) (hL : L ≤ 3585) (hi : i + 7 ≤ L) {lg tm lf wr co : Int32} {G : Nat → kGV} {M : Nat → mGV} {f : Nat → Int64} {H : Heap} {locs : List Loc} {ls : Array Slot} {cs ss : Nat} (hcs : cs + 4 ≤ 649434) (hss : ss + 24 ≤ 7147768) (hR : kRel (lg, tm, lf, wr, G) (co, lg, tm, lf, wr, M)) (hPk : va_P (dC, dI) vwCl (kwv cI cJ cR d ar nb ga ha oa (lg, tm, lf, wr, G) ++ [(o, .inl (cJ, 1, .inr (.inl f)))]) H) (hPm : va_P (dC, dI) vwCl (mwv cI cJ cZ a (co, lg, tm, lf, wr, M)) H) (hS : va_S (fun q : Nat => s.heap.size ≤ q) s.heap H locs) (hl : lv_has ls 8 [(4, .int (nI i)), (3, .ref o), (2, .ref (a 0)), (1, .ref d), (0, .ref b)])
    (kk : ∀ (v : kDV) (w : mDV) (f : Nat → Int64) (H : Heap) (locs : List Loc) (ls : Array Slot), kRel v w → va_P (dC, dI) vwCl (kwv cI cJ cR d ar nb ga ha oa v ++ [(o, .inl (cJ, 1, .inr (.inl f)))]) H → va_P (dC, dI) vwCl (mwv cI cJ cZ a w) H → va_S (fun q : Nat => s.heap.size ≤ q) s.heap H locs → lv_has ls 8 [(4, .int (nI i)), (3, .ref o), (2, .ref (a 0)), (1, .ref d), (0, .ref b)] → W p l e room_1 s m #[Value.ref b] below meth c H locs (cs + 4) (ss + 24) Q (F0 m 803 ls [])) : W p l e room_1 s m #[Value.ref b] below meth c H locs cs ss Q (F0 m 176 ls []) := by
  have hnA : ∀ q : Nat, q < s.heap.size → ¬ s.heap.size ≤ q := fun q h => Nat.not_le.mpr h
  have hA : ∀ q : Nat, s.heap.size ≤ q → (fun q : Nat => s.heap.size ≤ q) q := fun _ h => h
  refine lv_aload_n hx hb d_L_law_176 rfl (lv_at hl 3 rfl) ?_
  refine lv_aload_n hx hb d_L_law_177 rfl (lv_at hl 4 rfl) ?_
  refine lv_iload hx hb d_L_law_178 (lv_at hl 0 rfl) ?_
  refine lv_iconst (v := 1) hx hb d_L_law_180 (by decide) ?_
  refine lv_iadd hx hb d_L_law_181 ?_
  rw [show nI i + 1 = nI (i + 1) from nI_add i 1]
  refine va_sld hx hb hX hbl (hnA b hbl) hS (vp_in_nI (show i + 1 < L by omega) (by omega)) d_L_law_182 ?_
  rw [nI_clamp (show i + 1 < 2 ^ 31 by omega)]
  refine lv_aload_n hx hb d_L_law_183 rfl (lv_at hl 4 rfl) ?_
  refine lv_iload hx hb d_L_law_184 (lv_at hl 0 rfl) ?_
  refine lv_iconst (v := 2) hx hb d_L_law_186 (by decide) ?_
  refine lv_iadd hx hb d_L_law_187 ?_
  rw [show nI i + 2 = nI (i + 2) from nI_add i 2]
  refine va_sld hx hb hX hbl (hnA b hbl) hS (vp_in_nI (show i + 2 < L by omega) (by omega)) d_L_law_188 ?_
  rw [nI_clamp (show i + 2 < 2 ^ 31 by omega)]
  refine lv_aload_n hx hb d_L_law_189 rfl (lv_at hl 1 rfl) ?_
  refine kc_i (σ := kDV × (Nat → Int64)) (Wd := fun u => kwv cI cJ cR d ar nb ga ha oa u.1 ++ [(o, .inl (cJ, 1, .inr (.inl u.2)))]) (L := (kad d ar nb ga ha oa ++ [o])) (kx_runS (n := 4) (As := [.ref d, .int (xs (i + 1)), .int (xs (i + 2)), .ref o]) (rest := []) ⟨hx, hb, hml, hown, hw⟩ (c_L_leave l hl0 hnd lg tm lf wr G hno (xs (i + 1)) (xs (i + 2)) f _) rfl kb_223 kb_224 kb_0 kb_225 rfl rfl (by decide +kernel) ⟨Nat.le_of_ble_eq_true rfl, Nat.le_of_ble_eq_true rfl⟩ (kPST hPk hK1 hZ hnA hS) rfl rfl hl.1 rfl (lv_room (Nat.le_of_ble_eq_true rfl)) d_L_law_190 ⟨by show cs + 2 ≤ 649434; omega, by show ss + 12 ≤ 7147768; omega⟩) hS hA hAk (fun r v H locs hw9 hPk _ ho hS => ?_)
  have hPm := kl_keep hPm (L := (kad d ar nb ga ha oa ++ [o])) hdis ho
  obtain ⟨v1, f1⟩ := v
  refine lv_istore (lv' := [(5, .int r), (4, .int (nI i)), (3, .ref o), (2, .ref (a 0)), (1, .ref d), (0, .ref b)]) hx hb d_L_law_193 hl (by decide) rfl (fun ls hl => ?_)
  refine lv_aload_n hx hb d_L_law_195 rfl (lv_at hl 3 rfl) ?_
  refine lv_aload_n hx hb d_L_law_196 rfl (lv_at hl 5 rfl) ?_
  refine lv_iload hx hb d_L_law_197 (lv_at hl 1 rfl) ?_
  refine lv_iconst (v := 1) hx hb d_L_law_199 (by decide) ?_
  refine lv_iadd hx hb d_L_law_200 ?_
  rw [show nI i + 1 = nI (i + 1) from nI_add i 1]
  refine va_sld hx hb hX hbl (hnA b hbl) hS (vp_in_nI (show i + 1 < L by omega) (by omega)) d_L_law_201 ?_
  rw [nI_clamp (show i + 1 < 2 ^ 31 by omega)]
  refine lv_aload_n hx hb d_L_law_202 rfl (lv_at hl 5 rfl) ?_
  refine lv_iload hx hb d_L_law_203 (lv_at hl 1 rfl) ?_
  refine lv_iconst (v := 2) hx hb d_L_law_205 (by decide) ?_
  refine lv_iadd hx hb d_L_law_206 ?_
  rw [show nI i + 2 = nI (i + 2) from nI_add i 2]
  refine va_sld hx hb hX hbl (hnA b hbl) hS (vp_in_nI (show i + 2 < L by omega) (by omega)) d_L_law_207 ?_
  rw [nI_clamp (show i + 2 < 2 ^ 31 by omega)]
  refine kc_i (σ := mDV) (Wd := mwv cI cJ cZ a) (L := mad a) (va_runV (As := [.int (xs (i + 1)), .int (xs (i + 2))]) (rest := []) ⟨hx, hb, hml, hown, hw⟩ (c_M_leave l hma co lg tm lf wr M (xs (i + 1)) (xs (i + 2)) _) (cwV 2 hw (kb_V kb_413 kb_414 kb_415 kb_6 kb_416) rfl rfl rfl (by decide +kernel) ⟨Nat.le_of_ble_eq_true rfl, Nat.le_of_ble_eq_true rfl⟩) (kPV (va_recv hK2 hPm (ci := 3) (q0 := 0) rfl rfl) hPm hK2) rfl rfl hl.1 rfl (lv_room (Nat.le_of_ble_eq_true rfl)) d_L_law_208 ⟨by show cs + 2 + 0 ≤ 649434; omega, by show ss + 12 + 0 ≤ 7147768; omega⟩) hS hA hAm (fun r2 w H locs hm9 hPm _ ho hS => ?_)
  have hPk := kl_keep hPk (L := mad a) (fun q hq z => hdis q z (by rw [kw_oad] at hq; exact hq)) ho
  obtain ⟨h1, h2, hR1⟩ := ls_leave hR hw9 hm9
  dsimp only at h2 hR1 hPk
  refine lv_istore (lv' := [(6, .int r2), (5, .int r), (4, .int (nI i)), (3, .ref o), (2, .ref (a 0)), (1, .ref d), (0, .ref b)]) hx hb d_L_law_211 hl (by decide) rfl (fun ls hl => ?_)
  refine lv_aload_n hx hb d_L_law_213 rfl (lv_at hl 4 rfl) ?_
  refine vp_callSi (W.runV (As := []) (rest := []) ⟨hx, hb, hml, hown, hw⟩ (c_M_thrown l hma w.1 w.2.1 w.2.2.1 w.2.2.2.1 w.2.2.2.2.1 w.2.2.2.2.2 _) (cwV 0 hw (kb_V kb_374 kb_375 kb_376 kb_6 kb_377) rfl rfl rfl (by decide +kernel) ⟨Nat.le_of_ble_eq_true rfl, Nat.le_of_ble_eq_true rfl⟩) (kPV (va_recv hK2 hPm (ci := 3) (q0 := 0) rfl rfl) hPm hK2) rfl rfl hl.1 rfl (lv_room (Nat.le_of_ble_eq_true rfl)) d_L_law_214 ⟨by show cs + 2 + 0 + 0 ≤ 649434; omega, by show ss + 12 + 0 + 0 ≤ 7147768; omega⟩) (fun r9 e9 => ?_)
  subst e9
  refine lv_iload hx hb d_L_law_217 (lv_at hl 1 rfl) ?_
  refine lv_icmp_eq (tgt := 224) hx hb d_L_law_219 (by decide) (fun c_1 => ?_) (fun c_1 => ?_)
  · refine lv_iload hx hb d_L_law_224 (lv_at hl 1 rfl) ?_
    refine lv_if_ne (tgt := 241) hx hb d_L_law_226 (by decide) (fun c_2 => ?_) (fun c_2 => ?_)
    · refine lv_goto (tgt := 803) hx hb d_L_law_241 (by decide) ?_
      refine W.widen (k := cs + 4) (n := ss + 24) (by show cs + 2 + 0 ≤ cs + 4; omega) (by show ss + 12 + 0 ≤ ss + 24; omega) ?_
      exact kk v1 w f1 H locs ls hR1 hPk hPm hS (lv_sub hl [2, 3, 4, 5, 6] rfl)
    · refine lv_aload_n hx hb d_L_law_229 rfl (lv_at hl 3 rfl) ?_
      refine lv_iconst (v := 0) hx hb d_L_law_230 (by decide) ?_
      refine va_lald hx hb hK1 hPk 27 1 kw_oat rfl (vp_in_nI (n := 0) (N := 1) (by decide) (by decide)) d_L_law_231 ?_
      refine lv_iload hx hb d_L_law_232 (lv_at hl 0 rfl) ?_
      refine lv_i2l hx hb d_L_law_234 rfl ?_
      refine W.lcmp hx hb d_L_law_235 ?_
      refine lv_if_eq (tgt := 241) hx hb d_L_law_236 (by decide) (fun c_3 => ?_) (fun c_3 => ?_)
      · refine lv_goto (tgt := 803) hx hb d_L_law_241 (by decide) ?_
        refine W.widen (k := cs + 4) (n := ss + 24) (by show cs + 2 + 0 ≤ cs + 4; omega) (by show ss + 12 + 0 ≤ ss + 24; omega) ?_
        exact kk v1 w f1 H locs ls hR1 hPk hPm hS (lv_sub hl [2, 3, 4, 5, 6] rfl)
      · exact absurd (lg_eq (h2 c_2)) c_3
  · exact absurd h1 c_1
set_option maxHeartbeats 4000000 in
set_option maxRecDepth 100000 in
theorem lc_beat {p : Program} {l : Launch} {e : Env} {s : State} {m : MethodId} {below : List Frame} {meth : Method} {c : Code} {Q : State → Prop} {b L i : Nat} {xs : Nat → Int32} {dC : Nat → ClassId} {dI : Nat → Nat → Nat} {cI cJ cR cZ : ClassId} {d ar nb o : Nat} {ga ha oa a : Nat → Nat} (hl0 : l.stackTraces = false) (hx : p.tables.exec = Jvm.exec) (hb : c.code = b_L_law) (hml : c.maxLocals = 8) (hown : s.vm.findClass "GroupDeskLaw" = some m.cls) (hw : ∀ w ∈ kb_B, w.before #[Value.ref b] s = true) (hK1 : va_K (dC, dI) vwCl (kty cI cJ cR) s) (hK2 : va_K (dC, dI) vwCl (mty cI cJ cZ) s) (hZ : kt_Z s) (hX : va_X b L xs s s.heap) (hbl : b < s.heap.size) (hnd : (kad d ar nb ga ha oa).Nodup) (hno : o ∉ kad d ar nb ga ha oa) (hma : (mad a).Nodup) (hdis : ∀ q ∈ mad a, q ∉ (kad d ar nb ga ha oa ++ [o])) (hAk : ∀ q ∈ (kad d ar nb ga ha oa ++ [o]), s.heap.size ≤ q) (hAm : ∀ q ∈ mad a, s.heap.size ≤ q) (hL : L ≤ 3585) (hi : i + 7 ≤ L) {lg tm lf wr co : Int32} {G : Nat → kGV} {M : Nat → mGV} {f : Nat → Int64} {H : Heap} {locs : List Loc} {ls : Array Slot} {cs ss : Nat} (hcs : cs + 4 ≤ 649434) (hss : ss + 24 ≤ 7147768) (hR : kRel (lg, tm, lf, wr, G) (co, lg, tm, lf, wr, M)) (hPk : va_P (dC, dI) vwCl (kwv cI cJ cR d ar nb ga ha oa (lg, tm, lf, wr, G) ++ [(o, .inl (cJ, 1, .inr (.inl f)))]) H) (hPm : va_P (dC, dI) vwCl (mwv cI cJ cZ a (co, lg, tm, lf, wr, M)) H) (hS : va_S (fun q : Nat => s.heap.size ≤ q) s.heap H locs) (hl : lv_has ls 8 [(4, .int (nI i)), (3, .ref o), (2, .ref (a 0)), (1, .ref d), (0, .ref b)])
    (kk : ∀ (v : kDV) (w : mDV) (f : Nat → Int64) (H : Heap) (locs : List Loc) (ls : Array Slot), kRel v w → va_P (dC, dI) vwCl (kwv cI cJ cR d ar nb ga ha oa v ++ [(o, .inl (cJ, 1, .inr (.inl f)))]) H → va_P (dC, dI) vwCl (mwv cI cJ cZ a w) H → va_S (fun q : Nat => s.heap.size ≤ q) s.heap H locs → lv_has ls 8 [(4, .int (nI i)), (3, .ref o), (2, .ref (a 0)), (1, .ref d), (0, .ref b)] → W p l e room_1 s m #[Value.ref b] below meth c H locs (cs + 4) (ss + 24) Q (F0 m 803 ls [])) : W p l e room_1 s m #[Value.ref b] below meth c H locs cs ss Q (F0 m 244 ls []) := by
  have hnA : ∀ q : Nat, q < s.heap.size → ¬ s.heap.size ≤ q := fun q h => Nat.not_le.mpr h
  have hA : ∀ q : Nat, s.heap.size ≤ q → (fun q : Nat => s.heap.size ≤ q) q := fun _ h => h
  refine lv_aload_n hx hb d_L_law_244 rfl (lv_at hl 3 rfl) ?_
  refine lv_aload_n hx hb d_L_law_245 rfl (lv_at hl 4 rfl) ?_
  refine lv_iload hx hb d_L_law_246 (lv_at hl 0 rfl) ?_
  refine lv_iconst (v := 1) hx hb d_L_law_248 (by decide) ?_
  refine lv_iadd hx hb d_L_law_249 ?_
  rw [show nI i + 1 = nI (i + 1) from nI_add i 1]
  refine va_sld hx hb hX hbl (hnA b hbl) hS (vp_in_nI (show i + 1 < L by omega) (by omega)) d_L_law_250 ?_
  rw [nI_clamp (show i + 1 < 2 ^ 31 by omega)]
  refine lv_aload_n hx hb d_L_law_251 rfl (lv_at hl 4 rfl) ?_
  refine lv_iload hx hb d_L_law_252 (lv_at hl 0 rfl) ?_
  refine lv_iconst (v := 2) hx hb d_L_law_254 (by decide) ?_
  refine lv_iadd hx hb d_L_law_255 ?_
  rw [show nI i + 2 = nI (i + 2) from nI_add i 2]
  refine va_sld hx hb hX hbl (hnA b hbl) hS (vp_in_nI (show i + 2 < L by omega) (by omega)) d_L_law_256 ?_
  rw [nI_clamp (show i + 2 < 2 ^ 31 by omega)]
  refine lv_aload_n hx hb d_L_law_257 rfl (lv_at hl 4 rfl) ?_
  refine lv_iload hx hb d_L_law_258 (lv_at hl 0 rfl) ?_
  refine lv_iconst (v := 3) hx hb d_L_law_260 (by decide) ?_
  refine lv_iadd hx hb d_L_law_261 ?_
  rw [show nI i + 3 = nI (i + 3) from nI_add i 3]
  refine va_sld hx hb hX hbl (hnA b hbl) hS (vp_in_nI (show i + 3 < L by omega) (by omega)) d_L_law_262 ?_
  rw [nI_clamp (show i + 3 < 2 ^ 31 by omega)]
  refine lv_aload_n hx hb d_L_law_263 rfl (lv_at hl 1 rfl) ?_
  refine kc_i (σ := kDV × (Nat → Int64)) (Wd := fun u => kwv cI cJ cR d ar nb ga ha oa u.1 ++ [(o, .inl (cJ, 1, .inr (.inl u.2)))]) (L := (kad d ar nb ga ha oa ++ [o])) (kx_runS (n := 5) (As := [.ref d, .int (xs (i + 1)), .int (xs (i + 2)), .int (xs (i + 3)), .ref o]) (rest := []) ⟨hx, hb, hml, hown, hw⟩ (c_L_beat l hl0 hnd lg tm lf wr G hno (xs (i + 1)) (xs (i + 2)) (xs (i + 3)) f _) rfl kb_238 kb_239 kb_0 kb_240 rfl rfl (by decide +kernel) ⟨Nat.le_of_ble_eq_true rfl, Nat.le_of_ble_eq_true rfl⟩ (kPST hPk hK1 hZ hnA hS) rfl rfl hl.1 rfl (lv_room (Nat.le_of_ble_eq_true rfl)) d_L_law_264 ⟨by show cs + 2 ≤ 649434; omega, by show ss + 12 ≤ 7147768; omega⟩) hS hA hAk (fun r v H locs hw9 hPk _ ho hS => ?_)
  have hPm := kl_keep hPm (L := (kad d ar nb ga ha oa ++ [o])) hdis ho
  obtain ⟨v1, f1⟩ := v
  refine lv_istore (lv' := [(5, .int r), (4, .int (nI i)), (3, .ref o), (2, .ref (a 0)), (1, .ref d), (0, .ref b)]) hx hb d_L_law_267 hl (by decide) rfl (fun ls hl => ?_)
  refine lv_aload_n hx hb d_L_law_269 rfl (lv_at hl 3 rfl) ?_
  refine lv_aload_n hx hb d_L_law_270 rfl (lv_at hl 5 rfl) ?_
  refine lv_iload hx hb d_L_law_271 (lv_at hl 1 rfl) ?_
  refine lv_iconst (v := 1) hx hb d_L_law_273 (by decide) ?_
  refine lv_iadd hx hb d_L_law_274 ?_
  rw [show nI i + 1 = nI (i + 1) from nI_add i 1]
  refine va_sld hx hb hX hbl (hnA b hbl) hS (vp_in_nI (show i + 1 < L by omega) (by omega)) d_L_law_275 ?_
  rw [nI_clamp (show i + 1 < 2 ^ 31 by omega)]
  refine lv_aload_n hx hb d_L_law_276 rfl (lv_at hl 5 rfl) ?_
  refine lv_iload hx hb d_L_law_277 (lv_at hl 1 rfl) ?_
  refine lv_iconst (v := 2) hx hb d_L_law_279 (by decide) ?_
  refine lv_iadd hx hb d_L_law_280 ?_
  rw [show nI i + 2 = nI (i + 2) from nI_add i 2]
  refine va_sld hx hb hX hbl (hnA b hbl) hS (vp_in_nI (show i + 2 < L by omega) (by omega)) d_L_law_281 ?_
  rw [nI_clamp (show i + 2 < 2 ^ 31 by omega)]
  refine lv_aload_n hx hb d_L_law_282 rfl (lv_at hl 5 rfl) ?_
  refine lv_iload hx hb d_L_law_283 (lv_at hl 1 rfl) ?_
  refine lv_iconst (v := 3) hx hb d_L_law_285 (by decide) ?_
  refine lv_iadd hx hb d_L_law_286 ?_
  rw [show nI i + 3 = nI (i + 3) from nI_add i 3]
  refine va_sld hx hb hX hbl (hnA b hbl) hS (vp_in_nI (show i + 3 < L by omega) (by omega)) d_L_law_287 ?_
  rw [nI_clamp (show i + 3 < 2 ^ 31 by omega)]
  refine kc_i (σ := mDV) (Wd := mwv cI cJ cZ a) (L := mad a) (va_runV (As := [.int (xs (i + 1)), .int (xs (i + 2)), .int (xs (i + 3))]) (rest := []) ⟨hx, hb, hml, hown, hw⟩ (c_M_beat l hma co lg tm lf wr M (xs (i + 1)) (xs (i + 2)) (xs (i + 3)) _) (cwV 3 hw (kb_V kb_421 kb_422 kb_423 kb_6 kb_424) rfl rfl rfl (by decide +kernel) ⟨Nat.le_of_ble_eq_true rfl, Nat.le_of_ble_eq_true rfl⟩) (kPV (va_recv hK2 hPm (ci := 3) (q0 := 0) rfl rfl) hPm hK2) rfl rfl hl.1 rfl (lv_room (Nat.le_of_ble_eq_true rfl)) d_L_law_288 ⟨by show cs + 2 + 0 ≤ 649434; omega, by show ss + 12 + 0 ≤ 7147768; omega⟩) hS hA hAm (fun r2 w H locs hm9 hPm _ ho hS => ?_)
  have hPk := kl_keep hPk (L := mad a) (fun q hq z => hdis q z (by rw [kw_oad] at hq; exact hq)) ho
  obtain ⟨h1, h2, hR1⟩ := ls_beat hR hw9 hm9
  dsimp only at h2 hR1 hPk
  refine lv_istore (lv' := [(6, .int r2), (5, .int r), (4, .int (nI i)), (3, .ref o), (2, .ref (a 0)), (1, .ref d), (0, .ref b)]) hx hb d_L_law_291 hl (by decide) rfl (fun ls hl => ?_)
  refine lv_aload_n hx hb d_L_law_293 rfl (lv_at hl 4 rfl) ?_
  refine vp_callSi (W.runV (As := []) (rest := []) ⟨hx, hb, hml, hown, hw⟩ (c_M_thrown l hma w.1 w.2.1 w.2.2.1 w.2.2.2.1 w.2.2.2.2.1 w.2.2.2.2.2 _) (cwV 0 hw (kb_V kb_374 kb_375 kb_376 kb_6 kb_377) rfl rfl rfl (by decide +kernel) ⟨Nat.le_of_ble_eq_true rfl, Nat.le_of_ble_eq_true rfl⟩) (kPV (va_recv hK2 hPm (ci := 3) (q0 := 0) rfl rfl) hPm hK2) rfl rfl hl.1 rfl (lv_room (Nat.le_of_ble_eq_true rfl)) d_L_law_294 ⟨by show cs + 2 + 0 + 0 ≤ 649434; omega, by show ss + 12 + 0 + 0 ≤ 7147768; omega⟩) (fun r9 e9 => ?_)
  subst e9
  refine lv_iload hx hb d_L_law_297 (lv_at hl 1 rfl) ?_
  refine lv_icmp_eq (tgt := 304) hx hb d_L_law_299 (by decide) (fun c_1 => ?_) (fun c_1 => ?_)
  · refine lv_iload hx hb d_L_law_304 (lv_at hl 1 rfl) ?_
    refine lv_if_ne (tgt := 321) hx hb d_L_law_306 (by decide) (fun c_2 => ?_) (fun c_2 => ?_)
    · refine lv_goto (tgt := 803) hx hb d_L_law_321 (by decide) ?_
      refine W.widen (k := cs + 4) (n := ss + 24) (by show cs + 2 + 0 ≤ cs + 4; omega) (by show ss + 12 + 0 ≤ ss + 24; omega) ?_
      exact kk v1 w f1 H locs ls hR1 hPk hPm hS (lv_sub hl [2, 3, 4, 5, 6] rfl)
    · refine lv_aload_n hx hb d_L_law_309 rfl (lv_at hl 3 rfl) ?_
      refine lv_iconst (v := 0) hx hb d_L_law_310 (by decide) ?_
      refine va_lald hx hb hK1 hPk 27 1 kw_oat rfl (vp_in_nI (n := 0) (N := 1) (by decide) (by decide)) d_L_law_311 ?_
      refine lv_iload hx hb d_L_law_312 (lv_at hl 0 rfl) ?_
      refine lv_i2l hx hb d_L_law_314 rfl ?_
      refine W.lcmp hx hb d_L_law_315 ?_
      refine lv_if_eq (tgt := 321) hx hb d_L_law_316 (by decide) (fun c_3 => ?_) (fun c_3 => ?_)
      · refine lv_goto (tgt := 803) hx hb d_L_law_321 (by decide) ?_
        refine W.widen (k := cs + 4) (n := ss + 24) (by show cs + 2 + 0 ≤ cs + 4; omega) (by show ss + 12 + 0 ≤ ss + 24; omega) ?_
        exact kk v1 w f1 H locs ls hR1 hPk hPm hS (lv_sub hl [2, 3, 4, 5, 6] rfl)
      · exact absurd (lg_eq (h2 c_2)) c_3
  · exact absurd h1 c_1
set_option maxHeartbeats 4000000 in
set_option maxRecDepth 100000 in
theorem lc_commit {p : Program} {l : Launch} {e : Env} {s : State} {m : MethodId} {below : List Frame} {meth : Method} {c : Code} {Q : State → Prop} {b L i : Nat} {xs : Nat → Int32} {dC : Nat → ClassId} {dI : Nat → Nat → Nat} {cI cJ cR cZ : ClassId} {d ar nb o : Nat} {ga ha oa a : Nat → Nat} (hl0 : l.stackTraces = false) (hx : p.tables.exec = Jvm.exec) (hb : c.code = b_L_law) (hml : c.maxLocals = 8) (hown : s.vm.findClass "GroupDeskLaw" = some m.cls) (hw : ∀ w ∈ kb_B, w.before #[Value.ref b] s = true) (hK1 : va_K (dC, dI) vwCl (kty cI cJ cR) s) (hK2 : va_K (dC, dI) vwCl (mty cI cJ cZ) s) (hZ : kt_Z s) (hX : va_X b L xs s s.heap) (hbl : b < s.heap.size) (hnd : (kad d ar nb ga ha oa).Nodup) (hno : o ∉ kad d ar nb ga ha oa) (hma : (mad a).Nodup) (hdis : ∀ q ∈ mad a, q ∉ (kad d ar nb ga ha oa ++ [o])) (hAk : ∀ q ∈ (kad d ar nb ga ha oa ++ [o]), s.heap.size ≤ q) (hAm : ∀ q ∈ mad a, s.heap.size ≤ q) (hL : L ≤ 3585) (hi : i + 7 ≤ L) {lg tm lf wr co : Int32} {G : Nat → kGV} {M : Nat → mGV} {f : Nat → Int64} {H : Heap} {locs : List Loc} {ls : Array Slot} {cs ss : Nat} (hcs : cs + 4 ≤ 649434) (hss : ss + 24 ≤ 7147768) (hR : kRel (lg, tm, lf, wr, G) (co, lg, tm, lf, wr, M)) (hPk : va_P (dC, dI) vwCl (kwv cI cJ cR d ar nb ga ha oa (lg, tm, lf, wr, G) ++ [(o, .inl (cJ, 1, .inr (.inl f)))]) H) (hPm : va_P (dC, dI) vwCl (mwv cI cJ cZ a (co, lg, tm, lf, wr, M)) H) (hS : va_S (fun q : Nat => s.heap.size ≤ q) s.heap H locs) (hl : lv_has ls 8 [(4, .int (nI i)), (3, .ref o), (2, .ref (a 0)), (1, .ref d), (0, .ref b)])
    (kk : ∀ (v : kDV) (w : mDV) (f : Nat → Int64) (H : Heap) (locs : List Loc) (ls : Array Slot), kRel v w → va_P (dC, dI) vwCl (kwv cI cJ cR d ar nb ga ha oa v ++ [(o, .inl (cJ, 1, .inr (.inl f)))]) H → va_P (dC, dI) vwCl (mwv cI cJ cZ a w) H → va_S (fun q : Nat => s.heap.size ≤ q) s.heap H locs → lv_has ls 8 [(4, .int (nI i)), (3, .ref o), (2, .ref (a 0)), (1, .ref d), (0, .ref b)] → W p l e room_1 s m #[Value.ref b] below meth c H locs (cs + 4) (ss + 24) Q (F0 m 803 ls [])) : W p l e room_1 s m #[Value.ref b] below meth c H locs cs ss Q (F0 m 324 ls []) := by
  have hnA : ∀ q : Nat, q < s.heap.size → ¬ s.heap.size ≤ q := fun q h => Nat.not_le.mpr h
  have hA : ∀ q : Nat, s.heap.size ≤ q → (fun q : Nat => s.heap.size ≤ q) q := fun _ h => h
  refine lv_aload_n hx hb d_L_law_324 rfl (lv_at hl 3 rfl) ?_
  refine lv_aload_n hx hb d_L_law_325 rfl (lv_at hl 4 rfl) ?_
  refine lv_iload hx hb d_L_law_326 (lv_at hl 0 rfl) ?_
  refine lv_iconst (v := 1) hx hb d_L_law_328 (by decide) ?_
  refine lv_iadd hx hb d_L_law_329 ?_
  rw [show nI i + 1 = nI (i + 1) from nI_add i 1]
  refine va_sld hx hb hX hbl (hnA b hbl) hS (vp_in_nI (show i + 1 < L by omega) (by omega)) d_L_law_330 ?_
  rw [nI_clamp (show i + 1 < 2 ^ 31 by omega)]
  refine lv_aload_n hx hb d_L_law_331 rfl (lv_at hl 4 rfl) ?_
  refine lv_iload hx hb d_L_law_332 (lv_at hl 0 rfl) ?_
  refine lv_iconst (v := 2) hx hb d_L_law_334 (by decide) ?_
  refine lv_iadd hx hb d_L_law_335 ?_
  rw [show nI i + 2 = nI (i + 2) from nI_add i 2]
  refine va_sld hx hb hX hbl (hnA b hbl) hS (vp_in_nI (show i + 2 < L by omega) (by omega)) d_L_law_336 ?_
  rw [nI_clamp (show i + 2 < 2 ^ 31 by omega)]
  refine lv_aload_n hx hb d_L_law_337 rfl (lv_at hl 4 rfl) ?_
  refine lv_iload hx hb d_L_law_338 (lv_at hl 0 rfl) ?_
  refine lv_iconst (v := 3) hx hb d_L_law_340 (by decide) ?_
  refine lv_iadd hx hb d_L_law_341 ?_
  rw [show nI i + 3 = nI (i + 3) from nI_add i 3]
  refine va_sld hx hb hX hbl (hnA b hbl) hS (vp_in_nI (show i + 3 < L by omega) (by omega)) d_L_law_342 ?_
  rw [nI_clamp (show i + 3 < 2 ^ 31 by omega)]
  refine lv_aload_n hx hb d_L_law_343 rfl (lv_at hl 4 rfl) ?_
  refine lv_iload hx hb d_L_law_344 (lv_at hl 0 rfl) ?_
  refine lv_iconst (v := 4) hx hb d_L_law_346 (by decide) ?_
  refine lv_iadd hx hb d_L_law_347 ?_
  rw [show nI i + 4 = nI (i + 4) from nI_add i 4]
  refine va_sld hx hb hX hbl (hnA b hbl) hS (vp_in_nI (show i + 4 < L by omega) (by omega)) d_L_law_348 ?_
  rw [nI_clamp (show i + 4 < 2 ^ 31 by omega)]
  refine lv_aload_n hx hb d_L_law_349 rfl (lv_at hl 4 rfl) ?_
  refine lv_iload hx hb d_L_law_350 (lv_at hl 0 rfl) ?_
  refine lv_iconst (v := 5) hx hb d_L_law_352 (by decide) ?_
  refine lv_iadd hx hb d_L_law_353 ?_
  rw [show nI i + 5 = nI (i + 5) from nI_add i 5]
  refine va_sld hx hb hX hbl (hnA b hbl) hS (vp_in_nI (show i + 5 < L by omega) (by omega)) d_L_law_354 ?_
  rw [nI_clamp (show i + 5 < 2 ^ 31 by omega)]
  refine lv_i2l hx hb d_L_law_355 rfl ?_
  refine lv_bipush (v := 32) hx hb d_L_law_356 (by decide) ?_
  refine lv_lshl hx hb d_L_law_358 rfl ?_
  refine lv_aload_n hx hb d_L_law_359 rfl (lv_at hl 4 rfl) ?_
  refine lv_iload hx hb d_L_law_360 (lv_at hl 0 rfl) ?_
  refine lv_bipush (v := 6) hx hb d_L_law_362 (by decide) ?_
  refine lv_iadd hx hb d_L_law_364 ?_
  rw [show nI i + 6 = nI (i + 6) from nI_add i 6]
  refine va_sld hx hb hX hbl (hnA b hbl) hS (vp_in_nI (show i + 6 < L by omega) (by omega)) d_L_law_365 ?_
  rw [nI_clamp (show i + 6 < 2 ^ 31 by omega)]
  refine lv_i2l hx hb d_L_law_366 rfl ?_
  refine lv_ldc2 (v := 4294967295) hx hb hown (hw _ kb_467) d_L_law_367 ?_
  refine lv_land hx hb d_L_law_370 ?_
  refine lv_lor hx hb d_L_law_371 ?_
  refine lv_topl (fun p4 hp4 => ?_)
  refine lv_aload_n hx hb d_L_law_372 rfl (lv_at hl 1 rfl) ?_
  refine kc_i (σ := kDV × (Nat → Int64)) (Wd := fun u => kwv cI cJ cR d ar nb ga ha oa u.1 ++ [(o, .inl (cJ, 1, .inr (.inl u.2)))]) (L := (kad d ar nb ga ha oa ++ [o])) (kx_runS (n := 7) (As := [.ref d, .int (xs (i + 1)), .int (xs (i + 2)), .int (xs (i + 3)), .int (xs (i + 4)), .long p4, .ref o]) (rest := []) ⟨hx, hb, hml, hown, hw⟩ (c_L_commit l hl0 hnd lg tm lf wr G hno (xs (i + 1)) (xs (i + 2)) (xs (i + 3)) (xs (i + 4)) p4 hR.2.2.2.2.2.1 f _) rfl kb_249 kb_250 kb_0 kb_251 rfl rfl (by decide +kernel) ⟨Nat.le_of_ble_eq_true rfl, Nat.le_of_ble_eq_true rfl⟩ (kPST hPk hK1 hZ hnA hS) rfl rfl hl.1 rfl (lv_room (Nat.le_of_ble_eq_true rfl)) d_L_law_373 ⟨by show cs + 4 ≤ 649434; omega, by show ss + 24 ≤ 7147768; omega⟩) hS hA hAk (fun r v H locs hw9 hPk _ ho hS => ?_)
  have hPm := kl_keep hPm (L := (kad d ar nb ga ha oa ++ [o])) hdis ho
  obtain ⟨v1, f1⟩ := v
  refine lv_istore (lv' := [(5, .int r), (4, .int (nI i)), (3, .ref o), (2, .ref (a 0)), (1, .ref d), (0, .ref b)]) hx hb d_L_law_376 hl (by decide) rfl (fun ls hl => ?_)
  refine lv_aload_n hx hb d_L_law_378 rfl (lv_at hl 3 rfl) ?_
  refine lv_aload_n hx hb d_L_law_379 rfl (lv_at hl 5 rfl) ?_
  refine lv_iload hx hb d_L_law_380 (lv_at hl 1 rfl) ?_
  refine lv_iconst (v := 1) hx hb d_L_law_382 (by decide) ?_
  refine lv_iadd hx hb d_L_law_383 ?_
  rw [show nI i + 1 = nI (i + 1) from nI_add i 1]
  refine va_sld hx hb hX hbl (hnA b hbl) hS (vp_in_nI (show i + 1 < L by omega) (by omega)) d_L_law_384 ?_
  rw [nI_clamp (show i + 1 < 2 ^ 31 by omega)]
  refine lv_aload_n hx hb d_L_law_385 rfl (lv_at hl 5 rfl) ?_
  refine lv_iload hx hb d_L_law_386 (lv_at hl 1 rfl) ?_
  refine lv_iconst (v := 2) hx hb d_L_law_388 (by decide) ?_
  refine lv_iadd hx hb d_L_law_389 ?_
  rw [show nI i + 2 = nI (i + 2) from nI_add i 2]
  refine va_sld hx hb hX hbl (hnA b hbl) hS (vp_in_nI (show i + 2 < L by omega) (by omega)) d_L_law_390 ?_
  rw [nI_clamp (show i + 2 < 2 ^ 31 by omega)]
  refine lv_aload_n hx hb d_L_law_391 rfl (lv_at hl 5 rfl) ?_
  refine lv_iload hx hb d_L_law_392 (lv_at hl 1 rfl) ?_
  refine lv_iconst (v := 3) hx hb d_L_law_394 (by decide) ?_
  refine lv_iadd hx hb d_L_law_395 ?_
  rw [show nI i + 3 = nI (i + 3) from nI_add i 3]
  refine va_sld hx hb hX hbl (hnA b hbl) hS (vp_in_nI (show i + 3 < L by omega) (by omega)) d_L_law_396 ?_
  rw [nI_clamp (show i + 3 < 2 ^ 31 by omega)]
  refine lv_aload_n hx hb d_L_law_397 rfl (lv_at hl 5 rfl) ?_
  refine lv_iload hx hb d_L_law_398 (lv_at hl 1 rfl) ?_
  refine lv_iconst (v := 4) hx hb d_L_law_400 (by decide) ?_
  refine lv_iadd hx hb d_L_law_401 ?_
  rw [show nI i + 4 = nI (i + 4) from nI_add i 4]
  refine va_sld hx hb hX hbl (hnA b hbl) hS (vp_in_nI (show i + 4 < L by omega) (by omega)) d_L_law_402 ?_
  rw [nI_clamp (show i + 4 < 2 ^ 31 by omega)]
  refine lv_aload_n hx hb d_L_law_403 rfl (lv_at hl 5 rfl) ?_
  refine lv_iload hx hb d_L_law_404 (lv_at hl 1 rfl) ?_
  refine lv_iconst (v := 5) hx hb d_L_law_406 (by decide) ?_
  refine lv_iadd hx hb d_L_law_407 ?_
  rw [show nI i + 5 = nI (i + 5) from nI_add i 5]
  refine va_sld hx hb hX hbl (hnA b hbl) hS (vp_in_nI (show i + 5 < L by omega) (by omega)) d_L_law_408 ?_
  rw [nI_clamp (show i + 5 < 2 ^ 31 by omega)]
  refine lv_i2l hx hb d_L_law_409 rfl ?_
  refine lv_bipush (v := 32) hx hb d_L_law_410 (by decide) ?_
  refine lv_lshl hx hb d_L_law_412 rfl ?_
  refine lv_aload_n hx hb d_L_law_413 rfl (lv_at hl 5 rfl) ?_
  refine lv_iload hx hb d_L_law_414 (lv_at hl 1 rfl) ?_
  refine lv_bipush (v := 6) hx hb d_L_law_416 (by decide) ?_
  refine lv_iadd hx hb d_L_law_418 ?_
  rw [show nI i + 6 = nI (i + 6) from nI_add i 6]
  refine va_sld hx hb hX hbl (hnA b hbl) hS (vp_in_nI (show i + 6 < L by omega) (by omega)) d_L_law_419 ?_
  rw [nI_clamp (show i + 6 < 2 ^ 31 by omega)]
  refine lv_i2l hx hb d_L_law_420 rfl ?_
  refine lv_ldc2 (v := 4294967295) hx hb hown (hw _ kb_467) d_L_law_421 ?_
  refine lv_land hx hb d_L_law_424 ?_
  refine lv_lor hx hb d_L_law_425 ?_
  refine lv_topl (fun p5 hp5 => ?_)
  obtain rfl : p4 = p5 := hp4.trans hp5.symm
  refine kc_i (σ := mDV) (Wd := mwv cI cJ cZ a) (L := mad a) (va_runV (As := [.int (xs (i + 1)), .int (xs (i + 2)), .int (xs (i + 3)), .int (xs (i + 4)), .long p4]) (rest := []) ⟨hx, hb, hml, hown, hw⟩ (c_M_commit l hma co lg tm lf wr M (xs (i + 1)) (xs (i + 2)) (xs (i + 3)) (xs (i + 4)) p4 hR.2.2.2.2.2.1 _) (cwV 5 hw (kb_V kb_425 kb_426 kb_427 kb_6 kb_428) rfl rfl rfl (by decide +kernel) ⟨Nat.le_of_ble_eq_true rfl, Nat.le_of_ble_eq_true rfl⟩) (kPV (va_recv hK2 hPm (ci := 3) (q0 := 0) rfl rfl) hPm hK2) rfl rfl hl.1 rfl (lv_room (Nat.le_of_ble_eq_true rfl)) d_L_law_426 ⟨by show cs + 4 + 0 ≤ 649434; omega, by show ss + 24 + 0 ≤ 7147768; omega⟩) hS hA hAm (fun r2 w H locs hm9 hPm _ ho hS => ?_)
  have hPk := kl_keep hPk (L := mad a) (fun q hq z => hdis q z (by rw [kw_oad] at hq; exact hq)) ho
  obtain ⟨h1, h2, hR1⟩ := ls_commit hR hw9 hm9
  dsimp only at h2 hR1 hPk
  refine lv_istore (lv' := [(6, .int r2), (5, .int r), (4, .int (nI i)), (3, .ref o), (2, .ref (a 0)), (1, .ref d), (0, .ref b)]) hx hb d_L_law_429 hl (by decide) rfl (fun ls hl => ?_)
  refine lv_aload_n hx hb d_L_law_431 rfl (lv_at hl 4 rfl) ?_
  refine vp_callSi (W.runV (As := []) (rest := []) ⟨hx, hb, hml, hown, hw⟩ (c_M_thrown l hma w.1 w.2.1 w.2.2.1 w.2.2.2.1 w.2.2.2.2.1 w.2.2.2.2.2 _) (cwV 0 hw (kb_V kb_374 kb_375 kb_376 kb_6 kb_377) rfl rfl rfl (by decide +kernel) ⟨Nat.le_of_ble_eq_true rfl, Nat.le_of_ble_eq_true rfl⟩) (kPV (va_recv hK2 hPm (ci := 3) (q0 := 0) rfl rfl) hPm hK2) rfl rfl hl.1 rfl (lv_room (Nat.le_of_ble_eq_true rfl)) d_L_law_432 ⟨by show cs + 4 + 0 + 0 ≤ 649434; omega, by show ss + 24 + 0 + 0 ≤ 7147768; omega⟩) (fun r9 e9 => ?_)
  subst e9
  refine lv_iload hx hb d_L_law_435 (lv_at hl 1 rfl) ?_
  refine lv_icmp_eq (tgt := 442) hx hb d_L_law_437 (by decide) (fun c_1 => ?_) (fun c_1 => ?_)
  · refine lv_iload hx hb d_L_law_442 (lv_at hl 1 rfl) ?_
    refine lv_if_ne (tgt := 459) hx hb d_L_law_444 (by decide) (fun c_2 => ?_) (fun c_2 => ?_)
    · refine lv_goto (tgt := 803) hx hb d_L_law_459 (by decide) ?_
      refine W.widen (k := cs + 4) (n := ss + 24) (by show cs + 4 + 0 ≤ cs + 4; omega) (by show ss + 24 + 0 ≤ ss + 24; omega) ?_
      exact kk v1 w f1 H locs ls hR1 hPk hPm hS (lv_sub hl [2, 3, 4, 5, 6] rfl)
    · refine lv_aload_n hx hb d_L_law_447 rfl (lv_at hl 3 rfl) ?_
      refine lv_iconst (v := 0) hx hb d_L_law_448 (by decide) ?_
      refine va_lald hx hb hK1 hPk 27 1 kw_oat rfl (vp_in_nI (n := 0) (N := 1) (by decide) (by decide)) d_L_law_449 ?_
      refine lv_iload hx hb d_L_law_450 (lv_at hl 0 rfl) ?_
      refine lv_i2l hx hb d_L_law_452 rfl ?_
      refine W.lcmp hx hb d_L_law_453 ?_
      refine lv_if_eq (tgt := 459) hx hb d_L_law_454 (by decide) (fun c_3 => ?_) (fun c_3 => ?_)
      · refine lv_goto (tgt := 803) hx hb d_L_law_459 (by decide) ?_
        refine W.widen (k := cs + 4) (n := ss + 24) (by show cs + 4 + 0 ≤ cs + 4; omega) (by show ss + 24 + 0 ≤ ss + 24; omega) ?_
        exact kk v1 w f1 H locs ls hR1 hPk hPm hS (lv_sub hl [2, 3, 4, 5, 6] rfl)
      · exact absurd (lg_eq (h2 c_2)) c_3
  · exact absurd h1 c_1
