set_option maxHeartbeats 4000000 in
set_option maxRecDepth 100000 in
theorem lc_committed {p : Program} {l : Launch} {e : Env} {s : State} {m : MethodId} {below : List Frame} {meth : Method} {c : Code} {Q : State → Prop} {b L i : Nat} {xs : Nat → Int32} {dC : Nat → ClassId} {dI : Nat → Nat → Nat} {cI cJ cR cZ : ClassId} {d ar nb o : Nat} {ga ha oa a : Nat → Nat} (hl0 : l.stackTraces = false) (hx : p.tables.exec = Jvm.exec) (hb : c.code = b_L_law) (hml : c.maxLocals = 8) (hown : s.vm.findClass "GroupDeskLaw" = some m.cls) (hw : ∀ w ∈ kb_B, w.before #[Value.ref b] s = true) (hK1 : va_K (dC, dI) vwCl (kty cI cJ cR) s) (hK2 : va_K (dC, dI) vwCl (mty cI cJ cZ) s) (hZ : kt_Z s) (hX : va_X b L xs s s.heap) (hbl : b < s.heap.size) (hnd : (kad d ar nb ga ha oa).Nodup) (hno : o ∉ kad d ar nb ga ha oa) (hma : (mad a).Nodup) (hdis : ∀ q ∈ mad a, q ∉ (kad d ar nb ga ha oa ++ [o])) (hAk : ∀ q ∈ (kad d ar nb ga ha oa ++ [o]), s.heap.size ≤ q) (hAm : ∀ q ∈ mad a, s.heap.size ≤ q) (hL : L ≤ 3585) (hi : i + 7 ≤ L) {lg tm lf wr co : Int32} {G : Nat → kGV} {M : Nat → mGV} {f : Nat → Int64} {H : Heap} {locs : List Loc} {ls : Array Slot} {cs ss : Nat} (hcs : cs + 4 ≤ 649434) (hss : ss + 24 ≤ 7147768) (hR : kRel (lg, tm, lf, wr, G) (co, lg, tm, lf, wr, M)) (hPk : va_P (dC, dI) vwCl (kwv cI cJ cR d ar nb ga ha oa (lg, tm, lf, wr, G) ++ [(o, .inl (cJ, 1, .inr (.inl f)))]) H) (hPm : va_P (dC, dI) vwCl (mwv cI cJ cZ a (co, lg, tm, lf, wr, M)) H) (hS : va_S (fun q : Nat => s.heap.size ≤ q) s.heap H locs) (hl : lv_has ls 8 [(4, .int (nI i)), (3, .ref o), (2, .ref (a 0)), (1, .ref d), (0, .ref b)])
    (kk : ∀ (v : kDV) (w : mDV) (f : Nat → Int64) (H : Heap) (locs : List Loc) (ls : Array Slot), kRel v w → va_P (dC, dI) vwCl (kwv cI cJ cR d ar nb ga ha oa v ++ [(o, .inl (cJ, 1, .inr (.inl f)))]) H → va_P (dC, dI) vwCl (mwv cI cJ cZ a w) H → va_S (fun q : Nat => s.heap.size ≤ q) s.heap H locs → lv_has ls 8 [(4, .int (nI i)), (3, .ref o), (2, .ref (a 0)), (1, .ref d), (0, .ref b)] → W p l e room_1 s m #[Value.ref b] below meth c H locs (cs + 4) (ss + 24) Q (F0 m 803 ls [])) : W p l e room_1 s m #[Value.ref b] below meth c H locs cs ss Q (F0 m 462 ls []) := by
  have hnA : ∀ q : Nat, q < s.heap.size → ¬ s.heap.size ≤ q := fun q h => Nat.not_le.mpr h
  have hA : ∀ q : Nat, s.heap.size ≤ q → (fun q : Nat => s.heap.size ≤ q) q := fun _ h => h
  refine lv_aload_n hx hb d_L_law_462 rfl (lv_at hl 3 rfl) ?_
  refine lv_aload_n hx hb d_L_law_463 rfl (lv_at hl 4 rfl) ?_
  refine lv_iload hx hb d_L_law_464 (lv_at hl 0 rfl) ?_
  refine lv_iconst (v := 1) hx hb d_L_law_466 (by decide) ?_
  refine lv_iadd hx hb d_L_law_467 ?_
  rw [show nI i + 1 = nI (i + 1) from nI_add i 1]
  refine va_sld hx hb hX hbl (hnA b hbl) hS (vp_in_nI (show i + 1 < L by omega) (by omega)) d_L_law_468 ?_
  rw [nI_clamp (show i + 1 < 2 ^ 31 by omega)]
  refine lv_aload_n hx hb d_L_law_469 rfl (lv_at hl 4 rfl) ?_
  refine lv_iload hx hb d_L_law_470 (lv_at hl 0 rfl) ?_
  refine lv_iconst (v := 2) hx hb d_L_law_472 (by decide) ?_
  refine lv_iadd hx hb d_L_law_473 ?_
  rw [show nI i + 2 = nI (i + 2) from nI_add i 2]
  refine va_sld hx hb hX hbl (hnA b hbl) hS (vp_in_nI (show i + 2 < L by omega) (by omega)) d_L_law_474 ?_
  rw [nI_clamp (show i + 2 < 2 ^ 31 by omega)]
  refine lv_aload_n hx hb d_L_law_475 rfl (lv_at hl 1 rfl) ?_
  refine kc_i (σ := kDV × (Nat → Int64)) (Wd := fun u => kwv cI cJ cR d ar nb ga ha oa u.1 ++ [(o, .inl (cJ, 1, .inr (.inl u.2)))]) (L := (kad d ar nb ga ha oa ++ [o])) (kx_runS (n := 4) (As := [.ref d, .int (xs (i + 1)), .int (xs (i + 2)), .ref o]) (rest := []) ⟨hx, hb, hml, hown, hw⟩ (c_L_committed l hl0 hnd lg tm lf wr G hno (xs (i + 1)) (xs (i + 2)) hR.2.2.2.2.2.1 f _) rfl kb_273 kb_274 kb_0 kb_275 rfl rfl (by decide +kernel) ⟨Nat.le_of_ble_eq_true rfl, Nat.le_of_ble_eq_true rfl⟩ (kPST hPk hK1 hZ hnA hS) rfl rfl hl.1 rfl (lv_room (Nat.le_of_ble_eq_true rfl)) d_L_law_476 ⟨by show cs + 2 ≤ 649434; omega, by show ss + 12 ≤ 7147768; omega⟩) hS hA hAk (fun r v H locs hw9 hPk _ ho hS => ?_)
  have hPm := kl_keep hPm (L := (kad d ar nb ga ha oa ++ [o])) hdis ho
  obtain ⟨v1, f1⟩ := v
  refine lv_istore (lv' := [(5, .int r), (4, .int (nI i)), (3, .ref o), (2, .ref (a 0)), (1, .ref d), (0, .ref b)]) hx hb d_L_law_479 hl (by decide) rfl (fun ls hl => ?_)
  refine lv_aload_n hx hb d_L_law_481 rfl (lv_at hl 3 rfl) ?_
  refine lv_aload_n hx hb d_L_law_482 rfl (lv_at hl 5 rfl) ?_
  refine lv_iload hx hb d_L_law_483 (lv_at hl 1 rfl) ?_
  refine lv_iconst (v := 1) hx hb d_L_law_485 (by decide) ?_
  refine lv_iadd hx hb d_L_law_486 ?_
  rw [show nI i + 1 = nI (i + 1) from nI_add i 1]
  refine va_sld hx hb hX hbl (hnA b hbl) hS (vp_in_nI (show i + 1 < L by omega) (by omega)) d_L_law_487 ?_
  rw [nI_clamp (show i + 1 < 2 ^ 31 by omega)]
  refine lv_aload_n hx hb d_L_law_488 rfl (lv_at hl 5 rfl) ?_
  refine lv_iload hx hb d_L_law_489 (lv_at hl 1 rfl) ?_
  refine lv_iconst (v := 2) hx hb d_L_law_491 (by decide) ?_
  refine lv_iadd hx hb d_L_law_492 ?_
  rw [show nI i + 2 = nI (i + 2) from nI_add i 2]
  refine va_sld hx hb hX hbl (hnA b hbl) hS (vp_in_nI (show i + 2 < L by omega) (by omega)) d_L_law_493 ?_
  rw [nI_clamp (show i + 2 < 2 ^ 31 by omega)]
  refine kc_l (σ := mDV) (Wd := mwv cI cJ cZ a) (L := mad a) (va_runV (As := [.int (xs (i + 1)), .int (xs (i + 2))]) (rest := []) ⟨hx, hb, hml, hown, hw⟩ (c_M_committed l hma co lg tm lf wr M (xs (i + 1)) (xs (i + 2)) hR.2.2.2.2.2.1 _) (cwV 2 hw (kb_V kb_433 kb_434 kb_435 kb_6 kb_436) rfl rfl rfl (by decide +kernel) ⟨Nat.le_of_ble_eq_true rfl, Nat.le_of_ble_eq_true rfl⟩) (kPV (va_recv hK2 hPm (ci := 3) (q0 := 0) rfl rfl) hPm hK2) rfl rfl hl.1 rfl (lv_room (Nat.le_of_ble_eq_true rfl)) d_L_law_494 ⟨by show cs + 2 + 0 ≤ 649434; omega, by show ss + 12 + 0 ≤ 7147768; omega⟩) hS hA hAm (fun r2 w H locs hm9 hPm _ ho hS => ?_)
  have hPk := kl_keep hPk (L := mad a) (fun q hq z => hdis q z (by rw [kw_oad] at hq; exact hq)) ho
  obtain ⟨h1, h2, hR1⟩ := ls_committed hR hw9 hm9
  dsimp only at h2 hR1 hPk
  refine lv_lstore (lv' := [(6, .long r2), (5, .int r), (4, .int (nI i)), (3, .ref o), (2, .ref (a 0)), (1, .ref d), (0, .ref b)]) hx hb d_L_law_497 hl (by decide) rfl (fun ls hl => ?_)
  refine lv_aload_n hx hb d_L_law_499 rfl (lv_at hl 4 rfl) ?_
  refine vp_callSi (W.runV (As := []) (rest := []) ⟨hx, hb, hml, hown, hw⟩ (c_M_thrown l hma w.1 w.2.1 w.2.2.1 w.2.2.2.1 w.2.2.2.2.1 w.2.2.2.2.2 _) (cwV 0 hw (kb_V kb_374 kb_375 kb_376 kb_6 kb_377) rfl rfl rfl (by decide +kernel) ⟨Nat.le_of_ble_eq_true rfl, Nat.le_of_ble_eq_true rfl⟩) (kPV (va_recv hK2 hPm (ci := 3) (q0 := 0) rfl rfl) hPm hK2) rfl rfl hl.1 rfl (lv_room (Nat.le_of_ble_eq_true rfl)) d_L_law_500 ⟨by show cs + 2 + 0 + 0 ≤ 649434; omega, by show ss + 12 + 0 + 0 ≤ 7147768; omega⟩) (fun r9 e9 => ?_)
  subst e9
  refine lv_iload hx hb d_L_law_503 (lv_at hl 1 rfl) ?_
  refine lv_icmp_eq (tgt := 510) hx hb d_L_law_505 (by decide) (fun c_1 => ?_) (fun c_1 => ?_)
  · refine lv_iload hx hb d_L_law_510 (lv_at hl 1 rfl) ?_
    refine lv_if_ne (tgt := 526) hx hb d_L_law_512 (by decide) (fun c_2 => ?_) (fun c_2 => ?_)
    · refine lv_goto (tgt := 803) hx hb d_L_law_526 (by decide) ?_
      refine W.widen (k := cs + 4) (n := ss + 24) (by show cs + 2 + 0 ≤ cs + 4; omega) (by show ss + 12 + 0 ≤ ss + 24; omega) ?_
      exact kk v1 w f1 H locs ls hR1 hPk hPm hS (lv_sub hl [2, 3, 4, 5, 6] rfl)
    · refine lv_aload_n hx hb d_L_law_515 rfl (lv_at hl 3 rfl) ?_
      refine lv_iconst (v := 0) hx hb d_L_law_516 (by decide) ?_
      refine va_lald hx hb hK1 hPk 27 1 kw_oat rfl (vp_in_nI (n := 0) (N := 1) (by decide) (by decide)) d_L_law_517 ?_
      refine lv_lload hx hb d_L_law_518 (lv_at hl 0 rfl) ?_
      refine W.lcmp hx hb d_L_law_520 ?_
      refine lv_if_eq (tgt := 526) hx hb d_L_law_521 (by decide) (fun c_3 => ?_) (fun c_3 => ?_)
      · refine lv_goto (tgt := 803) hx hb d_L_law_526 (by decide) ?_
        refine W.widen (k := cs + 4) (n := ss + 24) (by show cs + 2 + 0 ≤ cs + 4; omega) (by show ss + 12 + 0 ≤ ss + 24; omega) ?_
        exact kk v1 w f1 H locs ls hR1 hPk hPm hS (lv_sub hl [2, 3, 4, 5, 6] rfl)
      · exact absurd (lg_eq (h2 c_2)) c_3
  · exact absurd h1 c_1
set_option maxHeartbeats 4000000 in
set_option maxRecDepth 100000 in
theorem lc_group {p : Program} {l : Launch} {e : Env} {s : State} {m : MethodId} {below : List Frame} {meth : Method} {c : Code} {Q : State → Prop} {b L i : Nat} {xs : Nat → Int32} {dC : Nat → ClassId} {dI : Nat → Nat → Nat} {cI cJ cR cZ : ClassId} {d ar nb o : Nat} {ga ha oa a : Nat → Nat} (hl0 : l.stackTraces = false) (hx : p.tables.exec = Jvm.exec) (hb : c.code = b_L_law) (hml : c.maxLocals = 8) (hown : s.vm.findClass "GroupDeskLaw" = some m.cls) (hw : ∀ w ∈ kb_B, w.before #[Value.ref b] s = true) (hK1 : va_K (dC, dI) vwCl (kty cI cJ cR) s) (hK2 : va_K (dC, dI) vwCl (mty cI cJ cZ) s) (hZ : kt_Z s) (hX : va_X b L xs s s.heap) (hbl : b < s.heap.size) (hnd : (kad d ar nb ga ha oa).Nodup) (hno : o ∉ kad d ar nb ga ha oa) (hma : (mad a).Nodup) (hdis : ∀ q ∈ mad a, q ∉ (kad d ar nb ga ha oa ++ [o])) (hAk : ∀ q ∈ (kad d ar nb ga ha oa ++ [o]), s.heap.size ≤ q) (hAm : ∀ q ∈ mad a, s.heap.size ≤ q) (hL : L ≤ 3585) (hi : i + 7 ≤ L) {lg tm lf wr co : Int32} {G : Nat → kGV} {M : Nat → mGV} {f : Nat → Int64} {H : Heap} {locs : List Loc} {ls : Array Slot} {cs ss : Nat} (hcs : cs + 4 ≤ 649434) (hss : ss + 24 ≤ 7147768) (hR : kRel (lg, tm, lf, wr, G) (co, lg, tm, lf, wr, M)) (hPk : va_P (dC, dI) vwCl (kwv cI cJ cR d ar nb ga ha oa (lg, tm, lf, wr, G) ++ [(o, .inl (cJ, 1, .inr (.inl f)))]) H) (hPm : va_P (dC, dI) vwCl (mwv cI cJ cZ a (co, lg, tm, lf, wr, M)) H) (hS : va_S (fun q : Nat => s.heap.size ≤ q) s.heap H locs) (hl : lv_has ls 8 [(4, .int (nI i)), (3, .ref o), (2, .ref (a 0)), (1, .ref d), (0, .ref b)])
    (kk : ∀ (v : kDV) (w : mDV) (f : Nat → Int64) (H : Heap) (locs : List Loc) (ls : Array Slot), kRel v w → va_P (dC, dI) vwCl (kwv cI cJ cR d ar nb ga ha oa v ++ [(o, .inl (cJ, 1, .inr (.inl f)))]) H → va_P (dC, dI) vwCl (mwv cI cJ cZ a w) H → va_S (fun q : Nat => s.heap.size ≤ q) s.heap H locs → lv_has ls 8 [(4, .int (nI i)), (3, .ref o), (2, .ref (a 0)), (1, .ref d), (0, .ref b)] → W p l e room_1 s m #[Value.ref b] below meth c H locs (cs + 4) (ss + 24) Q (F0 m 803 ls [])) : W p l e room_1 s m #[Value.ref b] below meth c H locs cs ss Q (F0 m 529 ls []) := by
  have hnA : ∀ q : Nat, q < s.heap.size → ¬ s.heap.size ≤ q := fun q h => Nat.not_le.mpr h
  have hA : ∀ q : Nat, s.heap.size ≤ q → (fun q : Nat => s.heap.size ≤ q) q := fun _ h => h
  refine lv_aload_n hx hb d_L_law_529 rfl (lv_at hl 3 rfl) ?_
  refine lv_aload_n hx hb d_L_law_530 rfl (lv_at hl 4 rfl) ?_
  refine lv_iload hx hb d_L_law_531 (lv_at hl 0 rfl) ?_
  refine lv_iconst (v := 1) hx hb d_L_law_533 (by decide) ?_
  refine lv_iadd hx hb d_L_law_534 ?_
  rw [show nI i + 1 = nI (i + 1) from nI_add i 1]
  refine va_sld hx hb hX hbl (hnA b hbl) hS (vp_in_nI (show i + 1 < L by omega) (by omega)) d_L_law_535 ?_
  rw [nI_clamp (show i + 1 < 2 ^ 31 by omega)]
  refine lv_aload_n hx hb d_L_law_536 rfl (lv_at hl 4 rfl) ?_
  refine lv_iload hx hb d_L_law_537 (lv_at hl 0 rfl) ?_
  refine lv_iconst (v := 2) hx hb d_L_law_539 (by decide) ?_
  refine lv_iadd hx hb d_L_law_540 ?_
  rw [show nI i + 2 = nI (i + 2) from nI_add i 2]
  refine va_sld hx hb hX hbl (hnA b hbl) hS (vp_in_nI (show i + 2 < L by omega) (by omega)) d_L_law_541 ?_
  rw [nI_clamp (show i + 2 < 2 ^ 31 by omega)]
  refine lv_aload_n hx hb d_L_law_542 rfl (lv_at hl 1 rfl) ?_
  refine kc_i (σ := kDV × (Nat → Int64)) (Wd := fun u => kwv cI cJ cR d ar nb ga ha oa u.1 ++ [(o, .inl (cJ, 1, .inr (.inl u.2)))]) (L := (kad d ar nb ga ha oa ++ [o])) (kx_runS (n := 4) (As := [.ref d, .int (xs (i + 1)), .int (xs (i + 2)), .ref o]) (rest := []) ⟨hx, hb, hml, hown, hw⟩ (c_L_group l hl0 hnd lg tm lf wr G hno (xs (i + 1)) (xs (i + 2)) f _) rfl kb_280 kb_281 kb_0 kb_282 rfl rfl (by decide +kernel) ⟨Nat.le_of_ble_eq_true rfl, Nat.le_of_ble_eq_true rfl⟩ (kPST hPk hK1 hZ hnA hS) rfl rfl hl.1 rfl (lv_room (Nat.le_of_ble_eq_true rfl)) d_L_law_543 ⟨by show cs + 2 ≤ 649434; omega, by show ss + 12 ≤ 7147768; omega⟩) hS hA hAk (fun r v H locs hw9 hPk _ ho hS => ?_)
  have hPm := kl_keep hPm (L := (kad d ar nb ga ha oa ++ [o])) hdis ho
  obtain ⟨v1, f1⟩ := v
  refine lv_istore (lv' := [(5, .int r), (4, .int (nI i)), (3, .ref o), (2, .ref (a 0)), (1, .ref d), (0, .ref b)]) hx hb d_L_law_546 hl (by decide) rfl (fun ls hl => ?_)
  refine lv_aload_n hx hb d_L_law_548 rfl (lv_at hl 3 rfl) ?_
  refine lv_aload_n hx hb d_L_law_549 rfl (lv_at hl 5 rfl) ?_
  refine lv_iload hx hb d_L_law_550 (lv_at hl 1 rfl) ?_
  refine lv_iconst (v := 1) hx hb d_L_law_552 (by decide) ?_
  refine lv_iadd hx hb d_L_law_553 ?_
  rw [show nI i + 1 = nI (i + 1) from nI_add i 1]
  refine va_sld hx hb hX hbl (hnA b hbl) hS (vp_in_nI (show i + 1 < L by omega) (by omega)) d_L_law_554 ?_
  rw [nI_clamp (show i + 1 < 2 ^ 31 by omega)]
  refine lv_aload_n hx hb d_L_law_555 rfl (lv_at hl 5 rfl) ?_
  refine lv_iload hx hb d_L_law_556 (lv_at hl 1 rfl) ?_
  refine lv_iconst (v := 2) hx hb d_L_law_558 (by decide) ?_
  refine lv_iadd hx hb d_L_law_559 ?_
  rw [show nI i + 2 = nI (i + 2) from nI_add i 2]
  refine va_sld hx hb hX hbl (hnA b hbl) hS (vp_in_nI (show i + 2 < L by omega) (by omega)) d_L_law_560 ?_
  rw [nI_clamp (show i + 2 < 2 ^ 31 by omega)]
  refine kc_i (σ := mDV) (Wd := mwv cI cJ cZ a) (L := mad a) (va_runV (As := [.int (xs (i + 1)), .int (xs (i + 2))]) (rest := []) ⟨hx, hb, hml, hown, hw⟩ (c_M_group l hma co lg tm lf wr M (xs (i + 1)) (xs (i + 2)) _) (cwV 2 hw (kb_V kb_437 kb_438 kb_439 kb_6 kb_440) rfl rfl rfl (by decide +kernel) ⟨Nat.le_of_ble_eq_true rfl, Nat.le_of_ble_eq_true rfl⟩) (kPV (va_recv hK2 hPm (ci := 3) (q0 := 0) rfl rfl) hPm hK2) rfl rfl hl.1 rfl (lv_room (Nat.le_of_ble_eq_true rfl)) d_L_law_561 ⟨by show cs + 2 + 0 ≤ 649434; omega, by show ss + 12 + 0 ≤ 7147768; omega⟩) hS hA hAm (fun r2 w H locs hm9 hPm _ ho hS => ?_)
  have hPk := kl_keep hPk (L := mad a) (fun q hq z => hdis q z (by rw [kw_oad] at hq; exact hq)) ho
  obtain ⟨h1, h2, hR1⟩ := ls_group hR hw9 hm9
  dsimp only at h2 hR1 hPk
  refine lv_istore (lv' := [(6, .int r2), (5, .int r), (4, .int (nI i)), (3, .ref o), (2, .ref (a 0)), (1, .ref d), (0, .ref b)]) hx hb d_L_law_564 hl (by decide) rfl (fun ls hl => ?_)
  refine lv_aload_n hx hb d_L_law_566 rfl (lv_at hl 4 rfl) ?_
  refine vp_callSi (W.runV (As := []) (rest := []) ⟨hx, hb, hml, hown, hw⟩ (c_M_thrown l hma w.1 w.2.1 w.2.2.1 w.2.2.2.1 w.2.2.2.2.1 w.2.2.2.2.2 _) (cwV 0 hw (kb_V kb_374 kb_375 kb_376 kb_6 kb_377) rfl rfl rfl (by decide +kernel) ⟨Nat.le_of_ble_eq_true rfl, Nat.le_of_ble_eq_true rfl⟩) (kPV (va_recv hK2 hPm (ci := 3) (q0 := 0) rfl rfl) hPm hK2) rfl rfl hl.1 rfl (lv_room (Nat.le_of_ble_eq_true rfl)) d_L_law_567 ⟨by show cs + 2 + 0 + 0 ≤ 649434; omega, by show ss + 12 + 0 + 0 ≤ 7147768; omega⟩) (fun r9 e9 => ?_)
  subst e9
  refine lv_iload hx hb d_L_law_570 (lv_at hl 1 rfl) ?_
  refine lv_icmp_eq (tgt := 577) hx hb d_L_law_572 (by decide) (fun c_1 => ?_) (fun c_1 => ?_)
  · refine lv_iload hx hb d_L_law_577 (lv_at hl 1 rfl) ?_
    refine lv_if_ne (tgt := 594) hx hb d_L_law_579 (by decide) (fun c_2 => ?_) (fun c_2 => ?_)
    · refine lv_goto (tgt := 803) hx hb d_L_law_594 (by decide) ?_
      refine W.widen (k := cs + 4) (n := ss + 24) (by show cs + 2 + 0 ≤ cs + 4; omega) (by show ss + 12 + 0 ≤ ss + 24; omega) ?_
      exact kk v1 w f1 H locs ls hR1 hPk hPm hS (lv_sub hl [2, 3, 4, 5, 6] rfl)
    · refine lv_aload_n hx hb d_L_law_582 rfl (lv_at hl 3 rfl) ?_
      refine lv_iconst (v := 0) hx hb d_L_law_583 (by decide) ?_
      refine va_lald hx hb hK1 hPk 27 1 kw_oat rfl (vp_in_nI (n := 0) (N := 1) (by decide) (by decide)) d_L_law_584 ?_
      refine lv_iload hx hb d_L_law_585 (lv_at hl 0 rfl) ?_
      refine lv_i2l hx hb d_L_law_587 rfl ?_
      refine W.lcmp hx hb d_L_law_588 ?_
      refine lv_if_eq (tgt := 594) hx hb d_L_law_589 (by decide) (fun c_3 => ?_) (fun c_3 => ?_)
      · refine lv_goto (tgt := 803) hx hb d_L_law_594 (by decide) ?_
        refine W.widen (k := cs + 4) (n := ss + 24) (by show cs + 2 + 0 ≤ cs + 4; omega) (by show ss + 12 + 0 ≤ ss + 24; omega) ?_
        exact kk v1 w f1 H locs ls hR1 hPk hPm hS (lv_sub hl [2, 3, 4, 5, 6] rfl)
      · exact absurd (lg_eq (h2 c_2)) c_3
  · exact absurd h1 c_1
set_option maxHeartbeats 4000000 in
set_option maxRecDepth 100000 in
theorem lc_share {p : Program} {l : Launch} {e : Env} {s : State} {m : MethodId} {below : List Frame} {meth : Method} {c : Code} {Q : State → Prop} {b L i : Nat} {xs : Nat → Int32} {dC : Nat → ClassId} {dI : Nat → Nat → Nat} {cI cJ cR cZ : ClassId} {d ar nb o : Nat} {ga ha oa a : Nat → Nat} (hl0 : l.stackTraces = false) (hx : p.tables.exec = Jvm.exec) (hb : c.code = b_L_law) (hml : c.maxLocals = 8) (hown : s.vm.findClass "GroupDeskLaw" = some m.cls) (hw : ∀ w ∈ kb_B, w.before #[Value.ref b] s = true) (hK1 : va_K (dC, dI) vwCl (kty cI cJ cR) s) (hK2 : va_K (dC, dI) vwCl (mty cI cJ cZ) s) (hZ : kt_Z s) (hX : va_X b L xs s s.heap) (hbl : b < s.heap.size) (hnd : (kad d ar nb ga ha oa).Nodup) (hno : o ∉ kad d ar nb ga ha oa) (hma : (mad a).Nodup) (hdis : ∀ q ∈ mad a, q ∉ (kad d ar nb ga ha oa ++ [o])) (hAk : ∀ q ∈ (kad d ar nb ga ha oa ++ [o]), s.heap.size ≤ q) (hAm : ∀ q ∈ mad a, s.heap.size ≤ q) (hL : L ≤ 3585) (hi : i + 7 ≤ L) {lg tm lf wr co : Int32} {G : Nat → kGV} {M : Nat → mGV} {f : Nat → Int64} {H : Heap} {locs : List Loc} {ls : Array Slot} {cs ss : Nat} (hcs : cs + 4 ≤ 649434) (hss : ss + 24 ≤ 7147768) (hR : kRel (lg, tm, lf, wr, G) (co, lg, tm, lf, wr, M)) (hPk : va_P (dC, dI) vwCl (kwv cI cJ cR d ar nb ga ha oa (lg, tm, lf, wr, G) ++ [(o, .inl (cJ, 1, .inr (.inl f)))]) H) (hPm : va_P (dC, dI) vwCl (mwv cI cJ cZ a (co, lg, tm, lf, wr, M)) H) (hS : va_S (fun q : Nat => s.heap.size ≤ q) s.heap H locs) (hl : lv_has ls 8 [(4, .int (nI i)), (3, .ref o), (2, .ref (a 0)), (1, .ref d), (0, .ref b)])
    (kk : ∀ (v : kDV) (w : mDV) (f : Nat → Int64) (H : Heap) (locs : List Loc) (ls : Array Slot), kRel v w → va_P (dC, dI) vwCl (kwv cI cJ cR d ar nb ga ha oa v ++ [(o, .inl (cJ, 1, .inr (.inl f)))]) H → va_P (dC, dI) vwCl (mwv cI cJ cZ a w) H → va_S (fun q : Nat => s.heap.size ≤ q) s.heap H locs → lv_has ls 8 [(4, .int (nI i)), (3, .ref o), (2, .ref (a 0)), (1, .ref d), (0, .ref b)] → W p l e room_1 s m #[Value.ref b] below meth c H locs (cs + 4) (ss + 24) Q (F0 m 803 ls [])) : W p l e room_1 s m #[Value.ref b] below meth c H locs cs ss Q (F0 m 597 ls []) := by
  have hnA : ∀ q : Nat, q < s.heap.size → ¬ s.heap.size ≤ q := fun q h => Nat.not_le.mpr h
  have hA : ∀ q : Nat, s.heap.size ≤ q → (fun q : Nat => s.heap.size ≤ q) q := fun _ h => h
  refine lv_aload_n hx hb d_L_law_597 rfl (lv_at hl 3 rfl) ?_
  refine lv_aload_n hx hb d_L_law_598 rfl (lv_at hl 4 rfl) ?_
  refine lv_iload hx hb d_L_law_599 (lv_at hl 0 rfl) ?_
  refine lv_iconst (v := 1) hx hb d_L_law_601 (by decide) ?_
  refine lv_iadd hx hb d_L_law_602 ?_
  rw [show nI i + 1 = nI (i + 1) from nI_add i 1]
  refine va_sld hx hb hX hbl (hnA b hbl) hS (vp_in_nI (show i + 1 < L by omega) (by omega)) d_L_law_603 ?_
  rw [nI_clamp (show i + 1 < 2 ^ 31 by omega)]
  refine lv_aload_n hx hb d_L_law_604 rfl (lv_at hl 4 rfl) ?_
  refine lv_iload hx hb d_L_law_605 (lv_at hl 0 rfl) ?_
  refine lv_iconst (v := 2) hx hb d_L_law_607 (by decide) ?_
  refine lv_iadd hx hb d_L_law_608 ?_
  rw [show nI i + 2 = nI (i + 2) from nI_add i 2]
  refine va_sld hx hb hX hbl (hnA b hbl) hS (vp_in_nI (show i + 2 < L by omega) (by omega)) d_L_law_609 ?_
  rw [nI_clamp (show i + 2 < 2 ^ 31 by omega)]
  refine lv_aload_n hx hb d_L_law_610 rfl (lv_at hl 1 rfl) ?_
  refine kc_i (σ := kDV × (Nat → Int64)) (Wd := fun u => kwv cI cJ cR d ar nb ga ha oa u.1 ++ [(o, .inl (cJ, 1, .inr (.inl u.2)))]) (L := (kad d ar nb ga ha oa ++ [o])) (kx_runS (n := 4) (As := [.ref d, .int (xs (i + 1)), .int (xs (i + 2)), .ref o]) (rest := []) ⟨hx, hb, hml, hown, hw⟩ (c_L_share l hl0 hnd lg tm lf wr G hno (xs (i + 1)) (xs (i + 2)) hR.2.2.2.2.2.1 f _) rfl kb_293 kb_294 kb_0 kb_295 rfl rfl (by decide +kernel) ⟨Nat.le_of_ble_eq_true rfl, Nat.le_of_ble_eq_true rfl⟩ (kPST hPk hK1 hZ hnA hS) rfl rfl hl.1 rfl (lv_room (Nat.le_of_ble_eq_true rfl)) d_L_law_611 ⟨by show cs + 2 ≤ 649434; omega, by show ss + 12 ≤ 7147768; omega⟩) hS hA hAk (fun r v H locs hw9 hPk _ ho hS => ?_)
  have hPm := kl_keep hPm (L := (kad d ar nb ga ha oa ++ [o])) hdis ho
  obtain ⟨v1, f1⟩ := v
  refine lv_istore (lv' := [(5, .int r), (4, .int (nI i)), (3, .ref o), (2, .ref (a 0)), (1, .ref d), (0, .ref b)]) hx hb d_L_law_614 hl (by decide) rfl (fun ls hl => ?_)
  refine lv_aload_n hx hb d_L_law_616 rfl (lv_at hl 3 rfl) ?_
  refine lv_aload_n hx hb d_L_law_617 rfl (lv_at hl 5 rfl) ?_
  refine lv_iload hx hb d_L_law_618 (lv_at hl 1 rfl) ?_
  refine lv_iconst (v := 1) hx hb d_L_law_620 (by decide) ?_
  refine lv_iadd hx hb d_L_law_621 ?_
  rw [show nI i + 1 = nI (i + 1) from nI_add i 1]
  refine va_sld hx hb hX hbl (hnA b hbl) hS (vp_in_nI (show i + 1 < L by omega) (by omega)) d_L_law_622 ?_
  rw [nI_clamp (show i + 1 < 2 ^ 31 by omega)]
  refine lv_aload_n hx hb d_L_law_623 rfl (lv_at hl 5 rfl) ?_
  refine lv_iload hx hb d_L_law_624 (lv_at hl 1 rfl) ?_
  refine lv_iconst (v := 2) hx hb d_L_law_626 (by decide) ?_
  refine lv_iadd hx hb d_L_law_627 ?_
  rw [show nI i + 2 = nI (i + 2) from nI_add i 2]
  refine va_sld hx hb hX hbl (hnA b hbl) hS (vp_in_nI (show i + 2 < L by omega) (by omega)) d_L_law_628 ?_
  rw [nI_clamp (show i + 2 < 2 ^ 31 by omega)]
  refine kc_i (σ := mDV) (Wd := mwv cI cJ cZ a) (L := mad a) (va_runV (As := [.int (xs (i + 1)), .int (xs (i + 2))]) (rest := []) ⟨hx, hb, hml, hown, hw⟩ (c_M_share l hma co lg tm lf wr M (xs (i + 1)) (xs (i + 2)) hR.2.2.2.2.2.1 _) (cwV 2 hw (kb_V kb_441 kb_442 kb_443 kb_6 kb_444) rfl rfl rfl (by decide +kernel) ⟨Nat.le_of_ble_eq_true rfl, Nat.le_of_ble_eq_true rfl⟩) (kPV (va_recv hK2 hPm (ci := 3) (q0 := 0) rfl rfl) hPm hK2) rfl rfl hl.1 rfl (lv_room (Nat.le_of_ble_eq_true rfl)) d_L_law_629 ⟨by show cs + 2 + 0 ≤ 649434; omega, by show ss + 12 + 0 ≤ 7147768; omega⟩) hS hA hAm (fun r2 w H locs hm9 hPm _ ho hS => ?_)
  have hPk := kl_keep hPk (L := mad a) (fun q hq z => hdis q z (by rw [kw_oad] at hq; exact hq)) ho
  obtain ⟨h1, h2, hR1⟩ := ls_share hR hw9 hm9
  dsimp only at h2 hR1 hPk
  refine lv_istore (lv' := [(6, .int r2), (5, .int r), (4, .int (nI i)), (3, .ref o), (2, .ref (a 0)), (1, .ref d), (0, .ref b)]) hx hb d_L_law_632 hl (by decide) rfl (fun ls hl => ?_)
  refine lv_aload_n hx hb d_L_law_634 rfl (lv_at hl 4 rfl) ?_
  refine vp_callSi (W.runV (As := []) (rest := []) ⟨hx, hb, hml, hown, hw⟩ (c_M_thrown l hma w.1 w.2.1 w.2.2.1 w.2.2.2.1 w.2.2.2.2.1 w.2.2.2.2.2 _) (cwV 0 hw (kb_V kb_374 kb_375 kb_376 kb_6 kb_377) rfl rfl rfl (by decide +kernel) ⟨Nat.le_of_ble_eq_true rfl, Nat.le_of_ble_eq_true rfl⟩) (kPV (va_recv hK2 hPm (ci := 3) (q0 := 0) rfl rfl) hPm hK2) rfl rfl hl.1 rfl (lv_room (Nat.le_of_ble_eq_true rfl)) d_L_law_635 ⟨by show cs + 2 + 0 + 0 ≤ 649434; omega, by show ss + 12 + 0 + 0 ≤ 7147768; omega⟩) (fun r9 e9 => ?_)
  subst e9
  refine lv_iload hx hb d_L_law_638 (lv_at hl 1 rfl) ?_
  refine lv_icmp_eq (tgt := 645) hx hb d_L_law_640 (by decide) (fun c_1 => ?_) (fun c_1 => ?_)
  · refine lv_iload hx hb d_L_law_645 (lv_at hl 1 rfl) ?_
    refine lv_if_ne (tgt := 662) hx hb d_L_law_647 (by decide) (fun c_2 => ?_) (fun c_2 => ?_)
    · refine lv_goto (tgt := 803) hx hb d_L_law_662 (by decide) ?_
      refine W.widen (k := cs + 4) (n := ss + 24) (by show cs + 2 + 0 ≤ cs + 4; omega) (by show ss + 12 + 0 ≤ ss + 24; omega) ?_
      exact kk v1 w f1 H locs ls hR1 hPk hPm hS (lv_sub hl [2, 3, 4, 5, 6] rfl)
    · refine lv_aload_n hx hb d_L_law_650 rfl (lv_at hl 3 rfl) ?_
      refine lv_iconst (v := 0) hx hb d_L_law_651 (by decide) ?_
      refine va_lald hx hb hK1 hPk 27 1 kw_oat rfl (vp_in_nI (n := 0) (N := 1) (by decide) (by decide)) d_L_law_652 ?_
      refine lv_iload hx hb d_L_law_653 (lv_at hl 0 rfl) ?_
      refine lv_i2l hx hb d_L_law_655 rfl ?_
      refine W.lcmp hx hb d_L_law_656 ?_
      refine lv_if_eq (tgt := 662) hx hb d_L_law_657 (by decide) (fun c_3 => ?_) (fun c_3 => ?_)
      · refine lv_goto (tgt := 803) hx hb d_L_law_662 (by decide) ?_
        refine W.widen (k := cs + 4) (n := ss + 24) (by show cs + 2 + 0 ≤ cs + 4; omega) (by show ss + 12 + 0 ≤ ss + 24; omega) ?_
        exact kk v1 w f1 H locs ls hR1 hPk hPm hS (lv_sub hl [2, 3, 4, 5, 6] rfl)
      · exact absurd (lg_eq (h2 c_2)) c_3
  · exact absurd h1 c_1
set_option maxHeartbeats 4000000 in
set_option maxRecDepth 100000 in
theorem lc_room {p : Program} {l : Launch} {e : Env} {s : State} {m : MethodId} {below : List Frame} {meth : Method} {c : Code} {Q : State → Prop} {b L i : Nat} {xs : Nat → Int32} {dC : Nat → ClassId} {dI : Nat → Nat → Nat} {cI cJ cR cZ : ClassId} {d ar nb o : Nat} {ga ha oa a : Nat → Nat} (hl0 : l.stackTraces = false) (hx : p.tables.exec = Jvm.exec) (hb : c.code = b_L_law) (hml : c.maxLocals = 8) (hown : s.vm.findClass "GroupDeskLaw" = some m.cls) (hw : ∀ w ∈ kb_B, w.before #[Value.ref b] s = true) (hK1 : va_K (dC, dI) vwCl (kty cI cJ cR) s) (hK2 : va_K (dC, dI) vwCl (mty cI cJ cZ) s) (hZ : kt_Z s) (hX : va_X b L xs s s.heap) (hbl : b < s.heap.size) (hnd : (kad d ar nb ga ha oa).Nodup) (hno : o ∉ kad d ar nb ga ha oa) (hma : (mad a).Nodup) (hdis : ∀ q ∈ mad a, q ∉ (kad d ar nb ga ha oa ++ [o])) (hAk : ∀ q ∈ (kad d ar nb ga ha oa ++ [o]), s.heap.size ≤ q) (hAm : ∀ q ∈ mad a, s.heap.size ≤ q) (hL : L ≤ 3585) (hi : i + 7 ≤ L) {lg tm lf wr co : Int32} {G : Nat → kGV} {M : Nat → mGV} {f : Nat → Int64} {H : Heap} {locs : List Loc} {ls : Array Slot} {cs ss : Nat} (hcs : cs + 4 ≤ 649434) (hss : ss + 24 ≤ 7147768) (hR : kRel (lg, tm, lf, wr, G) (co, lg, tm, lf, wr, M)) (hPk : va_P (dC, dI) vwCl (kwv cI cJ cR d ar nb ga ha oa (lg, tm, lf, wr, G) ++ [(o, .inl (cJ, 1, .inr (.inl f)))]) H) (hPm : va_P (dC, dI) vwCl (mwv cI cJ cZ a (co, lg, tm, lf, wr, M)) H) (hS : va_S (fun q : Nat => s.heap.size ≤ q) s.heap H locs) (hl : lv_has ls 8 [(4, .int (nI i)), (3, .ref o), (2, .ref (a 0)), (1, .ref d), (0, .ref b)])
    (kk : ∀ (v : kDV) (w : mDV) (f : Nat → Int64) (H : Heap) (locs : List Loc) (ls : Array Slot), kRel v w → va_P (dC, dI) vwCl (kwv cI cJ cR d ar nb ga ha oa v ++ [(o, .inl (cJ, 1, .inr (.inl f)))]) H → va_P (dC, dI) vwCl (mwv cI cJ cZ a w) H → va_S (fun q : Nat => s.heap.size ≤ q) s.heap H locs → lv_has ls 8 [(4, .int (nI i)), (3, .ref o), (2, .ref (a 0)), (1, .ref d), (0, .ref b)] → W p l e room_1 s m #[Value.ref b] below meth c H locs (cs + 4) (ss + 24) Q (F0 m 803 ls [])) : W p l e room_1 s m #[Value.ref b] below meth c H locs cs ss Q (F0 m 665 ls []) := by
  have hnA : ∀ q : Nat, q < s.heap.size → ¬ s.heap.size ≤ q := fun q h => Nat.not_le.mpr h
  have hA : ∀ q : Nat, s.heap.size ≤ q → (fun q : Nat => s.heap.size ≤ q) q := fun _ h => h
  refine lv_aload_n hx hb d_L_law_665 rfl (lv_at hl 3 rfl) ?_
  refine lv_aload_n hx hb d_L_law_666 rfl (lv_at hl 4 rfl) ?_
  refine lv_iload hx hb d_L_law_667 (lv_at hl 0 rfl) ?_
  refine lv_iconst (v := 1) hx hb d_L_law_669 (by decide) ?_
  refine lv_iadd hx hb d_L_law_670 ?_
  rw [show nI i + 1 = nI (i + 1) from nI_add i 1]
  refine va_sld hx hb hX hbl (hnA b hbl) hS (vp_in_nI (show i + 1 < L by omega) (by omega)) d_L_law_671 ?_
  rw [nI_clamp (show i + 1 < 2 ^ 31 by omega)]
  refine lv_aload_n hx hb d_L_law_672 rfl (lv_at hl 1 rfl) ?_
  refine kc_i (σ := kDV × (Nat → Int64)) (Wd := fun u => kwv cI cJ cR d ar nb ga ha oa u.1 ++ [(o, .inl (cJ, 1, .inr (.inl u.2)))]) (L := (kad d ar nb ga ha oa ++ [o])) (kx_runS (n := 3) (As := [.ref d, .int (xs (i + 1)), .ref o]) (rest := []) ⟨hx, hb, hml, hown, hw⟩ (c_L_room l hl0 hnd lg tm lf wr G hno (xs (i + 1)) f _) rfl kb_301 kb_302 kb_0 kb_303 rfl rfl (by decide +kernel) ⟨Nat.le_of_ble_eq_true rfl, Nat.le_of_ble_eq_true rfl⟩ (kPST hPk hK1 hZ hnA hS) rfl rfl hl.1 rfl (lv_room (Nat.le_of_ble_eq_true rfl)) d_L_law_673 ⟨by show cs + 1 ≤ 649434; omega, by show ss + 6 ≤ 7147768; omega⟩) hS hA hAk (fun r v H locs hw9 hPk _ ho hS => ?_)
  have hPm := kl_keep hPm (L := (kad d ar nb ga ha oa ++ [o])) hdis ho
  obtain ⟨v1, f1⟩ := v
  refine lv_istore (lv' := [(5, .int r), (4, .int (nI i)), (3, .ref o), (2, .ref (a 0)), (1, .ref d), (0, .ref b)]) hx hb d_L_law_676 hl (by decide) rfl (fun ls hl => ?_)
  refine lv_aload_n hx hb d_L_law_678 rfl (lv_at hl 3 rfl) ?_
  refine lv_aload_n hx hb d_L_law_679 rfl (lv_at hl 5 rfl) ?_
  refine lv_iload hx hb d_L_law_680 (lv_at hl 1 rfl) ?_
  refine lv_iconst (v := 1) hx hb d_L_law_682 (by decide) ?_
  refine lv_iadd hx hb d_L_law_683 ?_
  rw [show nI i + 1 = nI (i + 1) from nI_add i 1]
  refine va_sld hx hb hX hbl (hnA b hbl) hS (vp_in_nI (show i + 1 < L by omega) (by omega)) d_L_law_684 ?_
  rw [nI_clamp (show i + 1 < 2 ^ 31 by omega)]
  refine kc_i (σ := mDV) (Wd := mwv cI cJ cZ a) (L := mad a) (va_runV (As := [.int (xs (i + 1))]) (rest := []) ⟨hx, hb, hml, hown, hw⟩ (c_M_room l hma co lg tm lf wr M (xs (i + 1)) _) (cwV 1 hw (kb_V kb_445 kb_446 kb_447 kb_6 kb_448) rfl rfl rfl (by decide +kernel) ⟨Nat.le_of_ble_eq_true rfl, Nat.le_of_ble_eq_true rfl⟩) (kPV (va_recv hK2 hPm (ci := 3) (q0 := 0) rfl rfl) hPm hK2) rfl rfl hl.1 rfl (lv_room (Nat.le_of_ble_eq_true rfl)) d_L_law_685 ⟨by show cs + 1 + 0 ≤ 649434; omega, by show ss + 6 + 0 ≤ 7147768; omega⟩) hS hA hAm (fun r2 w H locs hm9 hPm _ ho hS => ?_)
  have hPk := kl_keep hPk (L := mad a) (fun q hq z => hdis q z (by rw [kw_oad] at hq; exact hq)) ho
  obtain ⟨h1, h2, hR1⟩ := ls_room hR hw9 hm9
  dsimp only at h2 hR1 hPk
  refine lv_istore (lv' := [(6, .int r2), (5, .int r), (4, .int (nI i)), (3, .ref o), (2, .ref (a 0)), (1, .ref d), (0, .ref b)]) hx hb d_L_law_688 hl (by decide) rfl (fun ls hl => ?_)
  refine lv_aload_n hx hb d_L_law_690 rfl (lv_at hl 4 rfl) ?_
  refine vp_callSi (W.runV (As := []) (rest := []) ⟨hx, hb, hml, hown, hw⟩ (c_M_thrown l hma w.1 w.2.1 w.2.2.1 w.2.2.2.1 w.2.2.2.2.1 w.2.2.2.2.2 _) (cwV 0 hw (kb_V kb_374 kb_375 kb_376 kb_6 kb_377) rfl rfl rfl (by decide +kernel) ⟨Nat.le_of_ble_eq_true rfl, Nat.le_of_ble_eq_true rfl⟩) (kPV (va_recv hK2 hPm (ci := 3) (q0 := 0) rfl rfl) hPm hK2) rfl rfl hl.1 rfl (lv_room (Nat.le_of_ble_eq_true rfl)) d_L_law_691 ⟨by show cs + 1 + 0 + 0 ≤ 649434; omega, by show ss + 6 + 0 + 0 ≤ 7147768; omega⟩) (fun r9 e9 => ?_)
  subst e9
  refine lv_iload hx hb d_L_law_694 (lv_at hl 1 rfl) ?_
  refine lv_icmp_eq (tgt := 701) hx hb d_L_law_696 (by decide) (fun c_1 => ?_) (fun c_1 => ?_)
  · refine lv_iload hx hb d_L_law_701 (lv_at hl 1 rfl) ?_
    refine lv_if_ne (tgt := 718) hx hb d_L_law_703 (by decide) (fun c_2 => ?_) (fun c_2 => ?_)
    · refine lv_goto (tgt := 803) hx hb d_L_law_718 (by decide) ?_
      refine W.widen (k := cs + 4) (n := ss + 24) (by show cs + 1 + 0 ≤ cs + 4; omega) (by show ss + 6 + 0 ≤ ss + 24; omega) ?_
      exact kk v1 w f1 H locs ls hR1 hPk hPm hS (lv_sub hl [2, 3, 4, 5, 6] rfl)
    · refine lv_aload_n hx hb d_L_law_706 rfl (lv_at hl 3 rfl) ?_
      refine lv_iconst (v := 0) hx hb d_L_law_707 (by decide) ?_
      refine va_lald hx hb hK1 hPk 27 1 kw_oat rfl (vp_in_nI (n := 0) (N := 1) (by decide) (by decide)) d_L_law_708 ?_
      refine lv_iload hx hb d_L_law_709 (lv_at hl 0 rfl) ?_
      refine lv_i2l hx hb d_L_law_711 rfl ?_
      refine W.lcmp hx hb d_L_law_712 ?_
      refine lv_if_eq (tgt := 718) hx hb d_L_law_713 (by decide) (fun c_3 => ?_) (fun c_3 => ?_)
      · refine lv_goto (tgt := 803) hx hb d_L_law_718 (by decide) ?_
        refine W.widen (k := cs + 4) (n := ss + 24) (by show cs + 1 + 0 ≤ cs + 4; omega) (by show ss + 6 + 0 ≤ ss + 24; omega) ?_
        exact kk v1 w f1 H locs ls hR1 hPk hPm hS (lv_sub hl [2, 3, 4, 5, 6] rfl)
      · exact absurd (lg_eq (h2 c_2)) c_3
  · exact absurd h1 c_1
set_option maxHeartbeats 4000000 in
set_option maxRecDepth 100000 in
theorem lc_restart {p : Program} {l : Launch} {e : Env} {s : State} {m : MethodId} {below : List Frame} {meth : Method} {c : Code} {Q : State → Prop} {b L i : Nat} {xs : Nat → Int32} {dC : Nat → ClassId} {dI : Nat → Nat → Nat} {cI cJ cR cZ : ClassId} {d ar nb o : Nat} {ga ha oa a : Nat → Nat} (hl0 : l.stackTraces = false) (hx : p.tables.exec = Jvm.exec) (hb : c.code = b_L_law) (hml : c.maxLocals = 8) (hown : s.vm.findClass "GroupDeskLaw" = some m.cls) (hw : ∀ w ∈ kb_B, w.before #[Value.ref b] s = true) (hK1 : va_K (dC, dI) vwCl (kty cI cJ cR) s) (hK2 : va_K (dC, dI) vwCl (mty cI cJ cZ) s) (hZ : kt_Z s) (hX : va_X b L xs s s.heap) (hbl : b < s.heap.size) (hnd : (kad d ar nb ga ha oa).Nodup) (hno : o ∉ kad d ar nb ga ha oa) (hma : (mad a).Nodup) (hdis : ∀ q ∈ mad a, q ∉ (kad d ar nb ga ha oa ++ [o])) (hAk : ∀ q ∈ (kad d ar nb ga ha oa ++ [o]), s.heap.size ≤ q) (hAm : ∀ q ∈ mad a, s.heap.size ≤ q) (hL : L ≤ 3585) (hi : i + 7 ≤ L) {lg tm lf wr co : Int32} {G : Nat → kGV} {M : Nat → mGV} {f : Nat → Int64} {H : Heap} {locs : List Loc} {ls : Array Slot} {cs ss : Nat} (hcs : cs + 4 ≤ 649434) (hss : ss + 24 ≤ 7147768) (hR : kRel (lg, tm, lf, wr, G) (co, lg, tm, lf, wr, M)) (hPk : va_P (dC, dI) vwCl (kwv cI cJ cR d ar nb ga ha oa (lg, tm, lf, wr, G) ++ [(o, .inl (cJ, 1, .inr (.inl f)))]) H) (hPm : va_P (dC, dI) vwCl (mwv cI cJ cZ a (co, lg, tm, lf, wr, M)) H) (hS : va_S (fun q : Nat => s.heap.size ≤ q) s.heap H locs) (hl : lv_has ls 8 [(4, .int (nI i)), (3, .ref o), (2, .ref (a 0)), (1, .ref d), (0, .ref b)])
    (kk : ∀ (v : kDV) (w : mDV) (f : Nat → Int64) (H : Heap) (locs : List Loc) (ls : Array Slot), kRel v w → va_P (dC, dI) vwCl (kwv cI cJ cR d ar nb ga ha oa v ++ [(o, .inl (cJ, 1, .inr (.inl f)))]) H → va_P (dC, dI) vwCl (mwv cI cJ cZ a w) H → va_S (fun q : Nat => s.heap.size ≤ q) s.heap H locs → lv_has ls 8 [(4, .int (nI i)), (3, .ref o), (2, .ref (a 0)), (1, .ref d), (0, .ref b)] → W p l e room_1 s m #[Value.ref b] below meth c H locs (cs + 4) (ss + 24) Q (F0 m 803 ls [])) : W p l e room_1 s m #[Value.ref b] below meth c H locs cs ss Q (F0 m 721 ls []) := by
  have hnA : ∀ q : Nat, q < s.heap.size → ¬ s.heap.size ≤ q := fun q h => Nat.not_le.mpr h
  have hA : ∀ q : Nat, s.heap.size ≤ q → (fun q : Nat => s.heap.size ≤ q) q := fun _ h => h
  refine lv_aload_n hx hb d_L_law_721 rfl (lv_at hl 3 rfl) ?_
  have hPd := kl_L hPk
  refine kc_i (σ := kDV) (Wd := kwv cI cJ cR d ar nb ga ha oa) (L := kad d ar nb ga ha oa) (va_runV (As := []) (rest := []) ⟨hx, hb, hml, hown, hw⟩ (c_D_restart l hnd lg tm lf wr G _) (cwV 0 hw (kb_V kb_95 kb_96 kb_97 kb_1 kb_98) rfl rfl rfl (by decide +kernel) ⟨Nat.le_of_ble_eq_true rfl, Nat.le_of_ble_eq_true rfl⟩) (kPV (va_recv hK1 hPd (ci := 0) (q0 := 0) rfl rfl) hPd hK1) rfl rfl hl.1 rfl (lv_room (Nat.le_of_ble_eq_true rfl)) d_L_law_722 ⟨by show cs + 0 ≤ 649434; omega, by show ss + 0 ≤ 7147768; omega⟩) hS hA (fun q h => hAk q (List.mem_append_left _ h)) (fun r v H locs hw9 hPd _ ho hS => ?_)
  have hPo := kl_keep (kl_R hPk) (L := kad d ar nb ga ha oa) (fun q hq => by rw [show q = o from List.mem_singleton.mp hq]; exact hno) ho
  have hPk := va_P.app hPd hPo
  have hPm := kl_keep hPm (L := kad d ar nb ga ha oa) (fun q hq z => hdis q hq (List.mem_append_left _ z)) ho
  obtain ⟨rfl, rfl⟩ := hw9
  refine lv_aload_n hx hb d_L_law_725 rfl (lv_at hl 2 rfl) ?_
  refine kc_i (σ := mDV) (Wd := mwv cI cJ cZ a) (L := mad a) (va_runV (As := []) (rest := [.int ((kd_rest G 8).1)]) ⟨hx, hb, hml, hown, hw⟩ (c_M_restart l hma co lg tm lf wr M _) (cwV 0 hw (kb_V kb_450 kb_451 kb_452 kb_6 kb_453) rfl rfl rfl (by decide +kernel) ⟨Nat.le_of_ble_eq_true rfl, Nat.le_of_ble_eq_true rfl⟩) (kPV (va_recv hK2 hPm (ci := 3) (q0 := 0) rfl rfl) hPm hK2) rfl rfl hl.1 rfl (lv_room (Nat.le_of_ble_eq_true rfl)) d_L_law_726 ⟨by show cs + 0 + 0 ≤ 649434; omega, by show ss + 0 + 0 ≤ 7147768; omega⟩) hS hA hAm (fun r2 w H locs hm9 hPm _ ho hS => ?_)
  have hPk := kl_keep hPk (L := mad a) (fun q hq z => hdis q z (by rw [kw_oad] at hq; exact hq)) ho
  obtain ⟨rfl, rfl⟩ := hm9
  refine lv_icmp_eq (tgt := 803) hx hb d_L_law_729 (by decide) (fun c_1 => ?_) (fun c_1 => ?_)
  · refine W.widen (k := cs + 4) (n := ss + 24) (by show cs + 0 + 0 ≤ cs + 4; omega) (by show ss + 0 + 0 ≤ ss + 24; omega) ?_
    exact kk _ (0, lg, tm, lf, wr, (mrs M 8).2) _ H locs ls ⟨rfl, rfl, rfl, rfl, hR.2.2.2.2.1, hR.2.2.2.2.2.1, hR.2.2.2.2.2.2.1, (rel_rest hR.2.2.2.2.2.2.2 8 (Nat.le_refl 8)).2⟩ hPk hPm hS (lv_sub hl [0, 1, 2, 3, 4] rfl)
  · exact absurd (rel_rest hR.2.2.2.2.2.2.2 8 (Nat.le_refl 8)).1 c_1
set_option maxHeartbeats 4000000 in
set_option maxRecDepth 100000 in
theorem lc_ticks {p : Program} {l : Launch} {e : Env} {s : State} {m : MethodId} {below : List Frame} {meth : Method} {c : Code} {Q : State → Prop} {b L i : Nat} {xs : Nat → Int32} {dC : Nat → ClassId} {dI : Nat → Nat → Nat} {cI cJ cR cZ : ClassId} {d ar nb o : Nat} {ga ha oa a : Nat → Nat} (hl0 : l.stackTraces = false) (hx : p.tables.exec = Jvm.exec) (hb : c.code = b_L_law) (hml : c.maxLocals = 8) (hown : s.vm.findClass "GroupDeskLaw" = some m.cls) (hw : ∀ w ∈ kb_B, w.before #[Value.ref b] s = true) (hK1 : va_K (dC, dI) vwCl (kty cI cJ cR) s) (hK2 : va_K (dC, dI) vwCl (mty cI cJ cZ) s) (hZ : kt_Z s) (hX : va_X b L xs s s.heap) (hbl : b < s.heap.size) (hnd : (kad d ar nb ga ha oa).Nodup) (hno : o ∉ kad d ar nb ga ha oa) (hma : (mad a).Nodup) (hdis : ∀ q ∈ mad a, q ∉ (kad d ar nb ga ha oa ++ [o])) (hAk : ∀ q ∈ (kad d ar nb ga ha oa ++ [o]), s.heap.size ≤ q) (hAm : ∀ q ∈ mad a, s.heap.size ≤ q) (hL : L ≤ 3585) (hi : i + 7 ≤ L) {lg tm lf wr co : Int32} {G : Nat → kGV} {M : Nat → mGV} {f : Nat → Int64} {H : Heap} {locs : List Loc} {ls : Array Slot} {cs ss : Nat} (hcs : cs + 4 ≤ 649434) (hss : ss + 24 ≤ 7147768) (hR : kRel (lg, tm, lf, wr, G) (co, lg, tm, lf, wr, M)) (hPk : va_P (dC, dI) vwCl (kwv cI cJ cR d ar nb ga ha oa (lg, tm, lf, wr, G) ++ [(o, .inl (cJ, 1, .inr (.inl f)))]) H) (hPm : va_P (dC, dI) vwCl (mwv cI cJ cZ a (co, lg, tm, lf, wr, M)) H) (hS : va_S (fun q : Nat => s.heap.size ≤ q) s.heap H locs) (hl : lv_has ls 8 [(4, .int (nI i)), (3, .ref o), (2, .ref (a 0)), (1, .ref d), (0, .ref b)])
    (kk : ∀ (v : kDV) (w : mDV) (f : Nat → Int64) (H : Heap) (locs : List Loc) (ls : Array Slot), kRel v w → va_P (dC, dI) vwCl (kwv cI cJ cR d ar nb ga ha oa v ++ [(o, .inl (cJ, 1, .inr (.inl f)))]) H → va_P (dC, dI) vwCl (mwv cI cJ cZ a w) H → va_S (fun q : Nat => s.heap.size ≤ q) s.heap H locs → lv_has ls 8 [(4, .int (nI i)), (3, .ref o), (2, .ref (a 0)), (1, .ref d), (0, .ref b)] → W p l e room_1 s m #[Value.ref b] below meth c H locs (cs + 4) (ss + 24) Q (F0 m 803 ls [])) : W p l e room_1 s m #[Value.ref b] below meth c H locs cs ss Q (F0 m 734 ls []) := by
  have hnA : ∀ q : Nat, q < s.heap.size → ¬ s.heap.size ≤ q := fun q h => Nat.not_le.mpr h
  have hA : ∀ q : Nat, s.heap.size ≤ q → (fun q : Nat => s.heap.size ≤ q) q := fun _ h => h
  refine lv_aload_n hx hb d_L_law_734 rfl (lv_at hl 3 rfl) ?_
  refine lv_aload_n hx hb d_L_law_735 rfl (lv_at hl 4 rfl) ?_
  refine lv_iload hx hb d_L_law_736 (lv_at hl 0 rfl) ?_
  refine lv_iconst (v := 1) hx hb d_L_law_738 (by decide) ?_
  refine lv_iadd hx hb d_L_law_739 ?_
  rw [show nI i + 1 = nI (i + 1) from nI_add i 1]
  refine va_sld hx hb hX hbl (hnA b hbl) hS (vp_in_nI (show i + 1 < L by omega) (by omega)) d_L_law_740 ?_
  rw [nI_clamp (show i + 1 < 2 ^ 31 by omega)]
  refine lv_aload_n hx hb d_L_law_741 rfl (lv_at hl 1 rfl) ?_
  refine kc_i (σ := kDV × (Nat → Int64)) (Wd := fun u => kwv cI cJ cR d ar nb ga ha oa u.1 ++ [(o, .inl (cJ, 1, .inr (.inl u.2)))]) (L := (kad d ar nb ga ha oa ++ [o])) (kx_runS (n := 3) (As := [.ref d, .int (xs (i + 1)), .ref o]) (rest := []) ⟨hx, hb, hml, hown, hw⟩ (c_L_ticks l hl0 hnd lg tm lf wr G hno (xs (i + 1)) f _) rfl kb_310 kb_311 kb_0 kb_312 rfl rfl (by decide +kernel) ⟨Nat.le_of_ble_eq_true rfl, Nat.le_of_ble_eq_true rfl⟩ (kPST hPk hK1 hZ hnA hS) rfl rfl hl.1 rfl (lv_room (Nat.le_of_ble_eq_true rfl)) d_L_law_742 ⟨by show cs + 1 ≤ 649434; omega, by show ss + 6 ≤ 7147768; omega⟩) hS hA hAk (fun r v H locs hw9 hPk _ ho hS => ?_)
  have hPm := kl_keep hPm (L := (kad d ar nb ga ha oa ++ [o])) hdis ho
  obtain ⟨v1, f1⟩ := v
  refine lv_istore (lv' := [(5, .int r), (4, .int (nI i)), (3, .ref o), (2, .ref (a 0)), (1, .ref d), (0, .ref b)]) hx hb d_L_law_745 hl (by decide) rfl (fun ls hl => ?_)
  refine lv_aload_n hx hb d_L_law_747 rfl (lv_at hl 3 rfl) ?_
  refine lv_aload_n hx hb d_L_law_748 rfl (lv_at hl 5 rfl) ?_
  refine lv_iload hx hb d_L_law_749 (lv_at hl 1 rfl) ?_
  refine lv_iconst (v := 1) hx hb d_L_law_751 (by decide) ?_
  refine lv_iadd hx hb d_L_law_752 ?_
  rw [show nI i + 1 = nI (i + 1) from nI_add i 1]
  refine va_sld hx hb hX hbl (hnA b hbl) hS (vp_in_nI (show i + 1 < L by omega) (by omega)) d_L_law_753 ?_
  rw [nI_clamp (show i + 1 < 2 ^ 31 by omega)]
  refine kc_i (σ := mDV) (Wd := mwv cI cJ cZ a) (L := mad a) (va_runV (As := [.int (xs (i + 1))]) (rest := []) ⟨hx, hb, hml, hown, hw⟩ (c_M_ticks l hma co lg tm lf wr M (xs (i + 1)) _) (cwV 1 hw (kb_V kb_454 kb_455 kb_456 kb_6 kb_457) rfl rfl rfl (by decide +kernel) ⟨Nat.le_of_ble_eq_true rfl, Nat.le_of_ble_eq_true rfl⟩) (kPV (va_recv hK2 hPm (ci := 3) (q0 := 0) rfl rfl) hPm hK2) rfl rfl hl.1 rfl (lv_room (Nat.le_of_ble_eq_true rfl)) d_L_law_754 ⟨by show cs + 1 + 0 ≤ 649434; omega, by show ss + 6 + 0 ≤ 7147768; omega⟩) hS hA hAm (fun r2 w H locs hm9 hPm _ ho hS => ?_)
  have hPk := kl_keep hPk (L := mad a) (fun q hq z => hdis q z (by rw [kw_oad] at hq; exact hq)) ho
  obtain ⟨h1, h2, hR1⟩ := ls_ticks hR hw9 hm9
  dsimp only at h2 hR1 hPk
  refine lv_istore (lv' := [(6, .int r2), (5, .int r), (4, .int (nI i)), (3, .ref o), (2, .ref (a 0)), (1, .ref d), (0, .ref b)]) hx hb d_L_law_757 hl (by decide) rfl (fun ls hl => ?_)
  refine lv_aload_n hx hb d_L_law_759 rfl (lv_at hl 4 rfl) ?_
  refine vp_callSi (W.runV (As := []) (rest := []) ⟨hx, hb, hml, hown, hw⟩ (c_M_thrown l hma w.1 w.2.1 w.2.2.1 w.2.2.2.1 w.2.2.2.2.1 w.2.2.2.2.2 _) (cwV 0 hw (kb_V kb_374 kb_375 kb_376 kb_6 kb_377) rfl rfl rfl (by decide +kernel) ⟨Nat.le_of_ble_eq_true rfl, Nat.le_of_ble_eq_true rfl⟩) (kPV (va_recv hK2 hPm (ci := 3) (q0 := 0) rfl rfl) hPm hK2) rfl rfl hl.1 rfl (lv_room (Nat.le_of_ble_eq_true rfl)) d_L_law_760 ⟨by show cs + 1 + 0 + 0 ≤ 649434; omega, by show ss + 6 + 0 + 0 ≤ 7147768; omega⟩) (fun r9 e9 => ?_)
  subst e9
  refine lv_iload hx hb d_L_law_763 (lv_at hl 1 rfl) ?_
  refine lv_icmp_eq (tgt := 770) hx hb d_L_law_765 (by decide) (fun c_1 => ?_) (fun c_1 => ?_)
  · refine lv_iload hx hb d_L_law_770 (lv_at hl 1 rfl) ?_
    refine lv_if_ne (tgt := 787) hx hb d_L_law_772 (by decide) (fun c_2 => ?_) (fun c_2 => ?_)
    · refine lv_goto (tgt := 803) hx hb d_L_law_787 (by decide) ?_
      refine W.widen (k := cs + 4) (n := ss + 24) (by show cs + 1 + 0 ≤ cs + 4; omega) (by show ss + 6 + 0 ≤ ss + 24; omega) ?_
      exact kk v1 w f1 H locs ls hR1 hPk hPm hS (lv_sub hl [2, 3, 4, 5, 6] rfl)
    · refine lv_aload_n hx hb d_L_law_775 rfl (lv_at hl 3 rfl) ?_
      refine lv_iconst (v := 0) hx hb d_L_law_776 (by decide) ?_
      refine va_lald hx hb hK1 hPk 27 1 kw_oat rfl (vp_in_nI (n := 0) (N := 1) (by decide) (by decide)) d_L_law_777 ?_
      refine lv_iload hx hb d_L_law_778 (lv_at hl 0 rfl) ?_
      refine lv_i2l hx hb d_L_law_780 rfl ?_
      refine W.lcmp hx hb d_L_law_781 ?_
      refine lv_if_eq (tgt := 787) hx hb d_L_law_782 (by decide) (fun c_3 => ?_) (fun c_3 => ?_)
      · refine lv_goto (tgt := 803) hx hb d_L_law_787 (by decide) ?_
        refine W.widen (k := cs + 4) (n := ss + 24) (by show cs + 1 + 0 ≤ cs + 4; omega) (by show ss + 6 + 0 ≤ ss + 24; omega) ?_
        exact kk v1 w f1 H locs ls hR1 hPk hPm hS (lv_sub hl [2, 3, 4, 5, 6] rfl)
      · exact absurd (lg_eq (h2 c_2)) c_3
  · exact absurd h1 c_1
set_option maxHeartbeats 4000000 in
set_option maxRecDepth 100000 in
theorem lc_notes {p : Program} {l : Launch} {e : Env} {s : State} {m : MethodId} {below : List Frame} {meth : Method} {c : Code} {Q : State → Prop} {b L i : Nat} {xs : Nat → Int32} {dC : Nat → ClassId} {dI : Nat → Nat → Nat} {cI cJ cR cZ : ClassId} {d ar nb o : Nat} {ga ha oa a : Nat → Nat} (hl0 : l.stackTraces = false) (hx : p.tables.exec = Jvm.exec) (hb : c.code = b_L_law) (hml : c.maxLocals = 8) (hown : s.vm.findClass "GroupDeskLaw" = some m.cls) (hw : ∀ w ∈ kb_B, w.before #[Value.ref b] s = true) (hK1 : va_K (dC, dI) vwCl (kty cI cJ cR) s) (hK2 : va_K (dC, dI) vwCl (mty cI cJ cZ) s) (hZ : kt_Z s) (hX : va_X b L xs s s.heap) (hbl : b < s.heap.size) (hnd : (kad d ar nb ga ha oa).Nodup) (hno : o ∉ kad d ar nb ga ha oa) (hma : (mad a).Nodup) (hdis : ∀ q ∈ mad a, q ∉ (kad d ar nb ga ha oa ++ [o])) (hAk : ∀ q ∈ (kad d ar nb ga ha oa ++ [o]), s.heap.size ≤ q) (hAm : ∀ q ∈ mad a, s.heap.size ≤ q) (hL : L ≤ 3585) (hi : i + 7 ≤ L) {lg tm lf wr co : Int32} {G : Nat → kGV} {M : Nat → mGV} {f : Nat → Int64} {H : Heap} {locs : List Loc} {ls : Array Slot} {cs ss : Nat} (hcs : cs + 4 ≤ 649434) (hss : ss + 24 ≤ 7147768) (hR : kRel (lg, tm, lf, wr, G) (co, lg, tm, lf, wr, M)) (hPk : va_P (dC, dI) vwCl (kwv cI cJ cR d ar nb ga ha oa (lg, tm, lf, wr, G) ++ [(o, .inl (cJ, 1, .inr (.inl f)))]) H) (hPm : va_P (dC, dI) vwCl (mwv cI cJ cZ a (co, lg, tm, lf, wr, M)) H) (hS : va_S (fun q : Nat => s.heap.size ≤ q) s.heap H locs) (hl : lv_has ls 8 [(4, .int (nI i)), (3, .ref o), (2, .ref (a 0)), (1, .ref d), (0, .ref b)])
    (kk : ∀ (v : kDV) (w : mDV) (f : Nat → Int64) (H : Heap) (locs : List Loc) (ls : Array Slot), kRel v w → va_P (dC, dI) vwCl (kwv cI cJ cR d ar nb ga ha oa v ++ [(o, .inl (cJ, 1, .inr (.inl f)))]) H → va_P (dC, dI) vwCl (mwv cI cJ cZ a w) H → va_S (fun q : Nat => s.heap.size ≤ q) s.heap H locs → lv_has ls 8 [(4, .int (nI i)), (3, .ref o), (2, .ref (a 0)), (1, .ref d), (0, .ref b)] → W p l e room_1 s m #[Value.ref b] below meth c H locs (cs + 4) (ss + 24) Q (F0 m 803 ls [])) : W p l e room_1 s m #[Value.ref b] below meth c H locs cs ss Q (F0 m 790 ls []) := by
  have hnA : ∀ q : Nat, q < s.heap.size → ¬ s.heap.size ≤ q := fun q h => Nat.not_le.mpr h
  have hA : ∀ q : Nat, s.heap.size ≤ q → (fun q : Nat => s.heap.size ≤ q) q := fun _ h => h
  refine lv_aload_n hx hb d_L_law_790 rfl (lv_at hl 3 rfl) ?_
  have hPd := kl_L hPk
  refine vp_callSi (W.runV (As := []) (rest := []) ⟨hx, hb, hml, hown, hw⟩ (c_D_notes l hnd lg tm lf wr G _) (cwV 0 hw (kb_V kb_109 kb_110 kb_111 kb_1 kb_112) rfl rfl rfl (by decide +kernel) ⟨Nat.le_of_ble_eq_true rfl, Nat.le_of_ble_eq_true rfl⟩) (kPV (va_recv hK1 hPd (ci := 0) (q0 := 0) rfl rfl) hPd hK1) rfl rfl hl.1 rfl (lv_room (Nat.le_of_ble_eq_true rfl)) d_L_law_791 ⟨by show cs + 0 ≤ 649434; omega, by show ss + 0 ≤ 7147768; omega⟩) (fun r9 e9 => ?_)
  rw [e9]
  refine lv_aload_n hx hb d_L_law_794 rfl (lv_at hl 2 rfl) ?_
  refine kc_i (σ := mDV) (Wd := mwv cI cJ cZ a) (L := mad a) (va_runV (As := []) (rest := [.int wr]) ⟨hx, hb, hml, hown, hw⟩ (c_M_notes l hma co lg tm lf wr M _) (cwV 0 hw (kb_V kb_463 kb_464 kb_465 kb_6 kb_466) rfl rfl rfl (by decide +kernel) ⟨Nat.le_of_ble_eq_true rfl, Nat.le_of_ble_eq_true rfl⟩) (kPV (va_recv hK2 hPm (ci := 3) (q0 := 0) rfl rfl) hPm hK2) rfl rfl hl.1 rfl (lv_room (Nat.le_of_ble_eq_true rfl)) d_L_law_795 ⟨by show cs + 0 ≤ 649434; omega, by show ss + 0 ≤ 7147768; omega⟩) hS hA hAm (fun r2 w H locs hm9 hPm _ ho hS => ?_)
  have hPk := kl_keep hPk (L := mad a) (fun q hq z => hdis q z (by rw [kw_oad] at hq; exact hq)) ho
  obtain ⟨hr9, rfl⟩ := hm9
  rw [hr9]
  refine lv_icmp_eq (tgt := 803) hx hb d_L_law_798 (by decide) (fun c_1 => ?_) (fun c_1 => ?_)
  · refine W.widen (k := cs + 4) (n := ss + 24) (by show cs + 0 ≤ cs + 4; omega) (by show ss + 0 ≤ ss + 24; omega) ?_
    exact kk (lg, tm, lf, wr, G) (0, lg, tm, lf, wr, M) _ H locs ls hR hPk hPm hS (lv_sub hl [0, 1, 2, 3, 4] rfl)
  · exact absurd rfl c_1
