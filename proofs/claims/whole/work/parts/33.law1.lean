theorem md_co (v : mDV) (n : Nat) : (md_ticks v n).1 = v.1 := by
  induction n with
  | zero => rfl
  | succ n ih =>
    rw [md_ticks, ← ih]
    generalize md_ticks v n = z
    obtain ⟨z0, z1, z2, z3, z4, z5⟩ := z
    rfl
theorem lg_eq {x y : Int64} (h : x = y) : lg_cmp x y = 0 := by
  subst h
  unfold lg_cmp
  simp
theorem ls_join {lg tm lf wr co : Int32} {G : Nat → kGV} {M : Nat → mGV} {f : Nat → Int64} {p0 : Int32} {p1 : Int32} (hR : kRel (lg, tm, lf, wr, G) (co, lg, tm, lf, wr, M)) {r : Int32} {r2 : Int32} {v : kDV × (Nat → Int64)} {w : mDV} (hw : (fun (r : Int32) (u : kDV × (Nat → Int64)) => (r = 0 ∧ ∃ i : Int32, ((fun (r : Int32) (u : kDV) => (vp_in p0 8 ∧ vp_in p1 8) ∧ (r, u) = kd_join p0 p1 (lg, tm, lf, wr, G)) i u.1) ∧ u.2 = vp_updL f 0 (i.toInt64)) ∨ (r = 1 ∧ (¬ (vp_in p0 8 ∧ vp_in p1 8)) ∧ u = ((lg, tm, lf, wr, G), f))) r v) (hm : (fun (r : Int32) (u : mDV) => ((vp_in p0 8 ∧ vp_in p1 8) ∧ (r, u) = md_join p0.toNatClampNeg p1.toNatClampNeg (co, lg, tm, lf, wr, M)) ∨ (¬ (vp_in p0 8 ∧ vp_in p1 8) ∧ u = (1, lg, tm, lf, wr, M))) r2 w) : w.1 = r ∧ (r = 0 → v.2 0 = r2.toInt64) ∧ kRel v.1 w := by
  rcases hw with ⟨rfl, i, ⟨hc, he⟩, hf⟩ | ⟨rfl, hn, rfl⟩
  · have hm := (hm.resolve_right (fun z => z.1 hc)).2
    obtain ⟨q1, q2, q3⟩ := rel_join hR hc.1 hc.2
    have e1 := congrArg Prod.fst he
    have e2 := congrArg Prod.snd he
    have m1 := congrArg Prod.fst hm
    have m2 := congrArg Prod.snd hm
    dsimp only at e1 e2 m1 m2
    refine ⟨by rw [m2]; exact q3, fun _ => by rw [hf, pk_uLs, e1, m1, q1], by rw [e2, m2]; exact q2⟩
  · have hm := (hm.resolve_left (fun z => hn z.1)).2
    subst hm
    exact ⟨rfl, fun z => absurd z (by decide), hR⟩
theorem ls_leave {lg tm lf wr co : Int32} {G : Nat → kGV} {M : Nat → mGV} {f : Nat → Int64} {p0 : Int32} {p1 : Int32} (hR : kRel (lg, tm, lf, wr, G) (co, lg, tm, lf, wr, M)) {r : Int32} {r2 : Int32} {v : kDV × (Nat → Int64)} {w : mDV} (hw : (fun (r : Int32) (u : kDV × (Nat → Int64)) => (r = 0 ∧ ∃ i : Int32, ((fun (r : Int32) (u : kDV) => (vp_in p0 8 ∧ vp_in p1 8) ∧ (r, u) = kd_leave p0 p1 (lg, tm, lf, wr, G)) i u.1) ∧ u.2 = vp_updL f 0 (i.toInt64)) ∨ (r = 1 ∧ (¬ (vp_in p0 8 ∧ vp_in p1 8)) ∧ u = ((lg, tm, lf, wr, G), f))) r v) (hm : (fun (r : Int32) (u : mDV) => ((vp_in p0 8 ∧ vp_in p1 8) ∧ (r, u) = md_leave p0.toNatClampNeg p1.toNatClampNeg (co, lg, tm, lf, wr, M)) ∨ (¬ (vp_in p0 8 ∧ vp_in p1 8) ∧ u = (1, lg, tm, lf, wr, M))) r2 w) : w.1 = r ∧ (r = 0 → v.2 0 = r2.toInt64) ∧ kRel v.1 w := by
  rcases hw with ⟨rfl, i, ⟨hc, he⟩, hf⟩ | ⟨rfl, hn, rfl⟩
  · have hm := (hm.resolve_right (fun z => z.1 hc)).2
    obtain ⟨q1, q2, q3⟩ := rel_leave hR hc.1 hc.2
    have e1 := congrArg Prod.fst he
    have e2 := congrArg Prod.snd he
    have m1 := congrArg Prod.fst hm
    have m2 := congrArg Prod.snd hm
    dsimp only at e1 e2 m1 m2
    refine ⟨by rw [m2]; exact q3, fun _ => by rw [hf, pk_uLs, e1, m1, q1], by rw [e2, m2]; exact q2⟩
  · have hm := (hm.resolve_left (fun z => hn z.1)).2
    subst hm
    exact ⟨rfl, fun z => absurd z (by decide), hR⟩
theorem ls_beat {lg tm lf wr co : Int32} {G : Nat → kGV} {M : Nat → mGV} {f : Nat → Int64} {p0 : Int32} {p1 : Int32} {p2 : Int32} (hR : kRel (lg, tm, lf, wr, G) (co, lg, tm, lf, wr, M)) {r : Int32} {r2 : Int32} {v : kDV × (Nat → Int64)} {w : mDV} (hw : (fun (r : Int32) (u : kDV × (Nat → Int64)) => (r = 0 ∧ ∃ i : Int32, ((fun (r : Int32) (u : kDV) => (vp_in p0 8 ∧ vp_in p1 8) ∧ (r, u) = kd_beat p0 p1 p2 (lg, tm, lf, wr, G)) i u.1) ∧ u.2 = vp_updL f 0 (i.toInt64)) ∨ (r = 1 ∧ (¬ (vp_in p0 8 ∧ vp_in p1 8)) ∧ u = ((lg, tm, lf, wr, G), f))) r v) (hm : (fun (r : Int32) (u : mDV) => ((vp_in p0 8 ∧ vp_in p1 8) ∧ (r, u) = md_beat p0.toNatClampNeg p1.toNatClampNeg p2 (co, lg, tm, lf, wr, M)) ∨ (¬ (vp_in p0 8 ∧ vp_in p1 8) ∧ u = (1, lg, tm, lf, wr, M))) r2 w) : w.1 = r ∧ (r = 0 → v.2 0 = r2.toInt64) ∧ kRel v.1 w := by
  rcases hw with ⟨rfl, i, ⟨hc, he⟩, hf⟩ | ⟨rfl, hn, rfl⟩
  · have hm := (hm.resolve_right (fun z => z.1 hc)).2
    obtain ⟨q1, q2, q3⟩ := rel_beat (p2 := p2) hR hc.1 hc.2
    have e1 := congrArg Prod.fst he
    have e2 := congrArg Prod.snd he
    have m1 := congrArg Prod.fst hm
    have m2 := congrArg Prod.snd hm
    dsimp only at e1 e2 m1 m2
    refine ⟨by rw [m2]; exact q3, fun _ => by rw [hf, pk_uLs, e1, m1, q1], by rw [e2, m2]; exact q2⟩
  · have hm := (hm.resolve_left (fun z => hn z.1)).2
    subst hm
    exact ⟨rfl, fun z => absurd z (by decide), hR⟩
theorem ls_commit {lg tm lf wr co : Int32} {G : Nat → kGV} {M : Nat → mGV} {f : Nat → Int64} {p0 : Int32} {p1 : Int32} {p2 : Int32} {p3 : Int32} {p4 : Int64} (hR : kRel (lg, tm, lf, wr, G) (co, lg, tm, lf, wr, M)) {r : Int32} {r2 : Int32} {v : kDV × (Nat → Int64)} {w : mDV} (hw : (fun (r : Int32) (u : kDV × (Nat → Int64)) => (r = 0 ∧ ∃ i : Int32, ((fun (r : Int32) (u : kDV) => (vp_in p0 8 ∧ vp_in p1 8 ∧ (¬ p3 < 0 ∧ p3 < lg) ∧ ¬ p4 < 0) ∧ (r, u) = kd_commit p0 p1 p2 p3 p4 (lg, tm, lf, wr, G)) i u.1) ∧ u.2 = vp_updL f 0 (i.toInt64)) ∨ (r = 1 ∧ (¬ (vp_in p0 8 ∧ vp_in p1 8 ∧ (¬ p3 < 0 ∧ p3 < lg) ∧ ¬ p4 < 0)) ∧ u = ((lg, tm, lf, wr, G), f))) r v) (hm : (fun (r : Int32) (u : mDV) => ((vp_in p0 8 ∧ vp_in p1 8 ∧ (¬ p3 < 0 ∧ p3 < lg) ∧ ¬ p4 < 0) ∧ (r, u) = md_commit p0.toNatClampNeg p1.toNatClampNeg p2 p3.toNatClampNeg p4 (co, lg, tm, lf, wr, M)) ∨ (¬ (vp_in p0 8 ∧ vp_in p1 8 ∧ (¬ p3 < 0 ∧ p3 < lg) ∧ ¬ p4 < 0) ∧ u = (1, lg, tm, lf, wr, M))) r2 w) : w.1 = r ∧ (r = 0 → v.2 0 = r2.toInt64) ∧ kRel v.1 w := by
  rcases hw with ⟨rfl, i, ⟨hc, he⟩, hf⟩ | ⟨rfl, hn, rfl⟩
  · have hm := (hm.resolve_right (fun z => z.1 hc)).2
    obtain ⟨q1, q2, q3⟩ := rel_commit (p2 := p2) (p4 := p4) hR hc.1 hc.2.1 hc.2.2.1
    have e1 := congrArg Prod.fst he
    have e2 := congrArg Prod.snd he
    have m1 := congrArg Prod.fst hm
    have m2 := congrArg Prod.snd hm
    dsimp only at e1 e2 m1 m2
    refine ⟨by rw [m2]; exact q3, fun _ => by rw [hf, pk_uLs, e1, m1, q1], by rw [e2, m2]; exact q2⟩
  · have hm := (hm.resolve_left (fun z => hn z.1)).2
    subst hm
    exact ⟨rfl, fun z => absurd z (by decide), hR⟩
theorem ls_committed {lg tm lf wr co : Int32} {G : Nat → kGV} {M : Nat → mGV} {f : Nat → Int64} {p0 : Int32} {p1 : Int32} (hR : kRel (lg, tm, lf, wr, G) (co, lg, tm, lf, wr, M)) {r : Int32} {r2 : Int64} {v : kDV × (Nat → Int64)} {w : mDV} (hw : (fun (r : Int32) (u : kDV × (Nat → Int64)) => (r = 0 ∧ ∃ i : Int64, ((fun (r : Int64) (u : kDV) => (vp_in p0 8 ∧ (¬ p1 < 0 ∧ p1 < lg)) ∧ r = (G p0.toNatClampNeg).2.2.2.2.2.2 p1.toNatClampNeg ∧ u = (lg, tm, lf, wr, G)) i u.1) ∧ u.2 = vp_updL f 0 (i)) ∨ (r = 1 ∧ (¬ (vp_in p0 8 ∧ (¬ p1 < 0 ∧ p1 < lg))) ∧ u = ((lg, tm, lf, wr, G), f))) r v) (hm : (fun (r : Int64) (u : mDV) => ((vp_in p0 8 ∧ (¬ p1 < 0 ∧ p1 < lg)) ∧ (r = (M p0.toNatClampNeg).2.2.2.2.2.2 p1.toNatClampNeg ∧ u = (0, lg, tm, lf, wr, M))) ∨ (¬ (vp_in p0 8 ∧ (¬ p1 < 0 ∧ p1 < lg)) ∧ u = (1, lg, tm, lf, wr, M))) r2 w) : w.1 = r ∧ (r = 0 → v.2 0 = r2) ∧ kRel v.1 w := by
  rcases hw with ⟨rfl, i, ⟨hc, he⟩, hf⟩ | ⟨rfl, hn, rfl⟩
  · have hm := (hm.resolve_right (fun z => z.1 hc)).2
    have q1 := rel_committed hR hc.1 hc.2
    refine ⟨by rw [hm.2], fun _ => by rw [hf, pk_uLs, he.1, hm.1]; exact q1, by rw [he.2, hm.2]; exact hR⟩
  · have hm := (hm.resolve_left (fun z => hn z.1)).2
    subst hm
    exact ⟨rfl, fun z => absurd z (by decide), hR⟩
theorem ls_group {lg tm lf wr co : Int32} {G : Nat → kGV} {M : Nat → mGV} {f : Nat → Int64} {p0 : Int32} {p1 : Int32} (hR : kRel (lg, tm, lf, wr, G) (co, lg, tm, lf, wr, M)) {r : Int32} {r2 : Int32} {v : kDV × (Nat → Int64)} {w : mDV} (hw : (fun (r : Int32) (u : kDV × (Nat → Int64)) => (r = 0 ∧ ∃ i : Int32, ((fun (r : Int32) (u : kDV) => (vp_in p0 8 ∧ vp_in p1 5) ∧ r = kg_what tm p1 (G p0.toNatClampNeg) ∧ u = (lg, tm, lf, wr, G)) i u.1) ∧ u.2 = vp_updL f 0 (i.toInt64)) ∨ (r = 1 ∧ (¬ (vp_in p0 8 ∧ vp_in p1 5)) ∧ u = ((lg, tm, lf, wr, G), f))) r v) (hm : (fun (r : Int32) (u : mDV) => ((vp_in p0 8 ∧ vp_in p1 5) ∧ (r, u) = (mg_what tm p1 (M p0.toNatClampNeg), (0, lg, tm, lf, wr, M))) ∨ (¬ (vp_in p0 8 ∧ vp_in p1 5) ∧ u = (1, lg, tm, lf, wr, M))) r2 w) : w.1 = r ∧ (r = 0 → v.2 0 = r2.toInt64) ∧ kRel v.1 w := by
  rcases hw with ⟨rfl, i, ⟨hc, he⟩, hf⟩ | ⟨rfl, hn, rfl⟩
  · have hm := (hm.resolve_right (fun z => z.1 hc)).2
    have m1 := congrArg Prod.fst hm
    have m2 := congrArg Prod.snd hm
    dsimp only at m1 m2
    have q1 := rel_group hR hc.1 hc.2
    refine ⟨by rw [m2], fun _ => by rw [hf, pk_uLs, he.1, m1]; exact congrArg Int32.toInt64 q1, by rw [he.2, m2]; exact hR⟩
  · have hm := (hm.resolve_left (fun z => hn z.1)).2
    subst hm
    exact ⟨rfl, fun z => absurd z (by decide), hR⟩
theorem ls_share {lg tm lf wr co : Int32} {G : Nat → kGV} {M : Nat → mGV} {f : Nat → Int64} {p0 : Int32} {p1 : Int32} (hR : kRel (lg, tm, lf, wr, G) (co, lg, tm, lf, wr, M)) {r : Int32} {r2 : Int32} {v : kDV × (Nat → Int64)} {w : mDV} (hw : (fun (r : Int32) (u : kDV × (Nat → Int64)) => (r = 0 ∧ ∃ i : Int32, ((fun (r : Int32) (u : kDV) => (vp_in p0 8 ∧ vp_in p1 8) ∧ r = kg_sh p1 (G p0.toNatClampNeg) lg.toNatClampNeg ∧ u = (lg, tm, lf, wr, G)) i u.1) ∧ u.2 = vp_updL f 0 (i.toInt64)) ∨ (r = 1 ∧ (¬ (vp_in p0 8 ∧ vp_in p1 8)) ∧ u = ((lg, tm, lf, wr, G), f))) r v) (hm : (fun (r : Int32) (u : mDV) => ((vp_in p0 8 ∧ vp_in p1 8) ∧ (r, u) = (mg_sh p1.toNatClampNeg lg.toNatClampNeg (M p0.toNatClampNeg), (0, lg, tm, lf, wr, M))) ∨ (¬ (vp_in p0 8 ∧ vp_in p1 8) ∧ u = (1, lg, tm, lf, wr, M))) r2 w) : w.1 = r ∧ (r = 0 → v.2 0 = r2.toInt64) ∧ kRel v.1 w := by
  rcases hw with ⟨rfl, i, ⟨hc, he⟩, hf⟩ | ⟨rfl, hn, rfl⟩
  · have hm := (hm.resolve_right (fun z => z.1 hc)).2
    have m1 := congrArg Prod.fst hm
    have m2 := congrArg Prod.snd hm
    dsimp only at m1 m2
    have q1 := rel_share hR hc.1 hc.2
    refine ⟨by rw [m2], fun _ => by rw [hf, pk_uLs, he.1, m1]; exact congrArg Int32.toInt64 q1, by rw [he.2, m2]; exact hR⟩
  · have hm := (hm.resolve_left (fun z => hn z.1)).2
    subst hm
    exact ⟨rfl, fun z => absurd z (by decide), hR⟩
theorem ls_room {lg tm lf wr co : Int32} {G : Nat → kGV} {M : Nat → mGV} {f : Nat → Int64} {p0 : Int32} (hR : kRel (lg, tm, lf, wr, G) (co, lg, tm, lf, wr, M)) {r : Int32} {r2 : Int32} {v : kDV × (Nat → Int64)} {w : mDV} (hw : (fun (r : Int32) (u : kDV × (Nat → Int64)) => (r = 0 ∧ ∃ i : Int32, ((fun (r : Int32) (u : kDV) => (¬ p0 < 0 ∧ p0 ≤ 100000) ∧ (r, u) = (lf, (lg, tm, p0, wr, G))) i u.1) ∧ u.2 = vp_updL f 0 (i.toInt64)) ∨ (r = 1 ∧ (¬ (¬ p0 < 0 ∧ p0 ≤ 100000)) ∧ u = ((lg, tm, lf, wr, G), f))) r v) (hm : (fun (r : Int32) (u : mDV) => ((¬ p0 < 0 ∧ p0 ≤ 100000) ∧ (r, u) = (lf, (0, lg, tm, p0, wr, M))) ∨ (¬ (¬ p0 < 0 ∧ p0 ≤ 100000) ∧ u = (1, lg, tm, lf, wr, M))) r2 w) : w.1 = r ∧ (r = 0 → v.2 0 = r2.toInt64) ∧ kRel v.1 w := by
  rcases hw with ⟨rfl, i, ⟨hc, he⟩, hf⟩ | ⟨rfl, hn, rfl⟩
  · have hm := (hm.resolve_right (fun z => z.1 hc)).2
    have e1 := congrArg Prod.fst he
    have e2 := congrArg Prod.snd he
    have m1 := congrArg Prod.fst hm
    have m2 := congrArg Prod.snd hm
    dsimp only at e1 e2 m1 m2
    refine ⟨by rw [m2], fun _ => by rw [hf, pk_uLs, e1, m1], ?_⟩
    rw [e2, m2]
    obtain ⟨-, -, -, -, -, g5, g6, g7⟩ := hR
    exact ⟨rfl, rfl, rfl, rfl, hc.1, g5, g6, g7⟩
  · have hm := (hm.resolve_left (fun z => hn z.1)).2
    subst hm
    exact ⟨rfl, fun z => absurd z (by decide), hR⟩
theorem ls_ticks {lg tm lf wr co : Int32} {G : Nat → kGV} {M : Nat → mGV} {f : Nat → Int64} {p0 : Int32} (hR : kRel (lg, tm, lf, wr, G) (co, lg, tm, lf, wr, M)) {r : Int32} {r2 : Int32} {v : kDV × (Nat → Int64)} {w : mDV} (hw : (fun (r : Int32) (u : kDV × (Nat → Int64)) => (r = 0 ∧ ∃ i : Int32, ((fun (r : Int32) (u : kDV) => (¬ p0 < 1 ∧ p0 ≤ 200 ∧ tm + p0 ≤ 1000000) ∧ (r, u) = ((kd_ticks (lg, tm, lf, wr, G) p0.toNatClampNeg).2.1, kd_ticks (lg, tm, lf, wr, G) p0.toNatClampNeg)) i u.1) ∧ u.2 = vp_updL f 0 (i.toInt64)) ∨ (r = 1 ∧ (¬ (¬ p0 < 1 ∧ p0 ≤ 200 ∧ tm + p0 ≤ 1000000)) ∧ u = ((lg, tm, lf, wr, G), f))) r v) (hm : (fun (r : Int32) (u : mDV) => ((¬ p0 < 1 ∧ p0 ≤ 200 ∧ tm + p0 ≤ 1000000) ∧ (r, u) = ((md_ticks (0, lg, tm, lf, wr, M) p0.toNatClampNeg).2.2.1, md_ticks (0, lg, tm, lf, wr, M) p0.toNatClampNeg)) ∨ (¬ (¬ p0 < 1 ∧ p0 ≤ 200 ∧ tm + p0 ≤ 1000000) ∧ u = (1, lg, tm, lf, wr, M))) r2 w) : w.1 = r ∧ (r = 0 → v.2 0 = r2.toInt64) ∧ kRel v.1 w := by
  rcases hw with ⟨rfl, i, ⟨hc, he⟩, hf⟩ | ⟨rfl, hn, rfl⟩
  · have hm := (hm.resolve_right (fun z => z.1 hc)).2
    have e1 := congrArg Prod.fst he
    have e2 := congrArg Prod.snd he
    have m1 := congrArg Prod.fst hm
    have m2 := congrArg Prod.snd hm
    dsimp only at e1 e2 m1 m2
    obtain ⟨c1, c2, c3⟩ := hc
    obtain ⟨n, hn, rfl⟩ := nI_of2 (M := 200) (n := 200) rfl (k_n1 c1) c2
    have hcn : (nI n).toNatClampNeg = n := nI_clamp (by omega)
    have hR0 : kRel (lg, tm, lf, wr, G) (0, lg, tm, lf, wr, M) := hR
    obtain ⟨t1, t2⟩ := (rel_tm hR).2.2.2.2
    have hs : tm.toInt + n ≤ 1000000 := by
      have z := Int32.le_iff_toInt_le.mp c3
      rw [Int32.toInt_add, nI_toInt (by omega), show (1000000 : Int32).toInt = 1000000 from rfl, Int.bmod_eq_of_le (by dsimp only at t1; omega) (by dsimp only at t2; omega)] at z
      exact z
    obtain ⟨q1, q2⟩ := rel_ticks hR0 (n := n) hs
    rw [hcn] at e1 e2 m1 m2
    have hco : (md_ticks (0, lg, tm, lf, wr, M) n).1 = 0 := md_co _ n
    refine ⟨by rw [m2]; exact hco, fun _ => by rw [hf, pk_uLs, e1, m1, (rel_tm q1).1], by rw [e2, m2]; exact q1⟩
  · have hm := (hm.resolve_left (fun z => hn z.1)).2
    subst hm
    exact ⟨rfl, fun z => absurd z (by decide), hR⟩
/-! a static call of a method with a handler -/
section KSW
variable {p : Program} {l : Launch} {e : Env} {R : Room} {s : State} {m : MethodId} {args : Array Value} {below : List Frame} {meth : Method} {c : Code} {H : Heap} {locs : List Loc} {cells slots : Nat} {Q : State → Prop}
theorem kx_runS {y : MethodName} {bytes cc : ByteArray} {maxL nL mc ms n index : Nat} {ret : Option FieldType} {hh : List (Nat × Nat × Nat × Nat)} {ws : List Cond} {rm : Room} {Pc : Array Value → State → Prop} {Qc : Array Value → State → Outcome → State → Prop} {free : Addr → Prop} {own : String} {As rest : List Value} {g : JFrame}
    (S : CallFix p m c cc nL s args kb_B own) (hM : Met l y ws rm Pc Qc mc ms free) (hw : ws = Cond.codeWith y bytes maxL ret hh :: kb_B) (h1 : Cond.methodLink own index y ∈ kb_B) (h2 : Cond.static y ∈ kb_B) (h3 : Cond.initialized y.cls ∈ kb_B) (h4 : Cond.codeWith y bytes maxL ret hh ∈ kb_B) (hrc : rm.cells = mc) (hrs : rm.slots = ms)
    (hd : y.cls ≠ "java/lang/invoke/MethodHandle" ∧ y.cls ≠ "java/lang/invoke/VarHandle" ∧ (parseMethodDescriptor y.desc).map (fun d => d.parameters.length) = some n) (hR : rm.frames + 1 ≤ R.frames ∧ 8 + (maxL + 11) + rm.locals ≤ R.locals) (hp : PreS s H Pc As)
    (hg : g.method = m) (hn : As.length = n) (hsize : g.locals.size = nL) (hstack : g.stack = As.reverse ++ rest) (hW : 2 * g.monitorRoom + (rest.map fun v => v.category).sum ≤ 8) (hdg : decode cc g.pc = .ok (.invokestatic index, 3)) (hf : cells + mc ≤ R.cells ∧ slots + ms ≤ R.slots) :
    va_Run p l e R s m args below meth c H locs cells slots mc ms g rest (Qc As.toArray) (free) := by
  obtain ⟨hx, hb, hml, ho, hts⟩ := S
  have hini := hts _ h3
  have hK : Back l R p e below s args y 3 8 (PreOf R mc ms Pc) (PostOf Qc mc ms free) := va_backW (hh := hh) (bytes := bytes) (maxL := maxL) (ret := ret) hM hp.1 hrc hrs hR.1 hR.2 (pay_in hts (by rw [hw]; exact kb_self h4)) (by rw [hw]; exact List.mem_cons_self) (fun a' U hW => word_at hW (Or.inl (by first | rfl | simp [Cond.onTables, Cond.keeps, Cond.steady])) hini)
  intro T hT X
  obtain ⟨mk, methM, cM, hnamed, hmethM, -, -, -, -, -, -, hsigM⟩ := Cond.codeWith_spec (hts _ h4)
  have hstatic : methM.isStatic = true := Cond.static_spec hnamed hmethM (hts _ h2)
  obtain ⟨kP, hkP, -⟩ := className_of_methodNamed hnamed
  have hinitP : kP.init = .initialized := Cond.initialized_spec (findClass_of_methodNamed hnamed) hkP hini
  have hlen : As.length = methM.sig.parameters.length := by
    have h9 := hd.2.2
    rw [hsigM] at h9
    rw [hn]
    exact (Option.some.inj h9).symm
  obtain ⟨vm₁, X₁, hstep₁⟩ := X.invokestatic hx ho (hts _ h1) hnamed hmethM hstatic hkP hinitP ⟨hd.1, hd.2.1⟩ (g := g) hg (argsL := As) (rest := rest) hlen hstack (by rw [hb]; exact hdg)
  obtain ⟨v, ⟨U', l2, c2, s2⟩, X', ⟨g', mk', t, L, e1, e2, hq, h1', hL, h2', h3'⟩, hsteps⟩ := hK m meth c ⟨T.setVm vm₁, locs, cells, slots⟩ { g with stack := rest } (.invokestatic index) mk As.toArray X₁ hg (hsize.trans hml.symm) (by rw [hb]; exact hdg) hW (X₁.named hnamed) ⟨hf.1, hf.2, hp.2 (T.setVm vm₁) hT X₁.warmed⟩
  dsimp only [Pt.U, Pt.locs, Pt.cells, Pt.slots] at X' e1 e2 h1' h2' h3' hsteps
  subst h1'; subst h2'; subst h3'
  exact ⟨v, (T.setVm vm₁).calling g' mk' As.toArray, t, U', L, hT, X', hL, e1, e2, hq, fun target h => hstep₁ _ fun acts => by rw [doInvoke_state]; exact hsteps.trans h⟩
theorem kPST {D : va_G} {cl : List vw_C} {tys : List (ClassId × FieldType)} {As : List Value} {ws : va_W} {A : Nat → Prop} (hP : va_P D cl ws H) (hK : va_K D cl tys s) (hZ : kt_Z s) (hA : ∀ q : Nat, q < s.heap.size → ¬ A q) (hS : va_S A s.heap H locs) : PreS s H (kPreT D cl tys As H.size ws) As :=
  ⟨kPreT_blind, fun U hU hW => ⟨⟨rfl, by rw [hU], by rw [hU]; exact hP, va_K.moved hW.alike hK⟩, hZ.to hW (fun q cell h => by
    have hq : q < s.heap.size := (Array.getElem?_eq_some_iff.mp h).1
    rw [hU, hS.2.1 q hq (hA q hq)]; exact h)⟩⟩
end KSW
