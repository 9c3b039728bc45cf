/-! limits stay small -/
def kL (x : kGV) : Prop := 0 ≤ x.2.2.2.2.1.toInt ∧ x.2.2.2.2.1.toInt ≤ 1000020
def kT (t : Int32) : Prop := 0 ≤ t.toInt ∧ t.toInt ≤ 1000000
theorem kT_20 {t : Int32} (h : kT t) : (t + 20).toInt = t.toInt + 20 := by
  obtain ⟨h1, h2⟩ := h
  rw [Int32.toInt_add, show (20 : Int32).toInt = 20 from rfl]
  exact Int.bmod_eq_of_le (by omega) (by omega)
theorem kL_clear {x : kGV} (h : kL x) : kL (kg_clear x) := by obtain ⟨x0, x1, x2, x3, x4, x5, x6⟩ := x; exact h
theorem kL_mix {x : kGV} {t : Int32} (ht : kT t) : kL (kg_mix t x) := by
  obtain ⟨x0, x1, x2, x3, x4, x5, x6⟩ := x
  show 0 ≤ (t + 20).toInt ∧ (t + 20).toInt ≤ 1000020
  rw [kT_20 ht]
  obtain ⟨h1, h2⟩ := ht
  omega
theorem kL_in {x : kGV} {m t : Int32} (h : kL x) : kL (kg_in m t x) := by obtain ⟨x0, x1, x2, x3, x4, x5, x6⟩ := x; exact h
theorem kL_take {x : kGV} {m t : Int32} (ht : kT t) (h : kL x) : kL (kg_take m t x) := by
  unfold kg_take
  split
  · exact kL_in h
  · exact kL_in (kL_mix ht)
theorem kL_rid {x : kGV} {z : Int32} (h : kL x) : kL (kg_rid z x) := by obtain ⟨x0, x1, x2, x3, x4, x5, x6⟩ := x; exact h
theorem kL_out {x : kGV} {z t : Int32} (ht : kT t) (h : kL x) : kL (kg_out z t x) := by
  unfold kg_out
  split
  · exact kL_clear (kL_rid h)
  · split
    · exact kL_mix ht
    · exact kL_rid h
theorem kL_set {x : kGV} {t : Int32} (h : kL x) : kL (kg_settle t x) := by obtain ⟨x0, x1, x2, x3, x4, x5, x6⟩ := x; exact h
theorem kL_go {x : kGV} {t lf wr : Int32} (h : kL x) : kL (kg_go t lf wr x).1 := by
  unfold kg_go
  split
  · exact kL_clear h
  · split
    · exact h
    · exact kL_set h
theorem kL_fin {x : kGV} {t lf wr : Int32} (h : kL x) : kL (kg_fin t lf wr x).1 := by
  unfold kg_fin
  split
  · split
    · exact kL_go h
    · split
      · exact kL_go h
      · exact h
  · exact h
theorem kL_drop {x : kGV} {t : Int32} (ht : kT t) (h : kL x) : kL (kg_drop t x) := by
  unfold kg_drop
  split
  · split
    · exact h
    · exact kL_out ht h
  · exact h
theorem kL_hear {x : kGV} {b t : Int32} (h : kL x) : kL (kg_hear b t x) := by obtain ⟨x0, x1, x2, x3, x4, x5, x6⟩ := x; exact h
theorem kL_off {x : kGV} {q : Int32} {v : Int64} (h : kL x) : kL (kg_off q v x) := by obtain ⟨x0, x1, x2, x3, x4, x5, x6⟩ := x; exact h
/-! the desk and the reference -/
def kRG (G : Nat → kGV) (M : Nat → mGV) : Prop := ∀ g, g < 8 → kR (G g) (M g) ∧ kL (G g)
def kRel : kDV → mDV → Prop
  | (lg, tm, lf, wr, G), (_, lg', tm', rm, no, M) => lg' = lg ∧ tm' = tm ∧ rm = lf ∧ no = wr ∧ ¬ lf < 0 ∧ (∃ n : Nat, n ≤ 8 ∧ lg = nI n) ∧ kT tm ∧ kRG G M
theorem kRG_up {G : Nat → kGV} {M : Nat → mGV} {a : Nat} {x : kGV} {y : mGV} (h : kRG G M) (hx : kR x y) (hL : kL x) : kRG (va_up G a x) (va_up M a y) := by
  intro g hg
  by_cases e : g = a
  · subst e; rw [va_up_self, va_up_self]; exact ⟨hx, hL⟩
  · rw [va_up_ne _ _ e, va_up_ne _ _ e]; exact h g hg
theorem kR_st {x : kGV} {y : mGV} (h : kR x y) : y.1 = x.2.1 ∧ y.2.1 = x.1 ∧ y.2.2.1 = x.2.2.2.2.1 := by
  obtain ⟨x0, x1, x2, x3, x4, x5, x6⟩ := x
  obtain ⟨y0, y1, y2, y3, y4, y5, y6⟩ := y
  exact ⟨h.1.1, h.1.2.1, h.1.2.2.1⟩
theorem kR_me {x : kGV} {y : mGV} (h : kR x y) {b : Nat} (hb : b < 8) : kg_has x.2.2.1 (nI b) = y.2.2.2.1 b := by
  obtain ⟨x0, x1, x2, x3, x4, x5, x6⟩ := x
  obtain ⟨y0, y1, y2, y3, y4, y5, y6⟩ := y
  rw [bt_has hb]
  exact (h.1.2.2.2.2.1 b hb).symm
theorem kR_hear {x : kGV} {y : mGV} {b : Nat} (t : Int32) (hb : b < 8) (h : kR x y) : kR (kg_hear (nI b) t x) (mg_hear b t y) := by
  obtain ⟨x0, x1, x2, x3, x4, x5, x6⟩ := x
  obtain ⟨y0, y1, y2, y3, y4, y5, y6⟩ := y
  obtain ⟨⟨a0, a1, a2, a3, a4, a5, a6⟩, hj⟩ := h
  have hc : (nI b).toNatClampNeg = b := nI_clamp (by omega)
  refine ⟨⟨a0, a1, a2, a3, a4, fun i hi => ?_, a6⟩, hj⟩
  rw [hc]
  by_cases e : i = b
  · subst e; rw [pk_us, pk_us]
  · rw [pk_un e, pk_un e]; exact a5 i hi
theorem kR_off {x : kGV} {y : mGV} {q : Nat} (v : Int64) (hq : q < 8) (h : kR x y) : kR (kg_off (nI q) v x) (mg_off q v y) := by
  obtain ⟨x0, x1, x2, x3, x4, x5, x6⟩ := x
  obtain ⟨y0, y1, y2, y3, y4, y5, y6⟩ := y
  obtain ⟨⟨a0, a1, a2, a3, a4, a5, a6⟩, hj⟩ := h
  have hc : (nI q).toNatClampNeg = q := nI_clamp (by omega)
  refine ⟨⟨a0, a1, a2, a3, a4, a5, fun i hi => ?_⟩, hj⟩
  rw [hc]
  by_cases e : i = q
  · subst e; rw [pk_uLs, pk_uLs]
  · rw [pk_uLn e, pk_uLn e]; exact a6 i hi
section KRA
variable {v : kDV} {u : mDV} {p0 p1 p2 p3 : Int32} {p4 : Int64}
theorem rel_join (h : kRel v u) (h0 : vp_in p0 8) (h1 : vp_in p1 8) : (kd_join p0 p1 v).1 = (md_join p0.toNatClampNeg p1.toNatClampNeg u).1 ∧ kRel (kd_join p0 p1 v).2 (md_join p0.toNatClampNeg p1.toNatClampNeg u).2 ∧ (md_join p0.toNatClampNeg p1.toNatClampNeg u).2.1 = 0 := by
  obtain ⟨lg, tm, lf, wr, G⟩ := v
  obtain ⟨co, lg', tm', rm, no, M⟩ := u
  obtain ⟨rfl, rfl, rfl, rfl, hl, hn, ht, hG⟩ := h
  obtain ⟨a, ha, rfl⟩ := vp_in_of h0 (by decide)
  obtain ⟨b, hb, rfl⟩ := vp_in_of h1 (by decide)
  have hca : (nI a).toNatClampNeg = a := nI_clamp (by omega)
  have hcb : (nI b).toNatClampNeg = b := nI_clamp (by omega)
  rw [hca, hcb]
  have hf := kR_fin tm' rm no hl (kR_take tm' hb (hG a ha).1)
  obtain ⟨f1, f2, f3⟩ := hf
  have s := kR_st f1
  simp only [kd_join, md_join, hca]
  refine ⟨?_, ⟨rfl, rfl, ?_, ?_, ?_, hn, ht, kRG_up hG f1 (kL_fin (kL_take ht (hG a ha).2))⟩, trivial⟩
  · rw [s.1, s.2.1]
  · rw [f2]
  · rw [f2]
  · rw [f2]; exact f3
theorem rel_leave (h : kRel v u) (h0 : vp_in p0 8) (h1 : vp_in p1 8) : (kd_leave p0 p1 v).1 = (md_leave p0.toNatClampNeg p1.toNatClampNeg u).1 ∧ kRel (kd_leave p0 p1 v).2 (md_leave p0.toNatClampNeg p1.toNatClampNeg u).2 ∧ (md_leave p0.toNatClampNeg p1.toNatClampNeg u).2.1 = 0 := by
  obtain ⟨lg, tm, lf, wr, G⟩ := v
  obtain ⟨co, lg', tm', rm, no, M⟩ := u
  obtain ⟨rfl, rfl, rfl, rfl, hl, hn, ht, hG⟩ := h
  obtain ⟨a, ha, rfl⟩ := vp_in_of h0 (by decide)
  obtain ⟨b, hb, rfl⟩ := vp_in_of h1 (by decide)
  have hca : (nI a).toNatClampNeg = a := nI_clamp (by omega)
  have hcb : (nI b).toNatClampNeg = b := nI_clamp (by omega)
  rw [hca, hcb]
  simp only [kd_leave, md_leave, hca, kR_me (hG a ha).1 hb]
  by_cases w : (M a).2.2.2.1 b = 0
  · rw [if_pos w, if_pos w]
    exact ⟨rfl, ⟨rfl, rfl, rfl, rfl, hl, hn, ht, hG⟩, rfl⟩
  · rw [if_neg w, if_neg w]
    have hr := kR_rid hb (hG a ha).1
    obtain ⟨f1, f2, f3⟩ := kR_fin tm' rm no hl (kR_out (1 <<< (nI b &&& 31)) tm' hr.1 (Or.inr hr))
    refine ⟨rfl, ⟨rfl, rfl, ?_, ?_, ?_, hn, ht, kRG_up hG f1 (kL_fin (kL_out ht (hG a ha).2))⟩, rfl⟩
    · rw [f2]
    · rw [f2]
    · rw [f2]; exact f3
theorem rel_beat (h : kRel v u) (h0 : vp_in p0 8) (h1 : vp_in p1 8) : (kd_beat p0 p1 p2 v).1 = (md_beat p0.toNatClampNeg p1.toNatClampNeg p2 u).1 ∧ kRel (kd_beat p0 p1 p2 v).2 (md_beat p0.toNatClampNeg p1.toNatClampNeg p2 u).2 ∧ (md_beat p0.toNatClampNeg p1.toNatClampNeg p2 u).2.1 = 0 := by
  obtain ⟨lg, tm, lf, wr, G⟩ := v
  obtain ⟨co, lg', tm', rm, no, M⟩ := u
  obtain ⟨rfl, rfl, rfl, rfl, hl, hn, ht, hG⟩ := h
  obtain ⟨a, ha, rfl⟩ := vp_in_of h0 (by decide)
  obtain ⟨b, hb, rfl⟩ := vp_in_of h1 (by decide)
  have hca : (nI a).toNatClampNeg = a := nI_clamp (by omega)
  have hcb : (nI b).toNatClampNeg = b := nI_clamp (by omega)
  rw [hca, hcb]
  simp only [kd_beat, md_beat, hca, kR_me (hG a ha).1 hb, (kR_st (hG a ha).1).2.1]
  by_cases w : (M a).2.2.2.1 b = 0
  · rw [if_pos w, if_pos w]
    exact ⟨rfl, ⟨rfl, rfl, rfl, rfl, hl, hn, ht, hG⟩, rfl⟩
  · rw [if_neg w, if_neg w]
    by_cases n : p2 = (G a).1
    · rw [if_pos n, if_pos n]
      refine ⟨?_, ⟨rfl, rfl, rfl, rfl, hl, hn, ht, kRG_up hG (kR_hear tm' hb (hG a ha).1) (kL_hear (hG a ha).2)⟩, rfl⟩
      have hR := (hG a ha).1
      generalize G a = x at hR w n ⊢
      generalize M a = y at hR w ⊢
      obtain ⟨x0, x1, x2, x3, x4, x5, x6⟩ := x
      obtain ⟨y0, y1, y2, y3, y4, y5, y6⟩ := y
      obtain ⟨⟨a0, a1, a2, a3, a4, a5, a6⟩, j0, j1, j2, j3, j4, j5⟩ := hR
      show (if kg_has x3 (nI b) = 0 then (1 : Int32) else 0) = if y0 = 1 then (if y4 b = 0 then 1 else 0) else 0
      have w : ¬ y3 b = 0 := w
      rw [bt_has hb, j1 b hb, a0]
      rcases j3 with z | z | z
      · exfalso
        rw [a4 b hb, j5 z, b01_z] at w
        exact w rfl
      · rw [if_pos z]
      · rw [if_neg (show ¬ x1 = 1 by rw [z]; decide), j4 z, ← a4 b hb, if_neg w]
    · rw [if_neg n, if_neg n]
      exact ⟨rfl, ⟨rfl, rfl, rfl, rfl, hl, hn, ht, hG⟩, rfl⟩
theorem rel_commit (h : kRel v u) (h0 : vp_in p0 8) (h1 : vp_in p1 8) (h3 : ¬ p3 < 0 ∧ p3 < v.1) : (kd_commit p0 p1 p2 p3 p4 v).1 = (md_commit p0.toNatClampNeg p1.toNatClampNeg p2 p3.toNatClampNeg p4 u).1 ∧ kRel (kd_commit p0 p1 p2 p3 p4 v).2 (md_commit p0.toNatClampNeg p1.toNatClampNeg p2 p3.toNatClampNeg p4 u).2 ∧ (md_commit p0.toNatClampNeg p1.toNatClampNeg p2 p3.toNatClampNeg p4 u).2.1 = 0 := by
  obtain ⟨lg, tm, lf, wr, G⟩ := v
  obtain ⟨co, lg', tm', rm, no, M⟩ := u
  obtain ⟨rfl, rfl, rfl, rfl, hl, hn, ht, hG⟩ := h
  have h3 : vp_in p3 8 := k_in8 hn h3
  obtain ⟨a, ha, rfl⟩ := vp_in_of h0 (by decide)
  obtain ⟨b, hb, rfl⟩ := vp_in_of h1 (by decide)
  obtain ⟨q, hq, rfl⟩ := vp_in_of h3 (by decide)
  have hca : (nI a).toNatClampNeg = a := nI_clamp (by omega)
  have hcb : (nI b).toNatClampNeg = b := nI_clamp (by omega)
  have hcq : (nI q).toNatClampNeg = q := nI_clamp (by omega)
  rw [hca, hcb, hcq]
  have same : ∀ r : Int32, r ≠ 0 → kg_ref (nI b) p2 (nI q) (G a) = r → (kd_commit (nI a) (nI b) p2 (nI q) p4 (lg', tm', rm, no, G)) = (r, (lg', tm', rm, no, G)) := fun r hr e => by
    simp only [kd_commit, hca, e, if_neg hr]
  have hR := (hG a ha).1
  have hk : kg_ref (nI b) p2 (nI q) (G a) = if (M a).2.2.2.1 b = 0 then (-8) else if p2 = (M a).2.1 then (if (M a).1 = 2 then (if nI (mo (M a).2.2.2.1 q) = nI b then 0 else (-11)) else (-10)) else (-9) := by
    generalize G a = x at hR ⊢
    generalize M a = y at hR ⊢
    have e1 := kR_me hR hb
    have e2 := kR_st hR
    unfold kg_ref
    rw [e1, e2.1, e2.2.1]
    by_cases w : y.2.2.2.1 b = 0
    · rw [if_pos w, if_pos w]
    · rw [if_neg w, if_neg w]
      by_cases n : p2 = x.1
      · rw [if_pos n, if_pos n]
        by_cases s : x.2.1 = 2
        · rw [if_pos s, if_pos s]
          obtain ⟨x0, x1, x2, x3, x4, x5, x6⟩ := x
          obtain ⟨y0, y1, y2, y3, y4, y5, y6⟩ := y
          have hb2 : bt x2 b = true := by
            have w : ¬ y3 b = 0 := w
            rw [hR.1.2.2.2.2.1 b hb, b01_0] at w
            simpa using w
          rw [k_gives s hR.1.2.2.2.1 hR.1.2.2.2.2.1 hq hb hb2]
          by_cases o : nI (mo y3 q) = nI b
          · rw [if_pos o, if_neg (by decide)]; exact (if_pos o).symm
          · rw [if_neg o, if_pos rfl]; exact (if_neg o).symm
        · rw [if_neg s, if_neg s]
      · rw [if_neg n, if_neg n]
  simp only [md_commit]
  by_cases w : (M a).2.2.2.1 b = 0
  · rw [if_pos w] at hk
    rw [same _ (by decide) hk, if_pos w]
    exact ⟨rfl, ⟨rfl, rfl, rfl, rfl, hl, hn, ht, hG⟩, rfl⟩
  · rw [if_neg w] at hk
    rw [if_neg w]
    by_cases n : p2 = (M a).2.1
    · rw [if_pos n] at hk
      rw [if_pos n]
      by_cases s : (M a).1 = 2
      · rw [if_pos s] at hk
        rw [if_pos s]
        by_cases o : nI (mo (M a).2.2.2.1 q) = nI b
        · rw [if_pos o] at hk
          rw [if_pos o]
          obtain ⟨e1, e2⟩ := kn_take no hl
          simp only [kd_commit, hca, hk, if_true, e1]
          by_cases z : (mn_take rm no).1 = 0
          · rw [if_pos z, if_pos z]
            exact ⟨rfl, ⟨rfl, rfl, rfl, rfl, e2, hn, ht, hG⟩, rfl⟩
          · rw [if_neg z, if_neg z]
            exact ⟨rfl, ⟨rfl, rfl, rfl, rfl, e2, hn, ht, kRG_up hG (kR_hear tm' hb (kR_off p4 hq hR)) (kL_hear (kL_off (hG a ha).2))⟩, rfl⟩
        · rw [if_neg o] at hk
          rw [same _ (by decide) hk, if_neg o]
          exact ⟨rfl, ⟨rfl, rfl, rfl, rfl, hl, hn, ht, hG⟩, rfl⟩
      · rw [if_neg s] at hk
        rw [same _ (by decide) hk, if_neg s]
        exact ⟨rfl, ⟨rfl, rfl, rfl, rfl, hl, hn, ht, hG⟩, rfl⟩
    · rw [if_neg n] at hk
      rw [same _ (by decide) hk, if_neg n]
      exact ⟨rfl, ⟨rfl, rfl, rfl, rfl, hl, hn, ht, hG⟩, rfl⟩
theorem rel_committed (h : kRel v u) (h0 : vp_in p0 8) (h1 : ¬ p1 < 0 ∧ p1 < v.1) : (v.2.2.2.2 p0.toNatClampNeg).2.2.2.2.2.2 p1.toNatClampNeg = (u.2.2.2.2.2 p0.toNatClampNeg).2.2.2.2.2.2 p1.toNatClampNeg := by
  obtain ⟨lg, tm, lf, wr, G⟩ := v
  obtain ⟨co, lg', tm', rm, no, M⟩ := u
  obtain ⟨rfl, rfl, rfl, rfl, hl, hn, ht, hG⟩ := h
  obtain ⟨a, ha, rfl⟩ := vp_in_of h0 (by decide)
  obtain ⟨q, hq, rfl⟩ := vp_in_of (k_in8 hn h1) (by decide)
  rw [nI_clamp (show a < 2 ^ 31 by omega), nI_clamp (show q < 2 ^ 31 by omega)]
  have hR := (hG a ha).1
  show (G a).2.2.2.2.2.2 q = (M a).2.2.2.2.2.2 q
  generalize G a = x at hR ⊢
  generalize M a = y at hR ⊢
  obtain ⟨x0, x1, x2, x3, x4, x5, x6⟩ := x
  obtain ⟨y0, y1, y2, y3, y4, y5, y6⟩ := y
  exact (hR.1.2.2.2.2.2.2 q hq).symm
theorem kl_lim {x : kGV} {y : mGV} {t : Int32} (hR : kR x y) (hL : kL x) (ht : kT t) : kg_lim t x = mg_lim t y := by
  obtain ⟨e0, e1, e2⟩ := kR_st hR
  unfold kg_lim mg_lim
  rw [e0, e2]
  by_cases w : x.2.1 = 1
  · rw [if_pos w, if_pos w]
    obtain ⟨l1, l2⟩ := hL
    obtain ⟨t1, t2⟩ := ht
    generalize x.2.2.2.2.1 = m at l1 l2 ⊢
    have hs : (m - t).toInt = m.toInt - t.toInt := by
      rw [Int32.toInt_sub]
      exact Int.bmod_eq_of_le (by omega) (by omega)
    have z0 : (0 : Int32).toInt = 0 := rfl
    by_cases z : m ≤ t
    · rw [if_pos z]
      have z2 := Int32.le_iff_toInt_le.mp z
      by_cases y : m - t < 0
      · rw [if_pos y]
      · rw [if_neg y]
        apply Int32.toInt_inj.mp
        rw [Int32.lt_iff_toInt_lt, hs, z0] at y
        rw [hs, z0]
        omega
    · rw [if_neg z]
      have z2 : ¬ m.toInt ≤ t.toInt := fun q => z (Int32.le_iff_toInt_le.mpr q)
      have y : ¬ m - t < 0 := by
        rw [Int32.lt_iff_toInt_lt, hs, z0]
        omega
      rw [if_neg y]
  · rw [if_neg w, if_neg w]
theorem rel_group (h : kRel v u) (h0 : vp_in p0 8) (h1 : vp_in p1 5) : kg_what v.2.1 p1 (v.2.2.2.2 p0.toNatClampNeg) = mg_what u.2.2.1 p1 (u.2.2.2.2.2 p0.toNatClampNeg) := by
  obtain ⟨lg, tm, lf, wr, G⟩ := v
  obtain ⟨co, lg', tm', rm, no, M⟩ := u
  obtain ⟨rfl, rfl, rfl, rfl, hl, hn, ht, hG⟩ := h
  obtain ⟨a, ha, rfl⟩ := vp_in_of h0 (by decide)
  obtain ⟨w, hw, rfl⟩ := vp_in_of h1 (by decide)
  rw [nI_clamp (show a < 2 ^ 31 by omega)]
  have hR := (hG a ha).1
  have hL := (hG a ha).2
  show kg_what tm' (nI w) (G a) = mg_what tm' (nI w) (M a)
  generalize G a = x at hR hL ⊢
  generalize M a = y at hR ⊢
  obtain ⟨e0, e1, e2⟩ := kR_st hR
  have hlim := kl_lim hR hL ht
  rcases (show w = 0 ∨ w = 1 ∨ w = 2 ∨ w = 3 ∨ w = 4 by omega) with rfl | rfl | rfl | rfl | rfl
  · unfold kg_what mg_what
    rw [if_pos (by decide), if_neg (by decide), if_pos (by decide)]; exact e1.symm
  · unfold kg_what mg_what
    rw [if_neg (by decide), if_pos (by decide), if_neg (by decide), if_neg (by decide)]; exact e0.symm
  · unfold kg_what mg_what
    rw [if_neg (by decide), if_neg (by decide), if_pos (by decide), if_pos (by decide), if_neg (by decide)]
    obtain ⟨x0, x1, x2, x3, x4, x5, x6⟩ := x
    obtain ⟨y0, y1, y2, y3, y4, y5, y6⟩ := y
    obtain ⟨⟨a0, a1, a2, a3, a4, a5, a6⟩, j0, j1, j2, j3, j4, j5⟩ := hR
    show x2 = mbd (mg_is (nI 2) y0 y3 y4) 8 0
    obtain ⟨m, hm, rfl, hb⟩ := ks_nat a3
    rw [mbd_congr (g := kba m) (fun i hi => ?_), mbd_bits hm]
    unfold mg_is
    rw [if_pos (show nI 2 = 2 from rfl), a4 i hi, bt_nat hb]
    unfold kba
    by_cases z : m.testBit i = true
    · rw [if_pos z]; rfl
    · rw [if_neg z]; rfl
  · unfold kg_what mg_what
    rw [if_neg (by decide), if_neg (by decide), if_neg (by decide), if_pos (by decide), if_pos (by decide), if_neg (by decide)]
    obtain ⟨x0, x1, x2, x3, x4, x5, x6⟩ := x
    obtain ⟨y0, y1, y2, y3, y4, y5, y6⟩ := y
    obtain ⟨⟨a0, a1, a2, a3, a4, a5, a6⟩, j0, j1, j2, j3, j4, j5⟩ := hR
    show x3 = mbd (mg_is (nI 3) y0 y3 y4) 8 0
    obtain ⟨m, hm, rfl, hb⟩ := ks_nat j0
    rw [mbd_congr (g := kba m) (fun i hi => ?_), mbd_bits hm]
    rw [← bt_nat hb]
    unfold mg_is
    rw [if_neg (show ¬ nI 3 = 2 by decide), a4 i hi, j1 i hi]
    have a0 : y0 = x1 := a0
    by_cases z : bt (nI m) i = true
    · have z2 := j2 i hi z
      unfold b01
      rw [z, z2]
      by_cases s : y0 = 2
      · rw [if_pos s]; rfl
      · rw [if_neg s]; rfl
    · have z : bt (nI m) i = false := by simpa using z
      unfold b01
      rw [z]
      by_cases z2 : bt x2 i = true
      · have s : ¬ y0 = 2 := fun s => by
          rw [← j4 (a0 ▸ s), z] at z2
          cases z2
        rw [z2, if_neg s]; rfl
      · have z2 : bt x2 i = false := by simpa using z2
        rw [z2]; rfl
  · unfold kg_what mg_what
    rw [if_neg (by decide), if_neg (by decide), if_neg (by decide), if_neg (by decide), if_pos (by decide), if_pos (by decide)]
    exact hlim
theorem rel_share (h : kRel v u) (h0 : vp_in p0 8) (h1 : vp_in p1 8) : kg_sh p1 (v.2.2.2.2 p0.toNatClampNeg) v.1.toNatClampNeg = mg_sh p1.toNatClampNeg u.2.1.toNatClampNeg (u.2.2.2.2.2 p0.toNatClampNeg) := by
  obtain ⟨lg, tm, lf, wr, G⟩ := v
  obtain ⟨co, lg', tm', rm, no, M⟩ := u
  obtain ⟨rfl, rfl, rfl, rfl, hl, ⟨n, hn, rfl⟩, ht, hG⟩ := h
  obtain ⟨a, ha, rfl⟩ := vp_in_of h0 (by decide)
  obtain ⟨b, hb, rfl⟩ := vp_in_of h1 (by decide)
  rw [nI_clamp (show a < 2 ^ 31 by omega), nI_clamp (show b < 2 ^ 31 by omega)]
  have hcn : (nI n).toNatClampNeg = n := nI_clamp (by omega)
  show kg_sh (nI b) (G a) (nI n).toNatClampNeg = mg_sh b (nI n).toNatClampNeg (M a)
  rw [hcn]
  have hR := (hG a ha).1
  generalize G a = x at hR ⊢
  generalize M a = y at hR ⊢
  obtain ⟨x0, x1, x2, x3, x4, x5, x6⟩ := x
  obtain ⟨y0, y1, y2, y3, y4, y5, y6⟩ := y
  have e1 := kR_me hR hb
  obtain ⟨⟨a0, a1, a2, a3, a4, a5, a6⟩, j0, j1, j2, j3, j4, j5⟩ := hR
  have e1 : kg_has x2 (nI b) = y3 b := e1
  have hzero : (∀ i, i < n → kg_gives (nI i) (nI b) (x0, x1, x2, x3, x4, x5, x6) = 0) → kg_sh (nI b) (x0, x1, x2, x3, x4, x5, x6) n = 0 := by
    intro z
    clear hcn
    induction n with
    | zero => rfl
    | succ n ih =>
      rw [kg_sh, if_pos (z n (by omega))]
      exact ih (by omega) (fun i hi => z i (by omega))
  unfold mg_sh
  show _ = if y0 = 2 then (if y3 b = 0 then 0 else mbd (mg_ow y3 b) n 0) else 0
  by_cases s : x1 = 2
  · have a0 : y0 = x1 := a0
    rw [if_pos (a0.trans s)]
    by_cases w : y3 b = 0
    · rw [if_pos w]
      refine hzero (fun i _ => ?_)
      unfold kg_gives
      simp only [if_pos s, e1, if_pos w]
    · rw [if_neg w]
      have hb2 : bt x2 b = true := by
        rw [a4 b hb, b01_0] at w
        simpa using w
      rw [k_sh (f := mg_ow y3 b) hn (fun i hi => k_gives s a3 a4 (by omega) hb hb2)]
      have := mbd_sum (f := mg_ow y3 b) (n := n) (fun i _ => by unfold mg_ow; split; exact Or.inr rfl; exact Or.inl rfl) 0
      rw [show nI 0 = 0 from rfl] at this
      rw [this]
      simp
  · have a0 : y0 = x1 := a0
    rw [if_neg (by rw [a0]; exact s)]
    refine hzero (fun i _ => ?_)
    unfold kg_gives
    simp only [if_neg s]
theorem rel_rest {G : Nat → kGV} {M : Nat → mGV} (hG : kRG G M) : ∀ i, i ≤ 8 → (kd_rest G i).1 = (mrs M i).1 ∧ kRG (kd_rest G i).2 (mrs M i).2 := by
  intro i
  induction i with
  | zero => exact fun _ => ⟨rfl, hG⟩
  | succ i ih =>
    intro hi
    obtain ⟨h1, h2⟩ := ih (by omega)
    have hR := (h2 i (by omega)).1
    rw [kd_rest, mrs]
    refine ⟨?_, kRG_up h2 (kR_clear hR.1) (kL_clear (h2 i (by omega)).2)⟩
    show (kd_rest G i).1 + k_bc ((kd_rest G i).2 i).2.2.1 = (mrs M i).1 + mg_cnt ((mrs M i).2 i).2.2.2.1 8
    rw [h1]
    congr 1
    generalize (kd_rest G i).2 i = x at hR ⊢
    generalize (mrs M i).2 i = y at hR ⊢
    obtain ⟨x0, x1, x2, x3, x4, x5, x6⟩ := x
    obtain ⟨y0, y1, y2, y3, y4, y5, y6⟩ := y
    obtain ⟨m, hm, e, hb⟩ := ks_nat hR.1.2.2.2.1
    show k_bc x2 = mg_cnt y3 8
    rw [e, kpc_bc hm, cnt_congr (g := kba m) (fun i hi => by rw [hR.1.2.2.2.2.1 i hi, bt_nat hb]), kpc_cnt]
theorem rel_tk {G : Nat → kGV} {M : Nat → mGV} {t lf wr : Int32} (ht : kT t) (hl : ¬ lf < 0) (hG : kRG G M) : ∀ i, i ≤ 8 → (kd_tk t lf wr G i).1 = (mdt t lf wr M i).1 ∧ (kd_tk t lf wr G i).2.1 = (mdt t lf wr M i).2.1 ∧ ¬ (kd_tk t lf wr G i).1 < 0 ∧ kRG (kd_tk t lf wr G i).2.2 (mdt t lf wr M i).2.2 := by
  intro i
  induction i with
  | zero => exact fun _ => ⟨rfl, rfl, hl, hG⟩
  | succ i ih =>
    intro hi
    obtain ⟨h1, h2, h3, h4⟩ := ih (by omega)
    have hR := h4 i (by omega)
    rw [kd_tk, mdt, ← h1, ← h2]
    obtain ⟨f1, f2, f3⟩ := kR_fin t (kd_tk t lf wr G i).1 (kd_tk t lf wr G i).2.1 h3 (kR_drop t hR.1)
    refine ⟨?_, ?_, ?_, kRG_up h4 f1 (kL_fin (kL_drop ht hR.2))⟩
    · show (kg_fin _ _ _ _).2.1 = (mg_done _ _ _ _).2.1
      rw [f2]
    · show (kg_fin _ _ _ _).2.2 = (mg_done _ _ _ _).2.2
      rw [f2]
    · show ¬ (kg_fin _ _ _ _).2.1 < 0
      rw [f2]; exact f3
theorem rel_tick (h : kRel v u) (ht : v.2.1.toInt + 1 ≤ 1000000) : kRel (kd_tick v) (md_tick u) ∧ (kd_tick v).2.1.toInt = v.2.1.toInt + 1 := by
  obtain ⟨lg, tm, lf, wr, G⟩ := v
  obtain ⟨co, lg', tm', rm, no, M⟩ := u
  obtain ⟨rfl, rfl, rfl, rfl, hl, hn, ⟨t1, t2⟩, hG⟩ := h
  have ht : tm'.toInt + 1 ≤ 1000000 := ht
  have e : (tm' + 1).toInt = tm'.toInt + 1 := by
    rw [Int32.toInt_add, show (1 : Int32).toInt = 1 from rfl]
    exact Int.bmod_eq_of_le (by omega) (by omega)
  have hT : kT (tm' + 1) := ⟨by rw [e]; omega, by rw [e]; omega⟩
  obtain ⟨h1, h2, h3, h4⟩ := rel_tk (t := tm' + 1) (wr := no) hT hl hG 8 (Nat.le_refl 8)
  exact ⟨⟨rfl, rfl, h1.symm, h2.symm, h3, hn, hT, h4⟩, e⟩
theorem rel_ticks (h : kRel v u) {n : Nat} (ht : v.2.1.toInt + n ≤ 1000000) : kRel (kd_ticks v n) (md_ticks u n) ∧ (kd_ticks v n).2.1.toInt = v.2.1.toInt + n := by
  induction n with
  | zero => exact ⟨h, by show v.2.1.toInt = v.2.1.toInt + 0; omega⟩
  | succ n ih =>
    obtain ⟨h1, h2⟩ := ih (by omega)
    obtain ⟨h3, h4⟩ := rel_tick h1 (by rw [h2]; omega)
    refine ⟨h3, ?_⟩
    show (kd_tick (kd_ticks v n)).2.1.toInt = _
    rw [h4, h2]
    omega
end KRA
theorem rel_tm {v : kDV} {u : mDV} (h : kRel v u) : u.2.2.1 = v.2.1 ∧ u.2.1 = v.1 ∧ u.2.2.2.1 = v.2.2.1 ∧ u.2.2.2.2.1 = v.2.2.2.1 ∧ kT v.2.1 := by
  obtain ⟨lg, tm, lf, wr, G⟩ := v
  obtain ⟨co, lg', tm', rm, no, M⟩ := u
  exact ⟨h.2.1, h.1, h.2.2.1, h.2.2.2.1, h.2.2.2.2.2.2.1⟩
theorem mo1_lt {n i : Nat} (h : i < n) : mo1 n i = -1 := by
  induction n with
  | zero => omega
  | succ n ih =>
    rw [mo1]
    by_cases e : i = n
    · subst e; exact pk_uLs
    · rw [pk_uLn e]; exact ih (by omega)
theorem mMi_lt {n g : Nat} (h : g < n) : mMi n g = (0, 0, 0, fun _ => 0, fun _ => 0, fun _ => 0, mo1 8) := by
  induction n with
  | zero => omega
  | succ n ih =>
    rw [mMi]
    by_cases e : g = n
    · subst e; exact va_up_self _ _ _
    · rw [va_up_ne _ _ e]; exact ih (by omega)
theorem k_lg_n (x : Int32) : ∃ n : Nat, n ≤ 8 ∧ k_lg x = nI n := by
  rw [← m_lg]
  by_cases h1 : 1 ≤ x
  · rw [if_pos h1]
    by_cases h2 : x ≤ 8
    · rw [if_pos h2]
      refine nI_of2 (M := 8) rfl (fun z => ?_) h2
      exact absurd (Int32.lt_iff_toInt_lt.mp z) (by have := Int32.le_iff_toInt_le.mp h1; rw [show (1 : Int32).toInt = 1 from rfl] at this; rw [show (0 : Int32).toInt = 0 from rfl]; omega)
    · rw [if_neg h2]; exact ⟨8, Nat.le_refl 8, rfl⟩
  · rw [if_neg h1]; exact ⟨1, by decide, rfl⟩
theorem rel_init (x : Int32) : kRel (k_lg x, 0, 1000, 0, kG0) (0, k_lg x, 0, 1000, 0, mMi 8) := by
  refine ⟨rfl, rfl, rfl, rfl, by decide, k_lg_n x, ⟨by decide, by decide⟩, fun g hg => ?_⟩
  rw [mMi_lt hg]
  refine ⟨⟨⟨rfl, rfl, rfl, ks_0, fun i _ => (b01_z i).symm, fun _ _ => rfl, fun i hi => mo1_lt hi⟩, ks_0, fun i _ => (b01_z i).symm, fun i _ z => z, Or.inl rfl, fun _ => rfl, fun _ => rfl⟩, ⟨show (0 : Int) ≤ (0 : Int32).toInt by decide, show (0 : Int32).toInt ≤ 1000020 by decide⟩⟩
