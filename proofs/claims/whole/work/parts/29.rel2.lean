/-! a group of the class and a group of the reference -/
/-- all but who has joined -/
def kRw : kGV → mGV → Prop
  | (x0, x1, x2, _, x4, x5, x6), (y0, y1, y2, y3, _, y5, y6) => y0 = x1 ∧ y1 = x0 ∧ y2 = x4 ∧ ks x2 ∧ (∀ i, i < 8 → y3 i = b01 x2 i) ∧ (∀ i, i < 8 → y5 i = x5 i) ∧ (∀ i, i < 8 → y6 i = x6 i)
def kRj : kGV → mGV → Prop
  | (_, x1, x2, x3, _, _, _), (_, _, _, _, y4, _, _) => ks x3 ∧ (∀ i, i < 8 → y4 i = b01 x3 i) ∧ (∀ i, i < 8 → bt x3 i = true → bt x2 i = true) ∧ (x1 = 0 ∨ x1 = 1 ∨ x1 = 2) ∧ (x1 = 2 → x3 = x2) ∧ (x1 = 0 → x2 = 0)
def kR (x : kGV) (y : mGV) : Prop := kRw x y ∧ kRj x y
theorem mz_lt {f : Nat → Int32} {n i : Nat} (h : i < n) : mz f n i = 0 := by
  induction n with
  | zero => omega
  | succ n ih =>
    rw [mz]
    by_cases e : i = n
    · subst e; exact pk_us
    · rw [pk_un e]; exact ih (by omega)
theorem mt_lt {f : Nat → Int32} {t : Int32} {n i : Nat} (h : i < n) : mt f t n i = t := by
  induction n with
  | zero => omega
  | succ n ih =>
    rw [mt]
    by_cases e : i = n
    · subst e; exact pk_us
    · rw [pk_un e]; exact ih (by omega)
theorem md_ge {me jo : Nat → Int32} {n i : Nat} (h : n ≤ i) : md me jo n i = me i := by
  induction n with
  | zero => rfl
  | succ n ih =>
    rw [md, pk_un (by omega)]
    exact ih (by omega)
theorem md_lt {me jo : Nat → Int32} {n i : Nat} (h : i < n) : md me jo n i = if me i = 0 then 0 else if jo i = 0 then 0 else 1 := by
  induction n with
  | zero => omega
  | succ n ih =>
    rw [md]
    by_cases e : i = n
    · subst e; rw [pk_us, md_ge (Nat.le_refl i)]
    · rw [pk_un e]; exact ih (by omega)
theorem b01_z (i : Nat) : b01 0 i = 0 := by rw [b01_0]; exact bt_zero i
theorem kR_clear {x : kGV} {y : mGV} (h : kRw x y) : kR (kg_clear x) (mg_emp y) := by
  obtain ⟨x0, x1, x2, x3, x4, x5, x6⟩ := x
  obtain ⟨y0, y1, y2, y3, y4, y5, y6⟩ := y
  obtain ⟨h0, h1, h2, h3, h4, h5, h6⟩ := h
  exact ⟨⟨rfl, h1, h2, ks_0, fun i hi => by rw [mz_lt hi, b01_z], h5, h6⟩, ks_0, fun i hi => by rw [mz_lt hi, b01_z], fun i _ z => (by rw [bt_zero] at z; cases z), Or.inl rfl, fun _ => rfl, fun _ => rfl⟩
theorem kR_mix {x : kGV} {y : mGV} (t : Int32) (h : kRw x y) : kR (kg_mix t x) (mg_mix t y) := by
  obtain ⟨x0, x1, x2, x3, x4, x5, x6⟩ := x
  obtain ⟨y0, y1, y2, y3, y4, y5, y6⟩ := y
  obtain ⟨h0, h1, h2, h3, h4, h5, h6⟩ := h
  exact ⟨⟨rfl, h1, rfl, h3, h4, h5, h6⟩, ks_0, fun i hi => by rw [mz_lt hi, b01_z], fun i _ z => (by rw [bt_zero] at z; cases z), Or.inr (Or.inl rfl), fun z => absurd z (by decide), fun z => absurd z (by decide)⟩
theorem upd_or {f : Nat → Int32} {x : Int32} {q : Nat} (hq : q < 8) (h : ∀ i, i < 8 → f i = b01 x i) : ∀ i, i < 8 → upd f q 1 i = b01 (x ||| kpw q) i := by
  intro i hi
  unfold b01
  rw [bt_or, bt_pw hq]
  by_cases e : i = q
  · subst e; rw [pk_us]; simp
  · rw [pk_un e, h i hi, b01]
    have : ¬ q = i := fun z => e z.symm
    simp [this]
theorem kR_in {x : kGV} {y : mGV} {q : Nat} (t : Int32) (hq : q < 8) (h1 : x.2.1 = 1) (h : kR x y) : kR (kg_in (nI q) t x) (mg_in2 q t (mg_in1 q y)) := by
  obtain ⟨x0, x1, x2, x3, x4, x5, x6⟩ := x
  obtain ⟨y0, y1, y2, y3, y4, y5, y6⟩ := y
  obtain ⟨⟨a0, a1, a2, a3, a4, a5, a6⟩, j0, j1, j2, j3, j4, j5⟩ := h
  have h1 : x1 = 1 := h1
  have hc : (nI q).toNatClampNeg = q := nI_clamp (by omega)
  refine ⟨⟨a0, a1, a2, ks_or a3 (ks_pw hq), upd_or hq a4, fun i hi => ?_, a6⟩, ks_or j0 (ks_pw hq), upd_or hq j1, fun i hi z => ?_, j3, fun z => ?_, fun z => ?_⟩
  · rw [hc]
    by_cases e : i = q
    · subst e; rw [pk_us, pk_us]
    · rw [pk_un e, pk_un e]; exact a5 i hi
  · show bt (x2 ||| kpw q) i = true
    have z : bt (x3 ||| kpw q) i = true := z
    rw [bt_or] at z ⊢
    rcases Bool.or_eq_true _ _ |>.mp z with z | z
    · rw [j2 i hi z]; rfl
    · rw [z]; simp
  · rw [h1] at z; exact absurd z (by decide)
  · rw [h1] at z; exact absurd z (by decide)
theorem kR_take {x : kGV} {y : mGV} {q : Nat} (t : Int32) (hq : q < 8) (h : kR x y) : kR (kg_take (nI q) t x) (mg_take q t y) := by
  have e : y.1 = x.2.1 := by
    obtain ⟨x0, x1, x2, x3, x4, x5, x6⟩ := x
    obtain ⟨y0, y1, y2, y3, y4, y5, y6⟩ := y
    exact h.1.1
  unfold kg_take mg_take
  rw [e]
  by_cases z : x.2.1 = 1
  · rw [if_pos z, if_pos z]; exact kR_in t hq z h
  · rw [if_neg z, if_neg z]
    have h1 := kR_in (q := q) t hq (x := kg_mix t x) (y := mg_mix t y) (by obtain ⟨x0, x1, x2, x3, x4, x5, x6⟩ := x; rfl) (kR_mix t h.1)
    obtain ⟨y0, y1, y2, y3, y4, y5, y6⟩ := y
    exact h1
theorem upd_rid {f : Nat → Int32} {x : Int32} {q : Nat} (hq : q < 8) (h : ∀ i, i < 8 → f i = b01 x i) : ∀ i, i < 8 → upd f q 0 i = b01 (x &&& (kpw q ^^^ (-1))) i := by
  intro i hi
  unfold b01
  rw [bt_and, bt_xor, bt_pw hq, bt_m1 (by omega)]
  by_cases e : i = q
  · subst e; rw [pk_us]; simp
  · rw [pk_un e, h i hi, b01]
    have : ¬ q = i := fun z => e z.symm
    simp [this]
theorem kR_rid {x : kGV} {y : mGV} {q : Nat} (hq : q < 8) (h : kR x y) : kR (kg_rid (kpw q) x) (mg_rid q y) := by
  obtain ⟨x0, x1, x2, x3, x4, x5, x6⟩ := x
  obtain ⟨y0, y1, y2, y3, y4, y5, y6⟩ := y
  obtain ⟨⟨a0, a1, a2, a3, a4, a5, a6⟩, j0, j1, j2, j3, j4, j5⟩ := h
  refine ⟨⟨a0, a1, a2, ks_and a3, upd_rid hq a4, a5, a6⟩, ks_and j0, upd_rid hq j1, fun i hi z => ?_, j3, fun z => ?_, fun z => ?_⟩
  · rw [bt_and] at z ⊢
    have z := (Bool.and_eq_true _ _).mp z
    rw [j2 i hi z.1, z.2]; rfl
  · rw [j4 z]
  · show x2 &&& (kpw q ^^^ (-1)) = 0
    rw [j5 z, Int32.zero_and]
theorem cnt_0 {me : Nat → Int32} {x : Int32} (hs : ks x) (h : ∀ i, i < 8 → me i = b01 x i) : mg_cnt me 8 = 0 ↔ x = 0 := by
  obtain ⟨a, ha, rfl, hb⟩ := ks_nat hs
  rw [cnt_congr (g := kba a) (fun i hi => by rw [h i hi, bt_nat hb]), kpc_cnt]
  have h8 := kpc_le a 8
  rw [show (0 : Int32) = nI 0 from rfl, nI_eq (by omega) (by omega), nI_eq (by omega) (by omega), kpc_0]
  constructor
  · intro z
    apply Nat.eq_of_testBit_eq
    intro i
    rw [Nat.zero_testBit]
    by_cases hi : i < 8
    · exact z i hi
    · rw [← hb]; exact hs i (by omega)
  · intro z i _
    rw [z, Nat.zero_testBit]
theorem cnt_le {me jo : Nat → Int32} {x z : Int32} (hx : ks x) (hz : ks z) (h : ∀ i, i < 8 → me i = b01 x i) (h' : ∀ i, i < 8 → jo i = b01 z i) (hs : ∀ i, i < 8 → bt z i = true → bt x i = true) : (mg_cnt me 8 ≤ mg_jn me jo 8 ↔ z = x) ∧ (mg_jn me jo 8 = 0 ↔ z = 0) := by
  obtain ⟨a, ha, rfl, hb⟩ := ks_nat hx
  obtain ⟨b, hb8, rfl, hbb⟩ := ks_nat hz
  have hsub : ∀ i, i < 8 → b.testBit i = true → a.testBit i = true := fun i hi w => by rw [← hb]; exact hs i hi (by rw [hbb]; exact w)
  rw [cnt_congr (g := kba a) (fun i hi => by rw [h i hi, bt_nat hb]), kpc_cnt, jn_congr (g := kba a) (g' := kba b) (fun i hi => by rw [h i hi, bt_nat hb]) (fun i hi => by rw [h' i hi, bt_nat hbb]), kpc_jn hsub (Nat.le_refl 8)]
  have ha8 := kpc_le a 8
  have hb8' := kpc_le b 8
  constructor
  · rw [nI_leI (by omega) (by omega), nI_eq (by omega) (by omega)]
    constructor
    · intro w
      apply Nat.eq_of_testBit_eq
      intro i
      by_cases hi : i < 8
      · exact ((kpc_lt hsub).2 w i hi).symm
      · rw [← hb, ← hbb, hx i (by omega), hz i (by omega)]
    · intro w; rw [w]; exact Nat.le_refl _
  · rw [show (0 : Int32) = nI 0 from rfl, nI_eq (by omega) (by omega), nI_eq (by omega) (by omega), kpc_0]
    constructor
    · intro w
      apply Nat.eq_of_testBit_eq
      intro i
      rw [Nat.zero_testBit]
      by_cases hi : i < 8
      · exact w i hi
      · rw [← hbb]; exact hz i (by omega)
    · intro w i _
      rw [w, Nat.zero_testBit]
/-- put out: the members without z, whoever has joined -/
theorem kR_out {x : kGV} {y : mGV} (z t : Int32) (h : kRw (kg_rid z x) y) (hj : x.2.1 = 2 ∨ kR (kg_rid z x) y) : kR (kg_out z t x) (mg_wo t y) := by
  have e : y.1 = x.2.1 ∧ (mg_cnt y.2.2.2.1 8 = 0 ↔ (kg_rid z x).2.2.1 = 0) := by
    obtain ⟨x0, x1, x2, x3, x4, x5, x6⟩ := x
    obtain ⟨y0, y1, y2, y3, y4, y5, y6⟩ := y
    exact ⟨h.1, cnt_0 h.2.2.2.1 h.2.2.2.2.1⟩
  unfold kg_out mg_wo
  by_cases w : (kg_rid z x).2.2.1 = 0
  · rw [if_pos w, if_pos (e.2.mpr w)]; exact kR_clear h
  · rw [if_neg w, if_neg (fun q => w (e.2.mp q)), e.1]
    by_cases v : x.2.1 = 2
    · rw [if_pos v, if_pos v]; exact kR_mix t h
    · rw [if_neg v, if_neg v]; exact hj.resolve_left v
theorem kR_set {x : kGV} {y : mGV} (t : Int32) (h : kR x y) (hz : x.2.2.2.1 ≠ 0) : kR (kg_settle t x) (mg_set t y) := by
  obtain ⟨x0, x1, x2, x3, x4, x5, x6⟩ := x
  obtain ⟨y0, y1, y2, y3, y4, y5, y6⟩ := y
  obtain ⟨⟨a0, a1, a2, a3, a4, a5, a6⟩, j0, j1, j2, j3, j4, j5⟩ := h
  refine ⟨⟨rfl, by show y1 + 1 = x0 + 1; rw [a1], a2, j0, fun i hi => ?_, fun i hi => mt_lt hi, a6⟩, j0, j1, fun i _ w => w, Or.inr (Or.inr rfl), fun _ => rfl, fun w => absurd w (by decide)⟩
  rw [md_lt hi, a4 i hi, j1 i hi]
  unfold b01
  by_cases w : bt x3 i = true
  · rw [j2 i hi w, w]; rfl
  · have w : bt x3 i = false := by simpa using w
    rw [w]
    by_cases v : bt x2 i = true
    · rw [v]; rfl
    · have v : bt x2 i = false := by simpa using v
      rw [v]; rfl
theorem kn_take {lf : Int32} (wr : Int32) (h : ¬ lf < 0) : kn_write lf wr = mn_take lf wr ∧ ¬ (mn_take lf wr).2.1 < 0 := by
  obtain ⟨n, hn, rfl⟩ := nI_of h
  unfold kn_write mn_take
  by_cases z : n = 0
  · subst z
    have h1 : ¬ (1 : Int32) ≤ nI 0 := by decide
    have h2 : nI 0 = 0 := by decide
    rw [if_neg h1, if_pos h2]
    exact ⟨rfl, h⟩
  · have h1 : (1 : Int32) ≤ nI n := by rw [show (1 : Int32) = nI 1 from rfl]; exact nI_le (by omega) hn
    have h2 : ¬ nI n = 0 := nI_ne0 (by omega) hn
    rw [if_pos h1, if_neg h2]
    refine ⟨rfl, ?_⟩
    show ¬ nI n - 1 < 0
    obtain ⟨k, rfl⟩ : ∃ k, n = k + 1 := ⟨n - 1, by omega⟩
    rw [nI_pred]
    exact nI_pos (by omega)
theorem kR_go {x : kGV} {y : mGV} (t lf wr : Int32) (hl : ¬ lf < 0) (h : kR x y) : kR (kg_go t lf wr x).1 (mg_go t lf wr y).1 ∧ (kg_go t lf wr x).2 = (mg_go t lf wr y).2 ∧ ¬ (mg_go t lf wr y).2.1 < 0 := by
  obtain ⟨e1, e2⟩ := kn_take wr hl
  have e : mg_jn y.2.2.2.1 y.2.2.2.2.1 8 = 0 ↔ x.2.2.2.1 = 0 := by
    obtain ⟨x0, x1, x2, x3, x4, x5, x6⟩ := x
    obtain ⟨y0, y1, y2, y3, y4, y5, y6⟩ := y
    obtain ⟨⟨a0, a1, a2, a3, a4, a5, a6⟩, j0, j1, j2, j3, j4, j5⟩ := h
    exact (cnt_le a3 j0 a4 j1 j2).2
  unfold kg_go mg_go
  rw [e1]
  by_cases w : x.2.2.2.1 = 0
  · rw [if_pos w, if_pos (e.mpr w)]; exact ⟨kR_clear h.1, rfl, hl⟩
  · rw [if_neg w, if_neg (fun q => w (e.mp q))]
    by_cases v : (mn_take lf wr).1 = 0
    · rw [if_pos v, if_pos v]; exact ⟨h, rfl, e2⟩
    · rw [if_neg v, if_neg v]; exact ⟨kR_set t h w, rfl, e2⟩
theorem kR_fin {x : kGV} {y : mGV} (t lf wr : Int32) (hl : ¬ lf < 0) (h : kR x y) : kR (kg_fin t lf wr x).1 (mg_done t lf wr y).1 ∧ (kg_fin t lf wr x).2 = (mg_done t lf wr y).2 ∧ ¬ (mg_done t lf wr y).2.1 < 0 := by
  have e : y.1 = x.2.1 ∧ y.2.2.1 = x.2.2.2.2.1 ∧ (mg_cnt y.2.2.2.1 8 ≤ mg_jn y.2.2.2.1 y.2.2.2.2.1 8 ↔ x.2.2.2.1 = x.2.2.1) := by
    obtain ⟨x0, x1, x2, x3, x4, x5, x6⟩ := x
    obtain ⟨y0, y1, y2, y3, y4, y5, y6⟩ := y
    obtain ⟨⟨a0, a1, a2, a3, a4, a5, a6⟩, j0, j1, j2, j3, j4, j5⟩ := h
    exact ⟨a0, a2, (cnt_le a3 j0 a4 j1 j2).1⟩
  unfold kg_fin mg_done
  rw [e.1, e.2.1]
  by_cases w : x.2.1 = 1
  · rw [if_pos w, if_pos w]
    by_cases v : x.2.2.2.1 = x.2.2.1
    · rw [if_pos v, if_pos (e.2.2.mpr v)]; exact kR_go t lf wr hl h
    · rw [if_neg v, if_neg (fun q => v (e.2.2.mp q))]
      by_cases u : x.2.2.2.2.1 ≤ t
      · rw [if_pos u, if_pos u]; exact kR_go t lf wr hl h
      · rw [if_neg u, if_neg u]; exact ⟨h, rfl, hl⟩
  · rw [if_neg w, if_neg w]; exact ⟨h, rfl, hl⟩
/-! who is silent -/
def kq (x2 t : Int32) (x5 : Nat → Int32) (i : Nat) : Bool := bt x2 i && !decide (t - x5 i < 30)
theorem sil_bt {x2 t : Int32} {x5 : Nat → Int32} {n : Nat} (hn : n ≤ 8) (i : Nat) : bt (kg_sil x2 t x5 n) i = (decide (i < n) && kq x2 t x5 i) := by
  induction n with
  | zero => rw [kg_sil, bt_zero]; simp
  | succ n ih =>
    rw [kg_sil, bt_has (by omega)]
    have ih := ih (by omega)
    by_cases h1 : b01 x2 n = 0
    · rw [if_pos h1, ih]
      by_cases e : i = n
      · subst e; simp [kq, b01_0.mp h1]
      · have : (i < n + 1) ↔ (i < n) := by omega
        simp [this]
    · rw [if_neg h1]
      have hb : bt x2 n = true := by
        by_cases z : bt x2 n = true
        · exact z
        · exact absurd (b01_0.mpr (by simpa using z)) h1
      by_cases h2 : t - x5 n < 30
      · rw [if_pos h2, ih]
        by_cases e : i = n
        · subst e; simp [kq, h2]
        · have : (i < n + 1) ↔ (i < n) := by omega
          simp [this]
      · rw [if_neg h2, bt_or, ih, show (1 : Int32) <<< (nI n &&& 31) = kpw n from rfl, bt_pw (by omega)]
        by_cases e : i = n
        · subst e; simp [kq, h2, hb]
        · have h3 : (i < n + 1) ↔ (i < n) := by omega
          have h4 : ¬ n = i := fun z => e z.symm
          simp [h3, h4]
theorem mtk_at {me he x5 : Nat → Int32} {t x2 : Int32} (hme : ∀ i, i < 8 → me i = b01 x2 i) (hhe : ∀ i, i < 8 → he i = x5 i) {n : Nat} (hn : n ≤ 8) : (∀ i, i < 8 → (mtk me he t n).1 i = if (decide (i < n) && kq x2 t x5 i) = true then 0 else me i) ∧ ((mtk me he t n).2 = 0 ↔ ∀ i, i < n → kq x2 t x5 i = false) ∧ ((mtk me he t n).2 = 0 ∨ (mtk me he t n).2 = 1) := by
  induction n with
  | zero => exact ⟨fun i hi => by simp [mtk], ⟨fun _ i hi => absurd hi (Nat.not_lt_zero i), fun _ => rfl⟩, Or.inl rfl⟩
  | succ n ih =>
    obtain ⟨h1, h2, h3⟩ := ih (by omega)
    have hn8 : n < 8 := by omega
    have hat : (mtk me he t n).1 n = b01 x2 n := by rw [h1 n hn8, ← hme n hn8]; simp
    rw [mtk, hat, hhe n hn8]
    have hno : kq x2 t x5 n = false → (∀ i, i < 8 → (mtk me he t n).1 i = if (decide (i < n + 1) && kq x2 t x5 i) = true then 0 else me i) ∧ ((mtk me he t n).2 = 0 ↔ ∀ i, i < n + 1 → kq x2 t x5 i = false) ∧ ((mtk me he t n).2 = 0 ∨ (mtk me he t n).2 = 1) := by
      intro hk
      refine ⟨fun i hi => ?_, ?_, h3⟩
      · rw [h1 i hi]
        by_cases e : i = n
        · subst e; simp [hk]
        · have : (i < n + 1) ↔ (i < n) := by omega
          simp [this]
      · rw [h2]
        constructor
        · intro z i hi
          by_cases e : i = n
          · subst e; exact hk
          · exact z i (by omega)
        · intro z i hi
          exact z i (by omega)
    by_cases c1 : b01 x2 n = 0
    · rw [if_pos c1]
      exact hno (by simp [kq, b01_0.mp c1])
    · rw [if_neg c1]
      have hb : bt x2 n = true := by
        by_cases z : bt x2 n = true
        · exact z
        · exact absurd (b01_0.mpr (by simpa using z)) c1
      by_cases c2 : t - x5 n < 30
      · rw [if_pos c2]
        exact hno (by simp [kq, c2])
      · rw [if_neg c2]
        have hk : kq x2 t x5 n = true := by simp [kq, hb, c2]
        refine ⟨fun i hi => ?_, ?_, Or.inr rfl⟩
        · by_cases e : i = n
          · subst e
            show upd (mtk me he t i).1 i 0 i = _
            rw [pk_us]; simp [hk]
          · show upd (mtk me he t n).1 n 0 i = _
            rw [pk_un e, h1 i hi]
            have : (i < n + 1) ↔ (i < n) := by omega
            simp [this]
        · constructor
          · intro z; exact absurd z (show ¬ (1 : Int32) = 0 by decide)
          · intro z
            have := z n (by omega)
            rw [hk] at this; cases this
theorem kR_drop {x : kGV} {y : mGV} (t : Int32) (h : kR x y) : kR (kg_drop t x) (mg_tk t y) := by
  obtain ⟨x0, x1, x2, x3, x4, x5, x6⟩ := x
  obtain ⟨y0, y1, y2, y3, y4, y5, y6⟩ := y
  have hh := h
  obtain ⟨⟨a0, a1, a2, a3, a4, a5, a6⟩, j0, j1, j2, j3, j4, j5⟩ := h
  obtain ⟨m1, m2, m3⟩ := mtk_at (t := t) a4 a5 (Nat.le_refl 8)
  have hs : kg_sil x2 t x5 8 = 0 ↔ ∀ i, i < 8 → kq x2 t x5 i = false := by
    constructor
    · intro z i hi
      have h1 := sil_bt (x2 := x2) (t := t) (x5 := x5) (Nat.le_refl 8) i
      rw [z, bt_zero] at h1
      simpa [hi] using h1.symm
    · intro z
      apply bt_ext
      intro i _
      rw [sil_bt (Nat.le_refl 8), bt_zero]
      by_cases hi : i < 8
      · simp [z i hi]
      · simp [hi]
  have e0 : y0 = x1 := a0
  unfold kg_drop
  show kR (if x1 = 2 then _ else _) (if y0 = 2 then _ else _)
  rw [e0]
  by_cases w : x1 = 2
  · rw [if_pos w, if_pos w]
    by_cases v : kg_sil x2 t x5 8 = 0
    · have v1 := hs.mp v
      show kR (if kg_sil x2 t x5 8 = 0 then _ else _) _
      rw [if_pos v, if_pos (m2.mpr v1)]
      refine ⟨⟨rfl, a1, a2, a3, fun i hi => ?_, a5, a6⟩, j0, j1, j2, j3, j4, j5⟩
      rw [m1 i hi, v1 i hi]
      simpa using a4 i hi
    · show kR (if kg_sil x2 t x5 8 = 0 then _ else _) _
      rw [if_neg v, if_neg (fun q => v (hs.mpr (m2.mp q)))]
      refine kR_out _ t ?_ (Or.inl w)
      refine ⟨rfl, a1, a2, ks_and a3, fun i hi => ?_, a5, a6⟩
      rw [m1 i hi, a4 i hi]
      unfold b01
      rw [bt_and, bt_xor, bt_m1 (by omega), sil_bt (Nat.le_refl 8)]
      have hd : decide (i < 8) = true := decide_eq_true hi
      rw [hd]
      by_cases q : kq x2 t x5 i = true
      · simp [q]
      · have q : kq x2 t x5 i = false := by simpa using q
        simp [q]
  · rw [if_neg w, if_neg w]
    exact ⟨⟨rfl, a1, a2, a3, a4, a5, a6⟩, j0, j1, j2, j3, j4, j5⟩
