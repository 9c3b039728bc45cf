/-! masks: what bit i of an int says -/
def bt (x : Int32) (i : Nat) : Bool := x.toBitVec.getLsbD i
def b01 (x : Int32) (i : Nat) : Int32 := if bt x i then 1 else 0
/-- no bit from 8 on -/
def ks (x : Int32) : Prop := ∀ i, 8 ≤ i → bt x i = false
def kpw (i : Nat) : Int32 := 1 <<< (nI i &&& 31)
theorem bt_ge {x : Int32} {i : Nat} (h : 32 ≤ i) : bt x i = false := BitVec.getLsbD_of_ge _ _ h
theorem bt_or (x y : Int32) (i : Nat) : bt (x ||| y) i = (bt x i || bt y i) := by simp [bt, Int32.toBitVec_or]
theorem bt_and (x y : Int32) (i : Nat) : bt (x &&& y) i = (bt x i && bt y i) := by simp [bt, Int32.toBitVec_and]
theorem bt_xor (x y : Int32) (i : Nat) : bt (x ^^^ y) i = (bt x i ^^ bt y i) := by simp [bt, Int32.toBitVec_xor]
theorem bt_zero (i : Nat) : bt 0 i = false := by simp [bt]
theorem bt_m1 {i : Nat} (h : i < 32) : bt (-1) i = true := by
  have : ∀ i : Fin 32, bt (-1) i.val = true := by decide
  exact this ⟨i, h⟩
theorem bt_ext {x y : Int32} (h : ∀ i, i < 32 → bt x i = bt y i) : x = y := by
  apply Int32.toBitVec_inj.mp
  apply BitVec.eq_of_getLsbD_eq
  intro i hi
  exact h i hi
theorem bt_ext8 {x y : Int32} (hx : ks x) (hy : ks y) (h : ∀ i, i < 8 → bt x i = bt y i) : x = y := by
  apply bt_ext
  intro i hi
  by_cases h8 : i < 8
  · exact h i h8
  · rw [hx i (by omega), hy i (by omega)]
theorem ks_0 : ks 0 := fun i _ => bt_zero i
theorem bt_pw {i : Nat} (hi : i < 8) (j : Nat) : bt (kpw i) j = decide (i = j) := by
  by_cases hj : j < 32
  · have : ∀ i : Fin 8, ∀ j : Fin 32, bt (kpw i.val) j.val = decide (i.val = j.val) := by decide +kernel
    exact this ⟨i, hi⟩ ⟨j, hj⟩
  · rw [bt_ge (by omega)]
    simp
    omega
theorem ks_pw {i : Nat} (hi : i < 8) : ks (kpw i) := fun j hj => by rw [bt_pw hi]; simp; omega
theorem bt_has {x : Int32} {i : Nat} (hi : i < 8) : kg_has x (nI i) = b01 x i := by
  have e : (x &&& kpw i = 0) ↔ bt x i = false := by
    constructor
    · intro h
      have h1 := congrArg (fun z => bt z i) h
      simp only [bt_and, bt_pw hi, bt_zero, decide_true, Bool.and_true] at h1
      exact h1
    · intro h
      apply bt_ext
      intro j _
      rw [bt_and, bt_pw hi, bt_zero]
      by_cases hij : i = j
      · subst hij; simp [h]
      · simp [hij]
  unfold kg_has b01
  by_cases h : bt x i = true
  · have h1 : ¬ (x &&& kpw i = 0) := fun z => by rw [e.mp z] at h; cases h
    rw [if_pos h]
    exact if_neg h1
  · have h2 : bt x i = false := by simpa using h
    rw [if_neg h]
    exact if_pos (e.mpr h2)
theorem b01_0 {x : Int32} {i : Nat} : b01 x i = 0 ↔ bt x i = false := by
  unfold b01
  by_cases h : bt x i = true
  · simp [h]
  · simp [h]
theorem ks_or {x y : Int32} (hx : ks x) (hy : ks y) : ks (x ||| y) := fun i hi => by rw [bt_or, hx i hi, hy i hi]; rfl
theorem ks_and {x y : Int32} (hx : ks x) : ks (x &&& y) := fun i hi => by rw [bt_and, hx i hi]; rfl
theorem ks_nat {x : Int32} (h : ks x) : ∃ a, a < 256 ∧ x = nI a ∧ ∀ i, bt x i = a.testBit i := by
  refine ⟨x.toBitVec.toNat, ?_, ?_, fun i => rfl⟩
  · exact Nat.lt_pow_two_of_testBit (n := 8) _ (fun i hi => h i hi)
  · apply Int32.toBitVec_inj.mp
    show x.toBitVec = (Int32.ofNat x.toBitVec.toNat).toBitVec
    simp
def kba (a i : Nat) : Int32 := if a.testBit i then 1 else 0
theorem bt_nat {x : Int32} {a : Nat} (h : ∀ i, bt x i = a.testBit i) (i : Nat) : b01 x i = kba a i := by rw [b01, kba, h]
theorem cnt_congr {f g : Nat → Int32} {n : Nat} (h : ∀ i, i < n → f i = g i) : mg_cnt f n = mg_cnt g n := by
  induction n with
  | zero => rfl
  | succ n ih => rw [mg_cnt, mg_cnt, ih (fun i hi => h i (by omega)), h n (by omega)]
theorem jn_congr {f g f' g' : Nat → Int32} {n : Nat} (h : ∀ i, i < n → f i = g i) (h' : ∀ i, i < n → f' i = g' i) : mg_jn f f' n = mg_jn g g' n := by
  induction n with
  | zero => rfl
  | succ n ih => rw [mg_jn, mg_jn, ih (fun i hi => h i (by omega)) (fun i hi => h' i (by omega)), h n (by omega), h' n (by omega)]
/-- popcount -/
def kpc (a : Nat) : Nat → Nat
  | 0 => 0
  | i + 1 => kpc a i + (if a.testBit i then 1 else 0)
theorem kpc_bc {a : Nat} (h : a < 256) : k_bc (nI a) = nI (kpc a 8) := by
  have : ∀ a : Fin 256, k_bc (nI a.val) = nI (kpc a.val 8) := by decide +kernel
  exact this ⟨a, h⟩
theorem kpc_le (a n : Nat) : kpc a n ≤ n := by
  induction n with
  | zero => exact Nat.le_refl _
  | succ n ih =>
    rw [kpc]
    split <;> omega
theorem kpc_cnt (a n : Nat) : mg_cnt (kba a) n = nI (kpc a n) := by
  induction n with
  | zero => rfl
  | succ n ih =>
    rw [mg_cnt, kpc, ih, kba]
    by_cases h : a.testBit n = true
    · simp only [h, if_true, show ¬ (1 : Int32) = 0 by decide, if_false]
      exact nI_1 _
    · simp only [h, if_false, if_true]
      simp
/-- popcount of b within a -/
theorem kpc_jn {a b : Nat} (hs : ∀ i, i < 8 → b.testBit i = true → a.testBit i = true) {n : Nat} (hn : n ≤ 8) : mg_jn (kba a) (kba b) n = nI (kpc b n) := by
  induction n with
  | zero => rfl
  | succ n ih =>
    rw [mg_jn, kpc, ih (by omega), kba, kba]
    by_cases h : b.testBit n = true
    · have h1 := hs n (by omega) h
      simp only [h, h1, if_true, show ¬ (1 : Int32) = 0 by decide, if_false]
      exact nI_1 _
    · by_cases h1 : a.testBit n = true
      · simp [h, h1]
      · simp [h, h1]
theorem kpc_lt {a b n : Nat} (hs : ∀ i, i < n → b.testBit i = true → a.testBit i = true) : kpc b n ≤ kpc a n ∧ (kpc a n ≤ kpc b n → ∀ i, i < n → a.testBit i = b.testBit i) := by
  induction n with
  | zero => exact ⟨Nat.le_refl _, fun _ i hi => absurd hi (Nat.not_lt_zero i)⟩
  | succ n ih =>
    obtain ⟨h1, h2⟩ := ih (fun i hi => hs i (by omega))
    have h3 := hs n (by omega)
    rw [kpc, kpc]
    by_cases hb : b.testBit n = true
    · have ha := h3 hb
      simp only [hb, ha, if_true]
      refine ⟨by omega, fun hle i hi => ?_⟩
      by_cases hin : i = n
      · subst hin; rw [ha, hb]
      · exact h2 (by omega) i (by omega)
    · by_cases ha : a.testBit n = true
      · simp only [hb, ha, if_true]
        refine ⟨by simp; omega, fun hle => ?_⟩
        exfalso
        simp at hle
        omega
      · simp only [hb, ha]
        refine ⟨by simpa using h1, fun hle i hi => ?_⟩
        by_cases hin : i = n
        · subst hin; simp at ha hb; rw [ha, hb]
        · exact h2 (by simpa using hle) i (by omega)
theorem kpc_0 {a n : Nat} : kpc a n = 0 ↔ ∀ i, i < n → a.testBit i = false := by
  induction n with
  | zero => exact ⟨fun _ i hi => absurd hi (Nat.not_lt_zero i), fun _ => rfl⟩
  | succ n ih =>
    rw [kpc]
    constructor
    · intro h i hi
      have h1 : kpc a n = 0 := by omega
      by_cases hin : i = n
      · subst hin
        by_cases hb : a.testBit i = true
        · simp [hb] at h
        · simpa using hb
      · exact ih.mp h1 i (by omega)
    · intro h
      rw [ih.mpr (fun i hi => h i (by omega)), h n (by omega)]
      rfl
