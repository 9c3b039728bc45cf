/-! who has a log: the class counts, the reference goes round -/
def moB_nx (f : Nat → Bool) : Nat → Nat → Nat
  | 0, m => m
  | k + 1, m => if f (m % 8) then m else moB_nx f k (m + 1)
def moB_s (f : Nat → Bool) : Nat → Nat
  | 0 => 0
  | k + 1 => moB_nx f 8 (moB_s f k) + 1
def moB (f : Nat → Bool) (k : Nat) : Nat := moB_nx f 8 (moB_s f k) % 8
theorem moB_nx_eq {me : Nat → Int32} {f : Nat → Bool} (h : ∀ i, i < 8 → (me i = 0 ↔ f i = false)) (k m : Nat) : mo_nx me k m = moB_nx f k m := by
  induction k generalizing m with
  | zero => rfl
  | succ k ih =>
    rw [mo_nx, moB_nx]
    have h1 := h (m % 8) (Nat.mod_lt _ (by decide))
    by_cases hf : f (m % 8) = true
    · have h2 : ¬ me (m % 8) = 0 := fun z => by rw [h1.mp z] at hf; cases hf
      rw [if_neg h2, if_pos hf]
    · have h2 : f (m % 8) = false := by simpa using hf
      rw [if_pos (h1.mpr h2), if_neg hf, ih]
theorem moB_eq {me : Nat → Int32} {f : Nat → Bool} (h : ∀ i, i < 8 → (me i = 0 ↔ f i = false)) (k : Nat) : mo me k = moB f k := by
  have hs : ∀ k, mo_s me k = moB_s f k := by
    intro k
    induction k with
    | zero => rfl
    | succ k ih => rw [mo_s, moB_s, ih, moB_nx_eq h]
  rw [mo, moB, hs, moB_nx_eq h]
def kchk (a q : Nat) : Bool := (List.range 8).all (fun m => !a.testBit m || (decide (q % kpc a 8 = kpc (a % 2 ^ m) 8) == decide (moB a.testBit q = m)))
theorem kchk_all : ((List.range 256).all (fun a => (List.range 8).all (fun q => kchk a q))) = true := by decide +kernel
theorem k_own {a q m : Nat} (ha : a < 256) (hq : q < 8) (hm : m < 8) (hb : a.testBit m = true) : q % kpc a 8 = kpc (a % 2 ^ m) 8 ↔ moB a.testBit q = m := by
  have h1 := List.all_eq_true.mp kchk_all a (List.mem_range.mpr ha)
  have h2 := List.all_eq_true.mp h1 q (List.mem_range.mpr hq)
  have h3 := List.all_eq_true.mp h2 m (List.mem_range.mpr hm)
  rw [hb] at h3
  simp only [Bool.not_true, Bool.false_or, beq_iff_eq] at h3
  constructor
  · intro z; rw [decide_eq_true z] at h3; exact of_decide_eq_true h3.symm
  · intro z; rw [decide_eq_true z] at h3; exact of_decide_eq_true h3
theorem k_low {a m : Nat} (ha : a < 256) (hm : m < 8) : nI a &&& ((1 <<< (nI m &&& 31)) - 1) = nI (a % 2 ^ m) := by
  have : ∀ a : Fin 256, ∀ m : Fin 8, nI a.val &&& ((1 <<< (nI m.val &&& 31)) - 1) = nI (a.val % 2 ^ m.val) := by decide +kernel
  exact this ⟨a, ha⟩ ⟨m, hm⟩
theorem k_rem {q c : Nat} (hq : q < 8) (hc : c < 9) (h0 : c ≠ 0) : nI q - nI q / nI c * nI c = nI (q % c) := by
  have : ∀ q : Fin 8, ∀ c : Fin 9, c.val ≠ 0 → nI q.val - nI q.val / nI c.val * nI c.val = nI (q.val % c.val) := by decide +kernel
  exact this ⟨q, hq⟩ ⟨c, hc⟩ h0
theorem k_gives {x0 x1 x2 x3 x4 : Int32} {x5 me : Nat → Int32} {x6 : Nat → Int64} {q m : Nat} (h2 : x1 = 2) (hs : ks x2) (hme : ∀ i, i < 8 → me i = b01 x2 i) (hq : q < 8) (hm : m < 8) (hb : bt x2 m = true) :
    kg_gives (nI q) (nI m) (x0, x1, x2, x3, x4, x5, x6) = if nI (mo me q) = nI m then 1 else 0 := by
  obtain ⟨a, ha, rfl, hbt⟩ := ks_nat hs
  have hbm : a.testBit m = true := by rw [← hbt]; exact hb
  have h1 : ¬ kg_has (nI a) (nI m) = 0 := by rw [bt_has hm, b01_0, hb]; decide
  have hc0 : kpc a 8 ≠ 0 := fun z => by rw [kpc_0.mp z m hm] at hbm; cases hbm
  have hc8 := kpc_le a 8
  have h3 : ¬ k_bc (nI a) = 0 := by rw [kpc_bc ha]; exact nI_ne0 (by omega) (by omega)
  have hp : a % 2 ^ m < 256 := Nat.lt_of_le_of_lt (Nat.mod_le _ _) ha
  have hpl := kpc_le (a % 2 ^ m) 8
  have hme2 : ∀ i, i < 8 → (me i = 0 ↔ a.testBit i = false) := fun i hi => by rw [hme i hi, b01_0, hbt]
  have hmo : mo me q < 8 := Nat.mod_lt _ (by decide)
  have hql : q % kpc a 8 ≤ q := Nat.mod_le _ _
  unfold kg_gives
  simp only [if_pos h2, if_neg h1, if_neg h3]
  rw [k_low ha hm, kpc_bc ha, kpc_bc hp, k_rem hq (by omega) hc0]
  have key := k_own ha hq hm hbm
  rw [← moB_eq hme2] at key
  have e1 : (nI (q % kpc a 8) = nI (kpc (a % 2 ^ m) 8)) ↔ (nI (mo me q) = nI m) := by
    rw [nI_eq (by omega) (by omega), nI_eq (by omega) (by omega)]; exact key
  by_cases z : nI (mo me q) = nI m
  · rw [if_pos z, if_pos (e1.mpr z)]
  · rw [if_neg z, if_neg (fun y => z (e1.mp y))]
/-! bits one by one from above, and or-ed from below -/
def ksum (f : Nat → Int32) : Nat → Nat
  | 0 => 0
  | k + 1 => ksum f k + (if f k = 0 then 0 else 2 ^ k)
theorem ksum_lt (f : Nat → Int32) (k : Nat) : ksum f k < 2 ^ k := by
  induction k with
  | zero => exact Nat.lt_succ_self 0
  | succ k ih =>
    rw [ksum, Nat.pow_succ]
    split <;> omega
theorem k_or {s k : Nat} (hk : k < 8) (hs : s < 2 ^ k) : nI s ||| (1 <<< (nI k &&& 31)) = nI (s + 2 ^ k) := by
  have : ∀ k : Fin 8, ∀ s : Fin 256, s.val < 2 ^ k.val → nI s.val ||| (1 <<< (nI k.val &&& 31)) = nI (s.val + 2 ^ k.val) := by decide +kernel
  have h8 : (2 : Nat) ^ k ≤ 2 ^ 8 := Nat.pow_le_pow_right (by decide) (by omega)
  exact this ⟨k, hk⟩ ⟨s, by omega⟩ hs
theorem mbd_sum {f : Nat → Int32} {n : Nat} (h : ∀ i, i < n → f i = 0 ∨ f i = 1) (c : Nat) : mbd f n (nI c) = nI (c * 2 ^ n + ksum f n) := by
  induction n generalizing c with
  | zero => rw [mbd, ksum]; simp
  | succ n ih =>
    rw [mbd, ksum]
    have e2 : (2 : Int32) * nI c = nI (2 * c) := by rw [show (2 : Int32) = nI 2 from rfl]; exact (Int32.ofNat_mul 2 c).symm
    rcases h n (by omega) with h1 | h1
    · rw [h1, if_pos rfl, e2, show nI (2 * c) + 0 = nI (2 * c) from Int32.add_zero _, ih (fun i hi => h i (by omega))]
      congr 1
      rw [Nat.pow_succ, Nat.mul_comm 2 c, Nat.mul_assoc, Nat.mul_comm 2]
      rfl
    · rw [h1, if_neg (by decide), e2, nI_1, ih (fun i hi => h i (by omega))]
      congr 1
      rw [Nat.pow_succ, Nat.add_mul, Nat.mul_comm 2 c, Nat.mul_assoc, Nat.mul_comm 2]
      omega
theorem mbd_bits {a : Nat} (ha : a < 256) : mbd (kba a) 8 0 = nI a := by
  have : ∀ a : Fin 256, mbd (kba a.val) 8 0 = nI a.val := by decide +kernel
  exact this ⟨a, ha⟩
theorem mbd_congr {f g : Nat → Int32} {n : Nat} (h : ∀ i, i < n → f i = g i) (b : Int32) : mbd f n b = mbd g n b := by
  induction n generalizing b with
  | zero => rfl
  | succ n ih => rw [mbd, mbd, h n (by omega), ih (fun i hi => h i (by omega))]
theorem k_sh {m : Int32} {g : kGV} {f : Nat → Int32} {n : Nat} (hn : n ≤ 8) (h : ∀ i, i < n → kg_gives (nI i) m g = f i) : kg_sh m g n = nI (ksum f n) := by
  induction n with
  | zero => rfl
  | succ n ih =>
    rw [kg_sh, ksum, ih (by omega) (fun i hi => h i (by omega)), h n (by omega)]
    by_cases z : f n = 0
    · rw [if_pos z, if_pos z]; rfl
    · rw [if_neg z, if_neg z, k_or (by omega) (ksum_lt f n)]
