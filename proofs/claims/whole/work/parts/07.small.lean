/-! small rows: arrays that agree below their length; the machine's names for a loop -/
theorem ka_i {cA : ClassId} {n : Nat} {f f' : Nat → Int32} (h : ∀ q, q < n → f q = f' q) : vp_cell cA (n, .inl f) = vp_cell cA (n, .inl f') := by
  rw [vp_cell_i, vp_cell_i]
  unfold arrV
  congr 1
  apply Array.ext
  · simp
  · intro i h1 h2
    simp at h1
    simp [h i h1]
theorem ka_l {cA : ClassId} {n : Nat} {f f' : Nat → Int64} (h : ∀ q, q < n → f q = f' q) : vp_cell cA (n, .inr (.inl f)) = vp_cell cA (n, .inr (.inl f')) := by
  show arrV cA n (fun j => .long (f j)) = arrV cA n (fun j => .long (f' j))
  unfold arrV
  congr 1
  apply Array.ext
  · simp
  · intro i h1 h2
    simp at h1
    simp [h i h1]
theorem ka_Pi {D : va_G} {cl : List vw_C} {x : Nat} {cA : ClassId} {n : Nat} {f f' : Nat → Int32} {H : Heap} (hP : va_P D cl [(x, .inl (cA, n, .inl f))] H) (h : ∀ q, q < n → f q = f' q) : va_P D cl [(x, .inl (cA, n, .inl f'))] H := by
  intro k q hk
  match k, hk with
  | 0, hk =>
    cases hk
    show H[x]? = some (vp_cell cA (n, .inl f'))
    rw [← ka_i h]
    exact hP 0 _ rfl
  | k + 1, hk => simp at hk
theorem ka_Pl {D : va_G} {cl : List vw_C} {x : Nat} {cA : ClassId} {n : Nat} {f f' : Nat → Int64} {H : Heap} (hP : va_P D cl [(x, .inl (cA, n, .inr (.inl f)))] H) (h : ∀ q, q < n → f q = f' q) : va_P D cl [(x, .inl (cA, n, .inr (.inl f')))] H := by
  intro k q hk
  match k, hk with
  | 0, hk =>
    cases hk
    show H[x]? = some (vp_cell cA (n, .inr (.inl f')))
    rw [← ka_l h]
    exact hP 0 _ rfl
  | k + 1, hk => simp at hk
/-- what a world holds stays where a callee changed other cells -/
theorem kl_keep {D : va_G} {cl : List vw_C} {ws : va_W} {H H1 : Heap} {L : List Nat} (hP : va_P D cl ws H) (hd : ∀ q ∈ ws.map Prod.fst, q ∉ L) (ho : ∀ q : Nat, q < H.size → q ∉ L → H1[q]? = H[q]?) : va_P D cl ws H1 :=
  hP.kept (fun k q hk => ho q.1 (hP k q hk).lt (hd q.1 (List.mem_map.mpr ⟨q, List.mem_of_getElem? hk, rfl⟩)))
theorem kn_lt8 {x : Int32} (h0 : ¬ x < 0) (h8 : x < 8) : vp_in x 8 := by
  rw [vp_in_iff]
  rw [Int32.lt_iff_toInt_lt] at h0 h8
  simp at h0 h8
  omega
theorem kn_no0 {x : Int32} {n : Nat} (h : x < 0) : ¬ vp_in x n := fun q => q (Or.inl h)
theorem kn_ge {x y : Int32} {n : Nat} (hy : y.toInt = n) (h : ¬ x < y) : ¬ vp_in x n := by
  rw [vp_in_iff]
  rw [Int32.lt_iff_toInt_lt, hy] at h
  omega
theorem kn_lt {x y : Int32} {n : Nat} (hy : y.toInt = n) (h0 : ¬ x < 0) (h : x < y) : vp_in x n := by
  rw [vp_in_iff]
  rw [Int32.lt_iff_toInt_lt] at h0 h
  rw [hy] at h
  simp at h0
  omega
/-- a log's number, where there are at most eight -/
theorem k_in8 {x lg : Int32} (h : ∃ n : Nat, n ≤ 8 ∧ lg = nI n) (hp : ¬ x < 0 ∧ x < lg) : vp_in x 8 := by
  obtain ⟨n, hn, rfl⟩ := h
  have h1 := kn_lt (n := n) (nI_toInt (by omega)) hp.1 hp.2
  rw [vp_in_iff] at h1 ⊢
  omega
theorem k_lc {x : Int64} : 0 ≤ lg_cmp x 0 ↔ ¬ x < 0 := by
  unfold lg_cmp
  by_cases h1 : (0 : Int64) < x
  · simp [h1]
    exact Int64.le_of_lt h1
  · by_cases h2 : x = 0
    · subst h2; simp
    · have h3 : x < 0 := by
        rw [Int64.lt_iff_toInt_lt] at h1 ⊢
        have h4 : x.toInt ≠ (0 : Int64).toInt := fun q => h2 (Int64.toInt_inj.mp q)
        omega
      simp [h1, h2, h3]
theorem k_n1 {x : Int32} (h : ¬ x < 1) : ¬ x < 0 := by
  rw [Int32.lt_iff_toInt_lt] at h ⊢
  simp at h ⊢
  omega
