/-! the reference's world: the object and its seven arrays -/
/-- state, generation, limit, member, joined, heard, offset -/
abbrev mGV : Type := Int32 × Int32 × Int32 × (Nat → Int32) × (Nat → Int32) × (Nat → Int32) × (Nat → Int64)
/-- code, logs, time, room, notes, groups -/
abbrev mDV : Type := Int32 × Int32 × Int32 × Int32 × Int32 × (Nat → mGV)
abbrev mty (cI cJ cZ : ClassId) : List (ClassId × FieldType) := [(cI, .int), (cJ, .long), (cZ, .boolean)]
def mp0 (y : mGV) : Int32 := y.1
def mp1 (y : mGV) : Int32 := y.2.1
def mp2 (y : mGV) : Int32 := y.2.2.1
def mp3 (y : mGV) : Nat → Int32 := y.2.2.2.1
def mp4 (y : mGV) : Nat → Int32 := y.2.2.2.2.1
def mp5 (y : mGV) : Nat → Int32 := y.2.2.2.2.2.1
def mp6 (y : mGV) : Nat → Int64 := y.2.2.2.2.2.2
def mf8 (f : mGV → Int32) (M : Nat → mGV) : Nat → Int32 := fun q => f (M q)
def mf64 {α : Type} (f : mGV → Nat → α) (M : Nat → mGV) : Nat → α := fun q => f (M (q / 8)) (q % 8)
def mw (cI cJ cZ : ClassId) (a : Nat → Nat) (co lg tm rm no : Int32) (M : Nat → mGV) : va_W :=
  [(a 0, .inr (3, [.int co, .int lg, .int tm, .int rm, .int no, .ref (a 1), .ref (a 2), .ref (a 3), .ref (a 4), .ref (a 5), .ref (a 6), .ref (a 7)])),
   (a 1, .inl (cI, 8, .inl (mf8 mp0 M))), (a 2, .inl (cI, 8, .inl (mf8 mp1 M))), (a 3, .inl (cI, 8, .inl (mf8 mp2 M))),
   (a 4, .inl (cZ, 64, .inl (mf64 mp3 M))), (a 5, .inl (cZ, 64, .inl (mf64 mp4 M))), (a 6, .inl (cI, 64, .inl (mf64 mp5 M))), (a 7, .inl (cJ, 64, .inr (.inl (mf64 mp6 M))))]
abbrev mwv (cI cJ cZ : ClassId) (a : Nat → Nat) (v : mDV) : va_W := mw cI cJ cZ a v.1 v.2.1 v.2.2.1 v.2.2.2.1 v.2.2.2.2.1 v.2.2.2.2.2
def mad (a : Nat → Nat) : List Nat := [a 0, a 1, a 2, a 3, a 4, a 5, a 6, a 7]
theorem mv_at (M : Nat → mGV) (g : Nat) : va_up M g (M g) = M := by
  funext q
  by_cases h : q = g
  · subst h; simp [va_up]
  · simp [va_up, h]
section MWA
variable {p : Program} {l : Launch} {e : Env} {R : Room} {s : State} {m : MethodId} {args : Array Value} {below : List Frame} {meth : Method} {c : Code} {H H0 : Heap} {locs : List Loc} {cells slots : Nat} {Q : State → Prop} {cc : ByteArray}
variable {D : va_G} {cl : List vw_C} {A : Nat → Prop} {pc : Nat} {ls : Array Slot} {rest : List Value} {cI cJ cZ : ClassId} {a : Nat → Nat} {co lg tm rm no : Int32} {M : Nat → mGV} {g i : Nat} {x0 x1 x2 : Int32} {x3 x4 x5 : Nat → Int32} {x6 : Nat → Int64}
theorem mw_ad : (mw cI cJ cZ a co lg tm rm no M).map Prod.fst = mad a := rfl
theorem mw_D (hnd : (mad a).Nodup) (hAL : ∀ q ∈ mad a, A q) : va_D A (mw cI cJ cZ a co lg tm rm no M) := kl_D hnd hAL
theorem mf8_same {f : mGV → Int32} {y y' : mGV} (h : f y = f y') : mf8 f (va_up M g y) = mf8 f (va_up M g y') := by
  funext q
  by_cases h1 : q = g
  · subst h1; simp [mf8, va_up, h]
  · simp [mf8, va_up, h1]
theorem mf8_set {f : mGV → Int32} {y y' : mGV} {v : Int32} (h : f y' = v) : upd (mf8 f (va_up M g y)) g v = mf8 f (va_up M g y') := by
  funext q
  by_cases h1 : q = g
  · subst h1; simp [mf8, va_up, upd, h]
  · simp [mf8, va_up, upd, h1]
theorem mf64_same {α : Type} {f : mGV → Nat → α} {y y' : mGV} (h : f y = f y') : mf64 f (va_up M g y) = mf64 f (va_up M g y') := by
  funext q
  by_cases h1 : q / 8 = g
  · simp [mf64, va_up, h1, h]
  · simp [mf64, va_up, h1]
theorem mf64_set {f : mGV → Nat → Int32} {y y' : mGV} {v : Int32} (hi : i < 8) (h : f y' = upd (f y) i v) : upd (mf64 f (va_up M g y)) (8 * g + i) v = mf64 f (va_up M g y') := by
  funext q
  by_cases h1 : q / 8 = g
  · by_cases h2 : q % 8 = i
    · have h3 : q = 8 * g + i := by omega
      simp [mf64, va_up, upd, h1, h, h2, ← h3]
    · have h3 : ¬ q = 8 * g + i := by omega
      simp [mf64, va_up, upd, h1, h, h2, h3]
  · have h3 : ¬ q = 8 * g + i := by omega
    simp [mf64, va_up, upd, h1, h3]
theorem mf64_setL {f : mGV → Nat → Int64} {y y' : mGV} {v : Int64} (hi : i < 8) (h : f y' = vp_updL (f y) i v) : vp_updL (mf64 f (va_up M g y)) (8 * g + i) v = mf64 f (va_up M g y') := by
  funext q
  by_cases h1 : q / 8 = g
  · by_cases h2 : q % 8 = i
    · have h3 : q = 8 * g + i := by omega
      simp [mf64, va_up, vp_updL, h1, h, h2, ← h3]
    · have h3 : ¬ q = 8 * g + i := by omega
      simp [mf64, va_up, vp_updL, h1, h, h2, h3]
  · have h3 : ¬ q = 8 * g + i := by omega
    simp [mf64, va_up, vp_updL, h1, h3]
theorem mf8_at {f : mGV → Int32} {y : mGV} : mf8 f (va_up M g y) g = f y := by simp [mf8, va_up]
theorem mf64_at {α : Type} {f : mGV → Nat → α} {y : mGV} (hi : i < 8) : mf64 f (va_up M g y) (8 * g + i) = f y i := by
  have h1 : (8 * g + i) / 8 = g := by omega
  have h2 : (8 * g + i) % 8 = i := by omega
  simp [mf64, va_up, h1, h2]
theorem mi_nI (hg : g < 8) (hi : i < 8) : (8 : Int32) * nI g + nI i = nI (8 * g + i) := by
  rw [show (8 : Int32) = nI 8 from rfl, show nI 8 * nI g = nI (8 * g) from (Int32.ofNat_mul 8 g).symm, nI_add]
theorem ml_st (hx : p.tables.exec = Jvm.exec) (hb : c.code = cc) (hK : va_K D cl (mty cI cJ cZ) s) (hP : va_P D cl (mw cI cJ cZ a co lg tm rm no (va_up M g (x0, x1, x2, x3, x4, x5, x6))) H) (hg : g < 8) (hd : decode cc pc = .ok (.iaload, 1)) (kk : W p l e R s m args below meth c H locs cells slots Q (F0 m (pc + 1) ls (.int (x0) :: rest))) : W p l e R s m args below meth c H locs cells slots Q (F0 m pc ls (.int (nI g) :: .ref (a 1) :: rest)) := by
  refine va_iald hx hb hK hP 1 0 rfl rfl (vp_in_nI (by omega) (by decide)) hd ?_
  rw [nI_clamp (by omega), mf8_at]
  exact kk
theorem ms_st {v : Int32} (hx : p.tables.exec = Jvm.exec) (hb : c.code = cc) (hK : va_K D cl (mty cI cJ cZ) s) (hP : va_P D cl (mw cI cJ cZ a co lg tm rm no (va_up M g (x0, x1, x2, x3, x4, x5, x6))) H) (hnd : (mad a).Nodup) (hAL : ∀ q ∈ mad a, A q) (hS : va_S A H0 H locs) (hg : g < 8) (hd : decode cc pc = .ok (.iastore, 1)) (kk : ∀ (H1 : Heap) (locs1 : List Loc), va_P D cl (mw cI cJ cZ a co lg tm rm no (va_up M g (v, x1, x2, x3, x4, x5, x6))) H1 → va_S A H0 H1 locs1 → W p l e R s m args below meth c H1 locs1 cells slots Q (F0 m (pc + 1) ls (rest))) : W p l e R s m args below meth c H locs cells slots Q (F0 m pc ls (.int v :: .int (nI g) :: .ref (a 1) :: rest)) := by
  refine va_iast hx hb hK hP (mw_D hnd hAL) hS 1 0 rfl rfl (vp_in_nI (by omega) (by decide)) hd (fun H1 locs1 hP1 _ hS1 => kk H1 locs1 ?_ hS1)
  rw [nI_clamp (by omega)] at hP1
  have hP1 : va_P D cl [(a 0, .inr (3, [.int co, .int lg, .int tm, .int rm, .int no, .ref (a 1), .ref (a 2), .ref (a 3), .ref (a 4), .ref (a 5), .ref (a 6), .ref (a 7)])), (a 1, .inl (cI, 8, .inl (upd (mf8 mp0 (va_up M g (x0, x1, x2, x3, x4, x5, x6))) (g) (v)))), (a 2, .inl (cI, 8, .inl (mf8 mp1 (va_up M g (x0, x1, x2, x3, x4, x5, x6))))), (a 3, .inl (cI, 8, .inl (mf8 mp2 (va_up M g (x0, x1, x2, x3, x4, x5, x6))))), (a 4, .inl (cZ, 64, .inl (mf64 mp3 (va_up M g (x0, x1, x2, x3, x4, x5, x6))))), (a 5, .inl (cZ, 64, .inl (mf64 mp4 (va_up M g (x0, x1, x2, x3, x4, x5, x6))))), (a 6, .inl (cI, 64, .inl (mf64 mp5 (va_up M g (x0, x1, x2, x3, x4, x5, x6))))), (a 7, .inl (cJ, 64, .inr (.inl (mf64 mp6 (va_up M g (x0, x1, x2, x3, x4, x5, x6))))))] H1 := hP1
  rw [mf8_set (f := mp0) (y' := (v, x1, x2, x3, x4, x5, x6)) (v := v) rfl, mf8_same (f := mp1) (y := (x0, x1, x2, x3, x4, x5, x6)) (y' := (v, x1, x2, x3, x4, x5, x6)) rfl, mf8_same (f := mp2) (y := (x0, x1, x2, x3, x4, x5, x6)) (y' := (v, x1, x2, x3, x4, x5, x6)) rfl, mf64_same (f := mp3) (y := (x0, x1, x2, x3, x4, x5, x6)) (y' := (v, x1, x2, x3, x4, x5, x6)) rfl, mf64_same (f := mp4) (y := (x0, x1, x2, x3, x4, x5, x6)) (y' := (v, x1, x2, x3, x4, x5, x6)) rfl, mf64_same (f := mp5) (y := (x0, x1, x2, x3, x4, x5, x6)) (y' := (v, x1, x2, x3, x4, x5, x6)) rfl, mf64_same (f := mp6) (y := (x0, x1, x2, x3, x4, x5, x6)) (y' := (v, x1, x2, x3, x4, x5, x6)) rfl] at hP1
  exact hP1
theorem ml_ge (hx : p.tables.exec = Jvm.exec) (hb : c.code = cc) (hK : va_K D cl (mty cI cJ cZ) s) (hP : va_P D cl (mw cI cJ cZ a co lg tm rm no (va_up M g (x0, x1, x2, x3, x4, x5, x6))) H) (hg : g < 8) (hd : decode cc pc = .ok (.iaload, 1)) (kk : W p l e R s m args below meth c H locs cells slots Q (F0 m (pc + 1) ls (.int (x1) :: rest))) : W p l e R s m args below meth c H locs cells slots Q (F0 m pc ls (.int (nI g) :: .ref (a 2) :: rest)) := by
  refine va_iald hx hb hK hP 2 0 rfl rfl (vp_in_nI (by omega) (by decide)) hd ?_
  rw [nI_clamp (by omega), mf8_at]
  exact kk
theorem ms_ge {v : Int32} (hx : p.tables.exec = Jvm.exec) (hb : c.code = cc) (hK : va_K D cl (mty cI cJ cZ) s) (hP : va_P D cl (mw cI cJ cZ a co lg tm rm no (va_up M g (x0, x1, x2, x3, x4, x5, x6))) H) (hnd : (mad a).Nodup) (hAL : ∀ q ∈ mad a, A q) (hS : va_S A H0 H locs) (hg : g < 8) (hd : decode cc pc = .ok (.iastore, 1)) (kk : ∀ (H1 : Heap) (locs1 : List Loc), va_P D cl (mw cI cJ cZ a co lg tm rm no (va_up M g (x0, v, x2, x3, x4, x5, x6))) H1 → va_S A H0 H1 locs1 → W p l e R s m args below meth c H1 locs1 cells slots Q (F0 m (pc + 1) ls (rest))) : W p l e R s m args below meth c H locs cells slots Q (F0 m pc ls (.int v :: .int (nI g) :: .ref (a 2) :: rest)) := by
  refine va_iast hx hb hK hP (mw_D hnd hAL) hS 2 0 rfl rfl (vp_in_nI (by omega) (by decide)) hd (fun H1 locs1 hP1 _ hS1 => kk H1 locs1 ?_ hS1)
  rw [nI_clamp (by omega)] at hP1
  have hP1 : va_P D cl [(a 0, .inr (3, [.int co, .int lg, .int tm, .int rm, .int no, .ref (a 1), .ref (a 2), .ref (a 3), .ref (a 4), .ref (a 5), .ref (a 6), .ref (a 7)])), (a 1, .inl (cI, 8, .inl (mf8 mp0 (va_up M g (x0, x1, x2, x3, x4, x5, x6))))), (a 2, .inl (cI, 8, .inl (upd (mf8 mp1 (va_up M g (x0, x1, x2, x3, x4, x5, x6))) (g) (v)))), (a 3, .inl (cI, 8, .inl (mf8 mp2 (va_up M g (x0, x1, x2, x3, x4, x5, x6))))), (a 4, .inl (cZ, 64, .inl (mf64 mp3 (va_up M g (x0, x1, x2, x3, x4, x5, x6))))), (a 5, .inl (cZ, 64, .inl (mf64 mp4 (va_up M g (x0, x1, x2, x3, x4, x5, x6))))), (a 6, .inl (cI, 64, .inl (mf64 mp5 (va_up M g (x0, x1, x2, x3, x4, x5, x6))))), (a 7, .inl (cJ, 64, .inr (.inl (mf64 mp6 (va_up M g (x0, x1, x2, x3, x4, x5, x6))))))] H1 := hP1
  rw [mf8_same (f := mp0) (y := (x0, x1, x2, x3, x4, x5, x6)) (y' := (x0, v, x2, x3, x4, x5, x6)) rfl, mf8_set (f := mp1) (y' := (x0, v, x2, x3, x4, x5, x6)) (v := v) rfl, mf8_same (f := mp2) (y := (x0, x1, x2, x3, x4, x5, x6)) (y' := (x0, v, x2, x3, x4, x5, x6)) rfl, mf64_same (f := mp3) (y := (x0, x1, x2, x3, x4, x5, x6)) (y' := (x0, v, x2, x3, x4, x5, x6)) rfl, mf64_same (f := mp4) (y := (x0, x1, x2, x3, x4, x5, x6)) (y' := (x0, v, x2, x3, x4, x5, x6)) rfl, mf64_same (f := mp5) (y := (x0, x1, x2, x3, x4, x5, x6)) (y' := (x0, v, x2, x3, x4, x5, x6)) rfl, mf64_same (f := mp6) (y := (x0, x1, x2, x3, x4, x5, x6)) (y' := (x0, v, x2, x3, x4, x5, x6)) rfl] at hP1
  exact hP1
theorem ml_li (hx : p.tables.exec = Jvm.exec) (hb : c.code = cc) (hK : va_K D cl (mty cI cJ cZ) s) (hP : va_P D cl (mw cI cJ cZ a co lg tm rm no (va_up M g (x0, x1, x2, x3, x4, x5, x6))) H) (hg : g < 8) (hd : decode cc pc = .ok (.iaload, 1)) (kk : W p l e R s m args below meth c H locs cells slots Q (F0 m (pc + 1) ls (.int (x2) :: rest))) : W p l e R s m args below meth c H locs cells slots Q (F0 m pc ls (.int (nI g) :: .ref (a 3) :: rest)) := by
  refine va_iald hx hb hK hP 3 0 rfl rfl (vp_in_nI (by omega) (by decide)) hd ?_
  rw [nI_clamp (by omega), mf8_at]
  exact kk
theorem ms_li {v : Int32} (hx : p.tables.exec = Jvm.exec) (hb : c.code = cc) (hK : va_K D cl (mty cI cJ cZ) s) (hP : va_P D cl (mw cI cJ cZ a co lg tm rm no (va_up M g (x0, x1, x2, x3, x4, x5, x6))) H) (hnd : (mad a).Nodup) (hAL : ∀ q ∈ mad a, A q) (hS : va_S A H0 H locs) (hg : g < 8) (hd : decode cc pc = .ok (.iastore, 1)) (kk : ∀ (H1 : Heap) (locs1 : List Loc), va_P D cl (mw cI cJ cZ a co lg tm rm no (va_up M g (x0, x1, v, x3, x4, x5, x6))) H1 → va_S A H0 H1 locs1 → W p l e R s m args below meth c H1 locs1 cells slots Q (F0 m (pc + 1) ls (rest))) : W p l e R s m args below meth c H locs cells slots Q (F0 m pc ls (.int v :: .int (nI g) :: .ref (a 3) :: rest)) := by
  refine va_iast hx hb hK hP (mw_D hnd hAL) hS 3 0 rfl rfl (vp_in_nI (by omega) (by decide)) hd (fun H1 locs1 hP1 _ hS1 => kk H1 locs1 ?_ hS1)
  rw [nI_clamp (by omega)] at hP1
  have hP1 : va_P D cl [(a 0, .inr (3, [.int co, .int lg, .int tm, .int rm, .int no, .ref (a 1), .ref (a 2), .ref (a 3), .ref (a 4), .ref (a 5), .ref (a 6), .ref (a 7)])), (a 1, .inl (cI, 8, .inl (mf8 mp0 (va_up M g (x0, x1, x2, x3, x4, x5, x6))))), (a 2, .inl (cI, 8, .inl (mf8 mp1 (va_up M g (x0, x1, x2, x3, x4, x5, x6))))), (a 3, .inl (cI, 8, .inl (upd (mf8 mp2 (va_up M g (x0, x1, x2, x3, x4, x5, x6))) (g) (v)))), (a 4, .inl (cZ, 64, .inl (mf64 mp3 (va_up M g (x0, x1, x2, x3, x4, x5, x6))))), (a 5, .inl (cZ, 64, .inl (mf64 mp4 (va_up M g (x0, x1, x2, x3, x4, x5, x6))))), (a 6, .inl (cI, 64, .inl (mf64 mp5 (va_up M g (x0, x1, x2, x3, x4, x5, x6))))), (a 7, .inl (cJ, 64, .inr (.inl (mf64 mp6 (va_up M g (x0, x1, x2, x3, x4, x5, x6))))))] H1 := hP1
  rw [mf8_same (f := mp0) (y := (x0, x1, x2, x3, x4, x5, x6)) (y' := (x0, x1, v, x3, x4, x5, x6)) rfl, mf8_same (f := mp1) (y := (x0, x1, x2, x3, x4, x5, x6)) (y' := (x0, x1, v, x3, x4, x5, x6)) rfl, mf8_set (f := mp2) (y' := (x0, x1, v, x3, x4, x5, x6)) (v := v) rfl, mf64_same (f := mp3) (y := (x0, x1, x2, x3, x4, x5, x6)) (y' := (x0, x1, v, x3, x4, x5, x6)) rfl, mf64_same (f := mp4) (y := (x0, x1, x2, x3, x4, x5, x6)) (y' := (x0, x1, v, x3, x4, x5, x6)) rfl, mf64_same (f := mp5) (y := (x0, x1, x2, x3, x4, x5, x6)) (y' := (x0, x1, v, x3, x4, x5, x6)) rfl, mf64_same (f := mp6) (y := (x0, x1, x2, x3, x4, x5, x6)) (y' := (x0, x1, v, x3, x4, x5, x6)) rfl] at hP1
  exact hP1
theorem ml_me (hx : p.tables.exec = Jvm.exec) (hb : c.code = cc) (hK : va_K D cl (mty cI cJ cZ) s) (hP : va_P D cl (mw cI cJ cZ a co lg tm rm no (va_up M g (x0, x1, x2, x3, x4, x5, x6))) H) (hg : g < 8) (hi : i < 8) (hd : decode cc pc = .ok (.baload, 1)) (kk : W p l e R s m args below meth c H locs cells slots Q (F0 m (pc + 1) ls (.int (x3 i) :: rest))) : W p l e R s m args below meth c H locs cells slots Q (F0 m pc ls (.int (8 * nI g + nI i) :: .ref (a 4) :: rest)) := by
  rw [mi_nI hg hi]
  refine va_zald hx hb hK hP 4 2 rfl rfl (vp_in_nI (by omega) (by decide)) hd ?_
  rw [nI_clamp (by omega), mf64_at hi]
  exact kk
theorem ms_me {v : Int32} (hx : p.tables.exec = Jvm.exec) (hb : c.code = cc) (hK : va_K D cl (mty cI cJ cZ) s) (hP : va_P D cl (mw cI cJ cZ a co lg tm rm no (va_up M g (x0, x1, x2, x3, x4, x5, x6))) H) (hnd : (mad a).Nodup) (hAL : ∀ q ∈ mad a, A q) (hS : va_S A H0 H locs) (hg : g < 8) (hi : i < 8) (hd : decode cc pc = .ok (.bastore, 1)) (kk : ∀ (H1 : Heap) (locs1 : List Loc), va_P D cl (mw cI cJ cZ a co lg tm rm no (va_up M g (x0, x1, x2, upd x3 i (vp_nar .boolean v), x4, x5, x6))) H1 → va_S A H0 H1 locs1 → W p l e R s m args below meth c H1 locs1 cells slots Q (F0 m (pc + 1) ls (rest))) : W p l e R s m args below meth c H locs cells slots Q (F0 m pc ls (.int v :: .int (8 * nI g + nI i) :: .ref (a 4) :: rest)) := by
  rw [mi_nI hg hi]
  refine va_zast hx hb hK hP (mw_D hnd hAL) hS 4 2 rfl rfl (vp_in_nI (by omega) (by decide)) hd (fun H1 locs1 hP1 _ hS1 => kk H1 locs1 ?_ hS1)
  rw [nI_clamp (by omega)] at hP1
  have hP1 : va_P D cl [(a 0, .inr (3, [.int co, .int lg, .int tm, .int rm, .int no, .ref (a 1), .ref (a 2), .ref (a 3), .ref (a 4), .ref (a 5), .ref (a 6), .ref (a 7)])), (a 1, .inl (cI, 8, .inl (mf8 mp0 (va_up M g (x0, x1, x2, x3, x4, x5, x6))))), (a 2, .inl (cI, 8, .inl (mf8 mp1 (va_up M g (x0, x1, x2, x3, x4, x5, x6))))), (a 3, .inl (cI, 8, .inl (mf8 mp2 (va_up M g (x0, x1, x2, x3, x4, x5, x6))))), (a 4, .inl (cZ, 64, .inl (upd (mf64 mp3 (va_up M g (x0, x1, x2, x3, x4, x5, x6))) (8 * g + i) (vp_nar .boolean v)))), (a 5, .inl (cZ, 64, .inl (mf64 mp4 (va_up M g (x0, x1, x2, x3, x4, x5, x6))))), (a 6, .inl (cI, 64, .inl (mf64 mp5 (va_up M g (x0, x1, x2, x3, x4, x5, x6))))), (a 7, .inl (cJ, 64, .inr (.inl (mf64 mp6 (va_up M g (x0, x1, x2, x3, x4, x5, x6))))))] H1 := hP1
  rw [mf8_same (f := mp0) (y := (x0, x1, x2, x3, x4, x5, x6)) (y' := (x0, x1, x2, upd x3 i (vp_nar .boolean v), x4, x5, x6)) rfl, mf8_same (f := mp1) (y := (x0, x1, x2, x3, x4, x5, x6)) (y' := (x0, x1, x2, upd x3 i (vp_nar .boolean v), x4, x5, x6)) rfl, mf8_same (f := mp2) (y := (x0, x1, x2, x3, x4, x5, x6)) (y' := (x0, x1, x2, upd x3 i (vp_nar .boolean v), x4, x5, x6)) rfl, mf64_set (f := mp3) (y' := (x0, x1, x2, upd x3 i (vp_nar .boolean v), x4, x5, x6)) hi rfl, mf64_same (f := mp4) (y := (x0, x1, x2, x3, x4, x5, x6)) (y' := (x0, x1, x2, upd x3 i (vp_nar .boolean v), x4, x5, x6)) rfl, mf64_same (f := mp5) (y := (x0, x1, x2, x3, x4, x5, x6)) (y' := (x0, x1, x2, upd x3 i (vp_nar .boolean v), x4, x5, x6)) rfl, mf64_same (f := mp6) (y := (x0, x1, x2, x3, x4, x5, x6)) (y' := (x0, x1, x2, upd x3 i (vp_nar .boolean v), x4, x5, x6)) rfl] at hP1
  exact hP1
theorem ml_jo (hx : p.tables.exec = Jvm.exec) (hb : c.code = cc) (hK : va_K D cl (mty cI cJ cZ) s) (hP : va_P D cl (mw cI cJ cZ a co lg tm rm no (va_up M g (x0, x1, x2, x3, x4, x5, x6))) H) (hg : g < 8) (hi : i < 8) (hd : decode cc pc = .ok (.baload, 1)) (kk : W p l e R s m args below meth c H locs cells slots Q (F0 m (pc + 1) ls (.int (x4 i) :: rest))) : W p l e R s m args below meth c H locs cells slots Q (F0 m pc ls (.int (8 * nI g + nI i) :: .ref (a 5) :: rest)) := by
  rw [mi_nI hg hi]
  refine va_zald hx hb hK hP 5 2 rfl rfl (vp_in_nI (by omega) (by decide)) hd ?_
  rw [nI_clamp (by omega), mf64_at hi]
  exact kk
theorem ms_jo {v : Int32} (hx : p.tables.exec = Jvm.exec) (hb : c.code = cc) (hK : va_K D cl (mty cI cJ cZ) s) (hP : va_P D cl (mw cI cJ cZ a co lg tm rm no (va_up M g (x0, x1, x2, x3, x4, x5, x6))) H) (hnd : (mad a).Nodup) (hAL : ∀ q ∈ mad a, A q) (hS : va_S A H0 H locs) (hg : g < 8) (hi : i < 8) (hd : decode cc pc = .ok (.bastore, 1)) (kk : ∀ (H1 : Heap) (locs1 : List Loc), va_P D cl (mw cI cJ cZ a co lg tm rm no (va_up M g (x0, x1, x2, x3, upd x4 i (vp_nar .boolean v), x5, x6))) H1 → va_S A H0 H1 locs1 → W p l e R s m args below meth c H1 locs1 cells slots Q (F0 m (pc + 1) ls (rest))) : W p l e R s m args below meth c H locs cells slots Q (F0 m pc ls (.int v :: .int (8 * nI g + nI i) :: .ref (a 5) :: rest)) := by
  rw [mi_nI hg hi]
  refine va_zast hx hb hK hP (mw_D hnd hAL) hS 5 2 rfl rfl (vp_in_nI (by omega) (by decide)) hd (fun H1 locs1 hP1 _ hS1 => kk H1 locs1 ?_ hS1)
  rw [nI_clamp (by omega)] at hP1
  have hP1 : va_P D cl [(a 0, .inr (3, [.int co, .int lg, .int tm, .int rm, .int no, .ref (a 1), .ref (a 2), .ref (a 3), .ref (a 4), .ref (a 5), .ref (a 6), .ref (a 7)])), (a 1, .inl (cI, 8, .inl (mf8 mp0 (va_up M g (x0, x1, x2, x3, x4, x5, x6))))), (a 2, .inl (cI, 8, .inl (mf8 mp1 (va_up M g (x0, x1, x2, x3, x4, x5, x6))))), (a 3, .inl (cI, 8, .inl (mf8 mp2 (va_up M g (x0, x1, x2, x3, x4, x5, x6))))), (a 4, .inl (cZ, 64, .inl (mf64 mp3 (va_up M g (x0, x1, x2, x3, x4, x5, x6))))), (a 5, .inl (cZ, 64, .inl (upd (mf64 mp4 (va_up M g (x0, x1, x2, x3, x4, x5, x6))) (8 * g + i) (vp_nar .boolean v)))), (a 6, .inl (cI, 64, .inl (mf64 mp5 (va_up M g (x0, x1, x2, x3, x4, x5, x6))))), (a 7, .inl (cJ, 64, .inr (.inl (mf64 mp6 (va_up M g (x0, x1, x2, x3, x4, x5, x6))))))] H1 := hP1
  rw [mf8_same (f := mp0) (y := (x0, x1, x2, x3, x4, x5, x6)) (y' := (x0, x1, x2, x3, upd x4 i (vp_nar .boolean v), x5, x6)) rfl, mf8_same (f := mp1) (y := (x0, x1, x2, x3, x4, x5, x6)) (y' := (x0, x1, x2, x3, upd x4 i (vp_nar .boolean v), x5, x6)) rfl, mf8_same (f := mp2) (y := (x0, x1, x2, x3, x4, x5, x6)) (y' := (x0, x1, x2, x3, upd x4 i (vp_nar .boolean v), x5, x6)) rfl, mf64_same (f := mp3) (y := (x0, x1, x2, x3, x4, x5, x6)) (y' := (x0, x1, x2, x3, upd x4 i (vp_nar .boolean v), x5, x6)) rfl, mf64_set (f := mp4) (y' := (x0, x1, x2, x3, upd x4 i (vp_nar .boolean v), x5, x6)) hi rfl, mf64_same (f := mp5) (y := (x0, x1, x2, x3, x4, x5, x6)) (y' := (x0, x1, x2, x3, upd x4 i (vp_nar .boolean v), x5, x6)) rfl, mf64_same (f := mp6) (y := (x0, x1, x2, x3, x4, x5, x6)) (y' := (x0, x1, x2, x3, upd x4 i (vp_nar .boolean v), x5, x6)) rfl] at hP1
  exact hP1
theorem ml_he (hx : p.tables.exec = Jvm.exec) (hb : c.code = cc) (hK : va_K D cl (mty cI cJ cZ) s) (hP : va_P D cl (mw cI cJ cZ a co lg tm rm no (va_up M g (x0, x1, x2, x3, x4, x5, x6))) H) (hg : g < 8) (hi : i < 8) (hd : decode cc pc = .ok (.iaload, 1)) (kk : W p l e R s m args below meth c H locs cells slots Q (F0 m (pc + 1) ls (.int (x5 i) :: rest))) : W p l e R s m args below meth c H locs cells slots Q (F0 m pc ls (.int (8 * nI g + nI i) :: .ref (a 6) :: rest)) := by
  rw [mi_nI hg hi]
  refine va_iald hx hb hK hP 6 0 rfl rfl (vp_in_nI (by omega) (by decide)) hd ?_
  rw [nI_clamp (by omega), mf64_at hi]
  exact kk
theorem ms_he {v : Int32} (hx : p.tables.exec = Jvm.exec) (hb : c.code = cc) (hK : va_K D cl (mty cI cJ cZ) s) (hP : va_P D cl (mw cI cJ cZ a co lg tm rm no (va_up M g (x0, x1, x2, x3, x4, x5, x6))) H) (hnd : (mad a).Nodup) (hAL : ∀ q ∈ mad a, A q) (hS : va_S A H0 H locs) (hg : g < 8) (hi : i < 8) (hd : decode cc pc = .ok (.iastore, 1)) (kk : ∀ (H1 : Heap) (locs1 : List Loc), va_P D cl (mw cI cJ cZ a co lg tm rm no (va_up M g (x0, x1, x2, x3, x4, upd x5 i (v), x6))) H1 → va_S A H0 H1 locs1 → W p l e R s m args below meth c H1 locs1 cells slots Q (F0 m (pc + 1) ls (rest))) : W p l e R s m args below meth c H locs cells slots Q (F0 m pc ls (.int v :: .int (8 * nI g + nI i) :: .ref (a 6) :: rest)) := by
  rw [mi_nI hg hi]
  refine va_iast hx hb hK hP (mw_D hnd hAL) hS 6 0 rfl rfl (vp_in_nI (by omega) (by decide)) hd (fun H1 locs1 hP1 _ hS1 => kk H1 locs1 ?_ hS1)
  rw [nI_clamp (by omega)] at hP1
  have hP1 : va_P D cl [(a 0, .inr (3, [.int co, .int lg, .int tm, .int rm, .int no, .ref (a 1), .ref (a 2), .ref (a 3), .ref (a 4), .ref (a 5), .ref (a 6), .ref (a 7)])), (a 1, .inl (cI, 8, .inl (mf8 mp0 (va_up M g (x0, x1, x2, x3, x4, x5, x6))))), (a 2, .inl (cI, 8, .inl (mf8 mp1 (va_up M g (x0, x1, x2, x3, x4, x5, x6))))), (a 3, .inl (cI, 8, .inl (mf8 mp2 (va_up M g (x0, x1, x2, x3, x4, x5, x6))))), (a 4, .inl (cZ, 64, .inl (mf64 mp3 (va_up M g (x0, x1, x2, x3, x4, x5, x6))))), (a 5, .inl (cZ, 64, .inl (mf64 mp4 (va_up M g (x0, x1, x2, x3, x4, x5, x6))))), (a 6, .inl (cI, 64, .inl (upd (mf64 mp5 (va_up M g (x0, x1, x2, x3, x4, x5, x6))) (8 * g + i) (v)))), (a 7, .inl (cJ, 64, .inr (.inl (mf64 mp6 (va_up M g (x0, x1, x2, x3, x4, x5, x6))))))] H1 := hP1
  rw [mf8_same (f := mp0) (y := (x0, x1, x2, x3, x4, x5, x6)) (y' := (x0, x1, x2, x3, x4, upd x5 i (v), x6)) rfl, mf8_same (f := mp1) (y := (x0, x1, x2, x3, x4, x5, x6)) (y' := (x0, x1, x2, x3, x4, upd x5 i (v), x6)) rfl, mf8_same (f := mp2) (y := (x0, x1, x2, x3, x4, x5, x6)) (y' := (x0, x1, x2, x3, x4, upd x5 i (v), x6)) rfl, mf64_same (f := mp3) (y := (x0, x1, x2, x3, x4, x5, x6)) (y' := (x0, x1, x2, x3, x4, upd x5 i (v), x6)) rfl, mf64_same (f := mp4) (y := (x0, x1, x2, x3, x4, x5, x6)) (y' := (x0, x1, x2, x3, x4, upd x5 i (v), x6)) rfl, mf64_set (f := mp5) (y' := (x0, x1, x2, x3, x4, upd x5 i (v), x6)) hi rfl, mf64_same (f := mp6) (y := (x0, x1, x2, x3, x4, x5, x6)) (y' := (x0, x1, x2, x3, x4, upd x5 i (v), x6)) rfl] at hP1
  exact hP1
theorem ml_of (hx : p.tables.exec = Jvm.exec) (hb : c.code = cc) (hK : va_K D cl (mty cI cJ cZ) s) (hP : va_P D cl (mw cI cJ cZ a co lg tm rm no (va_up M g (x0, x1, x2, x3, x4, x5, x6))) H) (hg : g < 8) (hi : i < 8) (hd : decode cc pc = .ok (.laload, 1)) (kk : W p l e R s m args below meth c H locs cells slots Q (F0 m (pc + 1) ls (.long (x6 i) :: rest))) : W p l e R s m args below meth c H locs cells slots Q (F0 m pc ls (.int (8 * nI g + nI i) :: .ref (a 7) :: rest)) := by
  rw [mi_nI hg hi]
  refine va_lald hx hb hK hP 7 1 rfl rfl (vp_in_nI (by omega) (by decide)) hd ?_
  rw [nI_clamp (by omega), mf64_at hi]
  exact kk
theorem ms_of {v : Int64} (hx : p.tables.exec = Jvm.exec) (hb : c.code = cc) (hK : va_K D cl (mty cI cJ cZ) s) (hP : va_P D cl (mw cI cJ cZ a co lg tm rm no (va_up M g (x0, x1, x2, x3, x4, x5, x6))) H) (hnd : (mad a).Nodup) (hAL : ∀ q ∈ mad a, A q) (hS : va_S A H0 H locs) (hg : g < 8) (hi : i < 8) (hd : decode cc pc = .ok (.lastore, 1)) (kk : ∀ (H1 : Heap) (locs1 : List Loc), va_P D cl (mw cI cJ cZ a co lg tm rm no (va_up M g (x0, x1, x2, x3, x4, x5, vp_updL x6 i (v)))) H1 → va_S A H0 H1 locs1 → W p l e R s m args below meth c H1 locs1 cells slots Q (F0 m (pc + 1) ls (rest))) : W p l e R s m args below meth c H locs cells slots Q (F0 m pc ls (.long v :: .int (8 * nI g + nI i) :: .ref (a 7) :: rest)) := by
  rw [mi_nI hg hi]
  refine va_last hx hb hK hP (mw_D hnd hAL) hS 7 1 rfl rfl (vp_in_nI (by omega) (by decide)) hd (fun H1 locs1 hP1 _ hS1 => kk H1 locs1 ?_ hS1)
  rw [nI_clamp (by omega)] at hP1
  have hP1 : va_P D cl [(a 0, .inr (3, [.int co, .int lg, .int tm, .int rm, .int no, .ref (a 1), .ref (a 2), .ref (a 3), .ref (a 4), .ref (a 5), .ref (a 6), .ref (a 7)])), (a 1, .inl (cI, 8, .inl (mf8 mp0 (va_up M g (x0, x1, x2, x3, x4, x5, x6))))), (a 2, .inl (cI, 8, .inl (mf8 mp1 (va_up M g (x0, x1, x2, x3, x4, x5, x6))))), (a 3, .inl (cI, 8, .inl (mf8 mp2 (va_up M g (x0, x1, x2, x3, x4, x5, x6))))), (a 4, .inl (cZ, 64, .inl (mf64 mp3 (va_up M g (x0, x1, x2, x3, x4, x5, x6))))), (a 5, .inl (cZ, 64, .inl (mf64 mp4 (va_up M g (x0, x1, x2, x3, x4, x5, x6))))), (a 6, .inl (cI, 64, .inl (mf64 mp5 (va_up M g (x0, x1, x2, x3, x4, x5, x6))))), (a 7, .inl (cJ, 64, .inr (.inl (vp_updL (mf64 mp6 (va_up M g (x0, x1, x2, x3, x4, x5, x6))) (8 * g + i) (v)))))] H1 := hP1
  rw [mf8_same (f := mp0) (y := (x0, x1, x2, x3, x4, x5, x6)) (y' := (x0, x1, x2, x3, x4, x5, vp_updL x6 i (v))) rfl, mf8_same (f := mp1) (y := (x0, x1, x2, x3, x4, x5, x6)) (y' := (x0, x1, x2, x3, x4, x5, vp_updL x6 i (v))) rfl, mf8_same (f := mp2) (y := (x0, x1, x2, x3, x4, x5, x6)) (y' := (x0, x1, x2, x3, x4, x5, vp_updL x6 i (v))) rfl, mf64_same (f := mp3) (y := (x0, x1, x2, x3, x4, x5, x6)) (y' := (x0, x1, x2, x3, x4, x5, vp_updL x6 i (v))) rfl, mf64_same (f := mp4) (y := (x0, x1, x2, x3, x4, x5, x6)) (y' := (x0, x1, x2, x3, x4, x5, vp_updL x6 i (v))) rfl, mf64_same (f := mp5) (y := (x0, x1, x2, x3, x4, x5, x6)) (y' := (x0, x1, x2, x3, x4, x5, vp_updL x6 i (v))) rfl, mf64_setL (f := mp6) (y' := (x0, x1, x2, x3, x4, x5, vp_updL x6 i (v))) hi rfl] at hP1
  exact hP1
end MWA
