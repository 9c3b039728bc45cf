/-! what the reference does, as functions of numbers -/
def mz (f : Nat → Int32) : Nat → Nat → Int32
  | 0 => f
  | i + 1 => upd (mz f i) i 0
def mt (f : Nat → Int32) (t : Int32) : Nat → Nat → Int32
  | 0 => f
  | i + 1 => upd (mt f t i) i t
def md (me jo : Nat → Int32) : Nat → Nat → Int32
  | 0 => me
  | i + 1 => upd (md me jo i) i (if md me jo i i = 0 then 0 else if jo i = 0 then 0 else 1)
def mg_cnt (me : Nat → Int32) : Nat → Int32
  | 0 => 0
  | i + 1 => mg_cnt me i + (if me i = 0 then 0 else 1)
def mg_jn (me jo : Nat → Int32) : Nat → Int32
  | 0 => 0
  | i + 1 => mg_jn me jo i + (if me i = 0 then 0 else if jo i = 0 then 0 else 1)
def mn_take (rm no : Int32) : Int32 × Int32 × Int32 := if rm = 0 then (0, rm, no) else (1, rm - 1, no + 1)
def mg_emp : mGV → mGV
  | (_, x1, x2, x3, x4, x5, x6) => (0, x1, x2, mz x3 8, mz x4 8, x5, x6)
def mg_mix (t : Int32) : mGV → mGV
  | (_, x1, _, x3, x4, x5, x6) => (1, x1, t + 20, x3, mz x4 8, x5, x6)
def mg_wo (t : Int32) (y : mGV) : mGV := if mg_cnt y.2.2.2.1 8 = 0 then mg_emp y else if y.1 = 2 then mg_mix t y else y
def mg_set (t : Int32) : mGV → mGV
  | (_, x1, x2, x3, x4, x5, x6) => (2, x1 + 1, x2, md x3 x4 8, x4, mt x5 t 8, x6)
def mg_go (t rm no : Int32) (y : mGV) : mGV × Int32 × Int32 :=
  if mg_jn y.2.2.2.1 y.2.2.2.2.1 8 = 0 then (mg_emp y, rm, no) else if (mn_take rm no).1 = 0 then (y, (mn_take rm no).2.1, (mn_take rm no).2.2) else (mg_set t y, (mn_take rm no).2.1, (mn_take rm no).2.2)
def mg_done (t rm no : Int32) (y : mGV) : mGV × Int32 × Int32 :=
  if y.1 = 1 then (if mg_cnt y.2.2.2.1 8 ≤ mg_jn y.2.2.2.1 y.2.2.2.2.1 8 then mg_go t rm no y else if y.2.2.1 ≤ t then mg_go t rm no y else (y, rm, no)) else (y, rm, no)
/-- member by member: who is still there, whether one was lost -/
def mtk (me he : Nat → Int32) (t : Int32) : Nat → (Nat → Int32) × Int32
  | 0 => (me, 0)
  | i + 1 => if (mtk me he t i).1 i = 0 then mtk me he t i else if t - he i < 30 then mtk me he t i else (upd (mtk me he t i).1 i 0, 1)
def mg_tk (t : Int32) : mGV → mGV
  | (x0, x1, x2, x3, x4, x5, x6) => if x0 = 2 then (if (mtk x3 x5 t 8).2 = 0 then (x0, x1, x2, (mtk x3 x5 t 8).1, x4, x5, x6) else mg_wo t (x0, x1, x2, (mtk x3 x5 t 8).1, x4, x5, x6)) else (x0, x1, x2, x3, x4, x5, x6)
/-- from m on, the first member's number -/
def mo_nx (me : Nat → Int32) : Nat → Nat → Nat
  | 0, m => m
  | f + 1, m => if me (m % 8) = 0 then mo_nx me f (m + 1) else m
def mo_s (me : Nat → Int32) : Nat → Nat
  | 0 => 0
  | k + 1 => mo_nx me 8 (mo_s me k) + 1
def mo (me : Nat → Int32) (k : Nat) : Nat := mo_nx me 8 (mo_s me k) % 8
def mbd (f : Nat → Int32) : Nat → Int32 → Int32
  | 0, b => b
  | k + 1, b => mbd f k (2 * b + f k)
def mg_is (w x0 : Int32) (me jo : Nat → Int32) (k : Nat) : Int32 := if me k = 0 then 0 else if w = 2 then 1 else if x0 = 2 then 1 else if jo k = 0 then 0 else 1
def mrs (M : Nat → mGV) : Nat → Int32 × (Nat → mGV)
  | 0 => (0, M)
  | i + 1 => ((mrs M i).1 + mg_cnt ((mrs M i).2 i).2.2.2.1 8, va_up (mrs M i).2 i (mg_emp ((mrs M i).2 i)))
def mdt (t rm no : Int32) (M : Nat → mGV) : Nat → Int32 × Int32 × (Nat → mGV)
  | 0 => (rm, no, M)
  | i + 1 => ((mg_done t (mdt t rm no M i).1 (mdt t rm no M i).2.1 (mg_tk t ((mdt t rm no M i).2.2 i))).2.1, (mg_done t (mdt t rm no M i).1 (mdt t rm no M i).2.1 (mg_tk t ((mdt t rm no M i).2.2 i))).2.2,
      va_up (mdt t rm no M i).2.2 i (mg_done t (mdt t rm no M i).1 (mdt t rm no M i).2.1 (mg_tk t ((mdt t rm no M i).2.2 i))).1)
def md_tick : mDV → mDV
  | (co, lg, tm, rm, no, M) => (co, lg, tm + 1, (mdt (tm + 1) rm no M 8).1, (mdt (tm + 1) rm no M 8).2.1, (mdt (tm + 1) rm no M 8).2.2)
def md_ticks (v : mDV) : Nat → mDV
  | 0 => v
  | i + 1 => md_tick (md_ticks v i)
theorem vz0 : vp_nar .boolean 0 = 0 := by decide
theorem vz1 : vp_nar .boolean 1 = 1 := by decide
theorem m_rem {k : Nat} (h : k < 2 ^ 31) : nI k - nI k / 8 * 8 = nI (k % 8) := by
  have h1 : nI k - nI k / 8 * 8 = nI k % 8 := by
    apply Int32.toInt_inj.mp
    rw [Int32.toInt_mod]
    have e : (nI k).toInt = (k : Int) := nI_toInt h
    have e8 : (8 : Int32).toInt = 8 := rfl
    rw [Int32.toInt_sub, Int32.toInt_mul, Int32.toInt_div_of_ne_right _ _ (by decide), e, e8]
    have e2 : (k : Int).tdiv 8 = (k / 8 : Nat) := by rw [Int.tdiv_eq_ediv_of_nonneg (by omega)]; omega
    have e3 : (k : Int).tmod 8 = (k % 8 : Nat) := by rw [Int.tmod_eq_emod_of_nonneg (by omega)]; omega
    rw [e2, e3]
    have b1 : ((((k / 8 : Nat) : Int) * 8).bmod (2 ^ 32)) = ((k / 8 : Nat) : Int) * 8 := by rw [Int.bmod_eq_of_le (by omega) (by omega)]
    rw [b1, Int.bmod_eq_of_le (by omega) (by omega)]
    omega
  rw [h1]
  apply Int32.toInt_inj.mp
  rw [Int32.toInt_mod, nI_toInt h, nI_toInt (by omega), show (8 : Int32).toInt = 8 from rfl, Int.tmod_eq_emod_of_nonneg (by omega)]
  omega
theorem m_pred (k : Nat) : nI (k + 1) + (-1) = nI k := by rw [nI_succ]; rw [Int32.add_assoc]; simp
theorem m_inc (k : Nat) : nI k - 1 + 1 = nI k := by rw [Int32.sub_add_cancel]
