/-! the class's world: the desk, its array of groups, its notebook; of each group the object, what was heard, the offsets -/
/-- generation, state, members, joined, limit, heard, offsets -/
abbrev kGV : Type := Int32 × Int32 × Int32 × Int32 × Int32 × (Nat → Int32) × (Nat → Int64)
/-- logs, time, left, written, groups -/
abbrev kDV : Type := Int32 × Int32 × Int32 × Int32 × (Nat → kGV)
abbrev kty (cI cJ cR : ClassId) : List (ClassId × FieldType) := [(cI, .int), (cJ, .long), (cR, .object "GroupDesk$Group")]
def kw_f (h o : Nat) (g : kGV) : List Value := [.int g.1, .int g.2.1, .int g.2.2.1, .int g.2.2.2.1, .int g.2.2.2.2.1, .ref h, .ref o]
def kw_a (ga ha oa : Nat → Nat) (q : Nat) : Nat := if q % 3 = 0 then ga (q / 3) else if q % 3 = 1 then ha (q / 3) else oa (q / 3)
def kw_e (cI cJ : ClassId) (ha oa : Nat → Nat) (G : Nat → kGV) (q : Nat) : va_E :=
  if q % 3 = 0 then .inr (2, kw_f (ha (q / 3)) (oa (q / 3)) (G (q / 3))) else if q % 3 = 1 then .inl (cI, 8, .inl (G (q / 3)).2.2.2.2.2.1) else .inl (cJ, 8, .inr (.inl (G (q / 3)).2.2.2.2.2.2))
def kw_n (cI cJ : ClassId) (ga ha oa : Nat → Nat) (n : Nat) (G : Nat → kGV) : va_W := (List.range (3 * n)).map (fun q => (kw_a ga ha oa q, kw_e cI cJ ha oa G q))
def kw (cI cJ cR : ClassId) (d ar nb : Nat) (ga ha oa : Nat → Nat) (lg tm lf wr : Int32) (G : Nat → kGV) : va_W :=
  (d, .inr (0, [.int lg, .ref ar, .ref nb, .int tm])) :: (ar, .inl (cR, 8, .inr (.inr (.inr (.inr (fun q => some (ga q))))))) :: (nb, .inr (1, [.int lf, .int wr])) :: kw_n cI cJ ga ha oa 8 G
abbrev kwv (cI cJ cR : ClassId) (d ar nb : Nat) (ga ha oa : Nat → Nat) (v : kDV) : va_W := kw cI cJ cR d ar nb ga ha oa v.1 v.2.1 v.2.2.1 v.2.2.2.1 v.2.2.2.2
def kad (d ar nb : Nat) (ga ha oa : Nat → Nat) : List Nat := d :: ar :: nb :: (List.range 24).map (kw_a ga ha oa)
section KWA
variable {cI cJ cR : ClassId} {d ar nb : Nat} {ga ha oa : Nat → Nat} {lg tm lf wr : Int32} {G : Nat → kGV} {j : Nat}
variable {x0 x1 x2 x3 x4 y0 y1 y2 y3 y4 : Int32} {x5 y5 : Nat → Int32} {x6 y6 : Nat → Int64}
theorem kw_ad : (kw cI cJ cR d ar nb ga ha oa lg tm lf wr G).map Prod.fst = kad d ar nb ga ha oa := by
  simp [kw, kad, kw_n, List.map_map, Function.comp_def]
theorem kw_D {A : Nat → Prop} (hnd : (kad d ar nb ga ha oa).Nodup) (hAL : ∀ q ∈ kad d ar nb ga ha oa, A q) : va_D A (kw cI cJ cR d ar nb ga ha oa lg tm lf wr G) :=
  kl_D (by rw [kw_ad]; exact hnd) (by rw [kw_ad]; exact hAL)
theorem kw_gG (hj : j < 8) : (kw cI cJ cR d ar nb ga ha oa lg tm lf wr (va_up G j (x0, x1, x2, x3, x4, x5, x6)))[3 * j + 3]? = some (ga j, .inr (2, [.int x0, .int x1, .int x2, .int x3, .int x4, .ref (ha j), .ref (oa j)])) := by
  show (kw_n cI cJ ga ha oa 8 _)[3 * j]? = _
  rw [kw_n, kl_get (by omega)]
  have h1 : 3 * j % 3 = 0 := by omega
  have h2 : 3 * j / 3 = j := by omega
  simp [kw_a, kw_e, kw_f, h1, h2, va_up_self]
theorem kw_gH (hj : j < 8) : (kw cI cJ cR d ar nb ga ha oa lg tm lf wr (va_up G j (x0, x1, x2, x3, x4, x5, x6)))[3 * j + 4]? = some (ha j, .inl (cI, 8, .inl x5)) := by
  show (kw_n cI cJ ga ha oa 8 _)[3 * j + 1]? = _
  rw [kw_n, kl_get (by omega)]
  have h1 : (3 * j + 1) % 3 = 1 := by omega
  have h2 : (3 * j + 1) / 3 = j := by omega
  simp [kw_a, kw_e, h1, h2, va_up_self]
theorem kw_gO (hj : j < 8) : (kw cI cJ cR d ar nb ga ha oa lg tm lf wr (va_up G j (x0, x1, x2, x3, x4, x5, x6)))[3 * j + 5]? = some (oa j, .inl (cJ, 8, .inr (.inl x6))) := by
  show (kw_n cI cJ ga ha oa 8 _)[3 * j + 2]? = _
  rw [kw_n, kl_get (by omega)]
  have h1 : (3 * j + 2) % 3 = 2 := by omega
  have h2 : (3 * j + 2) / 3 = j := by omega
  simp [kw_a, kw_e, h1, h2, va_up_self]
theorem kw_sG (hj : j < 8) : (kw cI cJ cR d ar nb ga ha oa lg tm lf wr (va_up G j (x0, x1, x2, x3, x4, x5, x6))).set (3 * j + 3) (ga j, .inr (2, [.int y0, .int y1, .int y2, .int y3, .int y4, .ref (ha j), .ref (oa j)])) = kw cI cJ cR d ar nb ga ha oa lg tm lf wr (va_up G j (y0, y1, y2, y3, y4, x5, x6)) := by
  show _ :: _ :: _ :: (kw_n cI cJ ga ha oa 8 _).set (3 * j) _ = _ :: _ :: _ :: kw_n cI cJ ga ha oa 8 _
  congr 3
  refine kl_set (by omega) ?_ (fun q hq hne => ?_)
  · have h1 : 3 * j % 3 = 0 := by omega
    have h2 : 3 * j / 3 = j := by omega
    simp [kw_a, kw_e, kw_f, h1, h2, va_up_self]
  · by_cases h1 : q / 3 = j
    · have h2 : ¬ q % 3 = 0 := by omega
      simp [kw_e, h1, h2, va_up_self]
    · simp [kw_e, va_up_ne _ _ h1]
theorem kw_sH (hj : j < 8) : (kw cI cJ cR d ar nb ga ha oa lg tm lf wr (va_up G j (x0, x1, x2, x3, x4, x5, x6))).set (3 * j + 4) (ha j, .inl (cI, 8, .inl y5)) = kw cI cJ cR d ar nb ga ha oa lg tm lf wr (va_up G j (x0, x1, x2, x3, x4, y5, x6)) := by
  show _ :: _ :: _ :: (kw_n cI cJ ga ha oa 8 _).set (3 * j + 1) _ = _ :: _ :: _ :: kw_n cI cJ ga ha oa 8 _
  congr 3
  refine kl_set (by omega) ?_ (fun q hq hne => ?_)
  · have h1 : (3 * j + 1) % 3 = 1 := by omega
    have h2 : (3 * j + 1) / 3 = j := by omega
    simp [kw_a, kw_e, h1, h2, va_up_self]
  · by_cases h1 : q / 3 = j
    · have h2 : ¬ q % 3 = 1 := by omega
      simp [kw_e, kw_f, h1, h2, va_up_self]
    · simp [kw_e, va_up_ne _ _ h1]
theorem kw_sO (hj : j < 8) : (kw cI cJ cR d ar nb ga ha oa lg tm lf wr (va_up G j (x0, x1, x2, x3, x4, x5, x6))).set (3 * j + 5) (oa j, .inl (cJ, 8, .inr (.inl y6))) = kw cI cJ cR d ar nb ga ha oa lg tm lf wr (va_up G j (x0, x1, x2, x3, x4, x5, y6)) := by
  show _ :: _ :: _ :: (kw_n cI cJ ga ha oa 8 _).set (3 * j + 2) _ = _ :: _ :: _ :: kw_n cI cJ ga ha oa 8 _
  congr 3
  refine kl_set (by omega) ?_ (fun q hq hne => ?_)
  · have h1 : (3 * j + 2) % 3 = 2 := by omega
    have h2 : (3 * j + 2) / 3 = j := by omega
    simp [kw_a, kw_e, h1, h2, va_up_self]
  · by_cases h1 : q / 3 = j
    · have h2 : q % 3 = 0 ∨ q % 3 = 1 := by omega
      rcases h2 with h2 | h2 <;> simp [kw_e, kw_f, h1, h2, va_up_self]
    · simp [kw_e, va_up_ne _ _ h1]
theorem kv_at (G : Nat → kGV) (j : Nat) : va_up G j (G j) = G := by
  funext q
  by_cases h : q = j
  · subst h; simp [va_up]
  · simp [va_up, h]
theorem kw_inH (hj : j < 8) : ∀ q ∈ [ha j], q ∈ kad d ar nb ga ha oa := by
  intro q hq
  rw [List.mem_singleton.mp hq]
  refine List.mem_cons_of_mem _ (List.mem_cons_of_mem _ (List.mem_cons_of_mem _ (List.mem_map.mpr ⟨3 * j + 1, List.mem_range.mpr (by omega), ?_⟩)))
  have h1 : (3 * j + 1) % 3 = 1 := by omega
  have h2 : (3 * j + 1) / 3 = j := by omega
  simp [kw_a, h1, h2]
theorem kw_inO (hj : j < 8) : ∀ q ∈ [oa j], q ∈ kad d ar nb ga ha oa := by
  intro q hq
  rw [List.mem_singleton.mp hq]
  refine List.mem_cons_of_mem _ (List.mem_cons_of_mem _ (List.mem_cons_of_mem _ (List.mem_map.mpr ⟨3 * j + 2, List.mem_range.mpr (by omega), ?_⟩)))
  have h1 : (3 * j + 2) % 3 = 2 := by omega
  have h2 : (3 * j + 2) / 3 = j := by omega
  simp [kw_a, h1, h2]
end KWA
/-! what the class does, as functions of numbers -/
def kg_has (x2 m : Int32) : Int32 := if x2 &&& (1 <<< (m &&& 31)) = 0 then 0 else 1
def kg_clear : kGV → kGV
  | (x0, _, _, _, x4, x5, x6) => (x0, 0, 0, 0, x4, x5, x6)
def kg_mix (t : Int32) : kGV → kGV
  | (x0, _, x2, _, _, x5, x6) => (x0, 1, x2, 0, t + 20, x5, x6)
def kg_in (m t : Int32) : kGV → kGV
  | (x0, x1, x2, x3, x4, x5, x6) => (x0, x1, x2 ||| (1 <<< (m &&& 31)), x3 ||| (1 <<< (m &&& 31)), x4, upd x5 m.toNatClampNeg t, x6)
def kg_take (m t : Int32) (g : kGV) : kGV := if g.2.1 = 1 then kg_in m t g else kg_in m t (kg_mix t g)
def kg_rid (z : Int32) : kGV → kGV
  | (x0, x1, x2, x3, x4, x5, x6) => (x0, x1, x2 &&& (z ^^^ (-1)), x3 &&& (z ^^^ (-1)), x4, x5, x6)
def kg_out (z t : Int32) (g : kGV) : kGV :=
  if (kg_rid z g).2.2.1 = 0 then kg_clear (kg_rid z g) else if g.2.1 = 2 then kg_mix t (kg_rid z g) else kg_rid z g
def kg_settle (t : Int32) : kGV → kGV
  | (x0, _, _, x3, x4, _, x6) => (x0 + 1, 2, x3, x3, x4, fun _ => t, x6)
def kn_write (lf wr : Int32) : Int32 × Int32 × Int32 := if 1 ≤ lf then (1, lf - 1, wr + 1) else (0, lf, wr)
def kg_go (t lf wr : Int32) (g : kGV) : kGV × Int32 × Int32 :=
  if g.2.2.2.1 = 0 then (kg_clear g, lf, wr) else if (kn_write lf wr).1 = 0 then (g, (kn_write lf wr).2.1, (kn_write lf wr).2.2) else (kg_settle t g, (kn_write lf wr).2.1, (kn_write lf wr).2.2)
def kg_fin (t lf wr : Int32) (g : kGV) : kGV × Int32 × Int32 :=
  if g.2.1 = 1 then (if g.2.2.2.1 = g.2.2.1 then kg_go t lf wr g else if g.2.2.2.2.1 ≤ t then kg_go t lf wr g else (g, lf, wr)) else (g, lf, wr)
def kg_sil (x2 t : Int32) (x5 : Nat → Int32) : Nat → Int32
  | 0 => 0
  | i + 1 => if kg_has x2 (nI i) = 0 then kg_sil x2 t x5 i else if t - x5 i < 30 then kg_sil x2 t x5 i else kg_sil x2 t x5 i ||| (1 <<< (nI i &&& 31))
def kg_drop (t : Int32) (g : kGV) : kGV := if g.2.1 = 2 then (if kg_sil g.2.2.1 t g.2.2.2.2.2.1 8 = 0 then g else kg_out (kg_sil g.2.2.1 t g.2.2.2.2.2.1 8) t g) else g
def kg_lim (t : Int32) (g : kGV) : Int32 := if g.2.1 = 1 then (if g.2.2.2.2.1 - t < 0 then 0 else g.2.2.2.2.1 - t) else 0
/-- Integer.bitCount, as the JDK's bytes do it -/
def k_us (x k : Int32) : Int32 := (x.toUInt32 >>> (k.toUInt32 &&& Int32.toUInt32 31)).toInt32
def k_bc1 (x : Int32) : Int32 := x - (k_us x 1 &&& 1431655765)
def k_bc2 (x : Int32) : Int32 := (x &&& 858993459) + (k_us x 2 &&& 858993459)
def k_bc3 (x : Int32) : Int32 := (x + k_us x 4) &&& 252645135
def k_bc4 (x : Int32) : Int32 := x + k_us x 8
def k_bc5 (x : Int32) : Int32 := x + k_us x 16
def k_bc (x : Int32) : Int32 := k_bc5 (k_bc4 (k_bc3 (k_bc2 (k_bc1 x)))) &&& 63
def kg_gives (q m : Int32) (g : kGV) : Int32 :=
  if g.2.1 = 2 then (if kg_has g.2.2.1 m = 0 then 0 else if k_bc g.2.2.1 = 0 then 0 else if q - q / k_bc g.2.2.1 * k_bc g.2.2.1 = k_bc (g.2.2.1 &&& ((1 <<< (m &&& 31)) - 1)) then 1 else 0) else 0
def kg_ref (m n q : Int32) (g : kGV) : Int32 :=
  if kg_has g.2.2.1 m = 0 then (-8) else if n = g.1 then (if g.2.1 = 2 then (if kg_gives q m g = 0 then (-11) else 0) else (-10)) else (-9)
/-! the calls: the answer, and the desk behind it -/
def kd_join (a b : Int32) : kDV → Int32 × kDV
  | (lg, tm, lf, wr, G) => (if (kg_fin tm lf wr (kg_take b tm (G a.toNatClampNeg))).1.2.1 = 2 then (kg_fin tm lf wr (kg_take b tm (G a.toNatClampNeg))).1.1 else (-1),
      (lg, tm, (kg_fin tm lf wr (kg_take b tm (G a.toNatClampNeg))).2.1, (kg_fin tm lf wr (kg_take b tm (G a.toNatClampNeg))).2.2, va_up G a.toNatClampNeg (kg_fin tm lf wr (kg_take b tm (G a.toNatClampNeg))).1))
def kd_leave (a b : Int32) : kDV → Int32 × kDV
  | (lg, tm, lf, wr, G) => if kg_has (G a.toNatClampNeg).2.2.1 b = 0 then (-8, (lg, tm, lf, wr, G)) else
      (1, (lg, tm, (kg_fin tm lf wr (kg_out (1 <<< (b &&& 31)) tm (G a.toNatClampNeg))).2.1, (kg_fin tm lf wr (kg_out (1 <<< (b &&& 31)) tm (G a.toNatClampNeg))).2.2, va_up G a.toNatClampNeg (kg_fin tm lf wr (kg_out (1 <<< (b &&& 31)) tm (G a.toNatClampNeg))).1))
def kg_hear (b t : Int32) : kGV → kGV
  | (x0, x1, x2, x3, x4, x5, x6) => (x0, x1, x2, x3, x4, upd x5 b.toNatClampNeg t, x6)
def kd_beat (a b n : Int32) : kDV → Int32 × kDV
  | (lg, tm, lf, wr, G) => if kg_has (G a.toNatClampNeg).2.2.1 b = 0 then (-8, (lg, tm, lf, wr, G)) else if n = (G a.toNatClampNeg).1 then
      (if kg_has (G a.toNatClampNeg).2.2.2.1 b = 0 then 1 else 0, (lg, tm, lf, wr, va_up G a.toNatClampNeg (kg_hear b tm (G a.toNatClampNeg)))) else (-9, (lg, tm, lf, wr, G))
def kg_off (q : Int32) (v : Int64) : kGV → kGV
  | (x0, x1, x2, x3, x4, x5, x6) => (x0, x1, x2, x3, x4, x5, vp_updL x6 q.toNatClampNeg v)
def kd_commit (a b n q : Int32) (v : Int64) : kDV → Int32 × kDV
  | (lg, tm, lf, wr, G) => if kg_ref b n q (G a.toNatClampNeg) = 0 then
      (if (kn_write lf wr).1 = 0 then (-2, (lg, tm, (kn_write lf wr).2.1, (kn_write lf wr).2.2, G)) else (0, (lg, tm, (kn_write lf wr).2.1, (kn_write lf wr).2.2, va_up G a.toNatClampNeg (kg_hear b tm (kg_off q v (G a.toNatClampNeg))))))
      else (kg_ref b n q (G a.toNatClampNeg), (lg, tm, lf, wr, G))
def kg_what (t w : Int32) (g : kGV) : Int32 := if w = 0 then g.1 else if w = 1 then g.2.1 else if w = 2 then g.2.2.1 else if w = 3 then g.2.2.2.1 else kg_lim t g
def kg_sh (m : Int32) (g : kGV) : Nat → Int32
  | 0 => 0
  | i + 1 => if kg_gives (nI i) m g = 0 then kg_sh m g i else kg_sh m g i ||| (1 <<< (nI i &&& 31))
def kd_rest (G : Nat → kGV) : Nat → Int32 × (Nat → kGV)
  | 0 => (0, G)
  | i + 1 => ((kd_rest G i).1 + k_bc ((kd_rest G i).2 i).2.2.1, va_up (kd_rest G i).2 i (kg_clear ((kd_rest G i).2 i)))
/-- group by group, of a tick at the time t: left, written, groups -/
def kd_tk (t lf wr : Int32) (G : Nat → kGV) : Nat → Int32 × Int32 × (Nat → kGV)
  | 0 => (lf, wr, G)
  | i + 1 => ((kg_fin t (kd_tk t lf wr G i).1 (kd_tk t lf wr G i).2.1 (kg_drop t ((kd_tk t lf wr G i).2.2 i))).2.1, (kg_fin t (kd_tk t lf wr G i).1 (kd_tk t lf wr G i).2.1 (kg_drop t ((kd_tk t lf wr G i).2.2 i))).2.2,
      va_up (kd_tk t lf wr G i).2.2 i (kg_fin t (kd_tk t lf wr G i).1 (kd_tk t lf wr G i).2.1 (kg_drop t ((kd_tk t lf wr G i).2.2 i))).1)
def kd_tick : kDV → kDV
  | (lg, tm, lf, wr, G) => (lg, tm + 1, (kd_tk (tm + 1) lf wr G 8).1, (kd_tk (tm + 1) lf wr G 8).2.1, (kd_tk (tm + 1) lf wr G 8).2.2)
def kd_ticks (v : kDV) : Nat → kDV
  | 0 => v
  | i + 1 => kd_tick (kd_ticks v i)
