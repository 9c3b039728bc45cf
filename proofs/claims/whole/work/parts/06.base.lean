/-! worlds as lists of cells: apart by their addresses; the start and the end of a method over such a world; calls -/
theorem kl_D {A : Nat → Prop} {ws : va_W} (h : (ws.map Prod.fst).Nodup) (hA : ∀ q ∈ ws.map Prod.fst, A q) : va_D A ws := by
  refine ⟨fun i j x y hi hj e => ?_, fun k q hk => hA _ (List.mem_map.mpr ⟨q, List.mem_of_getElem? hk, rfl⟩)⟩
  have h1 : (ws.map Prod.fst)[i]? = some x.1 := by rw [List.getElem?_map, hi]; rfl
  have h2 : (ws.map Prod.fst)[j]? = some y.1 := by rw [List.getElem?_map, hj]; rfl
  have hl : i < (ws.map Prod.fst).length := (List.getElem?_eq_some_iff.mp h1).1
  exact (List.getElem?_inj hl h).mp (by rw [h1, h2, e])
theorem kl_get {α : Type} {N n : Nat} {f : Nat → α} (hn : n < N) : ((List.range N).map f)[n]? = some (f n) := by simp [hn]
theorem kl_set {α : Type} {N n : Nat} {f f' : Nat → α} {x : α} (hn : n < N) (h1 : f' n = x) (h2 : ∀ q, q < N → q ≠ n → f' q = f q) : ((List.range N).map f).set n x = (List.range N).map f' := by
  apply List.ext_getElem?
  intro i
  by_cases hi : i = n
  · subst hi
    rw [List.getElem?_set_self (by simpa using hn), kl_get hn, h1]
  · rw [List.getElem?_set_ne (Ne.symm hi)]
    by_cases hN : i < N
    · rw [kl_get hN, kl_get hN, h2 i hN hi]
    · simp [hN]
/-- where a method may write: the cells L, and those that it makes -/
def kA (L : List Nat) (sz : Nat) : Nat → Prop := fun q => q ∈ L ∨ sz ≤ q
/-- a method's start: its arguments, its world, the tables -/
def kPre (D : va_G) (cl : List vw_C) (tys : List (ClassId × FieldType)) (As : List Value) (sz : Nat) (ws : va_W) : Array Value → State → Prop := fun v U => v = As.toArray ∧ U.heap.size = sz ∧ va_P D cl ws U.heap ∧ va_K D cl tys U
theorem kPre_blind {D : va_G} {cl : List vw_C} {tys : List (ClassId × FieldType)} {As : List Value} {sz : Nat} {ws : va_W} : FrameBlind (kPre D cl tys As sz ws) := fun a U g mk q => ⟨q.1, q.2.1, q.2.2.1, va_K.moved (u := U) (U := U.calling g mk a) (Vm.Alike.refl U.vm) q.2.2.2⟩
section KBA
variable {p : Program} {l : Launch} {e : Env} {R : Room} {s : State} {m : MethodId} {args : Array Value} {below : List Frame} {meth : Method} {c : Code} {H : Heap} {locs : List Loc} {cells slots : Nat} {Q : State → Prop}
variable {D : va_G} {cl : List vw_C} {tys : List (ClassId × FieldType)} {ws : va_W} {A : Nat → Prop} {L : List Nat} {pc mc ms : Nat} {ls : Array Slot} {st0 rest As : List Value} {a : Array Value} {b : Nat} {C : String}
theorem kPV (hr : ∃ cell : Cell, H[b]? = some cell ∧ cell.vm.isStatics = false ∧ s.vm.findClass C = some cell.cls) (hP : va_P D cl ws H) (hK : va_K D cl tys s) : PreV s H C b (kPre D cl tys (.ref b :: As) H.size ws) As :=
  ⟨kPre_blind, hr, fun U hU hW => ⟨rfl, by rw [hU], by rw [hU]; exact hP, va_K.moved hW.alike hK⟩⟩
theorem kPS (hP : va_P D cl ws H) (hK : va_K D cl tys s) : PreS s H (kPre D cl tys As H.size ws) As :=
  ⟨kPre_blind, fun U hU hW => ⟨rfl, by rw [hU], by rw [hU]; exact hP, va_K.moved hW.alike hK⟩⟩
theorem kA_sub (hS : va_S A s.heap H locs) (hA : ∀ q, s.heap.size ≤ q → A q) (hL : ∀ q ∈ L, A q) : ∀ q, kA L H.size q → A q := by
  intro q h
  rcases h with h | h
  · exact hL q h
  · exact hA q (Nat.le_trans hS.1 h)
theorem kA_out {H1 : Heap} (hk : ∀ q : Nat, q < H.size → ¬ kA L H.size q → H1[q]? = H[q]?) : ∀ q : Nat, q < H.size → q ∉ L → H1[q]? = H[q]? := by
  intro q h1 h2
  refine hk q h1 (fun h => ?_)
  rcases h with h | h
  · exact h2 h
  · omega
theorem kc_i {σ : Type} {post : Int32 → σ → Prop} {Wd : σ → va_W} (hr : va_Run p l e R s m args below meth c H locs cells slots mc ms (F0 m pc ls st0) rest (va_Qi post (fun u t => va_P D cl (Wd u) t.heap) (kA L H.size) a) (kA L H.size)) (hS : va_S A s.heap H locs) (hA : ∀ q, s.heap.size ≤ q → A q) (hL : ∀ q ∈ L, A q)
    (kk : ∀ (r : Int32) (u : σ) (H1 : Heap) (locs1 : List Loc), post r u → va_P D cl (Wd u) H1 → H.size ≤ H1.size → (∀ q : Nat, q < H.size → q ∉ L → H1[q]? = H[q]?) → va_S A s.heap H1 locs1 → W p l e R s m args below meth c H1 locs1 (cells + mc) (slots + ms) Q (F0 m (pc + 3) ls (.int r :: rest))) : W p l e R s m args below meth c H locs cells slots Q (F0 m pc ls st0) := by
  have hA1 := kA_sub hS hA hL
  refine va_calli hr hS (fun q _ h => hA1 q h) hA1 (fun r u t H1 locs1 ht hvm hw hB hz hk hS1 => ?_)
  exact kk r u H1 locs1 hw (by rw [← ht]; exact hB) hz (kA_out hk) hS1
theorem kc_l {σ : Type} {post : Int64 → σ → Prop} {Wd : σ → va_W} (hr : va_Run p l e R s m args below meth c H locs cells slots mc ms (F0 m pc ls st0) rest (va_Ql post (fun u t => va_P D cl (Wd u) t.heap) (kA L H.size) a) (kA L H.size)) (hS : va_S A s.heap H locs) (hA : ∀ q, s.heap.size ≤ q → A q) (hL : ∀ q ∈ L, A q)
    (kk : ∀ (r : Int64) (u : σ) (H1 : Heap) (locs1 : List Loc), post r u → va_P D cl (Wd u) H1 → H.size ≤ H1.size → (∀ q : Nat, q < H.size → q ∉ L → H1[q]? = H[q]?) → va_S A s.heap H1 locs1 → W p l e R s m args below meth c H1 locs1 (cells + mc) (slots + ms) Q (F0 m (pc + 3) ls (.long r :: rest))) : W p l e R s m args below meth c H locs cells slots Q (F0 m pc ls st0) := by
  have hA1 := kA_sub hS hA hL
  refine va_calll hr hS (fun q _ h => hA1 q h) hA1 (fun r u t H1 locs1 ht hvm hw hB hz hk hS1 => ?_)
  exact kk r u H1 locs1 hw (by rw [← ht]; exact hB) hz (kA_out hk) hS1
theorem kc_v {σ : Type} {post : σ → Prop} {Wd : σ → va_W} (hr : va_Run p l e R s m args below meth c H locs cells slots mc ms (F0 m pc ls st0) rest (va_Qv post (fun u t => va_P D cl (Wd u) t.heap) (kA L H.size) a) (kA L H.size)) (hS : va_S A s.heap H locs) (hA : ∀ q, s.heap.size ≤ q → A q) (hL : ∀ q ∈ L, A q)
    (kk : ∀ (u : σ) (H1 : Heap) (locs1 : List Loc), post u → va_P D cl (Wd u) H1 → H.size ≤ H1.size → (∀ q : Nat, q < H.size → q ∉ L → H1[q]? = H[q]?) → va_S A s.heap H1 locs1 → W p l e R s m args below meth c H1 locs1 (cells + mc) (slots + ms) Q (F0 m (pc + 3) ls rest)) : W p l e R s m args below meth c H locs cells slots Q (F0 m pc ls st0) := by
  have hA1 := kA_sub hS hA hL
  refine va_callv hr hS (fun q _ h => hA1 q h) hA1 (fun u t H1 locs1 ht hvm hw hB hz hk hS1 => ?_)
  exact kk u H1 locs1 hw (by rw [← ht]; exact hB) hz (kA_out hk) hS1
/-- one cell of a world was changed by a callee that had it alone -/
theorem kl_one {H1 : Heap} {k x : Nat} {e0 e1 : va_E} (hP : va_P D cl ws H) (hn : (ws.map Prod.fst).Nodup) (hk : ws[k]? = some (x, e0)) (hP1 : va_P D cl [(x, e1)] H1) (ho : ∀ q : Nat, q < H.size → q ∉ [x] → H1[q]? = H[q]?) : va_P D cl (ws.set k (x, e1)) H1 := by
  have hD : va_D (fun _ => True) ws := kl_D hn (fun _ _ => trivial)
  have hl := (List.getElem?_eq_some_iff.mp hk).1
  intro i q hi
  by_cases hik : i = k
  · subst hik
    rw [List.getElem?_set_self hl] at hi
    cases hi
    exact hP1 0 _ rfl
  · rw [List.getElem?_set_ne (Ne.symm hik)] at hi
    refine (hP i q hi).kept (ho q.1 (hP i q hi).lt (fun h => ?_))
    exact hik (hD.1 i k q (x, e0) hi hk (List.mem_singleton.mp h))
end KBA
