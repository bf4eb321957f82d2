/-! what a method that only reads, and one that writes, begins and ends with; calls of both -/
abbrev tw_T (cI cS : ClassId) : List (ClassId × FieldType) := [(cI, .int), (cS, .object RX1)]
def tw_R (D : va_G) (cI cS : ClassId) (av : List Value) (w : va_W) : Array Value → State → Prop := va_Pc av (fun U => va_P D vwCl w U.heap ∧ va_K D vwCl (tw_T cI cS) U)
def tw_W (D : va_G) (cI cS : ClassId) (av : List Value) (sz : Nat) (w : va_W) : Array Value → State → Prop := va_Pc av (fun U => U.heap.size = sz ∧ va_P D vwCl w U.heap ∧ va_K D vwCl (tw_T cI cS) U ∧ va_D (fun _ => True) w)
def tw_B (D : va_G) (cI cS : ClassId) (A : Nat → Prop) (w : va_W) : Unit → State → Prop := fun _ t => va_P D vwCl w t.heap ∧ va_K D vwCl (tw_T cI cS) t ∧ va_D A w
theorem tw_Rb {D : va_G} {cI cS : ClassId} {av : List Value} {w : va_W} : FrameBlind (tw_R D cI cS av w) := fun a U g mk q => ⟨q.1, q.2.1, va_K.moved (u := U) (U := U.calling g mk a) (Vm.Alike.refl U.vm) q.2.2⟩
theorem tw_Wb {D : va_G} {cI cS : ClassId} {av : List Value} {sz : Nat} {w : va_W} : FrameBlind (tw_W D cI cS av sz w) := fun a U g mk q => ⟨q.1, q.2.1, q.2.2.1, va_K.moved (u := U) (U := U.calling g mk a) (Vm.Alike.refl U.vm) q.2.2.2.1, q.2.2.2.2⟩
theorem tw_Rp {D : va_G} {cI cS : ClassId} {av : List Value} {w : va_W} {s : State} {H : Heap} (hP : va_P D vwCl w H) (hK : va_K D vwCl (tw_T cI cS) s) : ∀ U : State, U.heap = H → s.WarmedH U.vm → tw_R D cI cS av w av.toArray U := fun U hU hW => ⟨rfl, by rw [hU]; exact hP, va_K.moved hW.alike hK⟩
theorem tw_Wp {D : va_G} {cI cS : ClassId} {av : List Value} {w : va_W} {s : State} {H : Heap} {A : Nat → Prop} (hP : va_P D vwCl w H) (hK : va_K D vwCl (tw_T cI cS) s) (hD : va_D A w) : ∀ U : State, U.heap = H → s.WarmedH U.vm → tw_W D cI cS av H.size w av.toArray U := fun U hU hW => ⟨rfl, by rw [hU], by rw [hU]; exact hP, va_K.moved hW.alike hK, hD.weaken (fun _ _ _ _ => trivial)⟩
theorem tw_fm {α : Type} {f : Nat → Option α} : ∀ {is : List Nat} {w : List α}, is.map f = w.map some → is.filterMap f = w
  | [], [], _ => rfl
  | [], b :: w, h => by cases h
  | a :: is, [], h => by cases h
  | a :: is, b :: w, h => by
    rw [List.map_cons, List.map_cons] at h
    injection h with h1 h2
    rw [List.filterMap_cons, h1]
    simp only [tw_fm h2]
section TWC
variable {p : Program} {l : Launch} {e : Env} {R : Room} {s : State} {m : MethodId} {args : Array Value} {below : List Frame} {meth : Method} {c : Code} {H : Heap} {locs : List Loc} {cells slots : Nat} {Q : State → Prop}
variable {pc : Nat} {ls : Array Slot} {rest st0 : List Value} {a : Array Value} {D : va_G} {cI cS : ClassId} {A0 : Nat → Prop} {H0 : Heap}
theorem tw_top {x y : Int32} (h : x = y) (k : W p l e R s m args below meth c H locs cells slots Q (F0 m pc ls (.int y :: rest))) : W p l e R s m args below meth c H locs cells slots Q (F0 m pc ls (.int x :: rest)) := by rw [h]; exact k
theorem tw_topl {x y : Int64} (h : x = y) (k : W p l e R s m args below meth c H locs cells slots Q (F0 m pc ls (.long y :: rest))) : W p l e R s m args below meth c H locs cells slots Q (F0 m pc ls (.long x :: rest)) := by rw [h]; exact k
theorem tw_topv {x y : Value} (h : x = y) (k : W p l e R s m args below meth c H locs cells slots Q (F0 m pc ls (y :: rest))) : W p l e R s m args below meth c H locs cells slots Q (F0 m pc ls (x :: rest)) := by rw [h]; exact k
theorem tw_join {α : Type} {G : JFrame} (g : α → JFrame) (v : α) (k : ∀ y, y = v → W p l e R s m args below meth c H locs cells slots Q (g y)) (f : (∀ y, y = v → W p l e R s m args below meth c H locs cells slots Q (g y)) → W p l e R s m args below meth c H locs cells slots Q G) : W p l e R s m args below meth c H locs cells slots Q G := f k
theorem tw_loopR {σ : Type} (I : Nat → Nat → σ → Array Slot → Prop) (n i0 : Nat) (z : σ) (h : I n i0 z ls) (h0 : ∀ i z ls, I 0 i z ls → W p l e R s m args below meth c H locs cells slots Q (F0 m pc ls [])) (hs : ∀ k i z ls, (∀ z' ls', I k (i + 1) z' ls' → W p l e R s m args below meth c H locs cells slots Q (F0 m pc ls' [])) → I (k + 1) i z ls → W p l e R s m args below meth c H locs cells slots Q (F0 m pc ls [])) : W p l e R s m args below meth c H locs cells slots Q (F0 m pc ls []) := by
  have key : ∀ n i z ls, I n i z ls → W p l e R s m args below meth c H locs cells slots Q (F0 m pc ls []) := by
    intro n
    induction n with
    | zero => exact fun i z ls h => h0 i z ls h
    | succ k ih => exact fun i z ls h => hs k i z ls (fun z' ls' h' => ih (i + 1) z' ls' h') h
  exact key n i0 z ls h
theorem tw_loopW {σ : Type} (I : Nat → Nat → σ → Array Slot → Heap → List Loc → Prop) (n i0 : Nat) (z : σ) (h : I n i0 z ls H locs) (h0 : ∀ i z ls H locs, I 0 i z ls H locs → W p l e R s m args below meth c H locs cells slots Q (F0 m pc ls [])) (hs : ∀ k i z ls H locs, (∀ z' ls' H' locs', I k (i + 1) z' ls' H' locs' → W p l e R s m args below meth c H' locs' cells slots Q (F0 m pc ls' [])) → I (k + 1) i z ls H locs → W p l e R s m args below meth c H locs cells slots Q (F0 m pc ls [])) : W p l e R s m args below meth c H locs cells slots Q (F0 m pc ls []) := by
  have key : ∀ n i z ls H locs, I n i z ls H locs → W p l e R s m args below meth c H locs cells slots Q (F0 m pc ls []) := by
    intro n
    induction n with
    | zero => exact fun i z ls H locs h => h0 i z ls H locs h
    | succ k ih => exact fun i z ls H locs h => hs k i z ls H locs (fun z' ls' H' locs' h' => ih (i + 1) z' ls' H' locs' h') h
  exact key n i0 z ls H locs h
theorem tw_cutR {σ : Type} {g : JFrame} {pc0 : Nat} (I : σ → Array Slot → Prop) (k : ∀ z ls, I z ls → W p l e R s m args below meth c H locs cells slots Q (F0 m pc0 ls [])) (f : (∀ z ls, I z ls → W p l e R s m args below meth c H locs cells slots Q (F0 m pc0 ls [])) → W p l e R s m args below meth c H locs cells slots Q g) : W p l e R s m args below meth c H locs cells slots Q g := f k
theorem tw_cutW {σ : Type} {g : JFrame} {pc0 : Nat} (I : σ → Array Slot → Heap → List Loc → Prop) (k : ∀ z ls H locs, I z ls H locs → W p l e R s m args below meth c H locs cells slots Q (F0 m pc0 ls [])) (f : (∀ z ls H locs, I z ls H locs → W p l e R s m args below meth c H locs cells slots Q (F0 m pc0 ls [])) → W p l e R s m args below meth c H locs cells slots Q g) : W p l e R s m args below meth c H locs cells slots Q g := f k
theorem tw_cs {v : Int32} (hr : va_Run p l e R s m args below meth c H locs cells slots 0 0 (F0 m pc ls st0) rest (vp_Si (fun r => r = v) a) (fun _ => False)) (kk : W p l e R s m args below meth c H locs cells slots Q (F0 m (pc + 3) ls (.int v :: rest))) : W p l e R s m args below meth c H locs cells slots Q (F0 m pc ls st0) := by
  intro T hT X
  obtain ⟨v', st₀, t, T', L, h0, X', hL, e1, e2, ⟨r, hv, hp, hh⟩, st⟩ := hr T hT X
  cases hv
  subst hp
  obtain ⟨t2, a1, b1⟩ := kk T' (by rw [e1, hh, h0]) (Stand.forget X' (fun q h => (hL q h).elim))
  exact ⟨t2, st t2 a1, b1⟩
theorem tw_cl {v : Int64} (hr : va_Run p l e R s m args below meth c H locs cells slots 0 0 (F0 m pc ls st0) rest (vp_Sl (fun r => r = v) a) (fun _ => False)) (kk : W p l e R s m args below meth c H locs cells slots Q (F0 m (pc + 3) ls (.long v :: rest))) : W p l e R s m args below meth c H locs cells slots Q (F0 m pc ls st0) := by
  intro T hT X
  obtain ⟨v', st₀, t, T', L, h0, X', hL, e1, e2, ⟨r, hv, hp, hh⟩, st⟩ := hr T hT X
  cases hv
  subst hp
  obtain ⟨t2, a1, b1⟩ := kk T' (by rw [e1, hh, h0]) (Stand.forget X' (fun q h => (hL q h).elim))
  exact ⟨t2, st t2 a1, b1⟩
theorem tw_wi {v : Int32} {ws wc wr w1 ws' : va_W} (hr : va_Run p l e R s m args below meth c H locs cells slots 0 0 (F0 m pc ls st0) rest (va_Qi (fun r (_ : Unit) => r = v) (tw_B D cI cS (va_A wc H.size) w1) (va_A wc H.size) a) (va_A wc H.size)) (hP : va_P D vwCl ws H) (hD : va_D A0 ws) (hS : va_S A0 H0 H locs) (hA : ∀ q, H0.size ≤ q → A0 q) (isC isR is2 : List Nat) (hC : isC.map (fun i => ws[i]?) = wc.map some) (hR : isR.map (fun i => ws[i]?) = wr.map some) (hn : va_nd isR = true) (hdis : ∀ i ∈ isR, i ∉ isC) (h2 : is2.map (fun i => (wr ++ w1)[i]?) = ws'.map some) (hn2 : va_nd is2 = true) (kk : ∀ (H1 : Heap) (locs1 : List Loc), va_P D vwCl ws' H1 → va_D A0 ws' → va_S A0 H0 H1 locs1 → W p l e R s m args below meth c H1 locs1 cells slots Q (F0 m (pc + 3) ls (.int v :: rest))) : W p l e R s m args below meth c H locs cells slots Q (F0 m pc ls st0) := by
  have hFc := va_free (wc := wc) hD hS hA isC hC
  refine va_calli hr hS (fun q _ h => hFc q h) hFc (fun r u t H1 locs1 ht hvm hw hB hz1 hk1 hS1 => ?_)
  subst hw
  obtain ⟨hP1, hK1, hD1⟩ := hB
  rw [ht] at hP1
  obtain ⟨hP2, hD2⟩ := va_join hP hD isC isR hC hR hn hdis hk1 hFc hP1 hD1
  exact kk H1 locs1 (hP2.sub is2 (tw_fm h2)) (hD2.sub is2 hn2 h2) hS1
theorem tw_wl {v : Int64} {ws wc wr w1 ws' : va_W} (hr : va_Run p l e R s m args below meth c H locs cells slots 0 0 (F0 m pc ls st0) rest (va_Ql (fun r (_ : Unit) => r = v) (tw_B D cI cS (va_A wc H.size) w1) (va_A wc H.size) a) (va_A wc H.size)) (hP : va_P D vwCl ws H) (hD : va_D A0 ws) (hS : va_S A0 H0 H locs) (hA : ∀ q, H0.size ≤ q → A0 q) (isC isR is2 : List Nat) (hC : isC.map (fun i => ws[i]?) = wc.map some) (hR : isR.map (fun i => ws[i]?) = wr.map some) (hn : va_nd isR = true) (hdis : ∀ i ∈ isR, i ∉ isC) (h2 : is2.map (fun i => (wr ++ w1)[i]?) = ws'.map some) (hn2 : va_nd is2 = true) (kk : ∀ (H1 : Heap) (locs1 : List Loc), va_P D vwCl ws' H1 → va_D A0 ws' → va_S A0 H0 H1 locs1 → W p l e R s m args below meth c H1 locs1 cells slots Q (F0 m (pc + 3) ls (.long v :: rest))) : W p l e R s m args below meth c H locs cells slots Q (F0 m pc ls st0) := by
  have hFc := va_free (wc := wc) hD hS hA isC hC
  refine va_calll hr hS (fun q _ h => hFc q h) hFc (fun r u t H1 locs1 ht hvm hw hB hz1 hk1 hS1 => ?_)
  subst hw
  obtain ⟨hP1, hK1, hD1⟩ := hB
  rw [ht] at hP1
  obtain ⟨hP2, hD2⟩ := va_join hP hD isC isR hC hR hn hdis hk1 hFc hP1 hD1
  exact kk H1 locs1 (hP2.sub is2 (tw_fm h2)) (hD2.sub is2 hn2 h2) hS1
theorem tw_wv {ws wc wr w1 ws' : va_W} (hr : va_Run p l e R s m args below meth c H locs cells slots 0 0 (F0 m pc ls st0) rest (va_Qv (fun (_ : Unit) => True) (tw_B D cI cS (va_A wc H.size) w1) (va_A wc H.size) a) (va_A wc H.size)) (hP : va_P D vwCl ws H) (hD : va_D A0 ws) (hS : va_S A0 H0 H locs) (hA : ∀ q, H0.size ≤ q → A0 q) (isC isR is2 : List Nat) (hC : isC.map (fun i => ws[i]?) = wc.map some) (hR : isR.map (fun i => ws[i]?) = wr.map some) (hn : va_nd isR = true) (hdis : ∀ i ∈ isR, i ∉ isC) (h2 : is2.map (fun i => (wr ++ w1)[i]?) = ws'.map some) (hn2 : va_nd is2 = true) (kk : ∀ (H1 : Heap) (locs1 : List Loc), va_P D vwCl ws' H1 → va_D A0 ws' → va_S A0 H0 H1 locs1 → W p l e R s m args below meth c H1 locs1 cells slots Q (F0 m (pc + 3) ls rest)) : W p l e R s m args below meth c H locs cells slots Q (F0 m pc ls st0) := by
  have hFc := va_free (wc := wc) hD hS hA isC hC
  refine va_callv hr hS (fun q _ h => hFc q h) hFc (fun u t H1 locs1 ht hvm hw hB hz1 hk1 hS1 => ?_)
  obtain ⟨hP1, hK1, hD1⟩ := hB
  rw [ht] at hP1
  obtain ⟨hP2, hD2⟩ := va_join hP hD isC isR hC hR hn hdis hk1 hFc hP1 hD1
  exact kk H1 locs1 (hP2.sub is2 (tw_fm h2)) (hD2.sub is2 hn2 h2) hS1
end TWC
theorem tw_tge {B : Int32} {n i : Nat} (hB : B = nI n) (h : n ≤ i) (hi : i < 2 ^ 31) : B ≤ nI i := by rw [hB]; exact nI_le h hi
theorem tw_tlt {B : Int32} {n i : Nat} (hB : B = nI n) (h : i < n) (hn : n < 2 ^ 31) : ¬ B ≤ nI i := by rw [hB]; exact nI_ge h hn
theorem tw_in {x z : Int32} {n : Nat} (h1 : ¬ x < 0) (h2 : x < z) (h3 : z.toInt ≤ n) : vp_in x n := by
  rw [vp_in_iff]
  rw [Int32.lt_iff_toInt_lt] at h1 h2
  have h0 : (0 : Int32).toInt = 0 := rfl
  rw [h0] at h1
  omega
theorem tw_nb {c : Prop} [Decidable c] : narrow .boolean (.int (if c then (1 : Int32) else 0)) = .int (if c then (1 : Int32) else 0) := by
  by_cases h : c
  · rw [if_pos h]; rfl
  · rw [if_neg h]; rfl
