/-! class and reference: need -/
theorem mkset (f : Nat → Bool) : ∀ n, ∃ s, s < 2 ^ n ∧ ∀ x, x < n → s.testBit x = f x := by
  intro n
  induction n with
  | zero => exact ⟨0, by decide, fun x hx => absurd hx (Nat.not_lt_zero _)⟩
  | succ n ih =>
    obtain ⟨s, hs, hx⟩ := ih
    have h2 : 2 ^ n < 2 ^ (n + 1) := Nat.pow_lt_pow_right (by decide) (Nat.lt_succ_self n)
    cases hf : f n with
    | false =>
      refine ⟨s, Nat.lt_trans hs h2, fun x hx2 => ?_⟩
      by_cases q : x = n
      · subst q; rw [hf]; exact Nat.testBit_lt_two_pow hs
      · exact hx x (by omega)
    | true =>
      refine ⟨s ||| 2 ^ n, Nat.or_lt_two_pow (Nat.lt_trans hs h2) h2, fun x hx2 => ?_⟩
      rw [Nat.testBit_or]
      by_cases q : x = n
      · subst q; rw [hf, Nat.testBit_two_pow_self, Bool.or_true]
      · rw [Nat.testBit_two_pow_of_ne (fun z => q z.symm), Bool.or_false]; exact hx x (by omega)
theorem bitB {s x : Nat} (hs : s < 64) (hx : x < 6) : (((nI s) >>> ((nI x) &&& 31)) &&& 1) = 1 ↔ s.testBit x = true := by
  have key : ∀ s, s < 64 → ∀ x, x < 6 → ((((nI s) >>> ((nI x) &&& 31)) &&& 1) = 1 ↔ s.testBit x = true) := by decide +kernel
  exact key s hs x hx
def sm (g : Nat → Nat) (b : Nat → Bool) : Nat → Nat
  | 0 => 0
  | n + 1 => sm g b n + (if b n = true then g n else 0)
theorem sm_s (g : Nat → Nat) (b : Nat → Bool) (n : Nat) : sm g b (n + 1) = sm g b n + (if b n = true then g n else 0) := rfl
theorem sm_le {g : Nat → Nat} {b : Nat → Bool} {B : Nat} : ∀ n, (∀ x, x < n → g x ≤ B) → sm g b n ≤ B * n := by
  intro n
  induction n with
  | zero => exact fun _ => Nat.le_refl _
  | succ n ih =>
    intro h
    have h1 := ih (fun x hx => h x (by omega))
    have h2 := h n (by omega)
    rw [sm_s, Nat.mul_succ]
    split <;> omega
theorem sm_eq {g : Nat → Nat} {b c : Nat → Bool} : ∀ n, (∀ x, x < n → (if b x = true then g x else 0) = (if c x = true then g x else 0)) → sm g b n = sm g c n := by
  intro n
  induction n with
  | zero => exact fun _ => rfl
  | succ n ih => intro h; rw [sm_s, sm_s, ih (fun x hx => h x (by omega)), h n (by omega)]
theorem sm_add {g : Nat → Nat} {b c d : Nat → Bool} : ∀ n, (∀ x, x < n → (if b x = true then g x else 0) + (if c x = true then g x else 0) = (if d x = true then g x else 0)) → sm g b n + sm g c n = sm g d n := by
  intro n
  induction n with
  | zero => exact fun _ => rfl
  | succ n ih =>
    intro h
    have h1 := ih (fun x hx => h x (by omega))
    have h2 := h n (by omega)
    rw [sm_s, sm_s, sm_s]
    omega
theorem sm_addle {g : Nat → Nat} {b c d : Nat → Bool} : ∀ n, (∀ x, x < n → (if d x = true then g x else 0) ≤ (if b x = true then g x else 0) + (if c x = true then g x else 0)) → sm g d n ≤ sm g b n + sm g c n := by
  intro n
  induction n with
  | zero => exact fun _ => Nat.le_refl _
  | succ n ih =>
    intro h
    have h1 := ih (fun x hx => h x (by omega))
    have h2 := h n (by omega)
    rw [sm_s, sm_s, sm_s]
    omega
theorem s_mi_sm {kd ho pl st : Nat → Int32} {ea h c : Int32} : ∀ n, s_mi kd ho pl st ea h c n = sm (s_mt kd st ea) (fun x => decide (ho x = h) && decide (pl x = c)) n := by
  intro n
  induction n with
  | zero => rfl
  | succ n ih =>
    rw [sm_s, ← ih]
    show s_mi kd ho pl st ea h c n + _ = _
    congr 1
    by_cases a : ho n = h
    · by_cases b : pl n = c
      · simp [a, b]
      · simp [a, b]
    · simp [a]
def s_di (pl : Nat → Int32) (c : Nat) (x : Nat) : Nat := if c ≤ (pl x).toNatClampNeg then (pl x).toNatClampNeg - c else c - (pl x).toNatClampNeg
def s_ok (ho pl : Nat → Int32) (ea h c : Int32) (x : Nat) : Bool := decide (ho x = h) && (!decide (pl x = c) && decide (m_X3_isIn ea (nI x) = 0))
def s_ow (ho : Nat → Int32) (ea h : Int32) (x : Nat) : Bool := decide (ho x = h) && decide (m_X3_isIn ea (nI x) = 0)
def s_al (ho pl : Nat → Int32) (ea h c : Int32) (s : Nat) : Nat → Bool
  | 0 => true
  | n + 1 => s_al ho pl ea h c s n && (!s.testBit n || s_ok ho pl ea h c n)
theorem s_al_iff {ho pl : Nat → Int32} {ea h c : Int32} {s : Nat} : ∀ n, s_al ho pl ea h c s n = true ↔ ∀ x, x < n → s.testBit x = true → s_ok ho pl ea h c x = true := by
  intro n
  induction n with
  | zero => exact ⟨fun _ x hx => absurd hx (Nat.not_lt_zero _), fun _ => rfl⟩
  | succ n ih =>
    show (s_al ho pl ea h c s n && (!s.testBit n || s_ok ho pl ea h c n)) = true ↔ _
    rw [Bool.and_eq_true, ih]
    constructor
    · intro ⟨h1, h2⟩ x hx hb
      by_cases q : x = n
      · subst q; rw [hb] at h2; simpa using h2
      · exact h1 x (by omega) hb
    · intro h1
      refine ⟨fun x hx hb => h1 x (by omega) hb, ?_⟩
      cases q : s.testBit n with
      | false => rfl
      | true => rw [h1 n (by omega) q]; rfl
theorem isIn_0 {s x : Nat} (hs : s < 64) (hx : x < 6) : m_X3_isIn (nI s) (nI x) = 0 ↔ s.testBit x = false := by
  unfold m_X3_isIn
  by_cases q : (((nI s) >>> ((nI x) &&& 31)) &&& 1) = 1
  · rw [if_pos q, (bitB hs hx).mp q]
    exact ⟨fun z => absurd z n10, fun z => by cases z⟩
  · rw [if_neg q]
    refine ⟨fun _ => ?_, fun _ => rfl⟩
    cases z : s.testBit x with
    | false => rfl
    | true => exact absurd ((bitB hs hx).mpr z) q
section ND
variable {n nc : Nat} {kd ho pl st kd' ho' pl' st' : Nat → Int32} {ea h : Int32}
theorem p_dist {p c : Nat} (hp : p < 6) (hc : c < 6) : (if 0 ≤ (nI p - nI c) then (nI p - nI c) else 0 - (nI p - nI c)) = nI (if c ≤ p then p - c else c - p) ∧ (if nI c ≤ nI p then nI p - nI c else nI c - nI p) = nI (if c ≤ p then p - c else c - p) := by
  have key : ∀ p, p < 6 → ∀ c, c < 6 → ((if 0 ≤ (nI p - nI c) then (nI p - nI c) else 0 - (nI p - nI c)) = nI (if c ≤ p then p - c else c - p) ∧ (if nI c ≤ nI p then nI p - nI c else nI c - nI p) = nI (if c ≤ p then p - c else c - p)) := by decide +kernel
  exact key p hp c hc
theorem p_inX (h6 : n ≤ 6) (hn : nc ≤ 6) {c s : Nat} (hcc : c < 6) (hs : s < 64) (ht : TH n nc kd ho pl st kd' ho' pl' st') : ∀ k i, i + k = n → m_X0_fewestSteps_L36 kd ho pl st ea h (nI c) s k i (nI (sm (s_di pl' c) (fun x => s.testBit x && s_ow ho' ea h x) i)) (nI (sm (s_mt kd' st' ea) (fun x => s.testBit x && s_ow ho' ea h x) i)) = (nI (sm (s_di pl' c) (fun x => s.testBit x && s_ow ho' ea h x) n), nI (sm (s_mt kd' st' ea) (fun x => s.testBit x && s_ow ho' ea h x) n)) := by
  intro k
  induction k with
  | zero => intro i hk; rw [m_X0_fewestSteps_L36_0, show i = n by omega]
  | succ k ih =>
    intro i hk
    obtain ⟨t1, t2, t3, t4, t5, t6, ⟨p, hp, ep⟩, t8⟩ := ht i (by omega)
    have e := (s_mt_e (kd := kd') (ea := ea) (i := i) (by omega) (t4 ▸ t8)).1
    have ih2 := ih (i + 1) (by omega)
    rw [sm_s, sm_s] at ih2
    rw [m_X0_fewestSteps_L36_s, ← ih2, t2, p_might (by omega) t1 t4 t5, e]
    have ed : s_di pl' c i = (if c ≤ p then p - c else c - p) := by unfold s_di; rw [← t3, ep, nI_clamp (by omega)]
    have e0 : m_X0_isEaten ea (nI i) = m_X3_isIn ea (nI i) := rfl
    rw [ep, (p_dist (by omega) hcc).1, ← ed, e0]
    by_cases a : (((nI s) >>> ((nI i) &&& 31)) &&& 1) = 1
    · have a2 := (bitB hs (by omega)).mp a
      rw [if_pos a]
      by_cases b : ho' i = h
      · rw [if_pos b]
        by_cases d : m_X3_isIn ea (nI i) = 0
        · have hw : s_ow ho' ea h i = true := by unfold s_ow; simp [b, d]
          rw [if_pos d, a2, hw, nI_add, nI_add]; rfl
        · have hw : s_ow ho' ea h i = false := by unfold s_ow; simp [d]
          rw [if_neg d, a2, hw]; rfl
      · have hw : s_ow ho' ea h i = false := by unfold s_ow; simp [b]
        rw [if_neg b, a2, hw]; rfl
    · have a2 : s.testBit i = false := by
        cases z : s.testBit i with
        | false => rfl
        | true => exact absurd ((bitB hs (by omega)).mpr z) a
      rw [if_neg a, a2]; rfl
theorem p_inM (h6 : n ≤ 6) (hn : nc ≤ 6) {c s W : Nat} (hcc : c < 6) (hs : s < 64) (hp : ∀ x, x < n → tw_dg (pl' x) nc) (hst : ∀ x, x < n → tw_dg (st' x) 10) : ∀ k i, i + k = n → m_X3_need_L51 kd' ho' pl' st' ea h (nI c) s k i (if s_al ho' pl' ea h (nI c) s i = true then 1 else 0) (nI (sm (s_di pl' c) (fun x => s.testBit x) i)) (nI (W + sm (s_mt kd' st' ea) (fun x => s.testBit x) i)) = ((if s_al ho' pl' ea h (nI c) s n = true then 1 else 0), nI (sm (s_di pl' c) (fun x => s.testBit x) n), nI (W + sm (s_mt kd' st' ea) (fun x => s.testBit x) n)) := by
  intro k
  induction k with
  | zero => intro i hk; rw [m_X3_need_L51_0, show i = n by omega]
  | succ k ih =>
    intro i hk
    obtain ⟨p, hp1, ep⟩ := hp i (by omega)
    have e := (s_mt_e (kd := kd') (ea := ea) (i := i) (by omega) (hst i (by omega))).1
    have ih2 := ih (i + 1) (by omega)
    rw [sm_s, sm_s] at ih2
    have ed : s_di pl' c i = (if c ≤ p then p - c else c - p) := by unfold s_di; rw [ep, nI_clamp (by omega)]
    rw [m_X3_need_L51_s, ← ih2, e]
    have f1 : (if (if s_al ho' pl' ea h (nI c) s i = true then (1 : Int32) else 0) = 0 then (0 : Int32) else (if (m_X3_isIn (nI s) (nI i)) = 0 then 1 else (if (ho' i) = h then (if (pl' i) = nI c then 0 else (if (m_X3_isIn ea (nI i)) = 0 then 1 else 0)) else 0))) = (if s_al ho' pl' ea h (nI c) s (i + 1) = true then 1 else 0) := by
      have e1 : s_al ho' pl' ea h (nI c) s (i + 1) = (s_al ho' pl' ea h (nI c) s i && (!s.testBit i || s_ok ho' pl' ea h (nI c) i)) := rfl
      rw [e1]
      cases q : s_al ho' pl' ea h (nI c) s i with
      | false => rfl
      | true =>
        rw [if_pos rfl, if_neg n10, Bool.true_and]
        by_cases a : m_X3_isIn (nI s) (nI i) = 0
        · rw [if_pos a, (isIn_0 hs (by omega)).mp a]; rfl
        · have a2 : s.testBit i = true := by
            cases z : s.testBit i with
            | true => rfl
            | false => exact absurd ((isIn_0 hs (by omega)).mpr z) a
          rw [if_neg a, a2]
          unfold s_ok
          by_cases b : ho' i = h
          · by_cases d : pl' i = nI c
            · simp [b, d]
            · by_cases g : m_X3_isIn ea (nI i) = 0
              · simp [b, d, g]
              · simp [b, d, g]
          · simp [b]
    rw [f1, ep, (p_dist (p := p) (by omega) hcc).2, ← ed]
    by_cases a : m_X3_isIn (nI s) (nI i) = 0
    · rw [if_pos a, if_pos a, (isIn_0 hs (by omega)).mp a, Int32.add_zero, Int32.add_zero]; rfl
    · have a2 : s.testBit i = true := by
        cases z : s.testBit i with
        | true => rfl
        | false => exact absurd ((isIn_0 hs (by omega)).mpr z) a
      rw [if_neg a, if_neg a, a2, nI_add, nI_add, Nat.add_assoc]; rfl
end ND
def IsMin (P : Nat → Prop) (d : Nat → Nat) (N : Nat) (u : Int32) : Prop := (u = -9 ∧ ∀ i, i < N → ¬ P i) ∨ ∃ i, i < N ∧ P i ∧ u = nI (d i) ∧ ∀ j, j < N → P j → d i ≤ d j
theorem IsMin_up {P : Nat → Prop} {d : Nat → Nat} {N : Nat} {u : Int32} (hp : ¬ P N) (h : IsMin P d N u) : IsMin P d (N + 1) u := by
  rcases h with ⟨h1, h2⟩ | ⟨i, h1, h2, h3, h4⟩
  · exact Or.inl ⟨h1, fun i hi => by by_cases q : i = N; subst q; exact hp; exact h2 i (by omega)⟩
  · exact Or.inr ⟨i, by omega, h2, h3, fun j hj hj2 => by by_cases q : j = N; subst q; exact absurd hj2 hp; exact h4 j (by omega) hj2⟩
theorem IsMin_new {P : Nat → Prop} {d : Nat → Nat} {N : Nat} {u : Int32} (hd : ∀ i, d i < 2 ^ 31) (hp : P N) (h : IsMin P d N u) : IsMin P d (N + 1) (if u = -9 then nI (d N) else (if u ≤ nI (d N) then u else nI (d N))) ∧ (if u < 0 then nI (d N) else (if u ≤ nI (d N) then u else nI (d N))) = (if u = -9 then nI (d N) else (if u ≤ nI (d N) then u else nI (d N))) := by
  rcases h with ⟨h1, h2⟩ | ⟨i, h1, h2, h3, h4⟩
  · subst h1
    rw [if_pos rfl, if_pos (by decide)]
    exact ⟨Or.inr ⟨N, by omega, hp, rfl, fun j hj hj2 => by by_cases q : j = N; subst q; exact Nat.le_refl _; exact absurd hj2 (h2 j (by omega))⟩, rfl⟩
  · subst h3
    have e9 : ¬ nI (d i) = -9 := by
      intro q
      have := nI_toInt (hd i)
      rw [q] at this
      have z : (-9 : Int32).toInt = -9 := rfl
      omega
    rw [if_neg e9, if_neg (nI_pos (hd i))]
    refine ⟨?_, rfl⟩
    by_cases q : d i ≤ d N
    · rw [if_pos (nI_le q (hd N))]
      exact Or.inr ⟨i, by omega, h2, rfl, fun j hj hj2 => by by_cases z : j = N; subst z; exact q; exact h4 j (by omega) hj2⟩
    · rw [if_neg (nI_ge (by omega) (hd i))]
      exact Or.inr ⟨N, by omega, hp, rfl, fun j hj hj2 => by
        by_cases z : j = N
        · subst z; exact Nat.le_refl _
        · have := h4 j (by omega) hj2; omega⟩
theorem IsMin_eq {P Q : Nat → Prop} {d e : Nat → Nat} {N : Nat} {u v : Int32} (h1 : ∀ i, i < N → P i → ∃ j, j < N ∧ Q j ∧ e j ≤ d i) (h2 : ∀ j, j < N → Q j → ∃ i, i < N ∧ P i ∧ d i ≤ e j) (hu : IsMin P d N u) (hv : IsMin Q e N v) : u = v := by
  rcases hu with ⟨a1, a2⟩ | ⟨i, a1, a2, a3, a4⟩
  · rcases hv with ⟨b1, b2⟩ | ⟨j, b1, b2, b3, b4⟩
    · rw [a1, b1]
    · obtain ⟨i, c1, c2, _⟩ := h2 j b1 b2
      exact absurd c2 (a2 i c1)
  · rcases hv with ⟨b1, b2⟩ | ⟨j, b1, b2, b3, b4⟩
    · obtain ⟨j, c1, c2, _⟩ := h1 i a1 a2
      exact absurd c2 (b2 j c1)
    · obtain ⟨j2, c1, c2, c3⟩ := h1 i a1 a2
      obtain ⟨i2, g1, g2, g3⟩ := h2 j b1 b2
      have := a4 i2 g1 g2
      have := b4 j2 c1 c2
      rw [a3, b3]
      congr 1
      omega
