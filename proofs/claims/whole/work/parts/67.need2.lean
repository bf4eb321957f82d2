/-! class and reference: need, both least numbers are one -/
theorem sm_mono {g : Nat → Nat} {b c : Nat → Bool} : ∀ n, (∀ x, x < n → (if b x = true then g x else 0) ≤ (if c x = true then g x else 0)) → sm g b n ≤ sm g c n := by
  intro n
  induction n with
  | zero => exact fun _ => Nat.le_refl _
  | succ n ih =>
    intro h
    have h1 := ih (fun x hx => h x (by omega))
    have h2 := h n (by omega)
    rw [sm_s, sm_s]
    omega
theorem sm_addge {g : Nat → Nat} {b c d : Nat → Bool} : ∀ n, (∀ x, x < n → (if b x = true then g x else 0) + (if c x = true then g x else 0) ≤ (if d x = true then g x else 0)) → sm g b n + sm g c n ≤ sm g d n := by
  intro n
  induction n with
  | zero => exact fun _ => Nat.le_refl _
  | succ n ih =>
    intro h
    have h1 := ih (fun x hx => h x (by omega))
    have h2 := h n (by omega)
    rw [sm_s, sm_s, sm_s]
    omega
theorem s_mt_0 {kd st : Nat → Int32} {ea : Int32} {x : Nat} (h : ¬ m_X3_isIn ea (nI x) = 0) : s_mt kd st ea x = 0 := by
  unfold s_mt m_X3_mightOf
  rw [if_neg h]; rfl
section NE
variable {n nc : Nat} {kd ho pl st kd' ho' pl' st' : Nat → Int32} {ea h : Int32}
def n_Pc (n : Nat) (kd ho pl st : Nat → Int32) (ea h g c : Int32) (s : Nat) : Prop := s_mi kd ho pl st ea g c n < sm (s_mt kd st ea) (fun x => s.testBit x && s_ow ho ea h x) n
def n_dc (n : Nat) (ho pl : Nat → Int32) (ea h : Int32) (c : Nat) (s : Nat) : Nat := sm (s_di pl c) (fun x => s.testBit x && s_ow ho ea h x) n
def n_Pm (n : Nat) (kd ho pl st : Nat → Int32) (ea h g c : Int32) (s : Nat) : Prop := s_al ho pl ea h c s n = true ∧ s_mi kd ho pl st ea g c n < s_mi kd ho pl st ea h c n + sm (s_mt kd st ea) (fun x => s.testBit x) n
def n_dm (n : Nat) (pl : Nat → Int32) (c : Nat) (s : Nat) : Nat := sm (s_di pl c) (fun x => s.testBit x) n
theorem s_di_le {pl : Nat → Int32} {c x nc : Nat} (hc : c < 6) (hn : nc ≤ 6) (h : tw_dg (pl x) nc) : s_di pl c x ≤ 6 := by
  obtain ⟨p, hp, ep⟩ := h
  unfold s_di
  rw [ep, nI_clamp (by omega)]
  split <;> omega
theorem p_needX (h6 : n ≤ 6) (hn : nc ≤ 6) {c : Nat} (hcc : c < 6) (ht : TH n nc kd ho pl st kd' ho' pl' st') : ∀ k i u, i + k = 2 ^ n → IsMin (n_Pc n kd' ho' pl' st' ea h (1 - h) (nI c)) (n_dc n ho' pl' ea h c) i u → IsMin (n_Pc n kd' ho' pl' st' ea h (1 - h) (nI c)) (n_dc n ho' pl' ea h c) (2 ^ n) (m_X0_fewestSteps_L16 kd ho pl st n ea h (nI c) k i u) := by
  intro k
  induction k with
  | zero => intro i u hk hu; rw [m_X0_fewestSteps_L16_0, ← show i = 2 ^ n by omega]; exact hu
  | succ k ih =>
    intro i u hk hu
    have h64 := tw_p64 h6
    have hst : ∀ x, x < n → tw_dg (st' x) 10 := fun x hx => by obtain ⟨e1, e2, e3, e4, e5, e6, e7, e8⟩ := ht x hx; exact e4 ▸ e8
    have hpl : ∀ x, x < n → tw_dg (pl' x) nc := fun x hx => by obtain ⟨e1, e2, e3, e4, e5, e6, e7, e8⟩ := ht x hx; exact e3 ▸ e7
    have e := p_inX (ea := ea) (h := h) h6 hn hcc (s := i) (by omega) ht n 0 (Nat.zero_add _)
    have e2 : m_X0_fewestSteps_L36 kd ho pl st ea h (nI c) i n 0 0 0 = (nI (n_dc n ho' pl' ea h c i), nI (sm (s_mt kd' st' ea) (fun x => i.testBit x && s_ow ho' ea h x) n)) := e
    rw [m_X0_fewestSteps_L16_s, e2, p_mightIn h6 ht, p_mightInM h6 hst]
    have b1 := s_mi_le (kd := kd') (ho := ho') (pl := pl') (st := st') (ea := ea) (h := 1 - h) (c := nI c) n h6 hst
    have b2 := sm_le (g := s_mt kd' st' ea) (b := fun x => i.testBit x && s_ow ho' ea h x) (B := 20) n (fun x hx => (s_mt_e (by omega) (hst x hx)).2)
    dsimp only
    by_cases q : n_Pc n kd' ho' pl' st' ea h (1 - h) (nI c) i
    · rw [if_neg (nI_ge q (by omega))]
      have hd : ∀ j, n_dc n ho' pl' ea h c j < 2 ^ 31 := fun j => by
        have := sm_le (g := s_di pl' c) (b := fun x => j.testBit x && s_ow ho' ea h x) (B := 6) n (fun x hx => s_di_le hcc hn (hpl x hx))
        show sm _ _ _ < _
        omega
      have t := ih (i + 1) _ (by omega) (IsMin_new hd q hu).1
      by_cases a : u = -9
      · rw [if_pos a] at t ⊢; exact t
      · rw [if_neg a] at t ⊢
        by_cases b : u ≤ nI (n_dc n ho' pl' ea h c i)
        · rw [if_pos b] at t ⊢; exact t
        · rw [if_neg b] at t ⊢; exact t
    · rw [if_pos (nI_le (Nat.not_lt.mp q) (by omega))]
      exact ih (i + 1) u (by omega) (IsMin_up q hu)
theorem p_needM (h6 : n ≤ 6) (hn : nc ≤ 6) {c : Nat} (hcc : c < 6) (ht : TH n nc kd ho pl st kd' ho' pl' st') : ∀ k i u, i + k = 2 ^ n → IsMin (n_Pm n kd' ho' pl' st' ea h (1 - h) (nI c)) (n_dm n pl' c) i u → IsMin (n_Pm n kd' ho' pl' st' ea h (1 - h) (nI c)) (n_dm n pl' c) (2 ^ n) (m_X3_need_L23 n kd' ho' pl' st' ea h (nI c) k i u) := by
  intro k
  induction k with
  | zero => intro i u hk hu; rw [m_X3_need_L23_0, ← show i = 2 ^ n by omega]; exact hu
  | succ k ih =>
    intro i u hk hu
    have h64 := tw_p64 h6
    have hst : ∀ x, x < n → tw_dg (st' x) 10 := fun x hx => by obtain ⟨e1, e2, e3, e4, e5, e6, e7, e8⟩ := ht x hx; exact e4 ▸ e8
    have hpl : ∀ x, x < n → tw_dg (pl' x) nc := fun x hx => by obtain ⟨e1, e2, e3, e4, e5, e6, e7, e8⟩ := ht x hx; exact e3 ▸ e7
    have e := p_inM (kd' := kd') (ho' := ho') (ea := ea) (h := h) (W := s_mi kd' ho' pl' st' ea h (nI c) n) h6 hn hcc (s := i) (by omega) hpl hst n 0 (Nat.zero_add _)
    have e2 : m_X3_need_L51 kd' ho' pl' st' ea h (nI c) i n 0 1 0 (nI (s_mi kd' ho' pl' st' ea h (nI c) n)) = ((if s_al ho' pl' ea h (nI c) i n = true then 1 else 0), nI (n_dm n pl' c i), nI (s_mi kd' ho' pl' st' ea h (nI c) n + sm (s_mt kd' st' ea) (fun x => i.testBit x) n)) := e
    rw [m_X3_need_L23_s, p_mightInM h6 hst, p_mightInM h6 hst, e2]
    have b1 := s_mi_le (kd := kd') (ho := ho') (pl := pl') (st := st') (ea := ea) (h := 1 - h) (c := nI c) n h6 hst
    have b3 := s_mi_le (kd := kd') (ho := ho') (pl := pl') (st := st') (ea := ea) (h := h) (c := nI c) n h6 hst
    have b2 := sm_le (g := s_mt kd' st' ea) (b := fun x => i.testBit x) (B := 20) n (fun x hx => (s_mt_e (by omega) (hst x hx)).2)
    dsimp only
    by_cases a : s_al ho' pl' ea h (nI c) i n = true
    · rw [if_pos a, if_neg n10]
      by_cases q : s_mi kd' ho' pl' st' ea (1 - h) (nI c) n < s_mi kd' ho' pl' st' ea h (nI c) n + sm (s_mt kd' st' ea) (fun x => i.testBit x) n
      · rw [if_neg (nI_ge q (by omega))]
        have hd : ∀ j, n_dm n pl' c j < 2 ^ 31 := fun j => by
          have := sm_le (g := s_di pl' c) (b := fun x => j.testBit x) (B := 6) n (fun x hx => s_di_le hcc hn (hpl x hx))
          show sm _ _ _ < _
          omega
        have t := IsMin_new (P := n_Pm n kd' ho' pl' st' ea h (1 - h) (nI c)) hd ⟨a, q⟩ hu
        rw [t.2]
        exact ih (i + 1) _ (by omega) t.1
      · rw [if_pos (nI_le (Nat.not_lt.mp q) (by omega))]
        exact ih (i + 1) u (by omega) (IsMin_up (P := n_Pm n kd' ho' pl' st' ea h (1 - h) (nI c)) (fun z => q z.2) hu)
    · rw [if_neg a, if_pos rfl]
      exact ih (i + 1) u (by omega) (IsMin_up (P := n_Pm n kd' ho' pl' st' ea h (1 - h) (nI c)) (fun z => a z.1) hu)
theorem n_cm (h6 : n ≤ 6) {g : Int32} {c s : Nat} (hs : n_Pc n kd ho pl st ea h g (nI c) s) : ∃ j, j < 2 ^ n ∧ n_Pm n kd ho pl st ea h g (nI c) j ∧ n_dm n pl c j ≤ n_dc n ho pl ea h c s := by
  obtain ⟨j, hj, hb⟩ := mkset (fun x => s.testBit x && s_ok ho pl ea h (nI c) x) n
  have hok : ∀ x, s_ok ho pl ea h (nI c) x = true → ho x = h ∧ ¬ pl x = nI c ∧ m_X3_isIn ea (nI x) = 0 := by
    intro x hx
    unfold s_ok at hx
    simpa using hx
  refine ⟨j, hj, ⟨(s_al_iff n).mpr (fun x hx z => ?_), Nat.lt_of_lt_of_le hs ?_⟩, ?_⟩
  · rw [hb x hx, Bool.and_eq_true] at z; exact z.2
  · rw [s_mi_sm]
    refine sm_addle n (fun x hx => ?_)
    rw [hb x hx]
    cases a : s.testBit x with
    | false => exact Nat.zero_le _
    | true =>
      by_cases b : s_ow ho ea h x = true
      · unfold s_ow at b
        unfold s_ok
        have b2 : ho x = h ∧ m_X3_isIn ea (nI x) = 0 := by simpa using b
        by_cases d : pl x = nI c
        · simp [b2.1, d]; split <;> omega
        · simp [b2.1, b2.2, d]; split <;> omega
      · have b2 : s_ow ho ea h x = false := by simpa using b
        rw [b2]; exact Nat.zero_le _
  · refine sm_mono n (fun x hx => ?_)
    rw [hb x hx]
    cases a : s.testBit x with
    | false => exact Nat.zero_le _
    | true =>
      by_cases b : s_ok ho pl ea h (nI c) x = true
      · have b2 := hok x b
        have b3 : s_ow ho ea h x = true := by unfold s_ow; simp [b2.1, b2.2.2]
        rw [b, b3]; exact Nat.le_refl _
      · have b2 : s_ok ho pl ea h (nI c) x = false := by simpa using b
        rw [b2]; exact Nat.zero_le _
theorem n_mc (h6 : n ≤ 6) {g : Int32} {c j : Nat} (hcc : c < 6) (hs : n_Pm n kd ho pl st ea h g (nI c) j) : ∃ s, s < 2 ^ n ∧ n_Pc n kd ho pl st ea h g (nI c) s ∧ n_dc n ho pl ea h c s ≤ n_dm n pl c j := by
  obtain ⟨s, hj, hb⟩ := mkset (fun x => j.testBit x || (decide (ho x = h) && decide (pl x = nI c))) n
  obtain ⟨h1, h2⟩ := hs
  have h1 := (s_al_iff n).mp h1
  have hok : ∀ x, s_ok ho pl ea h (nI c) x = true → ho x = h ∧ ¬ pl x = nI c ∧ m_X3_isIn ea (nI x) = 0 := by
    intro x hx
    unfold s_ok at hx
    simpa using hx
  refine ⟨s, hj, Nat.lt_of_lt_of_le h2 ?_, ?_⟩
  · rw [s_mi_sm]
    refine sm_addge n (fun x hx => ?_)
    rw [hb x hx]
    cases a : j.testBit x with
    | true =>
      have b2 := hok x (h1 x hx a)
      unfold s_ow
      simp [b2.1, b2.2.1, b2.2.2]
    | false =>
      by_cases b : ho x = h
      · by_cases d : pl x = nI c
        · by_cases e : m_X3_isIn ea (nI x) = 0
          · unfold s_ow
            simp [b, d, e]
          · rw [s_mt_0 e]; simp
        · simp [b, d]
      · simp [b]
  · refine sm_mono n (fun x hx => ?_)
    rw [hb x hx]
    cases a : j.testBit x with
    | true => 
      have b2 := hok x (h1 x hx a)
      unfold s_ow
      simp [b2.1, b2.2.2]
    | false =>
      by_cases d : pl x = nI c
      · have : s_di pl c x = 0 := by unfold s_di; rw [d, nI_clamp (by omega)]; simp
        rw [this]; simp
      · simp [d]
theorem r_need {v1 v2 : Int32} (h6 : n ≤ 6) (hn : nc ≤ 6) (ht : TH n nc kd ho pl st kd' ho' pl' st') : m_X2_need kd ho pl st nc n ea v1 v2 = m_X3_need nc n kd' ho' pl' st' ea v1 v2 := by
  unfold m_X2_need m_X3_need
  rcases p_house v1 with ⟨_, a1, a2⟩ | ⟨a1, a2⟩
  · rw [a1, a2, if_neg n10, if_pos rfl]
    rcases p_cell v2 hn with ⟨c, hc, rfl, b1, b2⟩ | ⟨b1, b2⟩
    · rw [b1, b2, if_neg n10, if_pos rfl]
      have i0 : ∀ P d, IsMin P d 0 (-9) := fun P d => Or.inl ⟨rfl, fun i hi => absurd hi (Nat.not_lt_zero _)⟩
      have x1 := p_needX (ea := ea) (h := v1) h6 hn (c := c) (by omega) ht (2 ^ n) 0 (-9) (Nat.zero_add _) (i0 _ _)
      have x2 := p_needM (ea := ea) (h := v1) h6 hn (c := c) (by omega) ht (2 ^ n) 0 (-9) (Nat.zero_add _) (i0 _ _)
      exact IsMin_eq (fun i _ hp => n_cm h6 hp) (fun j _ hq => n_mc h6 (by omega) hq) x1 x2
    · rw [b1, b2, if_pos rfl, if_neg n10]
  · rw [a1, a2, if_pos rfl, if_neg n10]
end NE
