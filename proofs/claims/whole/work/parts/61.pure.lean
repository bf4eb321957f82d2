/-! class and reference, by their mirrors: might, who holds, land, lead -/
def tw_dg (x : Int32) (b : Nat) : Prop := ∃ j : Nat, j < b ∧ x = nI j
def TH (n nc : Nat) (kd ho pl st kd' ho' pl' st' : Nat → Int32) : Prop := ∀ i, i < n → kd i = kd' i ∧ ho i = ho' i ∧ pl i = pl' i ∧ st i = st' i ∧ tw_dg (kd i) 3 ∧ tw_dg (ho i) 2 ∧ tw_dg (pl i) nc ∧ tw_dg (st i) 10
theorem p_might {kd st kd' st' : Nat → Int32} {ea : Int32} {i : Nat} (hi : i < 2 ^ 31) (h : kd i = kd' i) (hs : st i = st' i) (hk : tw_dg (kd i) 3) : m_X0_mightOf kd st ea (nI i) = m_X3_mightOf kd' st' ea (nI i) := by
  unfold m_X0_mightOf m_X3_mightOf
  rw [nI_clamp hi, ← h, ← hs]
  have e : m_X0_isEaten ea (nI i) = m_X3_isIn ea (nI i) := rfl
  rw [e]
  by_cases a : m_X3_isIn ea (nI i) = 0
  · rw [if_pos a, if_pos a]
    obtain ⟨j, hj, ej⟩ := hk
    rw [ej]
    have : j = 0 ∨ j = 1 ∨ j = 2 := by omega
    rcases this with rfl | rfl | rfl
    · rw [if_neg (by decide), if_neg (by decide), if_pos (by decide)]
    · rw [if_pos (by decide), if_neg (by decide), if_pos (by decide)]
    · rw [if_neg (by decide), if_pos (by decide), if_neg (by decide), if_neg (by decide)]
  · rw [if_neg a, if_neg a]
theorem p_might_le {kd st : Nat → Int32} {ea : Int32} {i : Nat} (hi : i < 2 ^ 31) (hs : tw_dg (st i) 10) : ∃ m, m ≤ 20 ∧ m_X3_mightOf kd st ea (nI i) = nI m := by
  unfold m_X3_mightOf
  rw [nI_clamp hi]
  obtain ⟨s, hs1, es⟩ := hs
  rw [es]
  split
  · split
    · exact ⟨s, by omega, rfl⟩
    · split
      · exact ⟨s + 1, by omega, nI_1 s⟩
      · exact ⟨2 * (s + 1), by omega, by rw [nI_1, show (2 : Int32) = nI 2 from rfl, pk_mul]⟩
  · exact ⟨0, by omega, rfl⟩
def s_mt (kd st : Nat → Int32) (ea : Int32) (i : Nat) : Nat := (m_X3_mightOf kd st ea (nI i)).toNatClampNeg
theorem s_mt_e {kd st : Nat → Int32} {ea : Int32} {i : Nat} (hi : i < 2 ^ 31) (hs : tw_dg (st i) 10) : m_X3_mightOf kd st ea (nI i) = nI (s_mt kd st ea i) ∧ s_mt kd st ea i ≤ 20 := by
  obtain ⟨m, hm, e⟩ := p_might_le (kd := kd) (ea := ea) hi hs
  unfold s_mt
  rw [e, nI_clamp (by omega)]
  exact ⟨rfl, hm⟩
/-- the might of a house in a cell, of the things below n -/
def s_mi (kd ho pl st : Nat → Int32) (ea h c : Int32) : Nat → Nat
  | 0 => 0
  | n + 1 => s_mi kd ho pl st ea h c n + (if ho n = h then (if pl n = c then s_mt kd st ea n else 0) else 0)
theorem s_mi_le {kd ho pl st : Nat → Int32} {ea h c : Int32} : ∀ n, n ≤ 6 → (∀ i, i < n → tw_dg (st i) 10) → s_mi kd ho pl st ea h c n ≤ 20 * n := by
  intro n
  induction n with
  | zero => exact fun _ _ => Nat.le_refl _
  | succ n ih =>
    intro h6 hs
    have h1 := ih (by omega) (fun i hi => hs i (by omega))
    have h2 := (s_mt_e (kd := kd) (ea := ea) (i := n) (by omega) (hs n (by omega))).2
    show s_mi kd ho pl st ea h c n + _ ≤ _
    split
    · split <;> omega
    · omega
theorem p_miM {kd ho pl st : Nat → Int32} {ea h c : Int32} {N : Nat} (h6 : N ≤ 6) (hs : ∀ i, i < N → tw_dg (st i) 10) : ∀ k i, i + k = N → m_X3_mightIn_L5 kd ho pl st ea h c k i (nI (s_mi kd ho pl st ea h c i)) = nI (s_mi kd ho pl st ea h c N) := by
  intro k
  induction k with
  | zero => intro i hk; rw [m_X3_mightIn_L5_0, show i = N by omega]
  | succ k ih =>
    intro i hk
    rw [m_X3_mightIn_L5_s, ← ih (i + 1) (by omega)]
    congr 1
    have e := (s_mt_e (kd := kd) (ea := ea) (i := i) (by omega) (hs i (by omega))).1
    show _ = nI (s_mi kd ho pl st ea h c i + _)
    rw [← nI_add]
    congr 1
    split
    · split
      · exact e
      · rfl
    · rfl
theorem p_mightInM {kd ho pl st : Nat → Int32} {ea h c : Int32} {nt : Nat} (h6 : nt ≤ 6) (hs : ∀ i, i < nt → tw_dg (st i) 10) : m_X3_mightIn nt kd ho pl st ea h c = nI (s_mi kd ho pl st ea h c nt) := p_miM h6 hs nt 0 (Nat.zero_add _)
theorem p_miX {n nc : Nat} {kd ho pl st kd' ho' pl' st' : Nat → Int32} {ea h c : Int32} (h6 : n ≤ 6) (ht : TH n nc kd ho pl st kd' ho' pl' st') : ∀ k i, i + k = n → m_X0_mightIn_L5 kd ho pl st ea h c k i (nI (s_mi kd' ho' pl' st' ea h c i)) = nI (s_mi kd' ho' pl' st' ea h c n) := by
  intro k
  induction k with
  | zero => intro i hk; rw [m_X0_mightIn_L5_0, show i = n by omega]
  | succ k ih =>
    intro i hk
    obtain ⟨e1, e2, e3, e4, e5, e6, e7, e8⟩ := ht i (by omega)
    have e := (s_mt_e (kd := kd') (ea := ea) (i := i) (by omega) (e4 ▸ e8)).1
    rw [m_X0_mightIn_L5_s, ← ih (i + 1) (by omega), e2, e3, p_might (by omega) e1 e4 e5, e]
    show _ = m_X0_mightIn_L5 kd ho pl st ea h c k (i + 1) (nI (s_mi kd' ho' pl' st' ea h c i + _))
    by_cases a : ho' i = h
    · rw [if_pos a, if_pos a]
      by_cases b : pl' i = c
      · rw [if_pos b, if_pos b, nI_add]
      · (rw [if_neg b, if_neg b]) <;> rfl
    · (rw [if_neg a, if_neg a]) <;> rfl
theorem p_mightIn {n nc : Nat} {kd ho pl st kd' ho' pl' st' : Nat → Int32} {ea h c : Int32} (h6 : n ≤ 6) (ht : TH n nc kd ho pl st kd' ho' pl' st') : m_X0_mightIn kd ho pl st n ea h c = m_X3_mightIn n kd' ho' pl' st' ea h c := by
  rw [p_mightInM h6 (fun i hi => by obtain ⟨e1, e2, e3, e4, e5, e6, e7, e8⟩ := ht i hi; exact e4 ▸ e8)]
  exact p_miX h6 ht n 0 (Nat.zero_add _)
theorem p_hoX {n nc : Nat} {kd ho pl st kd' ho' pl' st' : Nat → Int32} {ea c : Int32} (h6 : n ≤ 6) (ht : TH n nc kd ho pl st kd' ho' pl' st') : ∀ k i, i + k = n → m_X0_holderOf_L4 kd ho pl st ea c k i (nI (s_mi kd' ho' pl' st' ea 0 c i) - nI (s_mi kd' ho' pl' st' ea 1 c i)) = nI (s_mi kd' ho' pl' st' ea 0 c n) - nI (s_mi kd' ho' pl' st' ea 1 c n) := by
  intro k
  induction k with
  | zero => intro i hk; rw [m_X0_holderOf_L4_0, show i = n by omega]
  | succ k ih =>
    intro i hk
    obtain ⟨e1, e2, e3, e4, e5, e6, e7, e8⟩ := ht i (by omega)
    have e := (s_mt_e (kd := kd') (ea := ea) (i := i) (by omega) (e4 ▸ e8)).1
    obtain ⟨j, hj, ej⟩ := e6
    rw [m_X0_holderOf_L4_s, ← ih (i + 1) (by omega), e3, p_might (by omega) e1 e4 e5, e, e2]
    rw [e2] at ej
    show _ = m_X0_holderOf_L4 kd ho pl st ea c k (i + 1) (nI (s_mi kd' ho' pl' st' ea 0 c i + (if ho' i = 0 then (if pl' i = c then s_mt kd' st' ea i else 0) else 0)) - nI (s_mi kd' ho' pl' st' ea 1 c i + (if ho' i = 1 then (if pl' i = c then s_mt kd' st' ea i else 0) else 0)))
    by_cases b : pl' i = c
    · rw [if_pos b]
      congr 1
      have hj2 : j = 0 ∨ j = 1 := by omega
      rcases hj2 with rfl | rfl
      · have e0 : ho' i = 0 := ej
        have e1' : ¬ ho' i = 1 := by rw [e0]; decide
        rw [if_pos e0, if_pos e0, if_pos b, if_neg e1', ← nI_add, ← nI_add, nI_0, Int32.add_zero]
        rw [Int32.sub_eq_add_neg, Int32.sub_eq_add_neg]
        ac_rfl
      · have e0 : ho' i = 1 := ej
        have e1' : ¬ ho' i = 0 := by rw [e0]; decide
        rw [if_neg e1', if_neg e1', if_pos e0, if_pos b, ← nI_add, ← nI_add, nI_0, Int32.add_zero]
        rw [Int32.sub_eq_add_neg, Int32.sub_eq_add_neg, Int32.neg_add, Int32.sub_eq_add_neg]
        ac_rfl
    · (rw [if_neg b, if_neg b, ite_self, ite_self]) <;> rfl
theorem p_holderM {kd ho pl st : Nat → Int32} {ea c : Int32} {nt : Nat} (h6 : nt ≤ 6) (hs : ∀ i, i < nt → tw_dg (st i) 10) : m_X3_holder nt kd ho pl st ea c = (if s_mi kd ho pl st ea 0 c nt ≤ s_mi kd ho pl st ea 1 c nt then (if s_mi kd ho pl st ea 1 c nt ≤ s_mi kd ho pl st ea 0 c nt then (-9 : Int32) else 1) else 0) := by
  unfold m_X3_holder
  rw [p_mightInM h6 hs, p_mightInM h6 hs]
  have a := s_mi_le (kd := kd) (ho := ho) (pl := pl) (st := st) (ea := ea) (h := 0) (c := c) nt h6 hs
  have b := s_mi_le (kd := kd) (ho := ho) (pl := pl) (st := st) (ea := ea) (h := 1) (c := c) nt h6 hs
  have l1 : nI (s_mi kd ho pl st ea 0 c nt) ≤ nI (s_mi kd ho pl st ea 1 c nt) ↔ s_mi kd ho pl st ea 0 c nt ≤ s_mi kd ho pl st ea 1 c nt := nI_leI (by omega) (by omega)
  have l2 : nI (s_mi kd ho pl st ea 1 c nt) ≤ nI (s_mi kd ho pl st ea 0 c nt) ↔ s_mi kd ho pl st ea 1 c nt ≤ s_mi kd ho pl st ea 0 c nt := nI_leI (by omega) (by omega)
  simp only [l1, l2]
theorem p_holder {n nc : Nat} {kd ho pl st kd' ho' pl' st' : Nat → Int32} {ea c : Int32} (h6 : n ≤ 6) (ht : TH n nc kd ho pl st kd' ho' pl' st') : m_X0_holderOf kd ho pl st n ea c = m_X3_holder n kd' ho' pl' st' ea c := by
  have hs : ∀ i, i < n → tw_dg (st' i) 10 := fun i hi => by obtain ⟨e1, e2, e3, e4, e5, e6, e7, e8⟩ := ht i hi; exact e4 ▸ e8
  rw [p_holderM h6 hs]
  unfold m_X0_holderOf
  have e : m_X0_holderOf_L4 kd ho pl st ea c n 0 0 = nI (s_mi kd' ho' pl' st' ea 0 c n) - nI (s_mi kd' ho' pl' st' ea 1 c n) := by
    have t := p_hoX (ea := ea) (c := c) h6 ht n 0 (Nat.zero_add _)
    rw [show nI (s_mi kd' ho' pl' st' ea 0 c 0) - nI (s_mi kd' ho' pl' st' ea 1 c 0) = 0 from by show nI 0 - nI 0 = 0; decide] at t
    exact t
  rw [e]
  have a := s_mi_le (kd := kd') (ho := ho') (pl := pl') (st := st') (ea := ea) (h := 0) (c := c) n h6 hs
  have b := s_mi_le (kd := kd') (ho := ho') (pl := pl') (st := st') (ea := ea) (h := 1) (c := c) n h6 hs
  generalize s_mi kd' ho' pl' st' ea 0 c n = x at *
  generalize s_mi kd' ho' pl' st' ea 1 c n = y at *
  have t := pk_sub_toInt (a := x) (b := y) (by omega) (by omega)
  by_cases q : x ≤ y
  · rw [if_pos q]
    by_cases r : y ≤ x
    · have : x = y := by omega
      subst this
      rw [if_pos r, if_pos (Int32.sub_self (nI x))]
    · rw [if_neg r, if_neg (fun z => by rw [z] at t; have : (0 : Int32).toInt = 0 := rfl; omega), if_pos (by rw [Int32.le_iff_toInt_le, t]; show _ ≤ (0 : Int); omega)]
  · rw [if_neg q, if_neg (fun z => by rw [z] at t; have : (0 : Int32).toInt = 0 := rfl; omega), if_neg (by rw [Int32.le_iff_toInt_le, t]; show ¬ _ ≤ (0 : Int); omega)]
theorem p_holder3 {kd ho pl st : Nat → Int32} {ea c : Int32} {nt : Nat} : m_X3_holder nt kd ho pl st ea c = 0 ∨ m_X3_holder nt kd ho pl st ea c = 1 ∨ m_X3_holder nt kd ho pl st ea c = -9 := by
  unfold m_X3_holder
  split
  · split
    · exact Or.inr (Or.inr rfl)
    · exact Or.inr (Or.inl rfl)
  · exact Or.inl rfl
/-- acres alike below nc -/
def TC (nc : Nat) (ac ac' : Nat → Int32) : Prop := ∀ i, i < nc → ac i = ac' i ∧ tw_dg (ac i) 10
theorem p_laX {n nc m : Nat} {ac ac' kd ho pl st kd' ho' pl' st' : Nat → Int32} {ea h : Int32} (h6 : n ≤ 6) (ht : TH n m kd ho pl st kd' ho' pl' st') (hc : TC nc ac ac') : ∀ k i u, i + k = nc → m_X0_landOf_L4 ac kd ho pl st n ea h k i u = m_X3_landOf_L4 ac' n kd' ho' pl' st' ea h k i u := by
  intro k
  induction k with
  | zero => intro i u _; rfl
  | succ k ih =>
    intro i u hk
    rw [m_X0_landOf_L4_s, m_X3_landOf_L4_s, p_holder h6 ht, (hc i (by omega)).1]
    by_cases a : m_X3_holder n kd' ho' pl' st' ea (nI i) = h
    · rw [if_pos a, if_pos a, ih _ _ (by omega)]
    · rw [if_neg a, if_neg a, Int32.add_zero, ih _ _ (by omega)]
theorem p_land {n nc m : Nat} {ac ac' kd ho pl st kd' ho' pl' st' : Nat → Int32} {ea h : Int32} (h6 : n ≤ 6) (ht : TH n m kd ho pl st kd' ho' pl' st') (hc : TC nc ac ac') : m_X0_landOf ac kd ho pl st nc n ea h = m_X3_landOf nc ac' n kd' ho' pl' st' ea h := p_laX h6 ht hc nc 0 0 (Nat.zero_add _)
theorem p_leX {n nc m : Nat} {ac ac' kd ho pl st kd' ho' pl' st' : Nat → Int32} {ea h g : Int32} (h6 : n ≤ 6) (ht : TH n m kd ho pl st kd' ho' pl' st') (hc : TC nc ac ac') (hg : (h = 0 ∧ g = 1) ∨ (h = 1 ∧ g = 0)) : ∀ k i x y, i + k = nc → m_X0_leadOf_L5 ac kd ho pl st n ea h k i (100 + x - y) = 100 + m_X3_landOf_L4 ac' n kd' ho' pl' st' ea h k i x - m_X3_landOf_L4 ac' n kd' ho' pl' st' ea g k i y := by
  intro k
  induction k with
  | zero => intro i x y _; rfl
  | succ k ih =>
    intro i x y hk
    rw [m_X0_leadOf_L5_s, m_X3_landOf_L4_s, m_X3_landOf_L4_s, p_holder h6 ht, (hc i (by omega)).1, ← ih _ _ _ (by omega)]
    have e1 : 100 + (x + ac' i) - y = 100 + x - y + ac' i := by
      rw [Int32.sub_eq_add_neg, Int32.sub_eq_add_neg]; ac_rfl
    have e2 : 100 + x - (y + ac' i) = 100 + x - y + -(ac' i) := by
      rw [Int32.sub_eq_add_neg, Int32.sub_eq_add_neg, Int32.neg_add, Int32.sub_eq_add_neg]; ac_rfl
    rcases p_holder3 (nt := n) (kd := kd') (ho := ho') (pl := pl') (st := st') (ea := ea) (c := nI i) with q | q | q <;> rw [q] <;> rcases hg with ⟨rfl, rfl⟩ | ⟨rfl, rfl⟩
    · rw [if_neg (by decide), if_pos rfl, if_pos rfl, if_neg (by decide), Int32.add_zero, e1]
    · rw [if_neg (by decide), if_neg (by decide), if_neg (by decide), if_pos rfl, Int32.add_zero, e2]
    · rw [if_neg (by decide), if_neg (by decide), if_neg (by decide), if_pos rfl, Int32.add_zero, e2]
    · rw [if_neg (by decide), if_pos rfl, if_pos rfl, if_neg (by decide), Int32.add_zero, e1]
    · rw [if_pos rfl, if_neg (by decide), if_neg (by decide), Int32.add_zero, Int32.add_zero]
    · rw [if_pos rfl, if_neg (by decide), if_neg (by decide), Int32.add_zero, Int32.add_zero]
theorem p_lead {n nc m : Nat} {ac ac' kd ho pl st kd' ho' pl' st' : Nat → Int32} {ea h : Int32} (h6 : n ≤ 6) (ht : TH n m kd ho pl st kd' ho' pl' st') (hc : TC nc ac ac') (hh : h = 0 ∨ h = 1) : m_X0_leadOf ac kd ho pl st nc n ea h = m_X3_leadOf nc ac' n kd' ho' pl' st' ea h := by
  have hg : (h = 0 ∧ 1 - h = 1) ∨ (h = 1 ∧ 1 - h = 0) := by
    rcases hh with rfl | rfl
    · exact Or.inl ⟨rfl, by decide⟩
    · exact Or.inr ⟨rfl, by decide⟩
  exact p_leX h6 ht hc hg nc 0 0 0 (Nat.zero_add _)
