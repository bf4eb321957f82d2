/-! what the reference's own tests say -/
theorem in_1 {v a b : Int64} (h : ¬ m_X3_in v a b = 0) : a ≤ v ∧ v ≤ b := by
  by_cases p : lg_cmp v a < 0
  · exact absurd (by unfold m_X3_in; rw [if_pos p]) h
  · by_cases q : 0 < lg_cmp v b
    · exact absurd (by unfold m_X3_in; rw [if_neg p, if_pos q]) h
    · rw [lgc_lt] at p
      rw [lgc_gt] at q
      exact ⟨Int64.not_lt.mp p, Int64.not_lt.mp q⟩
theorem in_0 {v a b : Int64} (h : a ≤ v ∧ v ≤ b) : ¬ m_X3_in v a b = 0 := by
  have p : ¬ lg_cmp v a < 0 := by rw [lgc_lt]; exact Int64.not_lt.mpr h.1
  have q : ¬ 0 < lg_cmp v b := by rw [lgc_gt]; exact Int64.not_lt.mpr h.2
  unfold m_X3_in
  rw [if_neg p, if_neg q]
  decide
theorem in_iff {x : Int32} {a b : Int64} : ¬ m_X3_in x.toInt64 a b = 0 ↔ a.toInt ≤ x.toInt ∧ x.toInt ≤ b.toInt := by
  constructor
  · intro h
    have := in_1 h
    rw [Int64.le_iff_toInt_le, Int64.le_iff_toInt_le, Int32.toInt_toInt64] at this
    exact this
  · intro h
    apply in_0
    rw [Int64.le_iff_toInt_le, Int64.le_iff_toInt_le, Int32.toInt_toInt64]
    exact h
theorem n64_m1 {n : Nat} (h : n ≤ 240) : ((nI n).toInt64 - 1).toInt = (n : Int) - 1 := by
  have : ∀ n, n < 241 → ((nI n).toInt64 - 1).toInt = (n : Int) - 1 := by decide +kernel
  exact this n (by omega)
theorem vp_in_of_int {x : Int32} {n m : Nat} (h : 0 ≤ x.toInt) (h2 : x.toInt ≤ (n : Int) - 1) (hm : n ≤ m) : vp_in x m := vp_in_iff.mpr ⟨h, by omega⟩
theorem noThing_in {nt : Nat} {x : Int32} (hn : nt ≤ 6) (h : m_X3_noThing nt x = 0) : vp_in x 6 := by
  have h1 : ¬ m_X3_in x.toInt64 0 ((nI nt).toInt64 - 1) = 0 := by
    intro q
    unfold m_X3_noThing at h
    rw [if_pos q] at h
    exact absurd h (by decide)
  have h2 := in_iff.mp h1
  rw [n64_m1 (by omega)] at h2
  exact vp_in_of_int h2.1 h2.2 hn
theorem noSquare_in {nt : Nat} {x : Int32} (hn : nt ≤ 6) (h : m_X3_noSquare nt x = 0) : vp_in x 6 := by
  have h1 : ¬ m_X3_in x.toInt64 0 ((nI nt).toInt64 - 1) = 0 := by
    intro q
    unfold m_X3_noSquare at h
    rw [if_pos q] at h
    exact absurd h (by decide)
  have h2 := in_iff.mp h1
  rw [n64_m1 (by omega)] at h2
  exact vp_in_of_int h2.1 h2.2 hn
theorem noSheet_in {x : Int32} (h : m_X3_noSheet x = 0) : vp_in x 4 := by
  have h1 : ¬ m_X3_in x.toInt64 0 3 = 0 := by
    intro q
    unfold m_X3_noSheet at h
    rw [if_pos q] at h
    exact absurd h (by decide)
  have h2 := in_iff.mp h1
  exact vp_in_iff.mpr ⟨h2.1, by have := h2.2; have e : (3 : Int64).toInt = 3 := rfl; omega⟩
theorem odds_pos {i u : Nat} {ea : Int32} (h : 0 < i → 0 < u) (c : ¬ nI i &&& ea = 0) : 0 < u := by
  rcases Nat.eq_zero_or_pos i with q | q
  · subst q
    exact absurd (show nI 0 &&& ea = 0 from Int32.zero_and) c
  · exact h q
theorem tw_backM {x : Int32} {n : Nat} (h : ¬ m_X3_in x.toInt64 0 (nI n).toInt64 = 0) (hn : n ≤ 8) : nI n - x = nI (n - x.toNatClampNeg) := by
  have h2 := in_iff.mp h
  rw [nI_l (by omega), lN_toInt (by omega)] at h2
  have h1 : ¬ x < 0 := by
    rw [Int32.lt_iff_toInt_lt]
    exact Int.not_lt.mpr h2.1
  refine tw_back h1 ?_ hn
  rw [Int32.le_iff_toInt_le, nI_toInt (by omega)]
  exact h2.2
