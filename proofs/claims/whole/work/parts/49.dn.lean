/-! what the reference's dinner takes -/
theorem in20 {x : Int32} (h : ¬ m_X3_in x.toInt64 0 20 = 0) : ¬ x < 0 ∧ x.toNatClampNeg ≤ 20 := by
  have h2 := in_iff.mp h
  have e0 : (0 : Int64).toInt = 0 := rfl
  have e1 : (20 : Int64).toInt = 20 := rfl
  have e2 : (0 : Int32).toInt = 0 := rfl
  rw [e0, e1] at h2
  have h3 : ¬ x < 0 := by rw [Int32.lt_iff_toInt_lt, e2]; omega
  have h4 := clampI h3
  exact ⟨h3, by omega⟩
theorem dbl {x : Int32} (h : ¬ x < 0) (h2 : x.toNatClampNeg ≤ 20) : (2 * x.toInt64).toInt = 2 * x.toInt := by
  obtain ⟨j, hj, rfl⟩ := nI_of h
  rw [nI_clamp hj] at h2
  rw [nI_l hj, show (2 : Int64) = lN 2 from rfl, lN_mul, lN_toInt (by omega), nI_toInt hj]
  omega
theorem cb2 {fa r : Int32} {sz la : Nat → Int32} {k lane i n : Int32} (hsz : ∀ j, (sz j).toInt ≤ 60) (h0 : ¬ n < 0) (h20 : n.toNatClampNeg ≤ 20) (e : r = (m_X3_cellsBarred fa sz la k lane i (2 * n.toInt64)).1) (h : 0 ≤ r) : ¬ i < 0 ∧ i.toNatClampNeg + 2 * n.toNatClampNeg ≤ 60 := by
  have hd := dbl h0 h20
  have hc := clampI h0
  obtain ⟨h1, h2, h3⟩ := cb_spec (by rw [hd]; omega) e h
  have h4 := clampI h1
  have h5 := hsz k.toNatClampNeg
  rw [hd] at h3
  exact ⟨h1, by omega⟩
theorem pb_L {nt : Nat} {sh : Nat → Int32} {fr N : Nat} (hn : nt ≤ 6) : ∀ (k i : Nat), i + k = N → 0 ≤ m_X3_pairsBarred_L2 nt sh fr k i → ∀ j, i ≤ j → j < N → vp_in (sh (fr + 2 * j)) 6 := by
  intro k
  induction k with
  | zero => exact fun i hk _ j h1 h2 => absurd h2 (by omega)
  | succ k ih =>
    intro i hk h j h1 h2
    rw [m_X3_pairsBarred_L2_s] at h
    by_cases a : m_X3_noThing nt (sh (fr + 2 * i)) = 0
    · rw [if_pos a] at h
      by_cases b : m_X3_in (sh (fr + 2 * i + 1)).toInt64 0 2 = 0
      · rw [if_pos b] at h; exact absurd h (by decide)
      · rw [if_neg b] at h
        by_cases e : j = i
        · subst e; exact noThing_in hn a
        · exact ih (i + 1) (by omega) h j (by omega) h2
    · rw [if_neg a] at h; exact absurd h (by decide)
theorem pb_spec {nt : Nat} {sh : Nat → Int32} {fr N : Nat} {r : Int32} (hn : nt ≤ 6) (e : r = m_X3_pairsBarred nt sh fr N) (h : 0 ≤ r) : ∀ j, j < N → vp_in (sh (fr + 2 * j)) 6 := fun j hj => pb_L hn N 0 (Nat.zero_add _) (by rw [e] at h; exact h) j (Nat.zero_le _) hj
