/-! the best move of the reference is a move that can be -/
theorem gm_L {nc : Nat} {ac : Nat → Int32} {nt : Nat} {kd ho pl st : Nat → Int32} {ea v1 : Int32} {N : Nat} : ∀ (k i : Nat) (u3 u2 : Int32), i + k = N → (0 ≤ u2 → ∃ mv, mv < N ∧ u2 = nI mv ∧ ¬ m_X3_mayMove nc ho pl ea v1 mv = 0) → 0 ≤ (m_X3_goodMove_L9 nc ac nt kd ho pl st ea v1 k i u3 u2).2 → ∃ mv, mv < N ∧ (m_X3_goodMove_L9 nc ac nt kd ho pl st ea v1 k i u3 u2).2 = nI mv ∧ ¬ m_X3_mayMove nc ho pl ea v1 mv = 0 := by
  intro k
  induction k with
  | zero => exact fun i u3 u2 _ h0 h => h0 h
  | succ k ih =>
    intro i u3 u2 hk h0 h
    rw [m_X3_goodMove_L9_s] at h ⊢
    by_cases c : m_X3_mayMove nc ho pl ea v1 i = 0
    · rw [if_pos c] at h ⊢
      exact ih (i + 1) u3 u2 (by omega) h0 h
    · rw [if_neg c] at h ⊢
      refine ih (i + 1) _ _ (by omega) (fun q => ?_) h
      have hi : ∃ mv, mv < N ∧ nI i = nI mv ∧ ¬ m_X3_mayMove nc ho pl ea v1 mv = 0 := ⟨i, by omega, rfl, c⟩
      by_cases a : u2 < 0
      · rw [if_pos a]; exact hi
      · rw [if_neg a] at q ⊢
        have h1 := h0 (Int32.not_lt.mp a)
        split
        · exact h1
        · exact hi
theorem gm_spec {nc : Nat} {ac : Nat → Int32} {nt : Nat} {kd ho pl st : Nat → Int32} {ea v1 x : Int32} (hn : nt ≤ 6) (e : x = m_X3_goodMove nc ac nt kd ho pl st ea v1) (h : 0 ≤ x) : x = nI x.toNatClampNeg ∧ x.toNatClampNeg < 3 * nt ∧ ¬ m_X3_mayMove nc ho pl ea v1 x.toNatClampNeg = 0 := by
  have h2 := h
  rw [e] at h2
  obtain ⟨mv, h3, h4, h5⟩ := gm_L (N := 3 * nt) (3 * nt) 0 (-9) (-9) (Nat.zero_add _) (fun q => absurd q (by decide)) h2
  have e2 : x = nI mv := e.trans h4
  rw [e2, nI_clamp (by omega)]
  exact ⟨rfl, h3, h5⟩
