/-! bounds of what the reference reads, and what a row of cells that isn't barred is -/
theorem rtb_L {sh : Nat → Int32} {fr nn rs : Nat} {rac : Nat → Int32} (hs : rs ≤ 6) : ∀ (k : Nat) (u : Int32) (ra rt : Nat) (rkd rho rpl rst : Nat → Int32), rt ≤ 6 → (m_X3_readsTable_L69 sh fr nn rs rac k u ra rt rkd rho rpl rst).2.2.1 ≤ 6 ∧ (m_X3_readsTable_L69 sh fr nn rs rac k u ra rt rkd rho rpl rst).2.2.2.1 ≤ 6 := by
  intro k
  induction k with
  | zero => exact fun u ra rt rkd rho rpl rst _ => ⟨Nat.zero_le _, Nat.zero_le _⟩
  | succ k ih =>
    intro u ra rt rkd rho rpl rst h6
    rw [m_X3_readsTable_L69_s]
    by_cases a : u = 0
    · rw [if_pos a]; exact ⟨hs, h6⟩
    · rw [if_neg a]
      by_cases b : nI rt = 0
      · rw [if_pos b]; exact ih _ _ _ _ _ _ _ (rth_6 h6)
      · rw [if_neg b]
        by_cases c : nI nn ≤ nI ra
        · rw [if_pos c]; exact ⟨hs, h6⟩
        · rw [if_neg c]; exact ih _ _ _ _ _ _ _ (rth_6 h6)
theorem rtb {rac rkd rho rpl rst sh : Nat → Int32} {fr nn : Nat} : (m_X3_readsTable rac rkd rho rpl rst sh fr nn).2.2.1 ≤ 6 ∧ (m_X3_readsTable rac rkd rho rpl rst sh fr nn).2.2.2.1 ≤ 6 := by
  unfold m_X3_readsTable m_X3_readsTable_X69
  by_cases a : ((if (m_X3_codeAt 0 sh fr nn) = 116 then 1 else 0) : Int32) = 0
  · rw [if_pos a, if_pos a]; exact rtb_L (by decide) _ _ _ _ _ _ _ _ (by decide)
  · rw [if_neg a, if_neg a]; exact rtb_L (rsq_6 (by decide)) _ _ _ _ _ _ _ _ (by decide)
theorem rtb_rs {rac rkd rho rpl rst sh : Nat → Int32} {fr nn : Nat} : (m_X3_readsTable rac rkd rho rpl rst sh fr nn).2.2.1 ≤ 6 := rtb.1
theorem rtb_rt {rac rkd rho rpl rst sh : Nat → Int32} {fr nn : Nat} : (m_X3_readsTable rac rkd rho rpl rst sh fr nn).2.2.2.1 ≤ 6 := rtb.2
theorem cb1 {fa r : Int32} {sz la : Nat → Int32} {k lane i n : Int32} (hsz : ∀ j, (sz j).toInt ≤ 60) (e : r = (m_X3_cellsBarred fa sz la k lane i n.toInt64).1) (h : 0 ≤ r) : ¬ i < 0 ∧ ¬ n < 0 ∧ i.toNatClampNeg + n.toNatClampNeg ≤ 60 := by
  have a3 := Int32.toInt_lt n
  obtain ⟨h1, h2, h3⟩ := cb_spec (by rw [Int32.toInt_toInt64]; omega) e h
  rw [Int32.toInt_toInt64] at h2 h3
  have z1 : (0 : Int32).toInt = 0 := rfl
  have h4 : ¬ n < 0 := by rw [Int32.lt_iff_toInt_lt, z1]; omega
  have e1 := clampI h1
  have e2 := clampI h4
  have h5 := hsz k.toNatClampNeg
  exact ⟨h1, h4, by omega⟩
