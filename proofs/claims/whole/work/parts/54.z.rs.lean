/-! bounds of what the reference reads -/
theorem rsq_L {sh : Nat → Int32} {fr nn : Nat} : ∀ (k : Nat) (u : Int32) (rac : Nat → Int32) (rs ra : Nat), (m_X3_readsSquares_L2 sh fr nn k u rac rs ra).2.2.2 ≤ ra + k := by
  intro k
  induction k with
  | zero => exact fun u rac rs ra => Nat.zero_le _
  | succ k ih =>
    intro u rac rs ra
    have hf := fig_le (ra := ra) (sh := sh) (fr := fr) (nn := nn) (v3 := 9)
    rw [m_X3_readsSquares_L2_s]
    by_cases a : 6 ≤ nI rs
    · rw [if_pos a]; exact Nat.le_add_right ra (k + 1)
    · rw [if_neg a]
      by_cases b : u = 0
      · rw [if_pos b]; exact Nat.le_add_right ra (k + 1)
      · rw [if_neg b]
        by_cases c : ((if ((m_X3_figure ra sh 9 fr nn).1) < 0 then 0 else 1) : Int32) = 0
        · rw [if_pos c]; exact Nat.le_trans (ih _ _ _ _) (by omega)
        · rw [if_neg c]; exact Nat.le_trans (ih _ _ _ _) (by omega)
theorem rsq_ra {rac sh : Nat → Int32} {fr nn rs ra : Nat} : (m_X3_readsSquares ra rs rac sh fr nn).2.2.2 ≤ ra + 8 := Nat.le_trans (rsq_L (8 - rs) 1 rac rs ra) (by omega)
theorem rsq_L6 {sh : Nat → Int32} {fr nn : Nat} : ∀ (k : Nat) (u : Int32) (rac : Nat → Int32) (rs ra : Nat), rs ≤ 6 → (m_X3_readsSquares_L2 sh fr nn k u rac rs ra).2.2.1 ≤ 6 := by
  intro k
  induction k with
  | zero => exact fun u rac rs ra _ => Nat.zero_le _
  | succ k ih =>
    intro u rac rs ra h6
    rw [m_X3_readsSquares_L2_s]
    by_cases a : 6 ≤ nI rs
    · rw [if_pos a]; exact h6
    · rw [if_neg a]
      have hlt : rs < 6 := Nat.lt_of_not_le (fun q => a (nI_le (a := 6) q (by omega)))
      by_cases b : u = 0
      · rw [if_pos b]; exact h6
      · rw [if_neg b]
        by_cases c : ((if ((m_X3_figure ra sh 9 fr nn).1) < 0 then 0 else 1) : Int32) = 0
        · rw [if_pos c]; exact ih _ _ _ _ h6
        · rw [if_neg c]; exact ih _ _ _ _ (by omega)
theorem rsq_6 {rac sh : Nat → Int32} {fr nn rs ra : Nat} (h : rs ≤ 6) : (m_X3_readsSquares ra rs rac sh fr nn).2.2.1 ≤ 6 := rsq_L6 (8 - rs) 1 rac rs ra h
def rthP (ra rt : Nat) (r : Int32) (ra' rt' : Nat) : Prop := ra' ≤ ra + 5 ∧ ((r = 0 ∧ rt' = rt) ∨ (r = 1 ∧ rt' = rt + 1))
theorem rth_X {ra rs rt fr nn : Nat} {rkd rho rpl rst sh : Nat → Int32} : rthP ra rt (m_X3_readsThing_X59 ra rs rt rkd rho rpl rst sh fr nn).1 (m_X3_readsThing_X59 ra rs rt rkd rho rpl rst sh fr nn).2.1 (m_X3_readsThing_X59 ra rs rt rkd rho rpl rst sh fr nn).2.2.1 := by
  have f1 := fig_le (ra := ra + 1 + 1) (sh := sh) (fr := fr) (nn := nn) (v3 := 1)
  have f2 := fig_le (ra := (m_X3_figure ((ra + 1) + 1) sh 1 fr nn).2) (sh := sh) (fr := fr) (nn := nn) (v3 := (nI rs) - 1)
  have f3 := fig_le (ra := (m_X3_figure ((m_X3_figure ((ra + 1) + 1) sh 1 fr nn).2) sh ((nI rs) - 1) fr nn).2) (sh := sh) (fr := fr) (nn := nn) (v3 := 9)
  unfold m_X3_readsThing_X59
  by_cases a : 0 ≤ ((m_X3_figure ((ra + 1) + 1) sh 1 fr nn).1)
  · rw [if_pos a]
    by_cases b : 0 ≤ ((m_X3_figure ((m_X3_figure ((ra + 1) + 1) sh 1 fr nn).2) sh ((nI rs) - 1) fr nn).1)
    · rw [if_pos b]
      by_cases c : 0 ≤ ((m_X3_figure ((m_X3_figure ((m_X3_figure ((ra + 1) + 1) sh 1 fr nn).2) sh ((nI rs) - 1) fr nn).2) sh 9 fr nn).1)
      · rw [if_pos c]; exact ⟨by dsimp only; omega, Or.inr ⟨rfl, rfl⟩⟩
      · rw [if_neg c]; exact ⟨by dsimp only; omega, Or.inl ⟨rfl, rfl⟩⟩
    · rw [if_neg b]; exact ⟨by dsimp only; omega, Or.inl ⟨rfl, rfl⟩⟩
  · rw [if_neg a]; exact ⟨by dsimp only; omega, Or.inl ⟨rfl, rfl⟩⟩
theorem rth_all {ra rs rt fr nn : Nat} {rkd rho rpl rst sh : Nat → Int32} (h6 : rt ≤ 6) : rthP ra rt (m_X3_readsThing ra rs rt rkd rho rpl rst sh fr nn).1 (m_X3_readsThing ra rs rt rkd rho rpl rst sh fr nn).2.1 (m_X3_readsThing ra rs rt rkd rho rpl rst sh fr nn).2.2.1 ∧ (m_X3_readsThing ra rs rt rkd rho rpl rst sh fr nn).2.2.1 ≤ 6 := by
  unfold m_X3_readsThing
  by_cases a : nI rt = 6
  · rw [if_pos a]; exact ⟨⟨by dsimp only; omega, Or.inl ⟨rfl, rfl⟩⟩, h6⟩
  · have hlt : rt < 6 := by
      rcases Nat.lt_or_eq_of_le h6 with q | q
      · exact q
      · exact absurd (by rw [q]; rfl) a
    have hx := rth_X (ra := ra) (rs := rs) (rt := rt) (rkd := rkd) (rho := rho) (rpl := rpl) (rst := rst) (sh := sh) (fr := fr) (nn := nn)
    have hx6 : (m_X3_readsThing_X59 ra rs rt rkd rho rpl rst sh fr nn).2.2.1 ≤ 6 := by
      rcases hx.2 with q | q
      · rw [q.2]; exact h6
      · rw [q.2]; exact hlt
    rw [if_neg a]
    by_cases b : (m_X3_codeAt ra sh fr nn) = 59
    · rw [if_pos b]
      by_cases c : (m_X3_codeAt (ra + 1) sh fr nn) = 102
      · rw [if_pos c]; exact ⟨hx, hx6⟩
      · rw [if_neg c]
        by_cases d : (m_X3_codeAt (ra + 1) sh fr nn) = 115
        · rw [if_pos d]; exact ⟨hx, hx6⟩
        · rw [if_neg d]
          by_cases e : (m_X3_codeAt (ra + 1) sh fr nn) = 103
          · rw [if_pos e]; exact ⟨hx, hx6⟩
          · rw [if_neg e]; exact ⟨⟨by dsimp only; omega, Or.inl ⟨rfl, rfl⟩⟩, h6⟩
    · rw [if_neg b]; exact ⟨⟨by dsimp only; omega, Or.inl ⟨rfl, rfl⟩⟩, h6⟩
theorem rth_f {ra rs rt fr nn k : Nat} {rkd rho rpl rst sh : Nat → Int32} (hk : rt + (k + 1) = 8) (h6 : rt ≤ 6) : (m_X3_readsThing ra rs rt rkd rho rpl rst sh fr nn).2.2.1 + k = 8 ∨ ((m_X3_readsThing ra rs rt rkd rho rpl rst sh fr nn).1 = 0 ∧ 1 ≤ k) := by
  rcases (rth_all h6).1.2 with q | q
  · exact Or.inr ⟨q.1, by omega⟩
  · exact Or.inl (by rw [q.2]; omega)
theorem rth_6 {ra rs rt fr nn : Nat} {rkd rho rpl rst sh : Nat → Int32} (h6 : rt ≤ 6) : (m_X3_readsThing ra rs rt rkd rho rpl rst sh fr nn).2.2.1 ≤ 6 := (rth_all h6).2
theorem rth_ra {ra rs rt fr nn : Nat} {rkd rho rpl rst sh : Nat → Int32} (h6 : rt ≤ 6) : (m_X3_readsThing ra rs rt rkd rho rpl rst sh fr nn).2.1 ≤ ra + 5 := (rth_all h6).1.1
theorem rth_b {ra rs rt fr nn : Nat} {rkd rho rpl rst sh : Nat → Int32} (h6 : rt ≤ 6) : (m_X3_readsThing ra rs rt rkd rho rpl rst sh fr nn).1 = 0 ∨ (m_X3_readsThing ra rs rt rkd rho rpl rst sh fr nn).1 = 1 := by
  rcases (rth_all h6).1.2 with q | q
  · exact Or.inl q.1
  · exact Or.inr q.1
