/-! an act of the reference that is taken back -/
theorem and_m1 (x : Int32) : x &&& (-1) = x := by
  refine b_ext fun i hi => ?_
  rw [b_and, b_m1 i hi, Bool.and_true]
theorem or_z (x : Int32) : x ||| 0 = x := by
  refine b_ext fun i hi => ?_
  rw [b_or, b_0, Bool.or_false]
theorem upd_pm {f : Nat → Int32} {k : Nat} {d e : Int32} (h : d + e = 0) : upd (upd f k (f k + d)) k ((upd f k (f k + d)) k + e) = f := by
  rw [upd_same]
  rw [pk_us, Int32.add_assoc, h, Int32.add_zero]
theorem undo_doM {pl : Nat → Int32} {nc : Nat} {ea act : Int32} {j : Nat} (hj : j < 32) (h : ¬ m_X3_mayAct nc pl ea (nI j) act = 0) : m_X3_undoAct (m_X3_doAct pl ea (nI j) act).1 (m_X3_doAct pl ea (nI j) act).2 (nI j) act = (pl, ea) := by
  have he : ¬ (ea >>> (nI j &&& 31)) &&& 1 = 1 := by
    intro q
    apply h
    unfold m_X3_mayAct m_X3_isIn
    rw [if_pos q, if_neg (by decide)]
  unfold m_X3_undoAct m_X3_doAct
  dsimp only
  by_cases a2 : act = 2
  · subst a2
    rw [if_neg (show ¬ (2 : Int32) = 0 by decide), if_neg (show ¬ (2 : Int32) = 1 by decide), if_neg (show ¬ (2 : Int32) = 0 by decide), if_neg (show ¬ (2 : Int32) = 1 by decide), if_pos rfl, if_pos rfl, upd_pm (by decide), ea_restore hj he]
  · rw [if_neg a2, if_neg a2, or_z, and_m1]
    by_cases a0 : act = 0
    · rw [if_pos a0, if_pos a0, upd_pm (by decide)]
    · rw [if_neg a0, if_neg a0]
      by_cases a1 : act = 1
      · rw [if_pos a1, if_pos a1, upd_pm (by decide)]
      · rw [if_neg a1, if_neg a1, upd_pm (by decide)]
theorem canMoveM {ho pl : Nat → Int32} {nc : Nat} {ea v1 : Int32} {mv : Nat} (h : ¬ m_X3_mayMove nc ho pl ea v1 mv = 0) : ¬ m_X3_mayAct nc pl ea (nI (mv / 3)) (nI (mv % 3)) = 0 := by
  intro q
  apply h
  unfold m_X3_mayMove
  by_cases e : ho (mv / 3) = v1
  · rw [if_pos e, if_pos q]
  · rw [if_neg e]
theorem tw_d3x {x : Int32} {a : Nat} (h : x = nI a) (ha : a < 2 ^ 31) : x / 3 = nI (a / 3) := by
  subst h; exact tw_d3 ha
theorem tw_r3x {x : Int32} {a : Nat} (h : x = nI a) (ha : a < 2 ^ 31) : x - x / 3 * 3 = nI (a % 3) := by
  subst h; exact tw_r3 ha
theorem tw_le60 {x : Int32} (h1 : ¬ x < 0) (h2 : x ≤ 60) : x.toNatClampNeg ≤ 60 := by
  obtain ⟨j, hj, rfl⟩ := nI_of h1
  rw [nI_clamp hj]
  exact (nI_leI (b := 60) hj (by decide)).mp h2
theorem ix60v {x y : Int32} {a b : Nat} (h : x = nI a) (h2 : y = nI b) : 60 * x + y = nI (60 * a + b) := by
  subst h2; exact ix60 h
theorem ix60i {x y : Int32} {a b c : Nat} (h : x = nI a) (h2 : y = nI b) : 60 * x + y + nI c = nI (60 * a + b + c) := by
  rw [ix60v h h2, nI_add]
theorem noCell_in {sz : Nat → Int32} {x y : Int32} (hsz : ∀ j, (sz j).toInt ≤ 60) (h : m_X3_noCell sz x y ≤ 0) : vp_in y 60 := by
  unfold m_X3_noCell at h
  by_cases a : 0 ≤ sz x.toNatClampNeg
  · rw [if_pos a] at h
    by_cases b : m_X3_in y.toInt64 0 (((sz x.toNatClampNeg).toInt64) - 1) = 0
    · rw [if_pos b] at h; exact absurd h (by decide)
    · have h2 := in_iff.mp b
      obtain ⟨n, hn, e⟩ := nI_of (Int32.not_lt.mpr a)
      have h3 := hsz x.toNatClampNeg
      rw [e, nI_toInt hn] at h3
      rw [e, n64_m1 (by omega)] at h2
      exact vp_in_of_int h2.1 h2.2 (by omega)
  · rw [if_neg a] at h; exact absurd h (by decide)
theorem add64 {a b : Int64} (h1 : 0 ≤ a.toInt) (h2 : a.toInt < 2 ^ 40) (h3 : 0 ≤ b.toInt) (h4 : b.toInt < 2 ^ 40) : (a + b).toInt = a.toInt + b.toInt := by
  have z : (0 : Int64).toInt = 0 := rfl
  obtain ⟨m, hm, rfl⟩ := pk_lOf (x := a) (by rw [Int64.lt_iff_toInt_lt, z]; omega)
  obtain ⟨n, hn, rfl⟩ := pk_lOf (x := b) (by rw [Int64.lt_iff_toInt_lt, z]; omega)
  rw [pk_lT hm] at h2 ⊢
  rw [pk_lT hn] at h4 ⊢
  rw [lN_add, pk_lT (by omega)]
  omega
theorem beyond_0 {i z : Int32} {n : Int64} (hn : n.toInt < 2 ^ 40) (h : m_X3_isBeyond i n z = 0) : ¬ i < 0 ∧ 0 ≤ n.toInt ∧ i.toInt + n.toInt ≤ z.toInt := by
  unfold m_X3_isBeyond at h
  by_cases a : i < 0
  · rw [if_pos a] at h; exact absurd h (by decide)
  · rw [if_neg a] at h
    by_cases b : lg_cmp n 0 < 0
    · rw [if_pos b] at h; exact absurd h (by decide)
    · rw [if_neg b] at h
      by_cases c : lg_cmp (i.toInt64 + n) z.toInt64 ≤ 0
      · have z0 : (0 : Int64).toInt = 0 := rfl
        have z1 : (0 : Int32).toInt = 0 := rfl
        rw [lgc_lt, Int64.lt_iff_toInt_lt, z0] at b
        rw [lgc_le, Int64.le_iff_toInt_le, Int32.toInt_toInt64] at c
        have a2 := a
        rw [Int32.lt_iff_toInt_lt, z1] at a2
        have a3 := Int32.toInt_lt i
        rw [add64 (by rw [Int32.toInt_toInt64]; omega) (by rw [Int32.toInt_toInt64]; omega) (by omega) hn, Int32.toInt_toInt64] at c
        exact ⟨a, by omega, c⟩
      · rw [if_neg c] at h; exact absurd h (by decide)
theorem clampI {x : Int32} (h : ¬ x < 0) : (x.toNatClampNeg : Int) = x.toInt := by
  obtain ⟨j, hj, rfl⟩ := nI_of h
  rw [nI_clamp hj, nI_toInt hj]
theorem beyond_in {i n z : Int32} (hz : z.toInt ≤ 60) (h : m_X3_isBeyond i n.toInt64 z = 0) : ¬ i < 0 ∧ ¬ n < 0 ∧ i.toNatClampNeg + n.toNatClampNeg ≤ 60 := by
  have a3 := Int32.toInt_lt n
  obtain ⟨h1, h2, h3⟩ := beyond_0 (by rw [Int32.toInt_toInt64]; omega) h
  rw [Int32.toInt_toInt64] at h2 h3
  have z1 : (0 : Int32).toInt = 0 := rfl
  have h4 : ¬ n < 0 := by rw [Int32.lt_iff_toInt_lt, z1]; omega
  have e1 := clampI h1
  have e2 := clampI h4
  exact ⟨h1, h4, by omega⟩
theorem cb_spec {fa r : Int32} {sz la : Nat → Int32} {k lane i : Int32} {n : Int64} (hn : n.toInt < 2 ^ 40) (e : r = (m_X3_cellsBarred fa sz la k lane i n).1) (h : 0 ≤ r) : ¬ i < 0 ∧ 0 ≤ n.toInt ∧ i.toInt + n.toInt ≤ (sz k.toNatClampNeg).toInt := by
  by_cases q : m_X3_isBeyond i n (sz k.toNatClampNeg) = 0
  · exact beyond_0 hn q
  · exfalso
    rw [e] at h
    unfold m_X3_cellsBarred at h
    rw [if_neg q] at h
    revert h
    (repeat' split) <;> decide
