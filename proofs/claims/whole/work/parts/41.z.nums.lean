/-! numbers that the reference's walks take -/
theorem bits_k {u : Int32} {k : Nat} (hl : u.toInt < 2 ^ (k + 1 - 1)) (h : ¬ u ≤ 0) : 1 ≤ k := by
  rcases Nat.eq_zero_or_pos k with q | q
  · subst q
    have h1 : u.toInt < 1 := hl
    refine absurd (Int32.le_iff_toInt_le.mpr ?_) h
    show u.toInt ≤ 0
    omega
  · exact q
theorem bits_s {u : Int32} {k : Nat} (hl : u.toInt < 2 ^ (k + 1 - 1)) (h : ¬ u ≤ 0) : (u >>> (1 &&& 31)).toInt < 2 ^ (k - 1) := by
  have hk := bits_k hl h
  obtain ⟨j, rfl⟩ : ∃ j, k = j + 1 := ⟨k - 1, by omega⟩
  rw [pk_shr u _ 1 (by decide +kernel), Int.shiftRight_eq_div_pow]
  have h2 : u.toInt < 2 ^ (j + 1) := hl
  rw [Int.pow_succ] at h2
  show u.toInt / 2 < 2 ^ j
  omega
theorem lgc0 {n : Nat} (h : n < 2 ^ 31) (q : lg_cmp (lN n) 0 = 0) : n = 0 := by
  unfold lg_cmp at q
  by_cases a : lN n > 0
  · rw [if_pos a] at q; exact absurd q (by decide)
  · by_cases b : lN n = 0
    · exact (lN_eq (b := 0) h (by decide)).mp b
    · rw [if_neg a, if_neg b] at q; exact absurd q (by decide)
theorem lgc_lt {x y : Int64} : lg_cmp x y < 0 ↔ x < y := by
  unfold lg_cmp
  by_cases a : x > y
  · rw [if_pos a]; exact ⟨fun q => absurd q (by decide), fun q => absurd (Int64.lt_trans q a) (Int64.lt_irrefl)⟩
  · by_cases b : x = y
    · subst b
      rw [if_neg a, if_pos rfl]; exact ⟨fun q => absurd q (by decide), fun q => absurd q a⟩
    · rw [if_neg a, if_neg b]
      refine ⟨fun _ => ?_, fun _ => by decide⟩
      rcases Int64.lt_or_eq_of_le (Int64.not_lt.mp a) with q | q
      · exact q
      · exact absurd q b
theorem lgc_gt {x y : Int64} : 0 < lg_cmp x y ↔ y < x := by
  unfold lg_cmp
  by_cases a : x > y
  · rw [if_pos a]; exact ⟨fun _ => a, fun _ => by decide⟩
  · by_cases b : x = y
    · rw [if_neg a, if_pos b]; exact ⟨fun q => absurd q (by decide), fun q => absurd q a⟩
    · rw [if_neg a, if_neg b]; exact ⟨fun q => absurd q (by decide), fun q => absurd q a⟩
theorem lgc_ge {x y : Int64} : 0 ≤ lg_cmp x y ↔ y ≤ x := by
  rw [← Int32.not_lt, lgc_lt, Int64.not_lt]
theorem lgc_le {x y : Int64} : lg_cmp x y ≤ 0 ↔ x ≤ y := by
  rw [← Int32.not_lt, lgc_gt, Int64.not_lt]
theorem ix60 {x : Int32} {a b : Nat} (h : x = nI a) : 60 * x + nI b = nI (60 * a + b) := by
  subst h
  rw [show (60 : Int32) = nI 60 from rfl, pk_mul, nI_add]
theorem ix2 (f i : Nat) : nI f + 2 * nI i = nI (f + 2 * i) := by
  rw [show (2 : Int32) = nI 2 from rfl, pk_mul, nI_add]
theorem nI_ofvp {x : Int32} {n : Nat} (h : vp_in x n) (hn : n < 2 ^ 31) : x = nI x.toNatClampNeg ∧ x.toNatClampNeg < n := by
  obtain ⟨j, hj, rfl⟩ := vp_in_of h hn
  rw [nI_clamp (by omega)]
  exact ⟨rfl, hj⟩
