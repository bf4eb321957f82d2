theorem tw_pow : ∀ n, n ≤ 6 → (1 : Int32) <<< (nI n &&& 31) = nI (2 ^ n) := by
  intro n h
  have : ∀ n, n < 7 → (1 : Int32) <<< (nI n &&& 31) = nI (2 ^ n) := by decide +kernel
  exact this n (by omega)
theorem tw_p64 : ∀ {n}, n ≤ 6 → 2 ^ n ≤ 64 := by
  intro n h
  exact Nat.le_trans (Nat.pow_le_pow_right (by decide) h) (by decide)
theorem tw_d3 {i : Nat} (h : i < 2 ^ 31) : nI i / 3 = nI (i / 3) := pk_div (d := 3) h (by decide) (by decide)
theorem tw_r3 {i : Nat} (h : i < 2 ^ 31) : nI i - nI i / 3 * 3 = nI (i % 3) := pk_rem (d := 3) h (by decide) (by decide)
theorem tw_r2 {i : Nat} (h : i < 2 ^ 31) : nI i - nI i / 2 * 2 = nI (i % 2) := pk_rem (d := 2) h (by decide) (by decide)
theorem tw_inN {x : Int32} {n : Nat} (h1 : ¬ x < 0) (h2 : ¬ nI n ≤ x) (h3 : n ≤ 6) : vp_in x 6 := tw_in h1 (Int32.not_le.mp h2) (by rw [nI_toInt (by omega)]; omega)
theorem tw_min4 {n u : Nat} (h : u < n) (hn : n ≤ 60) : (if nI n - nI u - 1 < 4 then nI n - nI u - 1 else (4 : Int32)) = nI (min 4 (n - u - 1)) := by
  have e : nI n - nI u - 1 = nI (n - u - 1) := by
    rw [pk_sub (by omega)]
    exact pk_sub (b := 1) (by omega)
  rw [e]
  by_cases q : n - u - 1 < 4
  · have p : nI (n - u - 1) < 4 := nI_lt (b := 4) q (by decide)
    rw [if_pos p, Nat.min_eq_right (by omega)]
  · have p : ¬ nI (n - u - 1) < 4 := nI_nlt (b := 4) (by omega) (by omega)
    rw [if_neg p, Nat.min_eq_left (by omega)]; rfl
