/-! small rows that the walks of TableWar's methods take -/
theorem isThing_in {nt : Nat} {x : Int32} (hn : nt ≤ 6) (h : ¬ m_X2_isThing nt x = 0) : vp_in x 6 := by
  by_cases a : x < 0
  · exact absurd (by unfold m_X2_isThing; rw [if_pos a]) h
  · by_cases b : nI nt ≤ x
    · exact absurd (by unfold m_X2_isThing; rw [if_neg a, if_pos b]) h
    · exact tw_inN a b hn
theorem isCell_in {nc : Nat} {x : Int32} (hn : nc ≤ 6) (h : ¬ m_X2_isCell nc x = 0) : vp_in x 6 := by
  by_cases a : x < 0
  · exact absurd (by unfold m_X2_isCell; rw [if_pos a]) h
  · by_cases b : nI nc ≤ x
    · exact absurd (by unfold m_X2_isCell; rw [if_neg a, if_pos b]) h
    · exact tw_inN a b hn
theorem isSheet_3 {x : Int32} (h : ¬ m_X2_isSheet x = 0) (h0 : ¬ x = 0) (h1 : ¬ x = 1) (h2 : ¬ x = 2) : x = 3 := by
  by_cases a : x < 0
  · exact absurd (by unfold m_X2_isSheet; rw [if_pos a]) h
  · by_cases b : 4 ≤ x
    · exact absurd (by unfold m_X2_isSheet; rw [if_neg a, if_pos b]) h
    · obtain ⟨j, hj, rfl⟩ := vp_in_of (tw_in (n := 4) a (Int32.not_le.mp b) (by decide)) (by decide)
      have : j = 0 ∨ j = 1 ∨ j = 2 ∨ j = 3 := by omega
      rcases this with rfl | rfl | rfl | rfl
      · exact absurd rfl h0
      · exact absurd rfl h1
      · exact absurd rfl h2
      · rfl
def tw_up2 (f : Nat → Nat → Int32) (k : Nat) (g : Nat → Int32) : Nat → Nat → Int32 := fun j => if j = k then g else f j
theorem tw_nat {x : Int32} (h : ¬ x < 0) : x = nI x.toNatClampNeg := by
  obtain ⟨j, hj, rfl⟩ := nI_of h
  rw [nI_clamp hj]
theorem tw_back {x : Int32} {n : Nat} (h1 : ¬ x < 0) (h2 : x ≤ nI n) (hn : n ≤ 8) : nI n - x = nI (n - x.toNatClampNeg) := by
  obtain ⟨j, hj, rfl⟩ := nI_of h1
  rw [nI_clamp hj]
  exact pk_sub ((nI_leI hj (by omega)).mp h2)
theorem tw_le20 {x : Int32} (h1 : ¬ x < 0) (h2 : ¬ 20 < x) : x.toNatClampNeg ≤ 20 := by
  obtain ⟨j, hj, rfl⟩ := nI_of h1
  rw [nI_clamp hj]
  exact Nat.le_of_not_lt (fun q => h2 (nI_lt (a := 20) q hj))
theorem upd_id (f : Nat → Int32) (k : Nat) : upd f k (f k) = f := by
  funext j
  by_cases e : j = k
  · subst e; rw [pk_us]
  · rw [pk_un e]
theorem tw_uu {f g : Nat → Int32} {k : Nat} {a b : Int32} (h : upd f k b = g) : upd (upd f k a) k b = g := by
  rw [← h]
  funext j
  by_cases e : j = k
  · subst e; rw [pk_us, pk_us]
  · rw [pk_un e, pk_un e, pk_un e]
theorem hasCells_in {z i n : Int32} (hz : z.toInt ≤ 60) (hn : ¬ n < 0) (h : ¬ m_X1_hasCells z i n = 0) : ¬ i < 0 ∧ i.toNatClampNeg + n.toNatClampNeg ≤ 60 := by
  by_cases a : i < 0
  · exact absurd (by unfold m_X1_hasCells; rw [if_pos a]) h
  · by_cases b : z < i
    · exact absurd (by unfold m_X1_hasCells; rw [if_neg a, if_pos b]) h
    · by_cases c : z - i < n
      · exact absurd (by unfold m_X1_hasCells; rw [if_neg a, if_neg b, if_pos c]) h
      · obtain ⟨j, hj, rfl⟩ := nI_of a
        obtain ⟨k, hk, rfl⟩ := nI_of hn
        refine ⟨a, ?_⟩
        rw [nI_clamp hj, nI_clamp hk]
        have h0 : (0 : Int32).toInt = 0 := rfl
        rw [Int32.lt_iff_toInt_lt, nI_toInt hj] at b
        have hz0 : ¬ z < 0 := by rw [Int32.lt_iff_toInt_lt, h0]; omega
        obtain ⟨w, hw, rfl⟩ := nI_of hz0
        rw [nI_toInt hw] at b hz
        rw [pk_sub (by omega)] at c
        have := Nat.le_of_not_lt (fun q => c (nI_lt q hk))
        omega
theorem foc_n {la z lane i n : Int32} (hz : z.toInt ≤ 60) (h : m_X1_faultOfCells la z lane i n = 0) : ¬ n < 0 ∧ n.toNatClampNeg ≤ 60 := by
  unfold m_X1_faultOfCells at h
  by_cases a : m_X1_isNothing la = 0
  · rw [if_pos a] at h
    by_cases b : la = lane
    · rw [if_pos b] at h
      by_cases c : 0 ≤ n
      · rw [if_pos c] at h
        by_cases d : m_X1_hasCells z i n = 0
        · rw [if_pos d] at h; exact absurd h (by decide)
        · have := hasCells_in hz (Int32.not_lt.mpr c) d
          exact ⟨Int32.not_lt.mpr c, by omega⟩
      · rw [if_neg c] at h; exact absurd h (by decide)
    · rw [if_neg b] at h; exact absurd h (by decide)
  · rw [if_neg a] at h; exact absurd h (by decide)
