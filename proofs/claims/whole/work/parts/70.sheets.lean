/-! class and reference: sheets -/
def TS (ro : Nat → Nat → Int32) (la sz sz' la' sh' : Nat → Int32) : Prop := ∀ k, k < 4 → (la k = -1 ∧ sz' k = -1) ∨ ∃ n t : Nat, n ≤ 60 ∧ t < 3 ∧ la k = nI t ∧ la' k = nI t ∧ sz k = nI n ∧ sz' k = nI n ∧ ∀ i, i < n → ro k i = sh' (60 * k + i)
theorem sp4 {α : Type} {k : Nat} (hk : k < 4) (F : Nat → α) : (if nI k = 0 then F 0 else (if nI k = 1 then F 1 else (if nI k = 2 then F 2 else F 3))) = F k := by
  have h : k = 0 ∨ k = 1 ∨ k = 2 ∨ k = 3 := by omega
  rcases h with rfl | rfl | rfl | rfl
  · rw [if_pos (show nI 0 = 0 from rfl)]
  · rw [if_neg (show ¬ nI 1 = 0 by decide), if_pos (show nI 1 = 1 from rfl)]
  · rw [if_neg (show ¬ nI 2 = 0 by decide), if_neg (show ¬ nI 2 = 1 by decide), if_pos (show nI 2 = 2 from rfl)]
  · rw [if_neg (show ¬ nI 3 = 0 by decide), if_neg (show ¬ nI 3 = 1 by decide), if_neg (show ¬ nI 3 = 2 by decide)]
theorem p_sheet (x : Int32) : (∃ k, k < 4 ∧ x = nI k ∧ m_X2_isSheet x = 1 ∧ m_X3_noSheet x = 0) ∨ (m_X2_isSheet x = 0 ∧ m_X3_noSheet x = 1) := by
  rcases p_rng x (n := 4) (by omega) with ⟨j, hj, rfl⟩ | h
  · refine Or.inl ⟨j, hj, rfl, ?_, ?_⟩
    · unfold m_X2_isSheet
      rw [if_neg (nI_pos (by omega)), if_neg (show ¬ (4 : Int32) ≤ nI j from nI_ge (b := 4) hj (by decide))]
    · unfold m_X3_noSheet
      rw [if_neg (in_yes (by omega) (by show (j : Int) ≤ 3; omega))]
  · refine Or.inr ⟨?_, ?_⟩
    · unfold m_X2_isSheet
      by_cases a : x < 0
      · rw [if_pos a]
      · rw [if_neg a, if_pos (show (4 : Int32) ≤ x from h.resolve_left a)]
    · unfold m_X3_noSheet
      rw [if_pos (in_no (n := 4) (by omega) rfl h)]
theorem p_lane (x : Int32) : (∃ t, t < 3 ∧ x = nI t ∧ m_X2_isLane x = 1 ∧ ¬ m_X3_in x.toInt64 0 2 = 0) ∨ (m_X2_isLane x = 0 ∧ m_X3_in x.toInt64 0 2 = 0) := by
  rcases p_rng x (n := 3) (by omega) with ⟨j, hj, rfl⟩ | h
  · refine Or.inl ⟨j, hj, rfl, ?_, in_yes (by omega) (by show (j : Int) ≤ 2; omega)⟩
    unfold m_X2_isLane
    rw [if_neg (nI_pos (by omega)), if_neg (show ¬ (3 : Int32) ≤ nI j from nI_ge (b := 3) hj (by decide))]
  · refine Or.inr ⟨?_, in_no (n := 3) (by omega) rfl h⟩
    unfold m_X2_isLane
    by_cases a : x < 0
    · rw [if_pos a]
    · rw [if_neg a, if_pos (show (3 : Int32) ≤ x from h.resolve_left a)]
theorem m1_neg : ((-1 : Int32) < 0) := by decide
theorem m1_npos : ¬ ((0 : Int32) ≤ -1) := by decide
theorem p_hc {S : Nat} (hS : S ≤ 60) (x y : Int32) {z : Int64} (hz : z.toInt = y.toInt) : (∃ j w, j + w ≤ S ∧ x = nI j ∧ y = nI w ∧ m_X1_hasCells (nI S) x y = 1 ∧ ¬ y < 0 ∧ ¬ z < 0 ∧ m_X3_isBeyond x z (nI S) = 0) ∨ ((y < 0 ↔ z < 0) ∧ (y < 0 ∨ m_X1_hasCells (nI S) x y = 0) ∧ m_X3_isBeyond x z (nI S) = 1) := by
  have hyz : y < 0 ↔ z < 0 := by
    have z0 : (0 : Int64).toInt = 0 := rfl
    have z1 : (0 : Int32).toInt = 0 := rfl
    rw [Int32.lt_iff_toInt_lt, Int64.lt_iff_toInt_lt, hz, z0, z1]
  by_cases a : y < 0
  · refine Or.inr ⟨hyz, Or.inl a, ?_⟩
    unfold m_X3_isBeyond
    by_cases b : x < 0
    · rw [if_pos b]
    · rw [if_neg b, if_pos (lgc_lt.mpr (hyz.mp a))]
  · have a2 : ¬ z < 0 := fun q => a (hyz.mpr q)
    obtain ⟨w, hw, rfl⟩ := nI_of a
    by_cases b : x < 0
    · refine Or.inr ⟨hyz, Or.inr ?_, ?_⟩
      · unfold m_X1_hasCells; rw [if_pos b]
      · unfold m_X3_isBeyond; rw [if_pos b]
    · obtain ⟨j, hj, rfl⟩ := nI_of b
      have ez : z = lN w := Int64.toInt_inj.mp (by rw [hz, nI_toInt hw, lN_toInt hw])
      subst ez
      by_cases c : j + w ≤ S
      · refine Or.inl ⟨j, w, c, rfl, rfl, ?_, a, a2, ?_⟩
        · unfold m_X1_hasCells
          rw [if_neg b, if_neg (nI_nlt (by omega) (by omega)), pk_sub (by omega), if_neg (nI_nlt (by omega) (by omega))]
        · unfold m_X3_isBeyond
          rw [if_neg b, if_neg (fun q => a2 (lgc_lt.mp q)), nI_l hj, nI_l (show S < 2 ^ 31 by omega), lN_add, if_pos (lgc_le.mpr ((pk_lLE (by omega) (by omega)).mpr c))]
      · refine Or.inr ⟨hyz, Or.inr ?_, ?_⟩
        · unfold m_X1_hasCells
          rw [if_neg b]
          by_cases d : S < j
          · rw [if_pos (nI_lt d hj)]
          · rw [if_neg (nI_nlt (by omega) (by omega)), pk_sub (by omega), if_pos (nI_lt (by omega) hw)]
        · unfold m_X3_isBeyond
          rw [if_neg b, if_neg (fun q => a2 (lgc_lt.mp q)), nI_l hj, nI_l (show S < 2 ^ 31 by omega), lN_add, if_neg (fun q => c ((pk_lLE (by omega) (by omega)).mp (lgc_le.mp q)))]
section SH
variable {ro : Nat → Nat → Int32} {la sz sz' la' sh' : Nat → Int32}
theorem p_bar (hs : TS ro la sz sz' la' sh') {k : Nat} (hk : k < 4) {v2 v3 n fa : Int32} {z : Int64} (hz : z.toInt = n.toInt) : (m_X1_faultOfCells (la k) (sz k) v2 v3 n = 0 ∧ m_X3_cellsBarred fa sz' la' (nI k) v2 v3 z = (0, fa) ∧ ∃ S j w : Nat, S ≤ 60 ∧ j + w ≤ S ∧ v3 = nI j ∧ n = nI w ∧ sz k = nI S ∧ ∀ i, i < S → ro k i = sh' (60 * k + i)) ∨ (∃ f : Int32, ¬ f = 0 ∧ -10 - f < 0 ∧ m_X1_faultOfCells (la k) (sz k) v2 v3 n = f ∧ m_X3_cellsBarred fa sz' la' (nI k) v2 v3 z = (-10 - f, f)) := by
  unfold m_X1_faultOfCells m_X1_isNothing m_X3_cellsBarred
  rw [nI_clamp (show k < 2 ^ 31 by omega)]
  rcases hs k hk with ⟨a1, a2⟩ | ⟨S, t, h1, h2, a1, a2, a3, a4, a5⟩
  · refine Or.inr ⟨1, by decide, by decide, ?_, ?_⟩
    · rw [a1, if_pos rfl, if_neg n10]
    · rw [a2, if_pos m1_neg, if_neg m1_npos]; rfl
  · have t1 : ¬ nI t = -1 := by
      have : t = 0 ∨ t = 1 ∨ t = 2 := by omega
      rcases this with rfl | rfl | rfl <;> decide
    rw [a1, a2, a3, a4, if_neg t1, if_pos rfl, if_neg (nI_pos (by omega))]
    by_cases e : nI t = v2
    · rw [if_pos e, if_pos e, if_pos (nI_pos' (by omega))]
      rcases p_hc h1 v3 n hz with ⟨j, w, c1, rfl, rfl, c2, c3, c4, c5⟩ | ⟨c1, c2, c3⟩
      · have b1 : (0 : Int32) ≤ nI w := Int32.not_lt.mp c3
        have b2 : 0 ≤ lg_cmp z 0 := lgc_ge.mpr (Int64.not_lt.mp c4)
        rw [if_pos b1, c2, if_neg n10, if_pos b2, if_pos c5]
        exact Or.inl ⟨rfl, rfl, S, j, w, h1, c1, rfl, rfl, rfl, a5⟩
      · by_cases b : n < 0
        · have b1 : ¬ (0 : Int32) ≤ n := Int32.not_le.mpr b
          have b2 : ¬ 0 ≤ lg_cmp z 0 := fun q => absurd (c1.mp b) (Int64.not_lt.mpr (lgc_ge.mp q))
          rw [if_neg b1, if_neg b2]
          exact Or.inr ⟨4, by decide, by decide, rfl, rfl⟩
        · have b1 : (0 : Int32) ≤ n := Int32.not_lt.mp b
          have b2 : 0 ≤ lg_cmp z 0 := lgc_ge.mpr (Int64.not_lt.mp (fun q => b (c1.mpr q)))
          rw [if_pos b1, c2.resolve_left b, if_pos rfl, if_pos b2, c3, if_neg n10]
          exact Or.inr ⟨3, by decide, by decide, rfl, rfl⟩
    · rw [if_neg e, if_neg e]
      exact Or.inr ⟨2, by decide, by decide, rfl, rfl⟩
/-- the fault of one cell -/
theorem p_one (hs : TS ro la sz sz' la' sh') {k : Nat} (hk : k < 4) {i : Int32} : (m_X1_faultOfCells (la k) (sz k) (la k) i 1 = 0 ∧ m_X3_noCell sz' (nI k) i = 0 ∧ ∃ S t j : Nat, S ≤ 60 ∧ t < 3 ∧ j < S ∧ i = nI j ∧ la k = nI t ∧ la' k = nI t ∧ sz k = nI S ∧ sz' k = nI S ∧ ∀ i, i < S → ro k i = sh' (60 * k + i)) ∨ (∃ f : Int32, (f = 1 ∧ la k = -1 ∧ sz' k = -1 ∨ f = 3 ∧ ∃ S t : Nat, S ≤ 60 ∧ t < 3 ∧ la k = nI t ∧ la' k = nI t ∧ sz' k = nI S) ∧ m_X1_faultOfCells (la k) (sz k) (la k) i 1 = f ∧ m_X3_noCell sz' (nI k) i = f) := by
  unfold m_X1_faultOfCells m_X1_isNothing m_X3_noCell
  rw [nI_clamp (show k < 2 ^ 31 by omega)]
  rcases hs k hk with ⟨a1, a2⟩ | ⟨S, t, h1, h2, a1, a2, a3, a4, a5⟩
  · refine Or.inr ⟨1, Or.inl ⟨rfl, a1, a2⟩, ?_, ?_⟩
    · rw [a1, if_pos rfl, if_neg n10]
    · rw [a2, if_neg m1_npos]
  · have t1 : ¬ nI t = -1 := by
      have : t = 0 ∨ t = 1 ∨ t = 2 := by omega
      rcases this with rfl | rfl | rfl <;> decide
    rw [a1, a2, a3, a4, if_neg t1, if_pos rfl, if_pos rfl, if_pos (show (0 : Int32) ≤ 1 by decide), if_pos (nI_pos' (by omega))]
    rcases p_rng i (n := S) (by omega) with ⟨j, hj, rfl⟩ | q
    · rw [if_neg (in_yes (by omega) (by rw [n64_m1 (by omega)]; omega))]
      have e1 : m_X1_hasCells (nI S) (nI j) 1 = 1 := by
        unfold m_X1_hasCells
        rw [if_neg (nI_pos (by omega)), if_neg (nI_nlt (by omega) (by omega)), pk_sub (by omega), if_neg (show ¬ nI (S - j) < 1 from nI_nlt (b := 1) (by omega) (by omega))]
      rw [e1, if_neg n10]
      exact Or.inl ⟨rfl, rfl, S, t, j, h1, h2, hj, rfl, rfl, rfl, rfl, rfl, a5⟩
    · rw [if_pos (in_no (by omega) (n64_m1 (by omega)) q)]
      have e1 : m_X1_hasCells (nI S) i 1 = 0 := by
        unfold m_X1_hasCells
        by_cases b : i < 0
        · rw [if_pos b]
        · obtain ⟨j, hj, rfl⟩ := nI_of b
          have q2 := (nI_leI (by omega) hj).mp (q.resolve_left b)
          rw [if_neg b]
          by_cases d : S < j
          · rw [if_pos (nI_lt d hj)]
          · rw [if_neg (nI_nlt (by omega) (by omega)), pk_sub (by omega), if_pos (show nI (S - j) < 1 from nI_lt (b := 1) (by omega) (by decide))]
      rw [e1, if_pos rfl]
      exact Or.inr ⟨3, Or.inr ⟨rfl, S, t, h1, h2, rfl, rfl, rfl⟩, rfl, rfl⟩
theorem at_in {f : Nat → Int32} {S j : Nat} (hS : S ≤ 60) (hj : j < S) : m_X1_at f (nI S) (nI j) = f j := by
  unfold m_X1_at
  rw [if_neg (nI_pos (by omega)), if_neg (nI_ge hj (by omega)), nI_clamp (by omega)]
theorem hz_upd {f : Nat → Int32} {k : Nat} {x : Int32} (h : ∀ j, (f j).toInt ≤ 60) (hx : x.toInt ≤ 60) : ∀ j, (upd f k x j).toInt ≤ 60 := by
  intro j
  by_cases q : j = k
  · subst q; rw [pk_us]; exact hx
  · rw [pk_un q]; exact h j
theorem r65 {v1 : Int32} {a : Nat} (ha : v1.toNatClampNeg = a) : ∀ m i w j, m_X3_sheet_L65 v1 m i w j = if 60 * a + i ≤ j ∧ j < 60 * a + i + m then 0 else w j := by
  intro m
  induction m with
  | zero => intro i w j; rw [m_X3_sheet_L65_0, if_neg (by omega)]
  | succ m ih =>
    intro i w j
    rw [m_X3_sheet_L65_s, ih, ha]
    by_cases q : j = 60 * a + i
    · subst q; rw [pk_us, ite_self, if_pos (by omega)]
    · rw [pk_un q]
      by_cases z : 60 * a + (i + 1) ≤ j ∧ j < 60 * a + (i + 1) + m
      · rw [if_pos z, if_pos (by omega)]
      · rw [if_neg z, if_neg (by omega)]
theorem r_fill : ∀ m i (w : Nat → Int32) j, m_J7_fill_L5 0 m i w j = if i ≤ j ∧ j < i + m then 0 else w j := by
  intro m
  induction m with
  | zero => intro i w j; rw [m_J7_fill_L5_0, if_neg (by omega)]
  | succ m ih =>
    intro i w j
    rw [m_J7_fill_L5_s, ih]
    by_cases q : j = i
    · subst q; rw [pk_us, ite_self, if_pos (by omega)]
    · rw [pk_un q]
      by_cases z : i + 1 ≤ j ∧ j < i + 1 + m
      · rw [if_pos z, if_pos (by omega)]
      · rw [if_neg z, if_neg (by omega)]
theorem up2_s {f : Nat → Nat → Int32} {k : Nat} {g : Nat → Int32} : tw_up2 f k g k = g := if_pos rfl
theorem up2_n {f : Nat → Nat → Int32} {k j : Nat} {g : Nat → Int32} (h : j ≠ k) : tw_up2 f k g j = f j := if_neg h
theorem r_sheet {v1 v2 v3 : Int32} (hs : TS ro la sz sz' la' sh') (h1 : ∀ j, (sz j).toInt ≤ 60) (h2 : ∀ j, (sz' j).toInt ≤ 60) : (m_X2_sheet ro la sz v1 v2 v3).1 = (m_X3_sheet sz' la' sh' v1 v2 v3).1 ∧ (m_X2_sheet ro la sz v1 v2 v3).2.2.2.2 = (m_X3_sheet sz' la' sh' v1 v2 v3).2.2.2.2 ∧ TS (m_X2_sheet ro la sz v1 v2 v3).2.1 (m_X2_sheet ro la sz v1 v2 v3).2.2.1 (m_X2_sheet ro la sz v1 v2 v3).2.2.2.1 (m_X3_sheet sz' la' sh' v1 v2 v3).2.1 (m_X3_sheet sz' la' sh' v1 v2 v3).2.2.1 (m_X3_sheet sz' la' sh' v1 v2 v3).2.2.2.1 ∧ (∀ j, ((m_X2_sheet ro la sz v1 v2 v3).2.2.2.1 j).toInt ≤ 60) ∧ (∀ j, ((m_X3_sheet sz' la' sh' v1 v2 v3).2.1 j).toInt ≤ 60) := by
  unfold m_X3_sheet
  rcases p_sheet v1 with ⟨k, hk, rfl, e1, e2⟩ | ⟨e1, e2⟩
  · have E : m_X2_sheet ro la sz (nI k) v2 v3 = (if (m_X2_isLane v2) = 0 then ((-2), ro, la, sz, 0) else (if v3 ≤ 60 then (if 0 ≤ v3 then (1, tw_up2 ro k ((m_X1_renew (ro k) v2 v3).1), upd la k ((m_X1_renew (ro k) v2 v3).2.1), upd sz k ((m_X1_renew (ro k) v2 v3).2.2), 0) else ((m_X2_faulted 4).1, ro, la, sz, (m_X2_faulted 4).2)) else ((-2), ro, la, sz, 0))) := by
      unfold m_X2_sheet
      rw [e1, if_neg n10, sp4 hk (fun k => ((1 : Int32), tw_up2 ro k ((m_X1_renew (ro k) v2 v3).1), upd la k ((m_X1_renew (ro k) v2 v3).2.1), upd sz k ((m_X1_renew (ro k) v2 v3).2.2), (0 : Int32)))]
    rw [E, e2, if_pos rfl]
    rcases p_lane v2 with ⟨t, ht, rfl, l1, l2⟩ | ⟨l1, l2⟩
    · rw [l1, if_neg n10, if_neg l2]
      by_cases a : v3 ≤ 60
      · rw [if_pos a, if_pos a]
        by_cases b : 0 ≤ v3
        · rw [if_pos b, if_pos b]
          obtain ⟨n, hn, rfl⟩ := nI_of (Int32.not_lt.mpr b)
          have hn6 : n ≤ 60 := (nI_leI (b := 60) hn (by decide)).mp a
          have ti : (nI n).toInt ≤ 60 := by rw [nI_toInt hn]; omega
          refine ⟨rfl, rfl, ?_, hz_upd h1 ti, hz_upd h2 ti⟩
          rw [nI_clamp (show k < 2 ^ 31 by omega), nI_clamp hn]
          intro j hj
          by_cases q : j = k
          · subst q
            refine Or.inr ⟨n, t, hn6, ht, pk_us, pk_us, pk_us, pk_us, fun i hi => ?_⟩
            have ev : m_X3_sheet_L65 (nI j) n 0 sh' (60 * j + i) = 0 := by rw [r65 (nI_clamp (show j < 2 ^ 31 by omega)), if_pos (by omega)]
            show tw_up2 ro j (m_X1_renew (ro j) (nI t) (nI n)).1 j i = m_X3_sheet_L65 (nI j) n 0 sh' (60 * j + i)
            rw [ev, up2_s]
            show m_J7_fill_L5 0 60 0 (ro j) i = 0
            rw [r_fill, if_pos (by omega)]
          · rcases hs j hj with ⟨a1, a2⟩ | ⟨S, t', g1, g2, a1, a2, a3, a4, a5⟩
            · exact Or.inl ⟨(pk_un q).trans a1, (pk_un q).trans a2⟩
            · refine Or.inr ⟨S, t', g1, g2, (pk_un q).trans a1, (pk_un q).trans a2, (pk_un q).trans a3, (pk_un q).trans a4, fun i hi => ?_⟩
              have ev : m_X3_sheet_L65 (nI k) n 0 sh' (60 * j + i) = sh' (60 * j + i) := by rw [r65 (nI_clamp (show k < 2 ^ 31 by omega)), if_neg (by omega)]
              show tw_up2 ro k (m_X1_renew (ro k) (nI t) (nI n)).1 j i = m_X3_sheet_L65 (nI k) n 0 sh' (60 * j + i)
              rw [ev, up2_n q]
              exact a5 i hi
        · rw [if_neg b, if_neg b]; exact ⟨rfl, rfl, hs, h1, h2⟩
      · rw [if_neg a, if_neg a]; exact ⟨rfl, rfl, hs, h1, h2⟩
    · rw [l1, if_pos rfl, if_pos l2]; exact ⟨rfl, rfl, hs, h1, h2⟩
  · unfold m_X2_sheet
    rw [e1, e2, if_pos rfl, if_neg n10]; exact ⟨rfl, rfl, hs, h1, h2⟩
theorem r_lose {v1 : Int32} (hs : TS ro la sz sz' la' sh') (h1 : ∀ j, (sz j).toInt ≤ 60) (h2 : ∀ j, (sz' j).toInt ≤ 60) : (m_X2_lose la sz v1).1 = (m_X3_lose sz' v1).1 ∧ TS ro (m_X2_lose la sz v1).2.1 (m_X2_lose la sz v1).2.2 (m_X3_lose sz' v1).2 la' sh' ∧ (∀ j, ((m_X2_lose la sz v1).2.2 j).toInt ≤ 60) ∧ (∀ j, ((m_X3_lose sz' v1).2 j).toInt ≤ 60) := by
  unfold m_X3_lose
  rcases p_sheet v1 with ⟨k, hk, rfl, e1, e2⟩ | ⟨e1, e2⟩
  · have E : m_X2_lose la sz (nI k) = ((if (m_X1_isNothing (la k)) = 0 then 1 else 0), upd la k (-1), upd sz k 0) := by
      unfold m_X2_lose
      rw [e1, if_neg n10]
      exact sp4 hk (fun k => ((if (m_X1_isNothing (la k)) = 0 then (1 : Int32) else 0), upd la k (-1), upd sz k 0))
    rw [E, e2, if_pos rfl, nI_clamp (show k < 2 ^ 31 by omega)]
    refine ⟨?_, ?_, hz_upd h1 (by decide), hz_upd h2 (by decide)⟩
    · show (if m_X1_isNothing (la k) = 0 then (1 : Int32) else 0) = (if 0 ≤ sz' k then 1 else 0)
      unfold m_X1_isNothing
      rcases hs k hk with ⟨a1, a2⟩ | ⟨S, t, g1, g2, a1, a2, a3, a4, a5⟩
      · rw [a1, a2, if_pos rfl, if_neg n10, if_neg m1_npos]
      · have t1 : ¬ nI t = -1 := by
          have : t = 0 ∨ t = 1 ∨ t = 2 := by omega
          rcases this with rfl | rfl | rfl <;> decide
        rw [a1, a4, if_neg t1, if_pos rfl, if_pos (nI_pos' (by omega))]
    · intro j hj
      by_cases q : j = k
      · subst q; exact Or.inl ⟨pk_us, pk_us⟩
      · rcases hs j hj with ⟨a1, a2⟩ | ⟨S, t', g1, g2, a1, a2, a3, a4, a5⟩
        · exact Or.inl ⟨(pk_un q).trans a1, (pk_un q).trans a2⟩
        · exact Or.inr ⟨S, t', g1, g2, (pk_un q).trans a1, a2, (pk_un q).trans a3, (pk_un q).trans a4, a5⟩
  · unfold m_X2_lose
    rw [e1, e2, if_pos rfl, if_neg n10]; exact ⟨rfl, hs, h1, h2⟩
theorem r_put {v1 v2 v3 : Int32} (hs : TS ro la sz sz' la' sh') : (m_X2_put ro la sz v1 v2 v3).1 = (m_X3_put sz' la' sh' v1 v2 v3).1 ∧ (m_X2_put ro la sz v1 v2 v3).2.2 = (m_X3_put sz' la' sh' v1 v2 v3).2.2 ∧ TS (m_X2_put ro la sz v1 v2 v3).2.1 la sz sz' la' (m_X3_put sz' la' sh' v1 v2 v3).2.1 := by
  unfold m_X3_put
  rcases p_sheet v1 with ⟨k, hk, rfl, e1, e2⟩ | ⟨e1, e2⟩
  · have E : m_X2_put ro la sz (nI k) v2 v3 = (if (m_X1_faultOfCells (la k) (sz k) (la k) v2 1) = 0 then (1, tw_up2 ro k (m_X1_setAt (ro k) (la k) (sz k) v2 v3), 0) else ((m_X2_faulted (m_X1_faultOfCells (la k) (sz k) (la k) v2 1)).1, ro, (m_X2_faulted (m_X1_faultOfCells (la k) (sz k) (la k) v2 1)).2)) := by
      unfold m_X2_put
      rw [e1, if_neg n10]
      exact sp4 hk (fun k => (if (m_X1_faultOfCells (la k) (sz k) (la k) v2 1) = 0 then ((1 : Int32), tw_up2 ro k (m_X1_setAt (ro k) (la k) (sz k) v2 v3), (0 : Int32)) else ((m_X2_faulted (m_X1_faultOfCells (la k) (sz k) (la k) v2 1)).1, ro, (m_X2_faulted (m_X1_faultOfCells (la k) (sz k) (la k) v2 1)).2)))
    rw [E, e2, if_pos rfl, nI_clamp (show k < 2 ^ 31 by omega)]
    rcases p_one hs hk (i := v2) with ⟨f1, f2, S, t, j, g1, g2, g3, rfl, g4, g5, g6, g7, g8⟩ | ⟨f, hf, f1, f2⟩
    · rw [f1, f2, if_pos rfl, if_pos (show (0 : Int32) ≤ 0 by decide)]
      refine ⟨rfl, rfl, ?_⟩
      have ex : m_X1_setAt (ro k) (la k) (sz k) (nI j) v3 = upd (ro k) j (if (la' k) = 0 then v3.toInt8.toInt32 else (if (la' k) = 1 then v3.toInt16.toInt32 else v3)) := by
        unfold m_X1_setAt m_X1_cutToLane
        rw [g4, g5, g6, if_neg (nI_pos (by omega)), if_neg (nI_ge g3 (by omega)), nI_clamp (by omega)]
      rw [ex, nI_clamp (show j < 2 ^ 31 by omega)]
      intro o ho
      rcases hs o ho with ⟨a1, a2⟩ | ⟨S', t', c1, c2, a1, a2, a3, a4, a5⟩
      · exact Or.inl ⟨a1, a2⟩
      · refine Or.inr ⟨S', t', c1, c2, a1, a2, a3, a4, fun i hi => ?_⟩
        by_cases q : o = k
        · subst q
          by_cases z : i = j
          · subst z
            show tw_up2 ro o _ o i = upd sh' (60 * o + i) _ (60 * o + i)
            rw [up2_s, pk_us, pk_us]
          · show tw_up2 ro o _ o i = upd sh' (60 * o + j) _ (60 * o + i)
            rw [up2_s, pk_un z, pk_un (by omega)]
            exact a5 i hi
        · show tw_up2 ro k _ o i = upd sh' (60 * k + j) _ (60 * o + i)
          rw [up2_n q, pk_un (by omega)]
          exact a5 i hi
    · have hf2 : ¬ f = 0 ∧ ¬ f ≤ 0 := by
        rcases hf with ⟨rfl, _⟩ | ⟨rfl, _⟩ <;> decide
      rw [f1, f2, if_neg hf2.1, if_neg hf2.2]
      exact ⟨rfl, rfl, hs⟩
  · unfold m_X2_put
    rw [e1, e2, if_pos rfl, if_neg n10]; exact ⟨rfl, rfl, hs⟩
theorem r_cell {v1 v2 v3 : Int32} (hs : TS ro la sz sz' la' sh') : m_X2_cell ro la sz v1 v2 v3 = m_X3_cell sz' la' sh' v1 v2 v3 := by
  unfold m_X3_cell
  rcases p_sheet v1 with ⟨k, hk, rfl, e1, e2⟩ | ⟨e1, e2⟩
  · have E : m_X2_cell ro la sz (nI k) v2 v3 = (if (m_X2_isLane v3) = 0 then ((-9223372036854775808), 0) else ((if (m_X1_faultOfCells (la k) (sz k) v3 v2 1) = 0 then (m_X1_at (ro k) (sz k) v2).toInt64 else (-9223372036854775808)), (m_X1_faultOfCells (la k) (sz k) v3 v2 1))) := by
      unfold m_X2_cell
      rw [e1, if_neg n10, sp4 hk (fun k => ((if (m_X1_faultOfCells (la k) (sz k) v3 v2 1) = 0 then (m_X1_at (ro k) (sz k) v2).toInt64 else (-9223372036854775808 : Int64)), (m_X1_faultOfCells (la k) (sz k) v3 v2 1)))]
    rw [E, e2, if_pos rfl, nI_clamp (show k < 2 ^ 31 by omega)]
    rcases p_lane v3 with ⟨d, hd, rfl, l1, l2⟩ | ⟨l1, l2⟩
    · rw [l1, if_neg n10, if_neg l2]
      rcases p_one hs hk (i := v2) with ⟨f1, f2, S, t, j, g1, g2, g3, rfl, g4, g5, g6, g7, g8⟩ | ⟨f, hf, f1, f2⟩
      · rw [f2, g7, if_neg (nI_pos (by omega)), if_pos (show (0 : Int32) ≤ 0 by decide), g5]
        by_cases q : nI t = nI d
        · have f3 : m_X1_faultOfCells (la k) (sz k) (nI d) (nI j) 1 = 0 := by rw [← q, ← g4]; exact f1
          rw [f3, if_pos rfl, if_pos q, g6, at_in g1 g3, g8 j g3, nI_clamp (show j < 2 ^ 31 by omega)]
        · have f3 : m_X1_faultOfCells (la k) (sz k) (nI d) (nI j) 1 = 2 := by
            unfold m_X1_faultOfCells m_X1_isNothing
            have t1 : ¬ nI t = -1 := by
              have : t = 0 ∨ t = 1 ∨ t = 2 := by omega
              rcases this with rfl | rfl | rfl <;> decide
            rw [g4, if_neg t1, if_pos rfl, if_neg q]
          rw [f3, if_neg (by decide), if_neg q]; rfl
      · rcases hf with ⟨rfl, b1, b2⟩ | ⟨rfl, S, t, g1, g2, g3, g4, g5⟩
        · have f3 : m_X1_faultOfCells (la k) (sz k) (nI d) v2 1 = 1 := by
            unfold m_X1_faultOfCells m_X1_isNothing
            rw [b1, if_pos rfl, if_neg n10]
          rw [f3, f2, b2, if_neg n10, if_pos m1_neg, if_neg (show ¬ (1 : Int32) ≤ 0 by decide)]; rfl
        · rw [f2, g5, if_neg (nI_pos (by omega)), if_neg (show ¬ (3 : Int32) ≤ 0 by decide), g4]
          by_cases q : nI t = nI d
          · have f3 : m_X1_faultOfCells (la k) (sz k) (nI d) v2 1 = 3 := by rw [← q, ← g3]; exact f1
            rw [f3, if_neg (by decide), if_pos q]; rfl
          · have f3 : m_X1_faultOfCells (la k) (sz k) (nI d) v2 1 = 2 := by
              unfold m_X1_faultOfCells m_X1_isNothing
              have t1 : ¬ nI t = -1 := by
                have : t = 0 ∨ t = 1 ∨ t = 2 := by omega
                rcases this with rfl | rfl | rfl <;> decide
              rw [g3, if_neg t1, if_pos rfl, if_neg q]
            rw [f3, if_neg (by decide), if_neg q]; rfl
    · rw [l1, if_pos rfl, if_pos l2]; rfl
  · unfold m_X2_cell
    rw [e1, e2, if_pos rfl, if_neg n10]; rfl
theorem r107 {v1 v2 : Int32} {sh : Nat → Int32} {a : Nat} (ha : 60 * v1.toNatClampNeg + v2.toNatClampNeg = a) : ∀ m i w j, m_X3_copy_L107 sh v1 v2 m i w j = if i ≤ j ∧ j < i + m then sh (a + j) else w j := by
  intro m
  induction m with
  | zero => intro i w j; rw [m_X3_copy_L107_0, if_neg (by omega)]
  | succ m ih =>
    intro i w j
    rw [m_X3_copy_L107_s, ih, ha]
    by_cases q : j = i
    · subst q; rw [pk_us, ite_self, if_pos (by omega)]
    · rw [pk_un q]
      by_cases z : i + 1 ≤ j ∧ j < i + 1 + m
      · rw [if_pos z, if_pos (by omega)]
      · rw [if_neg z, if_neg (by omega)]
theorem r144 {v1 v2 : Int32} {hd : Nat → Int32} {a : Nat} (ha : 60 * v1.toNatClampNeg + v2.toNatClampNeg = a) : ∀ m i w j, m_X3_copy_L144 v1 v2 hd m i w j = if a + i ≤ j ∧ j < a + i + m then hd (j - a) else w j := by
  intro m
  induction m with
  | zero => intro i w j; rw [m_X3_copy_L144_0, if_neg (by omega)]
  | succ m ih =>
    intro i w j
    rw [m_X3_copy_L144_s, ih, ha]
    by_cases q : j = a + i
    · subst q
      have e : a + i - a = i := by omega
      rw [pk_us, e, ite_self, if_pos (by omega)]
    · rw [pk_un q]
      by_cases z : a + (i + 1) ≤ j ∧ j < a + (i + 1) + m
      · rw [if_pos z, if_pos (by omega)]
      · rw [if_neg z, if_neg (by omega)]
def f2_copy (ro : Nat → Nat → Int32) (la sz : Nat → Int32) (v2 v4 v5 : Int32) (k o : Nat) : Int32 × (Nat → Nat → Int32) × Int32 := if (m_X1_isNothing (la k)) = 0 then (if (m_X1_isNothing (la o)) = 0 then (if (la k) = (la o) then (if v5 < 0 then ((m_X2_faulted 3).1, ro, (m_X2_faulted 3).2) else (if (m_X1_hasCells (sz k) v2 v5) = 0 then ((m_X2_faulted 3).1, ro, (m_X2_faulted 3).2) else (if (m_X1_hasCells (sz o) v4 v5) = 0 then ((m_X2_faulted 3).1, ro, (m_X2_faulted 3).2) else (v5, tw_up2 ro o (va_cpy (ro k) (ro o) v2.toNatClampNeg v4.toNatClampNeg v5.toNatClampNeg), 0)))) else ((m_X2_faulted 2).1, ro, (m_X2_faulted 2).2)) else ((m_X2_faulted 1).1, ro, (m_X2_faulted 1).2)) else ((m_X2_faulted 1).1, ro, (m_X2_faulted 1).2)
theorem r_copy {hd : Nat → Int32} {v1 v2 v3 v4 v5 : Int32} (hs : TS ro la sz sz' la' sh') : (m_X2_copy ro la sz v1 v2 v3 v4 v5).1 = (m_X3_copy sz' la' sh' hd v1 v2 v3 v4 v5).1 ∧ (m_X2_copy ro la sz v1 v2 v3 v4 v5).2.2 = (m_X3_copy sz' la' sh' hd v1 v2 v3 v4 v5).2.2.2 ∧ TS (m_X2_copy ro la sz v1 v2 v3 v4 v5).2.1 la sz sz' la' (m_X3_copy sz' la' sh' hd v1 v2 v3 v4 v5).2.1 := by
  unfold m_X3_copy
  rcases p_sheet v1 with ⟨k, hk, rfl, e1, e2⟩ | ⟨e1, e2⟩
  · rcases p_sheet v3 with ⟨o, ho, rfl, e3, e4⟩ | ⟨e3, e4⟩
    · have E : m_X2_copy ro la sz (nI k) v2 (nI o) v4 v5 = f2_copy ro la sz v2 v4 v5 k o := by
        unfold m_X2_copy
        rw [e1, e3, if_neg n10, if_neg n10]
        exact (sp4 hk (fun k => (if nI o = 0 then f2_copy ro la sz v2 v4 v5 k 0 else (if nI o = 1 then f2_copy ro la sz v2 v4 v5 k 1 else (if nI o = 2 then f2_copy ro la sz v2 v4 v5 k 2 else f2_copy ro la sz v2 v4 v5 k 3))))).trans (sp4 ho (fun o => f2_copy ro la sz v2 v4 v5 k o))
      unfold f2_copy at E
      rw [E, e2, e4, if_pos rfl, if_pos rfl, nI_clamp (show k < 2 ^ 31 by omega), nI_clamp (show o < 2 ^ 31 by omega)]
      unfold m_X1_isNothing
      rcases hs k hk with ⟨a1, a2⟩ | ⟨S, t, g1, g2, a1, a2, a3, a4, a5⟩
      · rw [a1, a2, if_pos rfl, if_neg n10, if_pos m1_neg]; exact ⟨rfl, rfl, hs⟩
      · have t1 : ¬ nI t = -1 := by
          have : t = 0 ∨ t = 1 ∨ t = 2 := by omega
          rcases this with rfl | rfl | rfl <;> decide
        rw [a1, a4, if_neg t1, if_pos rfl, if_neg (nI_pos (by omega))]
        rcases hs o ho with ⟨b1, b2⟩ | ⟨S', t', c1, c2, b1, b2, b3, b4, b5⟩
        · rw [b1, b2, if_pos rfl, if_neg n10, if_neg m1_npos]; exact ⟨rfl, rfl, hs⟩
        · have t2 : ¬ nI t' = -1 := by
            have : t' = 0 ∨ t' = 1 ∨ t' = 2 := by omega
            rcases this with rfl | rfl | rfl <;> decide
          rw [b1, b4, if_neg t2, if_pos rfl, if_pos (nI_pos' (by omega)), a2, b2]
          by_cases q : nI t = nI t'
          · rw [if_pos q, if_pos q, a3, b3]
            rcases p_hc g1 v2 v5 (z := v5.toInt64) (Int32.toInt_toInt64 v5) with ⟨i0, w, d1, rfl, rfl, d2, d3, d4, d5⟩ | ⟨d1, d2, d3⟩
            · rw [if_neg d3, d2, if_neg n10, d5, if_pos rfl]
              rcases p_hc c1 v4 (nI w) (z := (nI w).toInt64) (Int32.toInt_toInt64 _) with ⟨j0, w', f1, rfl, f0, f2, f3, f4, f5⟩ | ⟨f1, f2, f3⟩
              · have hw' : w' = w := by
                  have x1 := congrArg Int32.toNatClampNeg f0
                  rw [nI_clamp (by omega), nI_clamp (by omega)] at x1
                  exact x1.symm
                subst hw'
                rw [f2, if_neg n10, f5, if_pos rfl]
                refine ⟨rfl, rfl, ?_⟩
                rw [nI_clamp (show i0 < 2 ^ 31 by omega), nI_clamp (show j0 < 2 ^ 31 by omega), nI_clamp (show w' < 2 ^ 31 by omega)]
                have ek : 60 * (nI k).toNatClampNeg + (nI i0).toNatClampNeg = 60 * k + i0 := by rw [nI_clamp (by omega), nI_clamp (by omega)]
                have eo : 60 * (nI o).toNatClampNeg + (nI j0).toNatClampNeg = 60 * o + j0 := by rw [nI_clamp (by omega), nI_clamp (by omega)]
                intro x hx
                have key : ∀ i, i < 60 → x = o → m_X3_copy_L144 (nI o) (nI j0) (m_X3_copy_L107 sh' (nI k) (nI i0) w' 0 hd) w' 0 sh' (60 * x + i) = (if j0 ≤ i ∧ i < j0 + w' then sh' (60 * k + (i0 + (i - j0))) else sh' (60 * x + i)) := by
                  intro i hi hxo
                  subst hxo
                  rw [r144 eo]
                  by_cases z : j0 ≤ i ∧ i < j0 + w'
                  · have e5 : 60 * x + i - (60 * x + j0) = i - j0 := by omega
                    have e6 : 60 * k + i0 + (i - j0) = 60 * k + (i0 + (i - j0)) := by omega
                    rw [if_pos (by omega), if_pos z, r107 ek, e5, if_pos (by omega), e6]
                  · rw [if_neg (by omega), if_neg z]
                have key2 : ∀ i, i < 60 → ¬ x = o → m_X3_copy_L144 (nI o) (nI j0) (m_X3_copy_L107 sh' (nI k) (nI i0) w' 0 hd) w' 0 sh' (60 * x + i) = sh' (60 * x + i) := by
                  intro i hi hxo
                  rw [r144 eo, if_neg (by omega)]
                rcases hs x hx with ⟨x1, x2⟩ | ⟨Sx, tx, y1, y2, x1, x2, x3, x4, x5⟩
                · exact Or.inl ⟨x1, x2⟩
                · refine Or.inr ⟨Sx, tx, y1, y2, x1, x2, x3, x4, fun i hi => ?_⟩
                  show tw_up2 ro o (va_cpy (ro k) (ro o) i0 j0 w') x i = m_X3_copy_L144 (nI o) (nI j0) (m_X3_copy_L107 sh' (nI k) (nI i0) w' 0 hd) w' 0 sh' (60 * x + i)
                  by_cases q2 : x = o
                  · rw [key i (by omega) q2]
                    subst q2
                    rw [up2_s]
                    by_cases z : j0 ≤ i ∧ i < j0 + w'
                    · rw [if_pos z, pk_cpy_in z.1 z.2]
                      exact a5 _ (by omega)
                    · rw [if_neg z, pk_cpy_out (by omega)]
                      exact x5 i hi
                  · rw [key2 i (by omega) q2, up2_n q2]
                    exact x5 i hi
              · rw [f2.resolve_left d3, if_pos rfl, f3, if_neg n10]; exact ⟨rfl, rfl, hs⟩
            · rw [d3, if_neg n10]
              by_cases y : v5 < 0
              · rw [if_pos y]; exact ⟨rfl, rfl, hs⟩
              · rw [if_neg y, d2.resolve_left y, if_pos rfl]; exact ⟨rfl, rfl, hs⟩
          · rw [if_neg q, if_neg q]; exact ⟨rfl, rfl, hs⟩
    · unfold m_X2_copy
      rw [e1, e3, e2, e4, if_neg n10, if_pos rfl, if_pos rfl, if_neg n10]; exact ⟨rfl, rfl, hs⟩
  · unfold m_X2_copy
    rw [e1, e2, if_pos rfl, if_neg n10]; exact ⟨rfl, rfl, hs⟩
end SH
