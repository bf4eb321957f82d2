/-! class and reference: what is a thing, a cell, a house; good and safe -/
theorem in_yes {j : Nat} {b : Int64} (hj : j < 2 ^ 31) (h : (j : Int) ≤ b.toInt) : ¬ m_X3_in (nI j).toInt64 0 b = 0 := by
  rw [in_iff, nI_toInt hj]
  have z : (0 : Int64).toInt = 0 := rfl
  rw [z]
  omega
theorem in_no {x : Int32} {n : Nat} {b : Int64} (hn : n < 2 ^ 31) (hb : b.toInt = (n : Int) - 1) (h : x < 0 ∨ nI n ≤ x) : m_X3_in x.toInt64 0 b = 0 := by
  by_cases q : m_X3_in x.toInt64 0 b = 0
  · exact q
  · exfalso
    have h2 := in_iff.mp q
    have z : (0 : Int64).toInt = 0 := rfl
    have z2 : (0 : Int32).toInt = 0 := rfl
    rw [z, hb] at h2
    rcases h with h | h
    · rw [Int32.lt_iff_toInt_lt, z2] at h; omega
    · rw [Int32.le_iff_toInt_le, nI_toInt hn] at h; omega
theorem p_rng (x : Int32) {n : Nat} (hn : n < 2 ^ 31) : (∃ j, j < n ∧ x = nI j) ∨ (x < 0 ∨ nI n ≤ x) := by
  rcases pk_ix x hn with h | h | h
  · exact Or.inr (Or.inl h)
  · exact Or.inr (Or.inr h)
  · exact Or.inl h
theorem p_thing (x : Int32) {nt : Nat} (hn : nt ≤ 6) : (∃ j, j < nt ∧ x = nI j ∧ m_X2_isThing nt x = 1 ∧ m_X3_noThing nt x = 0) ∨ (m_X2_isThing nt x = 0 ∧ m_X3_noThing nt x = 1) := by
  rcases p_rng x (n := nt) (by omega) with ⟨j, hj, rfl⟩ | h
  · refine Or.inl ⟨j, hj, rfl, ?_, ?_⟩
    · unfold m_X2_isThing
      rw [if_neg (nI_pos (by omega)), if_neg (nI_ge hj (by omega))]
    · unfold m_X3_noThing
      rw [if_neg (in_yes (by omega) (by rw [n64_m1 (by omega)]; omega))]
  · refine Or.inr ⟨?_, ?_⟩
    · unfold m_X2_isThing
      by_cases a : x < 0
      · rw [if_pos a]
      · rw [if_neg a, if_pos (h.resolve_left a)]
    · unfold m_X3_noThing
      rw [if_pos (in_no (by omega) (n64_m1 (by omega)) h)]
theorem p_cell (x : Int32) {nt : Nat} (hn : nt ≤ 6) : (∃ j, j < nt ∧ x = nI j ∧ m_X2_isCell nt x = 1 ∧ m_X3_noSquare nt x = 0) ∨ (m_X2_isCell nt x = 0 ∧ m_X3_noSquare nt x = 1) := p_thing x hn
theorem p_house (x : Int32) : ((x = 0 ∨ x = 1) ∧ m_X2_isHouse x = 1 ∧ m_X3_noHouse x = 0) ∨ (m_X2_isHouse x = 0 ∧ m_X3_noHouse x = 1) := by
  rcases p_rng x (n := 2) (by omega) with ⟨j, hj, rfl⟩ | h
  · refine Or.inl ⟨?_, ?_, ?_⟩
    · have : j = 0 ∨ j = 1 := by omega
      rcases this with rfl | rfl
      · exact Or.inl rfl
      · exact Or.inr rfl
    · have : j = 0 ∨ j = 1 := by omega
      rcases this with rfl | rfl <;> decide
    · unfold m_X3_noHouse
      rw [if_neg (in_yes (by omega) (by show (j : Int) ≤ 1; omega))]
  · refine Or.inr ⟨?_, ?_⟩
    · unfold m_X2_isHouse
      have a : ¬ x = 0 := by rintro rfl; exact absurd h (by decide)
      have b : ¬ x = 1 := by rintro rfl; exact absurd h (by decide)
      rw [if_neg a, if_neg b]
    · unfold m_X3_noHouse
      rw [if_pos (in_no (n := 2) (by omega) rfl h)]
theorem p_what (x : Int32) : (∃ j, j < 3 ∧ x = nI j ∧ ¬ x < 0 ∧ x ≤ 2 ∧ ¬ m_X3_in x.toInt64 0 2 = 0) ∨ ((x < 0 ∨ ¬ x ≤ 2) ∧ m_X3_in x.toInt64 0 2 = 0) := by
  rcases p_rng x (n := 3) (by omega) with ⟨j, hj, rfl⟩ | h
  · exact Or.inl ⟨j, hj, rfl, nI_pos (by omega), nI_le (b := 2) (by omega) (by decide), in_yes (by omega) (by show (j : Int) ≤ 2; omega)⟩
  · refine Or.inr ⟨?_, in_no (n := 3) (by omega) rfl h⟩
    rcases h with h | h
    · exact Or.inl h
    · refine Or.inr (fun q => ?_)
      have z2 : (2 : Int32).toInt = 2 := rfl
      rw [Int32.le_iff_toInt_le, nI_toInt (by omega)] at h
      rw [Int32.le_iff_toInt_le, z2] at q
      omega
theorem p_table {nt : Nat} (hn : nt ≤ 6) : m_X2_hasTable nt = 0 ↔ nI nt = 0 := by
  unfold m_X2_hasTable
  by_cases h : nt = 0
  · subst h; decide
  · rw [if_neg (nI_nle (by omega) (by omega))]
    exact ⟨fun q => absurd q (by decide), fun q => absurd q (nI_ne0 (by omega) (by omega))⟩
theorem p_part {b v : Nat} {w : Int32} (hb : b < 18) (hv : 46 ≤ v) (hv2 : v ≤ 154) : m_X2_partOfChoice (nI (v * 18 + 17 - b)) w = (if w = 0 then nI b / 3 else (if w = 1 then nI b - nI b / 3 * 3 else nI v)) := by
  have e9 : ¬ nI (v * 18 + 17 - b) = -9 := by
    intro q
    have := nI_toInt (n := v * 18 + 17 - b) (by omega)
    rw [q] at this
    have z : (-9 : Int32).toInt = -9 := rfl
    omega
  have el : m_X0_leadOfChoice (nI (v * 18 + 17 - b)) = nI v := by
    unfold m_X0_leadOfChoice
    rw [show (18 : Int32) = nI 18 from rfl, pk_div (by omega) (by omega) (by omega)]
    congr 1; omega
  have em : m_X0_moveOfChoice (nI (v * 18 + 17 - b)) = nI b := by
    unfold m_X0_moveOfChoice
    rw [show (18 : Int32) = nI 18 from rfl, pk_rem (by omega) (by omega) (by omega), show (17 : Int32) = nI 17 from rfl, pk_sub (by omega)]
    congr 1; omega
  unfold m_X2_partOfChoice
  rw [if_neg e9, el, em]
theorem p_refuse {nt : Nat} {v1 v2 : Int32} (hn : nt ≤ 6) : m_X2_refusalOfMove nt v1 v2 = (if m_X3_noHouse v1 = 0 then (if m_X3_in v2.toInt64 0 2 = 0 then (-2 : Int32) else (if nI nt = 0 then (-3) else 0)) else (-1)) := by
  unfold m_X2_refusalOfMove
  rcases p_house v1 with ⟨_, h2, h3⟩ | ⟨h2, h3⟩
  · rw [if_neg (by rw [h2]; decide), if_pos h3]
    rcases p_what v2 with ⟨j, hj, e, a, b, c⟩ | ⟨a, c⟩
    · rw [if_neg a, if_pos b, if_neg c]
      by_cases q : nI nt = 0
      · rw [if_pos ((p_table hn).mpr q), if_pos q]
      · rw [if_neg (fun z => q ((p_table hn).mp z)), if_neg q]
    · rw [if_pos c]
      by_cases q : v2 < 0
      · rw [if_pos q]
      · rw [if_neg q, if_neg (a.resolve_left q)]
  · rw [if_pos h2, if_neg (by rw [h3]; decide)]
theorem p_goodOp {n nc : Nat} {ac ac' kd ho pl st kd' ho' pl' st' : Nat → Int32} {ea v1 v2 : Int32} (hn : nc ≤ 6) (h6 : n ≤ 6) (ht : TH n nc kd ho pl st kd' ho' pl' st') (hc : TC nc ac ac') : m_X2_good ac kd ho pl st nc n ea v1 v2 = m_X3_good nc ac' n kd' ho' pl' st' ea v1 v2 := by
  unfold m_X2_good m_X3_good
  rw [p_refuse h6]
  by_cases a : m_X3_noHouse v1 = 0
  · rw [if_pos a, if_pos a]
    by_cases b : m_X3_in v2.toInt64 0 2 = 0
    · rw [if_pos b, if_pos b, if_neg (by decide)]
    · rw [if_neg b, if_neg b]
      by_cases c : nI n = 0
      · rw [if_pos c, if_pos c, if_neg (by decide)]
      · rw [if_neg c, if_neg c, if_pos rfl]
        have hh : v1 = 0 ∨ v1 = 1 := by
          rcases p_house v1 with h | h
          · exact h.1
          · rw [h.2] at a; exact absurd a (by decide)
        obtain ⟨most, h | ⟨b, v, h1, h2, h3, h4, h5, h7, h8, h9, h10⟩⟩ := p_good (ea := ea) hn h6 hh ht hc
        · rw [h.1, h.2.1, if_neg (by decide)]
          unfold m_X2_partOfChoice
          rw [if_pos rfl]
        · rw [h10, h8, p_part h2 h3 h4, if_pos (nI_pos' (by omega)), nI_clamp (by omega)]
          have h7' : m_X3_leadOf nc ac' n kd' ho' ((m_X3_doAct pl' ea (nI (b / 3)) (nI (b % 3))).1) st' ((m_X3_doAct pl' ea (nI (b / 3)) (nI (b % 3))).2) v1 = nI v := h7
          rw [h7']
  · rw [if_neg a, if_neg a, if_neg (by decide)]
theorem p_behind {n nc : Nat} {ac ac' kd ho pl st kd' ho' pl' st' : Nat → Int32} {ea h : Int32} (hn : nc ≤ 6) (h6 : n ≤ 6) (hh : h = 0 ∨ h = 1) (ht : TH n nc kd ho pl st kd' ho' pl' st') (hc : TC nc ac ac') : (if (m_X0_goodChoice ac kd ho pl st nc n ea (1 - h)) = (-9) then (m_X0_leadOf ac kd ho pl st nc n ea h) else 200 - (m_X0_leadOfChoice (m_X0_goodChoice ac kd ho pl st nc n ea (1 - h)))) = m_X3_leadBehindOther nc ac' n kd' ho' pl' st' ea h ∧ ∃ w, 46 ≤ w ∧ w ≤ 154 ∧ m_X3_leadBehindOther nc ac' n kd' ho' pl' st' ea h = nI w := by
  have hc' : ∀ j, j < nc → tw_dg (ac' j) 10 := fun j hj => by have := hc j hj; exact this.1 ▸ this.2
  have hg : 1 - h = 0 ∨ 1 - h = 1 := by
    rcases hh with rfl | rfl
    · exact Or.inr (by decide)
    · exact Or.inl (by decide)
  have hhg : 1 - (1 - h) = h := by rcases hh with rfl | rfl <;> decide
  unfold m_X3_leadBehindOther
  obtain ⟨most, q | ⟨b, v, h1, h2, h3, h4, h5, h7, h8, h9, h10⟩⟩ := p_good (ea := ea) hn h6 hg ht hc
  · rw [q.1, q.2.1, if_pos rfl, if_neg (by decide), p_lead h6 ht hc hh]
    obtain ⟨w, w1, w2, w3, _⟩ := p_lead_v (nt := n) (kd := kd') (ho := ho') (pl := pl') (st := st') (ea := ea) hn hc' hh
    exact ⟨rfl, w, w1, w2, w3⟩
  · have e9 : ¬ nI (v * 18 + 17 - b) = -9 := by
      intro q
      have := nI_toInt (n := v * 18 + 17 - b) (by omega)
      rw [q] at this
      have z : (-9 : Int32).toInt = -9 := rfl
      omega
    have el : m_X0_leadOfChoice (nI (v * 18 + 17 - b)) = nI v := by
      unfold m_X0_leadOfChoice
      rw [show (18 : Int32) = nI 18 from rfl, pk_div (by omega) (by omega) (by omega)]
      congr 1; omega
    rw [h10, h8, if_neg e9, el, if_pos (nI_pos' (by omega)), nI_clamp (by omega), show (200 : Int32) - nI v = nI (200 - v) from pk_sub (a := 200) (by omega)]
    obtain ⟨w, w1, w2, w3, w4⟩ := p_lead_v (nt := n) (kd := kd') (ho := ho') (pl := (m_X3_doAct pl' ea (nI (b / 3)) (nI (b % 3))).1) (st := st') (ea := (m_X3_doAct pl' ea (nI (b / 3)) (nI (b % 3))).2) hn hc' hg
    have h7' : m_X3_leadOf nc ac' n kd' ho' ((m_X3_doAct pl' ea (nI (b / 3)) (nI (b % 3))).1) st' ((m_X3_doAct pl' ea (nI (b / 3)) (nI (b % 3))).2) (1 - h) = nI v := h7
    rw [h7'] at w3
    have ew : v = w := (nI_eq (by omega) (by omega)).mp w3
    subst ew
    rw [hhg] at w4
    rw [w4]
    exact ⟨rfl, 200 - v, by omega, by omega, rfl⟩
/-- the lead of house h behind the move mv and the other's best -/
def s_lb (nc : Nat) (ac : Nat → Int32) (nt : Nat) (kd ho pl st : Nat → Int32) (ea h : Int32) (mv : Nat) : Int32 := m_X3_leadBehindOther nc ac nt kd ho ((m_X3_doAct pl ea (nI (mv / 3)) (nI (mv % 3))).1) st ((m_X3_doAct pl ea (nI (mv / 3)) (nI (mv % 3))).2) h
theorem p_safeL {n nc : Nat} {ac ac' kd ho pl st kd' ho' pl' st' : Nat → Int32} {ea h : Int32} (hn : nc ≤ 6) (h6 : n ≤ 6) (hh : h = 0 ∨ h = 1) (ht : TH n nc kd ho pl st kd' ho' pl' st') (hc : TC nc ac ac') : ∀ k i u most best, i + k = n * 3 → GC (fun mv => ¬ m_X3_mayMove nc ho' pl' ea h mv = 0) (s_lb nc ac' n kd' ho' pl' st' ea h) i u best most → GC (fun mv => ¬ m_X3_mayMove nc ho' pl' ea h mv = 0) (s_lb nc ac' n kd' ho' pl' st' ea h) (n * 3) (m_X0_safeChoice_L5 ac kd ho pl st nc n ea h k i u) (m_X3_safe_L44 nc ac' n kd' ho' pl' st' ea h k i most best).2 (m_X3_safe_L44 nc ac' n kd' ho' pl' st' ea h k i most best).1 := by
  intro k
  induction k with
  | zero => intro i u most best hk hg; rw [m_X0_safeChoice_L5_0, m_X3_safe_L44_0, ← show i = n * 3 by omega]; exact hg
  | succ k ih =>
    intro i u most best hk hg
    rw [m_X0_safeChoice_L5_s, m_X3_safe_L44_s]
    have ec := p_canMove (ea := ea) (h := h) (mv := i) hn h6 (by omega) ht
    by_cases q : m_X3_mayMove nc ho' pl' ea h i = 0
    · rw [if_pos (ec.trans q), if_pos q]
      exact ih (i + 1) u most best (by omega) (GC_up hg)
    · have q2 : ¬ m_X0_canMove ho pl nc ea h i = 0 := by rw [ec]; exact q
      rw [if_neg q2, if_neg q]
      have ht2 := p_doTH hn (show i / 3 < n by omega) h6 (show i % 3 < 3 by omega) ht (canMove_canDo q2)
      have eE := p_doEa (pl := pl) (pl' := pl') (ea := ea) (v := nI (i / 3)) (show i % 3 < 3 by omega)
      rw [eE]
      obtain ⟨b1, w, w1, w2, w3⟩ := p_behind (ea := (m_X3_doAct pl' ea (nI (i / 3)) (nI (i % 3))).2) hn h6 hh ht2 hc
      rw [b1, w3, p_choice w2 (by omega)]
      exact ih (i + 1) _ _ _ (by omega) (GC_step (by omega) w1 w2 q w3 hg)
theorem p_safeOp {n nc : Nat} {ac ac' kd ho pl st kd' ho' pl' st' : Nat → Int32} {ea v1 v2 : Int32} (hn : nc ≤ 6) (h6 : n ≤ 6) (ht : TH n nc kd ho pl st kd' ho' pl' st') (hc : TC nc ac ac') : m_X2_safe ac kd ho pl st nc n ea v1 v2 = m_X3_safe nc ac' n kd' ho' pl' st' ea v1 v2 := by
  unfold m_X2_safe m_X3_safe
  rw [p_refuse h6]
  by_cases a : m_X3_noHouse v1 = 0
  · rw [if_pos a, if_pos a]
    by_cases b : m_X3_in v2.toInt64 0 2 = 0
    · rw [if_pos b, if_pos b, if_neg (by decide)]
    · rw [if_neg b, if_neg b]
      by_cases c : nI n = 0
      · rw [if_pos c, if_pos c, if_neg (by decide)]
      · rw [if_neg c, if_neg c, if_pos rfl]
        have hh : v1 = 0 ∨ v1 = 1 := by
          rcases p_house v1 with h | h
          · exact h.1
          · rw [h.2] at a; exact absurd a (by decide)
        have hg := p_safeL (ea := ea) hn h6 hh ht hc (n * 3) 0 (-9) (-9) (-9) (Nat.zero_add _) (Or.inl ⟨rfl, rfl, rfl⟩)
        rw [Nat.mul_comm 3 n]
        have e0 : m_X0_safeChoice ac kd ho pl st nc n ea v1 = m_X0_safeChoice_L5 ac kd ho pl st nc n ea v1 (n * 3) 0 (-9) := rfl
        rw [e0]
        rcases hg with h | ⟨b, v, h1, h2, h3, h4, h5, h7, h8, h9, h10⟩
        · rw [h.1, h.2.1, if_neg (by decide)]
          unfold m_X2_partOfChoice
          rw [if_pos rfl]
        · rw [h10, h8, h9, p_part h2 h3 h4, if_pos (nI_pos' (by omega))]
  · rw [if_neg a, if_neg a, if_neg (by decide)]
