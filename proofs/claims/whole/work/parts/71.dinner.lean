/-! class and reference: dinners -/
def f2_dinner (ac : Nat → Int32) (kd : Nat → Int32) (ho : Nat → Int32) (pl : Nat → Int32) (st : Nat → Int32) (nc : Nat) (nt : Nat) (ea : Int32) (xac : Nat → Int32) (xkd : Nat → Int32) (xho : Nat → Int32) (xpl : Nat → Int32) (xst : Nat → Int32) (xnc : Nat) (xnt : Nat) (xea : Int32) (ro : Nat → Nat → Int32) (la : Nat → Int32) (sz : Nat → Int32) (k : Nat) (v2 : Int32) (v3 : Int32) (v4 : Int32) (v5 : Int32) : Int32 × (Nat → Int32) × (Nat → Int32) × (Nat → Int32) × (Nat → Int32) × (Nat → Int32) × Nat × Nat × Int32 × Int32 :=
  if (m_X1_faultOfCells (la k) (sz k) v2 v3 (2 * v4)) = 0 then
    if (m_X2_refusalOfPairs nt (ro k) (sz k) v3 v4.toNatClampNeg) = 0 then
      if v5 = 1 then
        (((m_X0_playPairs ((m_X0_become xac xkd xho xpl xst ac kd ho pl st).2.2.1) ((m_X0_become xac xkd xho xpl xst ac kd ho pl st).2.2.2.1) nc nt ea (ro k) (sz k) v3 v4.toNatClampNeg).1), (m_X0_become xac xkd xho xpl xst ac kd ho pl st).1, (m_X0_become xac xkd xho xpl xst ac kd ho pl st).2.1, (m_X0_become xac xkd xho xpl xst ac kd ho pl st).2.2.1, (m_X0_playPairs ((m_X0_become xac xkd xho xpl xst ac kd ho pl st).2.2.1) ((m_X0_become xac xkd xho xpl xst ac kd ho pl st).2.2.2.1) nc nt ea (ro k) (sz k) v3 v4.toNatClampNeg).2.1, (m_X0_become xac xkd xho xpl xst ac kd ho pl st).2.2.2.2, nc, nt, (m_X0_playPairs ((m_X0_become xac xkd xho xpl xst ac kd ho pl st).2.2.1) ((m_X0_become xac xkd xho xpl xst ac kd ho pl st).2.2.2.1) nc nt ea (ro k) (sz k) v3 v4.toNatClampNeg).2.2, 0)
      else
        ((if ((m_X0_playPairs ((m_X0_become xac xkd xho xpl xst ac kd ho pl st).2.2.1) ((m_X0_become xac xkd xho xpl xst ac kd ho pl st).2.2.2.1) nc nt ea (ro k) (sz k) v3 v4.toNatClampNeg).1) = (-9) then (m_X2_answerOfDinner nc nt ((m_X0_become xac xkd xho xpl xst ac kd ho pl st).1) ((m_X0_become xac xkd xho xpl xst ac kd ho pl st).2.1) ((m_X0_become xac xkd xho xpl xst ac kd ho pl st).2.2.1) ((m_X0_playPairs ((m_X0_become xac xkd xho xpl xst ac kd ho pl st).2.2.1) ((m_X0_become xac xkd xho xpl xst ac kd ho pl st).2.2.2.1) nc nt ea (ro k) (sz k) v3 v4.toNatClampNeg).2.1) ((m_X0_become xac xkd xho xpl xst ac kd ho pl st).2.2.2.2) nc nt ((m_X0_playPairs ((m_X0_become xac xkd xho xpl xst ac kd ho pl st).2.2.1) ((m_X0_become xac xkd xho xpl xst ac kd ho pl st).2.2.2.1) nc nt ea (ro k) (sz k) v3 v4.toNatClampNeg).2.2) v5) else (-100) - ((m_X0_playPairs ((m_X0_become xac xkd xho xpl xst ac kd ho pl st).2.2.1) ((m_X0_become xac xkd xho xpl xst ac kd ho pl st).2.2.2.1) nc nt ea (ro k) (sz k) v3 v4.toNatClampNeg).1)), (m_X0_become xac xkd xho xpl xst ac kd ho pl st).1, (m_X0_become xac xkd xho xpl xst ac kd ho pl st).2.1, (m_X0_become xac xkd xho xpl xst ac kd ho pl st).2.2.1, (m_X0_playPairs ((m_X0_become xac xkd xho xpl xst ac kd ho pl st).2.2.1) ((m_X0_become xac xkd xho xpl xst ac kd ho pl st).2.2.2.1) nc nt ea (ro k) (sz k) v3 v4.toNatClampNeg).2.1, (m_X0_become xac xkd xho xpl xst ac kd ho pl st).2.2.2.2, nc, nt, (m_X0_playPairs ((m_X0_become xac xkd xho xpl xst ac kd ho pl st).2.2.1) ((m_X0_become xac xkd xho xpl xst ac kd ho pl st).2.2.2.1) nc nt ea (ro k) (sz k) v3 v4.toNatClampNeg).2.2, 0)
    else
      ((m_X2_refusalOfPairs nt (ro k) (sz k) v3 v4.toNatClampNeg), xac, xkd, xho, xpl, xst, xnc, xnt, xea, 0)
  else
    ((m_X2_faulted (m_X1_faultOfCells (la k) (sz k) v2 v3 (2 * v4))).1, xac, xkd, xho, xpl, xst, xnc, xnt, xea, (m_X2_faulted (m_X1_faultOfCells (la k) (sz k) v2 v3 (2 * v4))).2)
theorem at2 {f : Nat → Int32} {S j i : Nat} (hS : S ≤ 60) (h : j + 2 * i < S) : m_X1_at f (nI S) (nI j + 2 * nI i) = f (j + 2 * i) := by
  rw [show (2 : Int32) = nI 2 from rfl, pk_mul, nI_add, at_in hS h]
theorem at3 {f : Nat → Int32} {S j i : Nat} (hS : S ≤ 60) (h : j + 2 * i + 1 < S) : m_X1_at f (nI S) (nI j + 2 * nI i + 1) = f (j + 2 * i + 1) := by
  rw [show (2 : Int32) = nI 2 from rfl, pk_mul, nI_add, nI_1, at_in hS h]
theorem p_prs {f sh : Nat → Int32} {S j fr n nt : Nat} (h6 : nt ≤ 6) (hS : S ≤ 60) (hj : j + 2 * n ≤ S) (hf : ∀ p, p < 2 * n → f (j + p) = sh (fr + p)) : ∀ k i, i + k = n → m_X2_refusalOfPairs_L3 nt f (nI S) (nI j) k i = m_X3_pairsBarred_L2 nt sh fr k i ∧ ((m_X2_refusalOfPairs_L3 nt f (nI S) (nI j) k i = 0 ∧ ∀ p, i ≤ p → p < n → (∃ a, a < nt ∧ f (j + 2 * p) = nI a) ∧ ∃ d, d < 3 ∧ f (j + 2 * p + 1) = nI d) ∨ (m_X2_refusalOfPairs_L3 nt f (nI S) (nI j) k i < 0)) := by
  intro k
  induction k with
  | zero => intro i hk; exact ⟨rfl, Or.inl ⟨rfl, fun p h1 h2 => absurd h2 (by omega)⟩⟩
  | succ k ih =>
    intro i hk
    obtain ⟨i1, i2⟩ := ih (i + 1) (by omega)
    have g1 := hf (2 * i) (by omega)
    have g2 := hf (2 * i + 1) (by omega)
    have g2 : f (j + 2 * i + 1) = sh (fr + 2 * i + 1) := g2
    rw [m_X2_refusalOfPairs_L3_s, m_X3_pairsBarred_L2_s, at2 hS (by omega), at3 hS (by omega), ← g1, ← g2]
    rcases p_thing (f (j + 2 * i)) h6 with ⟨a, ha, ea, e1, e2⟩ | ⟨e1, e2⟩
    · rw [e1, e2, if_neg n10, if_pos rfl]
      have ew : m_X2_isAct (f (j + 2 * i + 1)) = m_X2_isLane (f (j + 2 * i + 1)) := rfl
      rw [ew]
      rcases p_lane (f (j + 2 * i + 1)) with ⟨d, hd, ed, l1, l2⟩ | ⟨l1, l2⟩
      · rw [l1, if_neg n10, if_neg l2]
        refine ⟨i1, ?_⟩
        rcases i2 with ⟨i2, i3⟩ | i2
        · refine Or.inl ⟨i2, fun p h1 h2 => ?_⟩
          by_cases q : p = i
          · subst q; exact ⟨⟨a, ha, ea⟩, d, hd, ed⟩
          · exact i3 p (by omega) h2
        · exact Or.inr i2
      · rw [l1, if_pos rfl, if_pos l2]; exact ⟨rfl, Or.inr (by decide)⟩
    · rw [e1, e2, if_pos rfl, if_neg n10]; exact ⟨rfl, Or.inr (by decide)⟩
theorem go_stop {nc fr p : Nat} {ho sh w : Nat → Int32} {ea : Int32} (hp : p < 2 ^ 31) : ∀ k i, m_X3_goDinner_L6 nc ho sh fr k i (nI p) w ea = (nI p, w, ea) := by
  intro k i
  cases k with
  | zero => rfl
  | succ k => rw [m_X3_goDinner_L6_s, if_pos (nI_pos' hp)]
theorem p_doEA {nt x d : Nat} {pl : Nat → Int32} {ea : Int32} (h6 : nt ≤ 6) (hx : x < nt) (hd : d < 3) (h : EA nt ea) : EA nt (m_X0_doAct pl ea (nI x) (nI d)).2 := by
  unfold m_X0_doAct
  have h012 : d = 0 ∨ d = 1 ∨ d = 2 := by omega
  rcases h012 with rfl | rfl | rfl
  · rw [if_pos (show nI 0 = 0 from rfl)]; exact h
  · rw [if_neg (show ¬ nI 1 = 0 by decide), if_pos (show nI 1 = 1 from rfl)]; exact h
  · rw [if_neg (show ¬ nI 2 = 0 by decide), if_neg (show ¬ nI 2 = 1 by decide)]; exact EA_or h6 hx h
section DN
variable {nt nc : Nat} {ac ac' kd ho pl st kd' ho' pl' st' : Nat → Int32}
def PR (nt nc : Nat) (kd ho st kd' ho' st' : Nat → Int32) (A B : Int32 × (Nat → Int32) × Int32) : Prop := A.1 = B.1 ∧ TH nt nc kd ho A.2.1 st kd' ho' B.2.1 st' ∧ A.2.2 = B.2.2 ∧ EA nt A.2.2 ∧ (A.1 = -9 ∨ 0 ≤ A.1)
theorem p_play {f sh : Nat → Int32} {S j fr n : Nat} (hn : nc ≤ 6) (h6 : nt ≤ 6) (hS : S ≤ 60) (hj : j + 2 * n ≤ S) (hf : ∀ p, p < 2 * n → f (j + p) = sh (fr + p)) (hv : ∀ p, p < n → (∃ a, a < nt ∧ f (j + 2 * p) = nI a) ∧ ∃ d, d < 3 ∧ f (j + 2 * p + 1) = nI d) : ∀ k i w w' ea, i + k = n → TH nt nc kd ho w st kd' ho' w' st' → EA nt ea → PR nt nc kd ho st kd' ho' st' (m_X0_playPairs_L3 ho nc nt f (nI S) (nI j) k i w ea) (m_X3_goDinner_L6 nc ho' sh fr k i (-9) w' ea) := by
  intro k
  induction k with
  | zero => intro i w w' ea _ ht he; exact ⟨rfl, ht, rfl, he, Or.inl rfl⟩
  | succ k ih =>
    intro i w w' ea hk ht he
    obtain ⟨⟨a, ha, e1⟩, d, hd, e2⟩ := hv i (by omega)
    have g1 := hf (2 * i) (by omega)
    have g2 : f (j + 2 * i + 1) = sh (fr + 2 * i + 1) := hf (2 * i + 1) (by omega)
    obtain ⟨t1, t2, t3, t4, t5, t6, t7, t8⟩ := ht a ha
    rw [m_X0_playPairs_L3_s, m_X3_goDinner_L6_s, at2 hS (by omega), at3 hS (by omega), ← g1, ← g2, e1, e2, if_neg (nI_pos (by omega)), if_neg (nI_ge ha (by omega)), nI_clamp (show a < 2 ^ 31 by omega), if_neg (show ¬ (0 : Int32) ≤ -9 by decide), t2]
    have hi0 : (0 : Int32) ≤ nI i := nI_pos' (by omega)
    by_cases b : ho' a = nI (i % 2)
    · rw [if_pos b, if_pos b, p_canDo hn (show a < 2 ^ 31 by omega) hd t3 t7]
      by_cases q : m_X3_mayAct nc w' ea (nI a) (nI d) = 0
      · rw [if_pos q, if_pos q, go_stop (by omega)]; exact ⟨rfl, ht, rfl, he, Or.inr hi0⟩
      · have q2 : ¬ m_X0_canDo w nc ea (nI a) (nI d) = 0 := by rw [p_canDo hn (show a < 2 ^ 31 by omega) hd t3 t7]; exact q
        rw [if_neg q, if_neg q, ← p_doEa (pl := w) (pl' := w') (ea := ea) (v := nI a) hd]
        exact ih (i + 1) _ _ _ (by omega) (p_doTH hn ha h6 hd ht q2) (p_doEA h6 ha hd he)
    · rw [if_neg b, if_neg b, go_stop (by omega)]; exact ⟨rfl, ht, rfl, he, Or.inr hi0⟩
theorem TH_cpy {xkd xho xpl xst : Nat → Int32} (h6 : nt ≤ 6) (ht : TH nt nc kd ho pl st kd' ho' pl' st') : TH nt nc (va_cpy kd xkd 0 0 6) (va_cpy ho xho 0 0 6) (va_cpy pl xpl 0 0 6) (va_cpy st xst 0 0 6) kd' ho' pl' st' := by
  intro i hi
  have e : ∀ f g : Nat → Int32, va_cpy f g 0 0 6 i = f i := fun f g => sb_cpy0 (by omega)
  rw [e, e, e, e]
  exact ht i hi
theorem TC_cpy {xac : Nat → Int32} (hn : nc ≤ 6) (hc : TC nc ac ac') : TC nc (va_cpy ac xac 0 0 6) ac' := by
  intro i hi
  rw [show va_cpy ac xac 0 0 6 i = ac i from sb_cpy0 (by omega)]
  exact hc i hi
theorem p_q (x : Int32) : (∃ j, x = nI j ∧ (j = 0 ∨ j = 1 ∨ j = 2 ∨ j = 3 ∨ (∃ a, a < 6 ∧ j = 10 + a) ∨ (∃ a, a < 6 ∧ j = 20 + a)) ∧ m_X2_isDinnerQuestion x = 1 ∧ ¬ ((if (m_X3_in x.toInt64 0 3) = 0 then (if (m_X3_in x.toInt64 10 15) = 0 then (if (m_X3_in x.toInt64 20 25) = 0 then 0 else 1) else 1) else 1) : Int32) = 0) ∨ (m_X2_isDinnerQuestion x = 0 ∧ ((if (m_X3_in x.toInt64 0 3) = 0 then (if (m_X3_in x.toInt64 10 15) = 0 then (if (m_X3_in x.toInt64 20 25) = 0 then 0 else 1) else 1) else 1) : Int32) = 0) := by
  rcases p_rng x (n := 26) (by omega) with ⟨j, hj, rfl⟩ | h
  · have key : ∀ j, j < 26 → ((j = 0 ∨ j = 1 ∨ j = 2 ∨ j = 3 ∨ (10 ≤ j ∧ j < 16) ∨ (20 ≤ j ∧ j < 26)) ∧ m_X2_isDinnerQuestion (nI j) = 1 ∧ ¬ ((if (m_X3_in (nI j).toInt64 0 3) = 0 then (if (m_X3_in (nI j).toInt64 10 15) = 0 then (if (m_X3_in (nI j).toInt64 20 25) = 0 then 0 else 1) else 1) else 1) : Int32) = 0) ∨ (m_X2_isDinnerQuestion (nI j) = 0 ∧ ((if (m_X3_in (nI j).toInt64 0 3) = 0 then (if (m_X3_in (nI j).toInt64 10 15) = 0 then (if (m_X3_in (nI j).toInt64 20 25) = 0 then 0 else 1) else 1) else 1) : Int32) = 0) := by decide +kernel
    rcases key j hj with ⟨a, b, c⟩ | a
    · refine Or.inl ⟨j, rfl, ?_, b, c⟩
      rcases a with a | a | a | a | a | a
      · exact Or.inl a
      · exact Or.inr (Or.inl a)
      · exact Or.inr (Or.inr (Or.inl a))
      · exact Or.inr (Or.inr (Or.inr (Or.inl a)))
      · exact Or.inr (Or.inr (Or.inr (Or.inr (Or.inl ⟨j - 10, by omega, by omega⟩))))
      · exact Or.inr (Or.inr (Or.inr (Or.inr (Or.inr ⟨j - 20, by omega, by omega⟩))))
    · exact Or.inr a
  · have hx : x.toInt < 0 ∨ 26 ≤ x.toInt := by
      rcases h with h | h
      · exact Or.inl (by rw [Int32.lt_iff_toInt_lt] at h; exact h)
      · exact Or.inr (by rw [Int32.le_iff_toInt_le, nI_toInt (by omega)] at h; exact h)
    have no : ∀ (a b : Int64), 0 ≤ a.toInt → b.toInt < 26 → m_X3_in x.toInt64 a b = 0 := by
      intro a b ha hb
      by_cases q : m_X3_in x.toInt64 a b = 0
      · exact q
      · have := in_iff.mp q; omega
    refine Or.inr ⟨?_, ?_⟩
    · unfold m_X2_isDinnerQuestion
      have t0 : (0 : Int32).toInt = 0 := rfl
      have t3 : (3 : Int32).toInt = 3 := rfl
      have t10 : (10 : Int32).toInt = 10 := rfl
      have t16 : (16 : Int32).toInt = 16 := rfl
      have t20 : (20 : Int32).toInt = 20 := rfl
      have t26 : (26 : Int32).toInt = 26 := rfl
      simp only [Int32.lt_iff_toInt_lt, Int32.le_iff_toInt_le, t0, t3, t10, t16, t20, t26]
      rcases hx with hx | hx
      · rw [if_pos hx, if_pos (by omega), if_pos (by omega)]
      · rw [if_neg (by omega), if_neg (by omega), if_neg (by omega), if_neg (by omega), if_neg (by omega), if_pos hx]
    · rw [if_pos (no 0 3 (by decide) (by decide)), if_pos (no 10 15 (by decide) (by decide)), if_pos (no 20 25 (by decide) (by decide))]
/-- what the reference answers of a dinner that has gone so -/
def s_dn (nc : Nat) (ac : Nat → Int32) (nt : Nat) (kd ho st : Nat → Int32) (v : Int32) (G : Int32 × (Nat → Int32) × Int32) : Int32 := if v = 1 then G.1 else (if G.1 < 0 then (if v < 20 then (if v < 10 then (if v = 0 then (m_X3_landOf nc ac nt kd ho G.2.1 st G.2.2 0) else (if v = 2 then (m_X3_landOf nc ac nt kd ho G.2.1 st G.2.2 1) else (m_X3_bits G.2.2))) else (if (m_X3_noThing nt (v - 10)) = 0 then (if (m_X3_isIn G.2.2 (v - 10)) = 0 then G.2.1 (v - 10).toNatClampNeg else (-9 : Int32)) else (-9 : Int32))) else (if (m_X3_noSquare nc (v - 20)) = 0 then (m_X3_holder nt kd ho G.2.1 st G.2.2 (v - 20)) else (-9 : Int32))) else -100 - G.1)
theorem s_dn_e {ea v : Int32} {sh : Nat → Int32} {fr nn : Nat} : (m_X3_dinnerBy nc ac nt kd ho pl st ea sh v fr nn).1 = s_dn nc ac nt kd ho st v (m_X3_goDinner nc ho pl ea sh fr nn) := by
  unfold m_X3_dinnerBy s_dn
  by_cases a : v = 1
  · rw [if_pos a, if_pos a]
  · rw [if_neg a, if_neg a]
    by_cases b : (m_X3_goDinner nc ho pl ea sh fr nn).1 < 0
    · rw [if_pos b, if_pos b]
      by_cases c : v < 20
      · rw [if_pos c, if_pos c]
        by_cases d : v < 10
        · rw [if_pos d, if_pos d]
        · rw [if_neg d, if_neg d]
      · rw [if_neg c, if_neg c]
    · rw [if_neg b, if_neg b]
theorem p_ans {A B : Int32 × (Nat → Int32) × Int32} {j : Nat} (hn : nc ≤ 6) (h6 : nt ≤ 6) (hc : TC nc ac ac') (hp : PR nt nc kd ho st kd' ho' st' A B) (hq : j = 0 ∨ j = 1 ∨ j = 2 ∨ j = 3 ∨ (∃ a, a < 6 ∧ j = 10 + a) ∨ (∃ a, a < 6 ∧ j = 20 + a)) (h1 : ¬ nI j = 1) : (if A.1 = -9 then m_X2_answerOfDinner nc nt ac kd ho A.2.1 st nc nt A.2.2 (nI j) else -100 - A.1) = s_dn nc ac' nt kd' ho' st' (nI j) B := by
  obtain ⟨p1, p2, p3, p4, p5⟩ := hp
  unfold s_dn
  rw [if_neg h1, ← p1, ← p3]
  rcases p5 with p5 | p5
  · rw [if_pos p5, p5, if_pos (by decide)]
    unfold m_X2_answerOfDinner
    rcases hq with rfl | rfl | rfl | rfl | ⟨a, ha, rfl⟩ | ⟨a, ha, rfl⟩
    · rw [if_pos (show nI 0 = 0 from rfl), if_pos (show nI 0 < 20 by decide), if_pos (show nI 0 < 10 by decide), if_pos (show nI 0 = 0 from rfl), p_land h6 p2 hc]
    · exact absurd rfl h1
    · rw [if_neg (show ¬ nI 2 = 0 by decide), if_pos (show nI 2 = 2 from rfl), if_pos (show nI 2 < 20 by decide), if_pos (show nI 2 < 10 by decide), if_neg (show ¬ nI 2 = 0 by decide), if_pos (show nI 2 = 2 from rfl), p_land h6 p2 hc]
    · rw [if_neg (show ¬ nI 3 = 0 by decide), if_neg (show ¬ nI 3 = 2 by decide), if_pos (show nI 3 = 3 from rfl), if_pos (show nI 3 < 20 by decide), if_pos (show nI 3 < 10 by decide), if_neg (show ¬ nI 3 = 0 by decide), if_neg (show ¬ nI 3 = 2 by decide), p_bits h6 p4]
    · have es : nI (10 + a) - 10 = nI a := by rw [show (10 : Int32) = nI 10 from rfl, pk_sub (by omega)]; congr 1; omega
      rw [if_neg (show ¬ nI (10 + a) = 0 from nI_ne0 (by omega) (by omega)), if_neg (show ¬ nI (10 + a) = 2 from fun z => by have := (nI_eq (b := 2) (by omega) (by decide)).mp z; omega), if_neg (show ¬ nI (10 + a) = 3 from fun z => by have := (nI_eq (b := 3) (by omega) (by decide)).mp z; omega), if_neg (show ¬ (20 : Int32) ≤ nI (10 + a) from nI_ge (b := 20) (by omega) (by decide)), if_pos (show nI (10 + a) < 20 from nI_lt (b := 20) (by omega) (by decide)), if_neg (show ¬ nI (10 + a) < 10 from nI_nlt (b := 10) (by omega) (by omega)), es]
      rcases p_thing (nI a) h6 with ⟨x, hx, ex, e1, e2⟩ | ⟨e1, e2⟩
      · have hax : a = x := (nI_eq (by omega) (by omega)).mp ex
        subst hax
        rw [e1, e2, if_neg n10, if_pos rfl]
        unfold m_X0_whereIs
        rw [nI_clamp (by omega), (p2 a hx).2.2.1]
        rfl
      · rw [e1, e2, if_pos rfl, if_neg n10]
    · have es : nI (20 + a) - 20 = nI a := by rw [show (20 : Int32) = nI 20 from rfl, pk_sub (by omega)]; congr 1; omega
      rw [if_neg (show ¬ nI (20 + a) = 0 from nI_ne0 (by omega) (by omega)), if_neg (show ¬ nI (20 + a) = 2 from fun z => by have := (nI_eq (b := 2) (by omega) (by decide)).mp z; omega), if_neg (show ¬ nI (20 + a) = 3 from fun z => by have := (nI_eq (b := 3) (by omega) (by decide)).mp z; omega), if_pos (show (20 : Int32) ≤ nI (20 + a) from nI_le (a := 20) (by omega) (by omega)), if_neg (show ¬ nI (20 + a) < 20 from nI_nlt (b := 20) (by omega) (by omega)), es]
      rcases p_cell (nI a) hn with ⟨x, hx, ex, e1, e2⟩ | ⟨e1, e2⟩
      · rw [e1, e2, if_neg n10, if_pos rfl, p_holder h6 p2]
      · rw [e1, e2, if_pos rfl, if_neg n10]
  · have q1 : ¬ A.1 = -9 := fun z => by rw [z] at p5; exact absurd p5 (by decide)
    rw [if_neg q1, if_neg (Int32.not_lt.mpr p5)]
theorem r173 : ∀ m i (w : Nat → Int32) j, m_X3_dinner_L173 pl m i w j = if i ≤ j ∧ j < i + m then pl j else w j := by
  intro m
  induction m with
  | zero => intro i w j; rw [m_X3_dinner_L173_0, if_neg (by omega)]
  | succ m ih =>
    intro i w j
    rw [m_X3_dinner_L173_s, ih]
    by_cases q : j = i
    · subst q; rw [pk_us, ite_self, if_pos (by omega)]
    · rw [pk_un q]
      by_cases z : i + 1 ≤ j ∧ j < i + 1 + m
      · rw [if_pos z, if_pos (by omega)]
      · rw [if_neg z, if_neg (by omega)]
theorem r227 : ∀ m i (w : Nat → Int32) j, m_X3_dinner_L227 pl m i w j = if i ≤ j ∧ j < i + m then pl j else w j := by
  intro m
  induction m with
  | zero => intro i w j; rw [m_X3_dinner_L227_0, if_neg (by omega)]
  | succ m ih =>
    intro i w j
    rw [m_X3_dinner_L227_s, ih]
    by_cases q : j = i
    · subst q; rw [pk_us, ite_self, if_pos (by omega)]
    · rw [pk_un q]
      by_cases z : i + 1 ≤ j ∧ j < i + 1 + m
      · rw [if_pos z, if_pos (by omega)]
      · rw [if_neg z, if_neg (by omega)]
def DR (nt : Nat) (pl' : Nat → Int32) (A : Int32 × (Nat → Int32) × (Nat → Int32) × (Nat → Int32) × (Nat → Int32) × (Nat → Int32) × Nat × Nat × Int32 × Int32) (B : Int32 × (Nat → Int32) × (Nat → Int32) × Int32) : Prop := A.1 = B.1 ∧ A.2.2.2.2.2.2.2.2.2 = B.2.2.2 ∧ ∀ i, i < nt → B.2.1 i = pl' i
theorem r_dinner {ro : Nat → Nat → Int32} {la sz sz' la' sh' xac xkd xho xpl xst kp : Nat → Int32} {xnc xnt : Nat} {xea ea fa v1 v2 v3 v4 v5 : Int32} (hn : nc ≤ 6) (h6 : nt ≤ 6) (ht : TH nt nc kd ho pl st kd' ho' pl' st') (hc : TC nc ac ac') (he : EA nt ea) (hs : TS ro la sz sz' la' sh') : DR nt pl' (m_X2_dinner ac kd ho pl st nc nt ea xac xkd xho xpl xst xnc xnt xea ro la sz v1 v2 v3 v4 v5) (m_X3_dinner fa nc ac' nt kd' ho' pl' st' ea kp sz' la' sh' v1 v2 v3 v4 v5) := by
  unfold m_X3_dinner
  rcases p_sheet v1 with ⟨k, hk, rfl, e1, e2⟩ | ⟨e1, e2⟩
  · rw [e2, if_pos rfl]
    rcases p_lane v2 with ⟨t, h3, rfl, l1, l2⟩ | ⟨l1, l2⟩
    · rw [if_neg l2]
      rcases p_rng v4 (n := 21) (by omega) with ⟨n4, hn4, rfl⟩ | h4
      · have a1 : ¬ nI n4 < 0 := nI_pos (by omega)
        have a2 : ¬ (20 : Int32) < nI n4 := nI_nlt (a := 20) (by omega) (by decide)
        rw [if_neg (in_yes (b := 20) (by omega) (by show (n4 : Int) ≤ 20; omega))]
        rcases p_q v5 with ⟨jq, rfl, hjq, q1, q2⟩ | ⟨q1, q2⟩
        · rw [if_neg q2]
          by_cases hT : nI nt = 0
          · rw [if_pos hT]
            unfold m_X2_dinner
            rw [e1, if_neg n10, l1, if_neg n10, if_neg a1, if_neg a2, q1, if_neg n10, if_pos ((p_table h6).mpr hT)]
            exact ⟨rfl, rfl, fun i _ => rfl⟩
          · rw [if_neg hT]
            have E : m_X2_dinner ac kd ho pl st nc nt ea xac xkd xho xpl xst xnc xnt xea ro la sz (nI k) (nI t) v3 (nI n4) (nI jq) = f2_dinner ac kd ho pl st nc nt ea xac xkd xho xpl xst xnc xnt xea ro la sz k (nI t) v3 (nI n4) (nI jq) := by
              unfold m_X2_dinner
              rw [e1, if_neg n10, l1, if_neg n10, if_neg a1, if_neg a2, q1, if_neg n10, if_neg (fun z => hT ((p_table h6).mp z))]
              exact sp4 hk (fun k => f2_dinner ac kd ho pl st nc nt ea xac xkd xho xpl xst xnc xnt xea ro la sz k (nI t) v3 (nI n4) (nI jq))
            rw [E]
            unfold f2_dinner
            have m2 : (2 : Int32) * nI n4 = nI (2 * n4) := by rw [show (2 : Int32) = nI 2 from rfl, pk_mul]
            have z2 : ((2 : Int64) * (nI n4).toInt64).toInt = ((2 : Int32) * nI n4).toInt := by
              rw [m2, nI_l (by omega), show (2 : Int64) = lN 2 from rfl, lN_mul, lN_toInt (by omega), nI_toInt (by omega)]
            rcases p_bar hs hk (v2 := nI t) (v3 := v3) (fa := fa) z2 with ⟨f1, f2, S, j, w, g1, g2, rfl, g4, g5, g6⟩ | ⟨f, f0, f1, f2, f3⟩
            · rw [m2] at g4
              have hw : w = 2 * n4 := by
                have x1 := congrArg Int32.toNatClampNeg g4
                have : w < 2 ^ 31 := by omega
                rw [nI_clamp (by omega), nI_clamp this] at x1
                exact x1.symm
              subst hw
              rw [f1, if_pos rfl, f2, if_pos (show (0 : Int32) ≤ 0 by decide)]
              have ef : 60 * (nI k).toNatClampNeg + (nI j).toNatClampNeg = 60 * k + j := by rw [nI_clamp (by omega), nI_clamp (by omega)]
              have hf : ∀ p, p < 2 * n4 → ro k (j + p) = sh' (60 * k + j + p) := fun p hp => by rw [g6 (j + p) (by omega), Nat.add_assoc]
              obtain ⟨r1, r2⟩ := p_prs (nt := nt) h6 g1 g2 hf n4 0 (Nat.zero_add _)
              have r3 : m_X2_refusalOfPairs nt (ro k) (sz k) (nI j) (nI n4).toNatClampNeg = m_X2_refusalOfPairs_L3 nt (ro k) (nI S) (nI j) n4 0 := by
                rw [nI_clamp (show n4 < 2 ^ 31 by omega), g5]; rfl
              have r4 : m_X3_pairsBarred nt sh' (60 * (nI k).toNatClampNeg + (nI j).toNatClampNeg) (nI n4).toNatClampNeg = m_X2_refusalOfPairs_L3 nt (ro k) (nI S) (nI j) n4 0 := by
                rw [nI_clamp (show n4 < 2 ^ 31 by omega), ef, r1]; rfl
              rw [r3, r4]
              rcases r2 with ⟨r2, hv⟩ | r2
              · rw [r2, if_pos rfl, if_pos (show (0 : Int32) ≤ 0 by decide)]
                have hP : PR nt nc (va_cpy kd xkd 0 0 6) (va_cpy ho xho 0 0 6) (va_cpy st xst 0 0 6) kd' ho' st' (m_X0_playPairs ((m_X0_become xac xkd xho xpl xst ac kd ho pl st).2.2.1) ((m_X0_become xac xkd xho xpl xst ac kd ho pl st).2.2.2.1) nc nt ea (ro k) (sz k) (nI j) (nI n4).toNatClampNeg) (m_X3_goDinner nc ho' pl' ea sh' (60 * (nI k).toNatClampNeg + (nI j).toNatClampNeg) (nI n4).toNatClampNeg) := by
                  rw [nI_clamp (show n4 < 2 ^ 31 by omega), ef, g5]
                  exact p_play hn h6 g1 g2 hf (fun p hp => hv p (Nat.zero_le _) hp) n4 0 _ _ _ (Nat.zero_add _) (TH_cpy h6 ht) he
                have hK : ∀ X : Nat → Int32, ∀ i, i < nt → m_X3_dinner_L227 (m_X3_dinner_L173 pl' nt 0 kp) nt 0 X i = pl' i := fun X i hi => by
                  rw [r227, if_pos (by omega), r173, if_pos (by omega)]
                by_cases w1 : nI jq = 1
                · rw [if_pos w1]
                  refine ⟨?_, rfl, hK _⟩
                  refine hP.1.trans (Eq.symm (s_dn_e.trans ?_))
                  unfold s_dn
                  rw [if_pos w1]
                · rw [if_neg w1]
                  refine ⟨?_, rfl, hK _⟩
                  exact (p_ans hn h6 (TC_cpy hn hc) hP hjq w1).trans s_dn_e.symm
              · rw [if_neg (fun z => by rw [z] at r2; exact absurd r2 (by decide)), if_neg (Int32.not_le.mpr r2)]
                exact ⟨rfl, rfl, fun i _ => rfl⟩
            · rw [f2, if_neg f0, f3, if_neg (Int32.not_le.mpr f1)]
              exact ⟨rfl, rfl, fun i _ => rfl⟩
        · rw [if_pos q2]
          unfold m_X2_dinner
          rw [e1, if_neg n10, l1, if_neg n10, if_neg a1, if_neg a2, q1, if_pos rfl]
          exact ⟨rfl, rfl, fun i _ => rfl⟩
      · rw [if_pos (in_no (n := 21) (b := 20) (by omega) rfl h4)]
        unfold m_X2_dinner
        rw [e1, if_neg n10, l1, if_neg n10]
        by_cases a1 : v4 < 0
        · rw [if_pos a1]; exact ⟨rfl, rfl, fun i _ => rfl⟩
        · have a2 : (20 : Int32) < v4 := by
            have x1 := h4.resolve_left a1
            rw [Int32.le_iff_toInt_le, nI_toInt (by omega)] at x1
            rw [Int32.lt_iff_toInt_lt]
            have : (20 : Int32).toInt = 20 := rfl
            omega
          rw [if_neg a1, if_pos a2]; exact ⟨rfl, rfl, fun i _ => rfl⟩
    · rw [if_pos l2]
      unfold m_X2_dinner
      rw [e1, if_neg n10, l1, if_pos rfl]; exact ⟨rfl, rfl, fun i _ => rfl⟩
  · unfold m_X2_dinner
    rw [e1, e2, if_pos rfl, if_neg n10]; exact ⟨rfl, rfl, fun i _ => rfl⟩
end DN
