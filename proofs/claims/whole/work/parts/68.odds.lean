/-! class and reference: odds -/
def od_ls (F : Nat → Nat) : List Nat → Nat
  | [] => 0
  | x :: r => F x + od_ls F r
theorem od_app (F : Nat → Nat) (b : List Nat) : ∀ a, od_ls F (a ++ b) = od_ls F a + od_ls F b := by
  intro a
  induction a with
  | nil => exact (Nat.zero_add _).symm
  | cons x r ih => show F x + od_ls F (r ++ b) = F x + od_ls F r + od_ls F b; rw [ih, Nat.add_assoc]
theorem od_perm (F : Nat → Nat) {a b : List Nat} (h : a.Perm b) : od_ls F a = od_ls F b := by
  induction h with
  | nil => rfl
  | cons x _ ih => show F x + _ = F x + _; rw [ih]
  | swap x y l => show F y + (F x + _) = F x + (F y + _); omega
  | trans _ _ i1 i2 => exact i1.trans i2
def od_rep (l : List Nat) : Nat → List Nat
  | 0 => []
  | k + 1 => l ++ od_rep l k
theorem od_repS (F : Nat → Nat) (l : List Nat) : ∀ k, od_ls F (od_rep l k) = k * od_ls F l := by
  intro k
  induction k with
  | zero => rw [Nat.zero_mul]; rfl
  | succ k ih => show od_ls F (l ++ od_rep l k) = _; rw [od_app, ih, Nat.succ_mul, Nat.add_comm]
theorem od_le (F : Nat → Nat) (h : ∀ v, F v ≤ 1) : ∀ a, od_ls F a ≤ a.length := by
  intro a
  induction a with
  | nil => exact Nat.le_refl _
  | cons x r ih => have := h x; show F x + od_ls F r ≤ r.length + 1; omega
/-- the sets from i on, k of them, with e eaten as well; those apart from e alone -/
def od_a (e : Nat) : Nat → Nat → List Nat
  | 0, _ => []
  | k + 1, i => (e ||| i) :: od_a e k (i + 1)
def od_b (e : Nat) : Nat → Nat → List Nat
  | 0, _ => []
  | k + 1, i => if i &&& e = 0 then (e ||| i) :: od_b e k (i + 1) else od_b e k (i + 1)
/-- how many are eaten -/
def od_n (e : Nat) : Nat := e % 2 + e / 2 % 2 + e / 4 % 2 + e / 8 % 2 + e / 16 % 2 + e / 32 % 2
set_option maxRecDepth 100000 in
theorem od_k5 : ∀ n, n < 6 → ∀ e, e < 2 ^ n → od_n e ≤ n ∧ (od_b e (2 ^ n) 0).length = 2 ^ (n - od_n e) ∧ (od_a e (2 ^ n) 0).isPerm (od_rep (od_b e (2 ^ n) 0) (2 ^ od_n e)) = true := by decide +kernel
set_option maxRecDepth 100000 in
theorem od_k6 : ∀ e, e < 64 → od_n e ≤ 6 ∧ (od_b e 64 0).length = 2 ^ (6 - od_n e) ∧ (od_a e 64 0).isPerm (od_rep (od_b e 64 0) (2 ^ od_n e)) = true := by decide +kernel
theorem od_key {n e : Nat} (hn : n ≤ 6) (he : e < 2 ^ n) : od_n e ≤ n ∧ (od_b e (2 ^ n) 0).length = 2 ^ (n - od_n e) ∧ (od_a e (2 ^ n) 0).Perm (od_rep (od_b e (2 ^ n) 0) (2 ^ od_n e)) := by
  have h : od_n e ≤ n ∧ (od_b e (2 ^ n) 0).length = 2 ^ (n - od_n e) ∧ (od_a e (2 ^ n) 0).isPerm (od_rep (od_b e (2 ^ n) 0) (2 ^ od_n e)) = true := by
    by_cases q : n = 6
    · subst q; exact od_k6 e he
    · exact od_k5 n (by omega) e he
  exact ⟨h.1, h.2.1, List.isPerm_iff.mp h.2.2⟩
set_option maxRecDepth 100000 in
theorem od_fr : ∀ n, n < 7 → ∀ a, a < n + 1 → ∀ up, up < 2 ^ (n - a) + 1 → m_X2_odds_L50 0 n 0 (nI (2 ^ n)) (nI (2 ^ a * up)) = m_X3_share 0 up (2 ^ (n - a)) ∧ m_X2_odds_L50 1 n 0 (nI (2 ^ n)) (nI (2 ^ a * up)) = m_X3_share 1 up (2 ^ (n - a)) := by decide +kernel
set_option maxRecDepth 100000 in
theorem od_or : ∀ e, e < 64 → ∀ i, i < 64 → nI e ||| nI i = nI (e ||| i) ∧ ((nI i &&& nI e = 0) ↔ i &&& e = 0) := by decide +kernel
section OD
variable {n nc : Nat} {ac ac' kd ho pl st kd' ho' pl' st' : Nat → Int32} {h : Int32}
/-- 1 where house h has the greater land -/
def od_F (nc : Nat) (ac : Nat → Int32) (n : Nat) (kd ho pl st : Nat → Int32) (h : Int32) (v : Nat) : Nat := if m_X3_leadOf nc ac n kd ho pl st (nI v) h ≤ 100 then 0 else 1
theorem od_F1 {v : Nat} : od_F nc ac n kd ho pl st h v ≤ 1 := by unfold od_F; split <;> decide
theorem p_odX (h6 : n ≤ 6) (hh : h = 0 ∨ h = 1) (ht : TH n nc kd ho pl st kd' ho' pl' st') (hc : TC nc ac ac') {e : Nat} (he : e < 2 ^ n) : ∀ k i U w, i + k = 2 ^ n → (m_X0_countSetsWithLead_L10 ac kd ho pl st nc n (nI e) h k i (nI U) w).1 = nI (U + od_ls (od_F nc ac' n kd' ho' pl' st' h) (od_a e k i)) := by
  intro k
  induction k with
  | zero => exact fun i U w _ => rfl
  | succ k ih =>
    intro i U w hk
    have h64 := tw_p64 h6
    rw [m_X0_countSetsWithLead_L10_s, (od_or e (by omega) i (by omega)).1, p_lead h6 ht hc hh]
    show _ = nI (U + (od_F nc ac' n kd' ho' pl' st' h (e ||| i) + od_ls (od_F nc ac' n kd' ho' pl' st' h) (od_a e k (i + 1))))
    rw [← Nat.add_assoc]
    unfold od_F
    by_cases q : m_X3_leadOf nc ac' n kd' ho' pl' st' (nI (e ||| i)) h ≤ 100
    · rw [if_pos q, if_pos q, ih (i + 1) _ _ (by omega)]; rfl
    · rw [if_neg q, if_neg q, nI_1, ih (i + 1) _ _ (by omega)]; rfl
theorem p_odF {ea : Int32} (hn : nc ≤ 6) (hc : ∀ i, i < nc → tw_dg (ac i) 10) (hh : h = 0 ∨ h = 1) : m_X3_landOf nc ac n kd ho pl st ea h ≤ m_X3_landOf nc ac n kd ho pl st ea (1 - h) ↔ m_X3_leadOf nc ac n kd ho pl st ea h ≤ 100 := by
  have e : ∀ g, m_X3_landOf nc ac n kd ho pl st ea g = nI (s_la ac (fun j => m_X3_holder n kd ho pl st ea (nI j)) g nc) := fun g => p_laM hn hc nc 0 (Nat.zero_add _)
  have b := s_la_le (ac := ac) (f := fun j => m_X3_holder n kd ho pl st ea (nI j)) nc hc
  have key : ∀ x y : Nat, x ≤ 54 → y ≤ 54 → (nI x ≤ nI y ↔ (100 + nI x) - nI y ≤ 100) := by
    intro x y hx hy
    rw [show (100 : Int32) = nI 100 from rfl, nI_add, pk_sub (by omega), nI_leI (by omega) (by omega), nI_leI (by omega) (by omega)]
    omega
  unfold m_X3_leadOf
  rcases hh with rfl | rfl
  · rw [show (1 : Int32) - 0 = 1 by decide, e, e]
    exact key _ _ (by omega) (by omega)
  · rw [show (1 : Int32) - 1 = 0 by decide, e, e]
    exact key _ _ (by omega) (by omega)
theorem p_odM (h6 : n ≤ 6) (hn : nc ≤ 6) (hh : h = 0 ∨ h = 1) (hc : ∀ i, i < nc → tw_dg (ac i) 10) {e : Nat} (he : e < 2 ^ n) : ∀ k i D U w, i + k = 2 ^ n → (m_X3_odds_L42 nc ac n kd ho pl st (nI e) h k i D U w).1 = D + (od_b e k i).length ∧ (m_X3_odds_L42 nc ac n kd ho pl st (nI e) h k i D U w).2.1 = U + od_ls (od_F nc ac n kd ho pl st h) (od_b e k i) := by
  intro k
  induction k with
  | zero => exact fun i D U w _ => ⟨rfl, rfl⟩
  | succ k ih =>
    intro i D U w hk
    have h64 := tw_p64 h6
    have o := od_or e (by omega) i (by omega)
    rw [m_X3_odds_L42_s, o.1]
    unfold od_b
    by_cases a : i &&& e = 0
    · rw [if_pos (o.2.mpr a), if_pos a]
      by_cases q : m_X3_leadOf nc ac n kd ho pl st (nI (e ||| i)) h ≤ 100
      · rw [if_pos ((p_odF hn hc hh).mpr q)]
        obtain ⟨t1, t2⟩ := ih (i + 1) (D + 1) U (nI (e ||| i)) (by omega)
        rw [t1, t2]
        refine ⟨by rw [List.length_cons]; omega, ?_⟩
        show _ = U + (od_F nc ac n kd ho pl st h (e ||| i) + _)
        unfold od_F
        rw [if_pos q, Nat.zero_add]
      · rw [if_neg (fun z => q ((p_odF hn hc hh).mp z))]
        obtain ⟨t1, t2⟩ := ih (i + 1) (D + 1) (U + 1) (nI (e ||| i)) (by omega)
        rw [t1, t2]
        refine ⟨by rw [List.length_cons]; omega, ?_⟩
        show _ = U + (od_F nc ac n kd ho pl st h (e ||| i) + _)
        have e1 : od_F nc ac n kd ho pl st h (e ||| i) = 1 := by unfold od_F; rw [if_neg q]
        rw [e1, Nat.add_assoc]
    · rw [if_neg (fun z => a (o.2.mp z)), if_neg a]
      exact ih (i + 1) D U w (by omega)
theorem r_odds {ea v1 v2 : Int32} (h6 : n ≤ 6) (hn : nc ≤ 6) (ht : TH n nc kd ho pl st kd' ho' pl' st') (hc : TC nc ac ac') (hE : EA n ea) : m_X2_odds ac kd ho pl st nc n ea v1 v2 = m_X3_odds nc ac' n kd' ho' pl' st' ea v1 v2 := by
  unfold m_X2_odds m_X3_odds
  rcases p_house v1 with ⟨hh, a1, a2⟩ | ⟨a1, a2⟩
  · rw [a1, a2, if_neg n10, if_pos rfl]
    rcases p_rng v2 (n := 2) (by omega) with ⟨j, hj, rfl⟩ | q
    · rw [if_neg (nI_pos (by omega)), if_neg (nI_ge (a := j) (b := 2) hj (by omega) |> fun z => fun w => z (by
        rw [show (1 : Int32) = nI 1 from rfl, nI_ltI (by omega) (by omega)] at w
        omega)), if_neg (in_yes (b := 1) (by omega) (by have : (1 : Int64).toInt = 1 := rfl; omega))]
      by_cases z : nI n = 0
      · rw [if_pos ((p_table h6).mpr z), if_pos z]; rfl
      · rw [if_neg (fun w => z ((p_table h6).mp w)), if_neg z]
        obtain ⟨e, he, rfl⟩ := hE
        have hd : ∀ i, i < nc → tw_dg (ac' i) 10 := fun i hi => by have := hc i hi; exact this.1 ▸ this.2
        obtain ⟨k1, k2, k3⟩ := od_key h6 he
        have x := p_odX (nc := nc) h6 hh ht hc he (2 ^ n) 0 0 (nI e) (Nat.zero_add _)
        obtain ⟨y1, y2⟩ := p_odM (kd := kd') (ho := ho') (pl := pl') (st := st') h6 hn hh hd he (2 ^ n) 0 0 0 (nI e) (Nat.zero_add _)
        rw [Nat.zero_add] at y1 y2
        rw [Nat.zero_add, od_perm _ k3, od_repS] at x
        have up := od_le (od_F nc ac' n kd' ho' pl' st' v1) (fun v => od_F1) (od_b e (2 ^ n) 0)
        rw [k2] at y1 up
        have x2 : m_X0_countSetsWithLead ac kd ho pl st nc n (nI e) v1 = nI (2 ^ od_n e * od_ls (od_F nc ac' n kd' ho' pl' st' v1) (od_b e (2 ^ n) 0)) := x
        rw [x2, y1, y2, tw_pow n h6]
        have f := od_fr n (by omega) (od_n e) (by omega) _ (Nat.lt_succ_of_le up)
        have hj2 : j = 0 ∨ j = 1 := by omega
        rcases hj2 with rfl | rfl
        · exact f.1
        · exact f.2
    · have q2 : m_X3_in v2.toInt64 0 1 = 0 := in_no (n := 2) (by omega) rfl q
      rw [if_pos q2]
      by_cases w : v2 < 0
      · rw [if_pos w]; rfl
      · have w2 := q.resolve_left w
        have w3 : (1 : Int32) < v2 := by
          rw [Int32.le_iff_toInt_le, nI_toInt (by omega)] at w2
          rw [Int32.lt_iff_toInt_lt]
          have : (1 : Int32).toInt = 1 := rfl
          omega
        rw [if_neg w, if_pos w3]; rfl
  · rw [a1, a2, if_pos rfl, if_neg n10]; rfl
end OD
