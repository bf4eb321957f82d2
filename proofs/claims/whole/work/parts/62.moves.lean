/-! class and reference: moves -/
/-- the land of a house by the cells below n -/
def s_la (ac : Nat → Int32) (f : Nat → Int32) (h : Int32) : Nat → Nat
  | 0 => 0
  | n + 1 => s_la ac f h n + (if f n = h then (ac n).toNatClampNeg else 0)
theorem p_laM {ac kd ho pl st : Nat → Int32} {ea h : Int32} {nt N : Nat} (hN : N ≤ 6) (hc : ∀ i, i < N → tw_dg (ac i) 10) : ∀ k i, i + k = N → m_X3_landOf_L4 ac nt kd ho pl st ea h k i (nI (s_la ac (fun j => m_X3_holder nt kd ho pl st ea (nI j)) h i)) = nI (s_la ac (fun j => m_X3_holder nt kd ho pl st ea (nI j)) h N) := by
  intro k
  induction k with
  | zero => intro i hk; rw [m_X3_landOf_L4_0, show i = N by omega]
  | succ k ih =>
    intro i hk
    obtain ⟨j, hj, ej⟩ := hc i (by omega)
    rw [m_X3_landOf_L4_s, ← ih (i + 1) (by omega)]
    congr 1
    show _ = nI (s_la ac (fun j => m_X3_holder nt kd ho pl st ea (nI j)) h i + _)
    rw [← nI_add]
    congr 1
    dsimp only
    split
    · rw [ej, nI_clamp (by omega)]
    · rfl
theorem s_la_le {ac f : Nat → Int32} : ∀ n, (∀ i, i < n → tw_dg (ac i) 10) → s_la ac f 0 n + s_la ac f 1 n ≤ 9 * n := by
  intro n
  induction n with
  | zero => exact fun _ => Nat.le_refl _
  | succ n ih =>
    intro hc
    have h1 := ih (fun i hi => hc i (by omega))
    obtain ⟨j, hj, ej⟩ := hc n (by omega)
    show s_la ac f 0 n + (if f n = 0 then (ac n).toNatClampNeg else 0) + (s_la ac f 1 n + (if f n = 1 then (ac n).toNatClampNeg else 0)) ≤ _
    rw [ej, nI_clamp (by omega)]
    by_cases a : f n = 0
    · rw [if_pos a, if_neg (by rw [a]; decide)]; omega
    · rw [if_neg a]
      by_cases b : f n = 1
      · rw [if_pos b]; omega
      · rw [if_neg b]; omega
theorem p_lead_v {ac kd ho pl st : Nat → Int32} {ea h : Int32} {nt nc : Nat} (hn : nc ≤ 6) (hc : ∀ i, i < nc → tw_dg (ac i) 10) (hh : h = 0 ∨ h = 1) : ∃ v, 46 ≤ v ∧ v ≤ 154 ∧ m_X3_leadOf nc ac nt kd ho pl st ea h = nI v ∧ m_X3_leadOf nc ac nt kd ho pl st ea (1 - h) = nI (200 - v) := by
  have e : ∀ g, m_X3_landOf nc ac nt kd ho pl st ea g = nI (s_la ac (fun j => m_X3_holder nt kd ho pl st ea (nI j)) g nc) := fun g => p_laM hn hc nc 0 (Nat.zero_add _)
  have b := s_la_le (ac := ac) (f := fun j => m_X3_holder nt kd ho pl st ea (nI j)) nc hc
  have key : ∀ x y : Nat, x ≤ 54 → y ≤ 54 → (100 + nI x) - nI y = nI (100 + x - y) := by
    intro x y hx hy
    rw [show (100 : Int32) = nI 100 from rfl, nI_add, pk_sub (by omega)]
  unfold m_X3_leadOf
  rcases hh with rfl | rfl
  · rw [show (1 : Int32) - 0 = 1 by decide, show (1 : Int32) - 1 = 0 by decide, e, e, key _ _ (by omega) (by omega), key _ _ (by omega) (by omega)]
    exact ⟨_, by omega, by omega, rfl, by congr 1; omega⟩
  · rw [show (1 : Int32) - 1 = 0 by decide, show (1 : Int32) - 0 = 1 by decide, e, e, key _ _ (by omega) (by omega), key _ _ (by omega) (by omega)]
    exact ⟨_, by omega, by omega, rfl, by congr 1; omega⟩
theorem p_canDo {pl pl' : Nat → Int32} {nc x a : Nat} {ea : Int32} (hn : nc ≤ 6) (hx : x < 2 ^ 31) (ha : a < 3) (e : pl x = pl' x) (hp : tw_dg (pl x) nc) : m_X0_canDo pl nc ea (nI x) (nI a) = m_X3_mayAct nc pl' ea (nI x) (nI a) := by
  unfold m_X0_canDo m_X3_mayAct
  have e0 : m_X0_isEaten ea (nI x) = m_X3_isIn ea (nI x) := rfl
  rw [e0, nI_clamp hx, ← e]
  obtain ⟨p, hp1, ep⟩ := hp
  rw [ep]
  by_cases q : m_X3_isIn ea (nI x) = 0
  · rw [if_pos q, if_pos q]
    have : a = 0 ∨ a = 1 ∨ a = 2 := by omega
    rcases this with rfl | rfl | rfl
    · rw [if_pos (show nI 0 = 0 from rfl), if_pos (show nI 0 = 0 from rfl)]
    · rw [if_neg (show ¬ nI 1 = 0 by decide), if_pos (show nI 1 = 1 from rfl), if_neg (show ¬ nI 1 = 0 by decide), if_neg (show ¬ nI 1 = 2 by decide), nI_1, show nI nc - 1 = nI (nc - 1) from pk_sub (b := 1) (by omega)]
      have l : nI nc ≤ nI (p + 1) ↔ nI (nc - 1) ≤ nI p := by rw [nI_leI (by omega) (by omega), nI_leI (by omega) (by omega)]; omega
      simp only [l]
    · rw [if_neg (show ¬ nI 2 = 0 by decide), if_neg (show ¬ nI 2 = 1 by decide), if_neg (show ¬ nI 2 = 0 by decide), if_pos (show nI 2 = 2 from rfl)]
  · rw [if_neg q, if_neg q]
theorem p_doEa {pl pl' : Nat → Int32} {a : Nat} {ea v : Int32} (ha : a < 3) : (m_X0_doAct pl ea v (nI a)).2 = (m_X3_doAct pl' ea v (nI a)).2 := by
  unfold m_X0_doAct m_X3_doAct
  have : a = 0 ∨ a = 1 ∨ a = 2 := by omega
  rcases this with rfl | rfl | rfl
  · rw [if_pos (show nI 0 = 0 from rfl)]; dsimp only; rw [if_neg (show ¬ nI 0 = 2 by decide), or_z]
  · rw [if_neg (show ¬ nI 1 = 0 by decide), if_pos (show nI 1 = 1 from rfl)]; dsimp only; rw [if_neg (show ¬ nI 1 = 2 by decide), or_z]
  · rw [if_neg (show ¬ nI 2 = 0 by decide), if_neg (show ¬ nI 2 = 1 by decide)]; dsimp only; rw [if_pos (show nI 2 = 2 from rfl)]
theorem p_doTH {n nc x a : Nat} {kd ho pl st kd' ho' pl' st' : Nat → Int32} {ea : Int32} (hn : nc ≤ 6) (hx : x < n) (h6 : n ≤ 6) (ha : a < 3) (ht : TH n nc kd ho pl st kd' ho' pl' st') (hc : ¬ m_X0_canDo pl nc ea (nI x) (nI a) = 0) : TH n nc kd ho (m_X0_doAct pl ea (nI x) (nI a)).1 st kd' ho' (m_X3_doAct pl' ea (nI x) (nI a)).1 st' := by
  intro i hi
  obtain ⟨e1, e2, e3, e4, e5, e6, e7, e8⟩ := ht i hi
  refine ⟨e1, e2, ?_, e4, e5, e6, ?_, e8⟩
  · unfold m_X0_doAct m_X3_doAct
    dsimp only
    rw [nI_clamp (show x < 2 ^ 31 by omega)]
    have e3x := (ht x hx).2.2.1
    have : a = 0 ∨ a = 1 ∨ a = 2 := by omega
    rcases this with rfl | rfl | rfl
    · rw [if_pos (show nI 0 = 0 from rfl), if_pos (show nI 0 = 0 from rfl)]
      dsimp only
      by_cases q : i = x
      · subst q; rw [pk_us, pk_us, e3x, Int32.sub_eq_add_neg]
      · rw [pk_un q, pk_un q, e3]
    · rw [if_neg (show ¬ nI 1 = 0 by decide), if_pos (show nI 1 = 1 from rfl), if_neg (show ¬ nI 1 = 0 by decide), if_pos (show nI 1 = 1 from rfl)]
      dsimp only
      by_cases q : i = x
      · subst q; rw [pk_us, pk_us, e3x]
      · rw [pk_un q, pk_un q, e3]
    · rw [if_neg (show ¬ nI 2 = 0 by decide), if_neg (show ¬ nI 2 = 1 by decide), if_neg (show ¬ nI 2 = 0 by decide), if_neg (show ¬ nI 2 = 1 by decide)]
      dsimp only
      by_cases q : i = x
      · subst q; rw [pk_us, e3x, Int32.add_zero]
      · rw [pk_un q, e3]
  · unfold m_X0_canDo at hc
    by_cases r : m_X0_isEaten ea (nI x) = 0
    · rw [if_pos r, nI_clamp (show x < 2 ^ 31 by omega)] at hc
      obtain ⟨p, hp, ep⟩ := (ht x hx).2.2.2.2.2.2.1
      unfold m_X0_doAct
      rw [nI_clamp (show x < 2 ^ 31 by omega)]
      rw [ep] at hc ⊢
      have : a = 0 ∨ a = 1 ∨ a = 2 := by omega
      rcases this with rfl | rfl | rfl
      · rw [if_pos (show nI 0 = 0 from rfl)] at hc ⊢
        dsimp only
        by_cases q : i = x
        · subst q
          rw [pk_us]
          by_cases z : nI p ≤ 0
          · rw [if_pos z] at hc; exact absurd rfl hc
          · have : ¬ p = 0 := fun w => z (by rw [w]; decide)
            exact ⟨p - 1, by omega, pk_sub (b := 1) (by omega)⟩
        · rw [pk_un q]; exact e7
      · rw [if_neg (show ¬ nI 1 = 0 by decide), if_pos (show nI 1 = 1 from rfl)] at hc ⊢
        dsimp only
        by_cases q : i = x
        · subst q
          rw [pk_us, nI_1]
          by_cases z : nI nc ≤ nI p + 1
          · rw [if_pos z] at hc; exact absurd rfl hc
          · rw [nI_1] at z
            have : ¬ nc ≤ p + 1 := fun w => z (nI_le w (by omega))
            exact ⟨p + 1, by omega, rfl⟩
        · rw [pk_un q]; exact e7
      · rw [if_neg (show ¬ nI 2 = 0 by decide), if_neg (show ¬ nI 2 = 1 by decide)]
        exact e7
    · rw [if_neg r] at hc; exact absurd rfl hc
theorem p_canMove {n nc mv : Nat} {kd ho pl st kd' ho' pl' st' : Nat → Int32} {ea h : Int32} (hn : nc ≤ 6) (h6 : n ≤ 6) (hm : mv < n * 3) (ht : TH n nc kd ho pl st kd' ho' pl' st') : m_X0_canMove ho pl nc ea h mv = m_X3_mayMove nc ho' pl' ea h mv := by
  unfold m_X0_canMove m_X3_mayMove
  obtain ⟨e1, e2, e3, e4, e5, e6, e7, e8⟩ := ht (mv / 3) (by omega)
  rw [e2, p_canDo hn (show mv / 3 < 2 ^ 31 by omega) (show mv % 3 < 3 by omega) e3 e7]
theorem p_choice {v i : Nat} (hv : v ≤ 154) (hi : i < 18) : m_X0_choiceOf (nI v) (nI i) = nI (v * 18 + 17 - i) := by
  unfold m_X0_choiceOf
  rw [show (18 : Int32) = nI 18 from rfl, pk_mul, nI_add, show nI (v * 18 + 18) - 1 = nI (v * 18 + 18 - 1) from pk_sub (b := 1) (by omega), pk_sub (by omega)]
  rfl
/-- the lead of house h behind the move mv, by the reference -/
def s_ld (nc : Nat) (ac : Nat → Int32) (nt : Nat) (kd ho pl st : Nat → Int32) (ea h : Int32) (mv : Nat) : Int32 := m_X3_leadOf nc ac nt kd ho ((m_X3_doAct pl ea (nI (mv / 3)) (nI (mv % 3))).1) st ((m_X3_doAct pl ea (nI (mv / 3)) (nI (mv % 3))).2) h
/-- the best so far: the class's one number, the reference's two -/
def GC (MM : Nat → Prop) (LD : Nat → Int32) (i : Nat) (u best most : Int32) : Prop := (u = -9 ∧ best = -9 ∧ most = -9) ∨ ∃ b v, b < i ∧ b < 18 ∧ 46 ≤ v ∧ v ≤ 154 ∧ MM b ∧ LD b = nI v ∧ best = nI b ∧ most = nI v ∧ u = nI (v * 18 + 17 - b)
theorem GC_step {MM : Nat → Prop} {LD : Nat → Int32} {i w : Nat} {u best most : Int32} (hi : i < 18) (hw : 46 ≤ w) (hw2 : w ≤ 154) (hM : MM i) (hL : LD i = nI w) (h : GC MM LD i u best most) : GC MM LD (i + 1) (if u < nI (w * 18 + 17 - i) then nI (w * 18 + 17 - i) else u) (if best < 0 then nI i else (if nI w ≤ most then best else nI i)) (if most < 0 then nI w else (if nI w ≤ most then most else nI w)) := by
  rcases h with ⟨rfl, rfl, rfl⟩ | ⟨b, v, h1, h2, h3, h4, h5, h6, rfl, rfl, rfl⟩
  · refine Or.inr ⟨i, w, by omega, hi, hw, hw2, hM, hL, ?_, ?_, ?_⟩
    · rw [if_pos (by decide)]
    · rw [if_pos (by decide)]
    · rw [if_pos]
      rw [Int32.lt_iff_toInt_lt, nI_toInt (by omega)]
      have : (-9 : Int32).toInt = -9 := rfl
      omega
  · rw [if_neg (nI_pos (by omega)), if_neg (nI_pos (by omega))]
    by_cases q : w ≤ v
    · rw [if_pos (nI_le q (by omega)), if_pos (nI_le q (by omega)), if_neg (nI_nlt (by omega) (by omega))]
      exact Or.inr ⟨b, v, by omega, h2, h3, h4, h5, h6, rfl, rfl, rfl⟩
    · rw [if_neg (nI_ge (by omega) (by omega)), if_neg (nI_ge (by omega) (by omega)), if_pos (nI_lt (by omega) (by omega))]
      exact Or.inr ⟨i, w, by omega, hi, hw, hw2, hM, hL, rfl, rfl, rfl⟩
theorem GC_up {MM : Nat → Prop} {LD : Nat → Int32} {i : Nat} {u best most : Int32} (h : GC MM LD i u best most) : GC MM LD (i + 1) u best most := by
  rcases h with h | ⟨b, v, h1, h2⟩
  · exact Or.inl h
  · exact Or.inr ⟨b, v, by omega, h2⟩
theorem p_goodL {n nc : Nat} {ac ac' kd ho pl st kd' ho' pl' st' : Nat → Int32} {ea h : Int32} (hn : nc ≤ 6) (h6 : n ≤ 6) (hh : h = 0 ∨ h = 1) (ht : TH n nc kd ho pl st kd' ho' pl' st') (hc : TC nc ac ac') : ∀ k i u most best, i + k = n * 3 → GC (fun mv => ¬ m_X3_mayMove nc ho' pl' ea h mv = 0) (s_ld nc ac' n kd' ho' pl' st' ea h) i u best most → GC (fun mv => ¬ m_X3_mayMove nc ho' pl' ea h mv = 0) (s_ld nc ac' n kd' ho' pl' st' ea h) (n * 3) (m_X0_goodChoice_L5 ac kd ho pl st nc n ea h k i u) (m_X3_goodMove_L9 nc ac' n kd' ho' pl' st' ea h k i most best).2 (m_X3_goodMove_L9 nc ac' n kd' ho' pl' st' ea h k i most best).1 := by
  intro k
  induction k with
  | zero => intro i u most best hk hg; rw [m_X0_goodChoice_L5_0, m_X3_goodMove_L9_0, ← show i = n * 3 by omega]; exact hg
  | succ k ih =>
    intro i u most best hk hg
    rw [m_X0_goodChoice_L5_s, m_X3_goodMove_L9_s]
    have ec := p_canMove (ea := ea) (h := h) (mv := i) hn h6 (by omega) ht
    by_cases q : m_X3_mayMove nc ho' pl' ea h i = 0
    · rw [if_pos (ec.trans q), if_pos q]
      exact ih (i + 1) u most best (by omega) (GC_up hg)
    · have q2 : ¬ m_X0_canMove ho pl nc ea h i = 0 := by rw [ec]; exact q
      rw [if_neg q2, if_neg q]
      have ht2 := p_doTH hn (show i / 3 < n by omega) h6 (show i % 3 < 3 by omega) ht (canMove_canDo q2)
      rw [p_lead h6 ht2 hc hh, p_doEa (pl := pl) (pl' := pl') (ea := ea) (v := nI (i / 3)) (show i % 3 < 3 by omega)]
      obtain ⟨w, w1, w2, w3, w4⟩ := p_lead_v (nt := n) (kd := kd') (ho := ho') (pl := (m_X3_doAct pl' ea (nI (i / 3)) (nI (i % 3))).1) (st := st') (ea := (m_X3_doAct pl' ea (nI (i / 3)) (nI (i % 3))).2) hn (fun j hj => by have := hc j hj; exact this.1 ▸ this.2) hh
      rw [w3, p_choice w2 (by omega)]
      exact ih (i + 1) _ _ _ (by omega) (GC_step (by omega) w1 w2 q w3 hg)
theorem p_good {n nc : Nat} {ac ac' kd ho pl st kd' ho' pl' st' : Nat → Int32} {ea h : Int32} (hn : nc ≤ 6) (h6 : n ≤ 6) (hh : h = 0 ∨ h = 1) (ht : TH n nc kd ho pl st kd' ho' pl' st') (hc : TC nc ac ac') : ∃ most, GC (fun mv => ¬ m_X3_mayMove nc ho' pl' ea h mv = 0) (s_ld nc ac' n kd' ho' pl' st' ea h) (n * 3) (m_X0_goodChoice ac kd ho pl st nc n ea h) (m_X3_goodMove nc ac' n kd' ho' pl' st' ea h) most := by
  have := p_goodL (ea := ea) hn h6 hh ht hc (n * 3) 0 (-9) (-9) (-9) (Nat.zero_add _) (Or.inl ⟨rfl, rfl, rfl⟩)
  rw [show m_X3_goodMove nc ac' n kd' ho' pl' st' ea h = (m_X3_goodMove_L9 nc ac' n kd' ho' pl' st' ea h (n * 3) 0 (-9) (-9)).2 from by unfold m_X3_goodMove; rw [Nat.mul_comm]]
  exact ⟨_, this⟩
