/-! class and reference: reading a text -/
def TX (f sh : Nat → Int32) (S j fr n : Nat) : Prop := S ≤ 60 ∧ j + n ≤ S ∧ ∀ p, p < n → f (j + p) = sh (fr + p)
section TXS
variable {f sh : Nat → Int32} {S j fr n : Nat}
theorem cd_in {p : Nat} (hx : TX f sh S j fr n) (hp : p < n) : m_X3_codeAt p sh fr n = f (j + p) := by
  obtain ⟨h1, h2, h3⟩ := hx
  unfold m_X3_codeAt
  rw [if_neg (nI_ge hp (by omega)), h3 p hp]
theorem cd_out {p : Nat} (hp : n ≤ p) (h : p < 2 ^ 31) : m_X3_codeAt p sh fr n = -9 := by
  unfold m_X3_codeAt
  rw [if_pos (nI_le hp h)]
theorem at_cd {p : Nat} (hx : TX f sh S j fr n) (hp : p < n) : m_X1_at f (nI S) (nI j + nI p) = m_X3_codeAt p sh fr n := by
  rw [cd_in hx hp, nI_add, at_in hx.1 (by have := hx.2.1; omega)]
theorem at_cd0 (hx : TX f sh S j fr n) (hp : 0 < n) : m_X1_at f (nI S) (nI j) = m_X3_codeAt 0 sh fr n := by
  rw [cd_in hx hp, at_in hx.1 (by have := hx.2.1; omega)]; rfl
theorem at_cd3 {k q : Nat} (hx : TX f sh S j fr n) (hp : k + 1 + q < n) : m_X1_at f (nI S) (nI j + nI k + 1 + nI q) = m_X3_codeAt (k + 1 + q) sh fr n := by
  have e : nI j + nI k + 1 + nI q = nI j + nI (k + 1 + q) := by
    rw [nI_add, nI_1, nI_add, nI_add]; congr 1; omega
  rw [e, at_cd hx hp]
theorem p_code (x : Int32) {b : Nat} (hb : b ≤ 10) : (∃ d, d < b ∧ x = nI (48 + d) ∧ x - 48 = nI d) ∨ ((∀ d, d < b → ¬ x = nI (48 + d)) ∧ (x - 48 < 0 ∨ nI b ≤ x - 48)) := by
  have sub : ∀ d, d < b → nI (48 + d) - 48 = nI d := fun d hd => by
    rw [show (48 : Int32) = nI 48 from rfl, pk_sub (by omega)]; congr 1; omega
  rcases p_rng (x - 48) (n := b) (by omega) with ⟨d, hd, e⟩ | h
  · refine Or.inl ⟨d, hd, ?_, e⟩
    have h1 : x - 48 + 48 = x := Int32.sub_add_cancel x 48
    rw [e, show (48 : Int32) = nI 48 from rfl, nI_add] at h1
    rw [← h1, Nat.add_comm]
  · refine Or.inr ⟨fun d hd e => ?_, h⟩
    rw [e, sub d hd] at h
    rcases h with h | h
    · exact nI_pos (by omega) h
    · exact nI_ge hd (by omega) h
theorem p_digit (x : Int32) : ((∃ d, d < 10 ∧ x = nI (48 + d)) ∧ m_X0_isDigit x = 1) ∨ ((∀ d, d < 10 → ¬ x = nI (48 + d)) ∧ m_X0_isDigit x = 0) := by
  unfold m_X0_isDigit
  rcases p_code x (b := 10) (Nat.le_refl _) with ⟨d, hd, e, _⟩ | ⟨h, _⟩
  · refine Or.inl ⟨⟨d, hd, e⟩, ?_⟩
    rw [e, if_neg (show ¬ nI (48 + d) < 48 from nI_nlt (b := 48) (by omega) (by omega)), if_neg (show ¬ (57 : Int32) < nI (48 + d) from nI_nlt (a := 57) (by omega) (by decide))]
  · refine Or.inr ⟨h, ?_⟩
    by_cases a : x < 48
    · rw [if_pos a]
    · rw [if_neg a]
      by_cases b : (57 : Int32) < x
      · rw [if_pos b]
      · exfalso
        have z48 : (48 : Int32).toInt = 48 := rfl
        have z57 : (57 : Int32).toInt = 57 := rfl
        rw [Int32.lt_iff_toInt_lt, z48] at a
        rw [Int32.lt_iff_toInt_lt, z57] at b
        have c : ¬ x < 0 := by
          have z0 : (0 : Int32).toInt = 0 := rfl
          rw [Int32.lt_iff_toInt_lt, z0]; omega
        obtain ⟨m, hm, rfl⟩ := nI_of c
        rw [nI_toInt hm] at a b
        exact h (m - 48) (by omega) (by congr 1; omega)
theorem fig_e (ra : Nat) {b : Nat} (hb : b ≤ 10) {v : Int32} (hv : v.toInt = (b : Int) - 1) : (∃ d, d < b ∧ m_X3_codeAt ra sh fr n = nI (48 + d) ∧ m_X3_codeAt ra sh fr n - 48 = nI d ∧ m_X3_figure ra sh v fr n = (nI d, ra + 1)) ∨ ((∀ d, d < b → ¬ m_X3_codeAt ra sh fr n = nI (48 + d)) ∧ (m_X3_codeAt ra sh fr n - 48 < 0 ∨ nI b ≤ m_X3_codeAt ra sh fr n - 48) ∧ m_X3_figure ra sh v fr n = (-9, ra)) := by
  unfold m_X3_figure
  have hv2 : v.toInt64.toInt = (b : Int) - 1 := by rw [Int32.toInt_toInt64, hv]
  rcases p_code (m_X3_codeAt ra sh fr n) hb with ⟨d, hd, e1, e2⟩ | ⟨h1, h2⟩
  · refine Or.inl ⟨d, hd, e1, e2, ?_⟩
    rw [e2, if_neg (in_yes (by omega) (by rw [hv2]; omega)), if_neg (in_yes (by omega) (by rw [hv2]; omega))]
  · refine Or.inr ⟨h1, h2, ?_⟩
    rw [if_pos (in_no (by omega) hv2 h2), if_pos (in_no (by omega) hv2 h2)]
theorem out_no {ra : Nat} (hp : n ≤ ra) (h : ra < 2 ^ 31) {b : Nat} (hb : b ≤ 10) : ∀ d, d < b → ¬ m_X3_codeAt ra sh fr n = nI (48 + d) := by
  intro d hd
  rw [cd_out hp h]
  intro e
  have := nI_toInt (n := 48 + d) (by omega)
  rw [← e] at this
  have z : (-9 : Int32).toInt = -9 := rfl
  omega
theorem p_sq {kd ho pl st : Nat → Int32} (hx : TX f sh S j fr n) : ∀ m d ac rac kf, d + m = 6 → kf + (1 + d) = n → TC d ac rac → ∃ D aF rF, D ≤ 6 ∧ 1 + D ≤ n ∧ TC D aF rF ∧ m_X0_readText_L35 kd ho pl st f (nI S) (nI j) n kf (1 + d) ac d = m_X0_readText_X100 kd ho pl st f (nI S) (nI j) n (1 + D) aF D ∧ m_X3_readsSquares_L2 sh fr n (8 - d) 1 rac d (1 + d) = (((if (nI D) ≤ 1 then 0 else 1) : Int32), rF, D, 1 + D) := by
  have hn := hx.2.1
  have hS := hx.1
  intro m
  induction m with
  | zero =>
    intro d ac rac kf h6 hk hc
    have hd : d = 6 := by omega
    subst hd
    refine ⟨6, ac, rac, Nat.le_refl _, by omega, hc, ?_, ?_⟩
    · cases kf with
      | zero => rw [m_X0_readText_L35_0]
      | succ kf => rw [m_X0_readText_L35_s, if_pos (show (6 : Int32) ≤ nI 6 by decide)]
    · show m_X3_readsSquares_L2 sh fr n (1 + 1) 1 rac 6 (1 + 6) = _
      rw [m_X3_readsSquares_L2_s, if_pos (show (6 : Int32) ≤ nI 6 by decide)]
  | succ m ih =>
    intro d ac rac kf h6 hk hc
    have e8 : 8 - d = (6 - d) + 1 + 1 := by omega
    have hd6 : ¬ (6 : Int32) ≤ nI d := nI_ge (b := 6) (by omega) (by decide)
    have stop : m_X3_readsSquares_L2 sh fr n (6 - d + 1) 0 rac d (1 + d) = (((if (nI d) ≤ 1 then 0 else 1) : Int32), rac, d, 1 + d) := by
      rw [m_X3_readsSquares_L2_s, if_neg hd6, if_pos rfl]
    rw [e8, m_X3_readsSquares_L2_s, if_neg hd6, if_neg n10]
    rcases fig_e (sh := sh) (fr := fr) (n := n) (1 + d) (b := 10) (v := 9) (Nat.le_refl _) rfl with ⟨dd, h1, h2, h3, h4⟩ | ⟨h1, h2, h3⟩
    · have hlt : 1 + d < n := by
        rcases Nat.lt_or_ge (1 + d) n with q | q
        · exact q
        · exact absurd h2 (out_no (b := 10) q (by omega) (Nat.le_refl _) dd h1)
      obtain ⟨kf, rfl⟩ : ∃ y, kf = y + 1 := ⟨kf - 1, by omega⟩
      have ed : m_X0_isDigit (m_X1_at f (nI S) (nI j + nI (1 + d))) = 1 := by
        rw [at_cd hx hlt]
        rcases p_digit (m_X3_codeAt (1 + d) sh fr n) with ⟨_, q⟩ | ⟨q, _⟩
        · exact q
        · exact absurd h2 (q dd h1)
      have ew : (if (m_X3_figure (1 + d) sh 9 fr n).1 < 0 then (0 : Int32) else 1) = 1 := by rw [h4, if_neg (nI_pos (by omega))]
      rw [m_X0_readText_L35_s, if_neg hd6, ed, if_neg n10, at_cd hx hlt, h3, ew, if_neg n10, h4]
      have hc2 : TC (d + 1) (upd ac d (nI dd)) (upd rac d (nI dd)) := by
        intro i hi
        by_cases q : i = d
        · subst q; rw [pk_us, pk_us]; exact ⟨rfl, dd, h1, rfl⟩
        · rw [pk_un q, pk_un q]; exact hc i (by omega)
      obtain ⟨D, aF, rF, g1, g2, g3, g4, g5⟩ := ih (d + 1) _ _ kf (by omega) (by omega) hc2
      refine ⟨D, aF, rF, g1, g2, g3, g4, ?_⟩
      rw [← g5]
      have e9 : 8 - (d + 1) = 6 - d + 1 := by omega
      rw [e9]; rfl
    · have ew : (if (m_X3_figure (1 + d) sh 9 fr n).1 < 0 then (0 : Int32) else 1) = 0 := by rw [h3]; rfl
      refine ⟨d, ac, rac, by omega, by omega, hc, ?_, ?_⟩
      · cases kf with
        | zero => rw [m_X0_readText_L35_0]
        | succ kf =>
          have ed : m_X0_isDigit (m_X1_at f (nI S) (nI j + nI (1 + d))) = 0 := by
            rw [at_cd hx (by omega)]
            rcases p_digit (m_X3_codeAt (1 + d) sh fr n) with ⟨⟨d2, q1, q2⟩, _⟩ | ⟨_, q⟩
            · exact absurd q2 (h1 d2 q1)
            · exact q
          rw [m_X0_readText_L35_s, if_neg hd6, ed, if_pos rfl]
      · rw [ew, if_pos rfl, h3]; exact stop
def s_rv (g : Nat → Int32) (k q : Nat) : Int32 := if (nI q) = 0 then (m_X0_kindOfLetter (g (k + 1 + q))) else g (k + 1 + q) - 48
def s_rt (g : Nat → Int32) (k nc nt : Nat) : Nat → Nat → (Nat → Int32) → (Nat → Int32) → (Nat → Int32) → (Nat → Int32) → (Int32 × (Nat → Int32) × (Nat → Int32) × (Nat → Int32) × (Nat → Int32))
  | 0, q, kd, ho, pl, st => (nI q, kd, ho, pl, st)
  | m + 1, q, kd, ho, pl, st => if s_rv g k q < 0 then (nI q, kd, ho, pl, st) else (if s_rv g k q < m_X0_boundOfPart nc (nI q) then s_rt g k nc nt m (q + 1) (m_X0_setPart kd ho pl st nt (nI q) (s_rv g k q)).1 (m_X0_setPart kd ho pl st nt (nI q) (s_rv g k q)).2.1 (m_X0_setPart kd ho pl st nt (nI q) (s_rv g k q)).2.2.1 (m_X0_setPart kd ho pl st nt (nI q) (s_rv g k q)).2.2.2 else (nI q, kd, ho, pl, st))
section RT
variable {g : Nat → Int32} {k nc nt : Nat}
theorem rt_no {m q : Nat} {kd ho pl st : Nat → Int32} (h : s_rv g k q < 0 ∨ m_X0_boundOfPart nc (nI q) ≤ s_rv g k q) : s_rt g k nc nt (m + 1) q kd ho pl st = (nI q, kd, ho, pl, st) := by
  unfold s_rt
  by_cases a : s_rv g k q < 0
  · rw [if_pos a]
  · rw [if_neg a, if_neg (Int32.not_lt.mpr (h.resolve_left a))]
theorem rt_yes {m q : Nat} {kd ho pl st : Nat → Int32} (a : ¬ s_rv g k q < 0) (b : s_rv g k q < m_X0_boundOfPart nc (nI q)) : s_rt g k nc nt (m + 1) q kd ho pl st = s_rt g k nc nt m (q + 1) (m_X0_setPart kd ho pl st nt (nI q) (s_rv g k q)).1 (m_X0_setPart kd ho pl st nt (nI q) (s_rv g k q)).2.1 (m_X0_setPart kd ho pl st nt (nI q) (s_rv g k q)).2.2.1 (m_X0_setPart kd ho pl st nt (nI q) (s_rv g k q)).2.2.2 := by
  show (if s_rv g k q < 0 then _ else (if s_rv g k q < m_X0_boundOfPart nc (nI q) then _ else _)) = _
  rw [if_neg a, if_pos b]
theorem sp_0 {kd ho pl st : Nat → Int32} {v : Int32} (h : nt < 6) : m_X0_setPart kd ho pl st nt (nI 0) v = (upd kd nt v, ho, pl, st) := by
  unfold m_X0_setPart
  rw [if_pos (show nI nt < 6 from nI_lt (b := 6) h (by decide)), if_pos (show nI 0 = 0 from rfl)]
theorem sp_1 {kd ho pl st : Nat → Int32} {v : Int32} (h : nt < 6) : m_X0_setPart kd ho pl st nt (nI 1) v = (kd, upd ho nt v, pl, st) := by
  unfold m_X0_setPart
  rw [if_pos (show nI nt < 6 from nI_lt (b := 6) h (by decide)), if_neg (show ¬ nI 1 = 0 by decide), if_pos (show nI 1 = 1 from rfl)]
theorem sp_2 {kd ho pl st : Nat → Int32} {v : Int32} (h : nt < 6) : m_X0_setPart kd ho pl st nt (nI 2) v = (kd, ho, upd pl nt v, st) := by
  unfold m_X0_setPart
  rw [if_pos (show nI nt < 6 from nI_lt (b := 6) h (by decide)), if_neg (show ¬ nI 2 = 0 by decide), if_neg (show ¬ nI 2 = 1 by decide), if_pos (show nI 2 = 2 from rfl)]
theorem sp_3 {kd ho pl st : Nat → Int32} {v : Int32} (h : nt < 6) : m_X0_setPart kd ho pl st nt (nI 3) v = (kd, ho, pl, upd st nt v) := by
  unfold m_X0_setPart
  rw [if_pos (show nI nt < 6 from nI_lt (b := 6) h (by decide)), if_neg (show ¬ nI 3 = 0 by decide), if_neg (show ¬ nI 3 = 1 by decide), if_neg (show ¬ nI 3 = 2 by decide)]
theorem rv_s {q : Nat} (h : ¬ nI q = 0) : s_rv g k q = g (k + 1 + q) - 48 := if_neg h
theorem bp_0 : m_X0_boundOfPart nc (nI 0) = nI 3 := by unfold m_X0_boundOfPart; (rw [if_pos (show nI 0 = 0 from rfl)]) <;> rfl
theorem bp_1 : m_X0_boundOfPart nc (nI 1) = nI 2 := by unfold m_X0_boundOfPart; (rw [if_neg (show ¬ nI 1 = 0 by decide), if_pos (show nI 1 = 1 from rfl)]) <;> rfl
theorem bp_2 : m_X0_boundOfPart nc (nI 2) = nI nc := by unfold m_X0_boundOfPart; (rw [if_neg (show ¬ nI 2 = 0 by decide), if_neg (show ¬ nI 2 = 1 by decide), if_pos (show nI 2 = 2 from rfl)]) <;> rfl
theorem bp_3 : m_X0_boundOfPart nc (nI 3) = nI 10 := by unfold m_X0_boundOfPart; (rw [if_neg (show ¬ nI 3 = 0 by decide), if_neg (show ¬ nI 3 = 1 by decide), if_neg (show ¬ nI 3 = 2 by decide)]) <;> rfl
theorem p_rt1 (hx : TX f sh S j fr n) (hk : k < n) : ∀ m q kd ho pl st, q + m = min 4 (n - k - 1) → m_X0_readThing_L3 nc nt f (nI S) (nI j + nI k + 1) (min 4 (n - k - 1)) m q kd ho pl st = s_rt (fun p => m_X3_codeAt p sh fr n) k nc nt (4 - q) q kd ho pl st := by
  have hn := hx.2.1
  have hS := hx.1
  intro m
  induction m with
  | zero =>
    intro q kd ho pl st hq
    rw [m_X0_readThing_L3_0]
    by_cases z : q = 4
    · subst z
      have e : min 4 (n - k - 1) = 4 := by omega
      rw [e]; rfl
    · have e : 4 - q = (3 - q) + 1 := by omega
      have e2 : min 4 (n - k - 1) = q := by omega
      rw [e, e2, rt_no]
      refine Or.inl ?_
      have eg : m_X3_codeAt (k + 1 + q) sh fr n = -9 := cd_out (by omega) (by omega)
      unfold s_rv
      by_cases w : nI q = 0
      · rw [if_pos w]
        show m_X0_kindOfLetter (m_X3_codeAt (k + 1 + q) sh fr n) < 0
        rw [eg]; decide
      · rw [if_neg w]
        show m_X3_codeAt (k + 1 + q) sh fr n - 48 < 0
        rw [eg]; decide
  | succ m ih =>
    intro q kd ho pl st hq
    have e : 4 - q = (4 - (q + 1)) + 1 := by omega
    rw [m_X0_readThing_L3_s, at_cd3 hx (show k + 1 + q < n by omega), e]
    show (if s_rv (fun p => m_X3_codeAt p sh fr n) k q < 0 then _ else (if s_rv (fun p => m_X3_codeAt p sh fr n) k q < m_X0_boundOfPart nc (nI q) then _ else _)) = (if s_rv (fun p => m_X3_codeAt p sh fr n) k q < 0 then _ else (if s_rv (fun p => m_X3_codeAt p sh fr n) k q < m_X0_boundOfPart nc (nI q) then _ else _))
    by_cases a : s_rv (fun p => m_X3_codeAt p sh fr n) k q < 0
    · rw [if_pos a, if_pos a]
    · rw [if_neg a, if_neg a]
      by_cases b : s_rv (fun p => m_X3_codeAt p sh fr n) k q < m_X0_boundOfPart nc (nI q)
      · rw [if_pos b, if_pos b]
        exact ih (q + 1) _ _ _ _ (by omega)
      · rw [if_neg b, if_neg b]
/-- one thing: taken by both, or by none at the same place -/
theorem p_thg {kd ho pl st kd' ho' pl' st' : Nat → Int32} (hS : n ≤ 60) (hk : k < n) (h59 : m_X3_codeAt k sh fr n = 59) (h6 : nt < 6) (hc2 : 2 ≤ nc) (hc6 : nc ≤ 6) : (∃ a b c d, a < 3 ∧ b < 2 ∧ c < nc ∧ d < 10 ∧ k + 5 ≤ n ∧ s_rt (fun p => m_X3_codeAt p sh fr n) k nc nt 4 0 kd ho pl st = (nI 4, upd kd nt (nI a), upd ho nt (nI b), upd pl nt (nI c), upd st nt (nI d)) ∧ m_X3_readsThing k nc nt kd' ho' pl' st' sh fr n = (1, k + 5, nt + 1, upd kd' nt (nI a), upd ho' nt (nI b), upd pl' nt (nI c), upd st' nt (nI d))) ∨ (∃ q, q < 4 ∧ (s_rt (fun p => m_X3_codeAt p sh fr n) k nc nt 4 0 kd ho pl st).1 = nI q ∧ (m_X3_readsThing k nc nt kd' ho' pl' st' sh fr n).1 = 0 ∧ (m_X3_readsThing k nc nt kd' ho' pl' st' sh fr n).2.1 = k + 1 + q) := by
  have hrt : ¬ nI nt = 6 := fun z => by have := (nI_eq (b := 6) (by omega) (by decide)).mp z; omega
  have hL : (∃ a, a < 3 ∧ m_X0_kindOfLetter (m_X3_codeAt (k + 1) sh fr n) = nI a ∧ m_X3_readsThing k nc nt kd' ho' pl' st' sh fr n = m_X3_readsThing_X59 k nc nt kd' ho' pl' st' sh fr n ∧ ((if (m_X3_codeAt (k + 1) sh fr n) = 102 then 0 else (if (m_X3_codeAt (k + 1) sh fr n) = 115 then 1 else 2)) : Int32) = nI a) ∨ (m_X0_kindOfLetter (m_X3_codeAt (k + 1) sh fr n) = -9 ∧ m_X3_readsThing k nc nt kd' ho' pl' st' sh fr n = (0, k + 1, nt, kd', ho', pl', st')) := by
    unfold m_X3_readsThing m_X0_kindOfLetter
    rw [if_neg hrt, if_pos h59]
    by_cases a : m_X3_codeAt (k + 1) sh fr n = 102
    · rw [if_pos a, if_pos a, if_pos a]; exact Or.inl ⟨0, by decide, rfl, rfl, rfl⟩
    · rw [if_neg a, if_neg a, if_neg a]
      by_cases b : m_X3_codeAt (k + 1) sh fr n = 115
      · have b2 : ¬ m_X3_codeAt (k + 1) sh fr n = 103 := by rw [b]; decide
        rw [if_neg b2, if_pos b, if_pos b, if_pos b]; exact Or.inl ⟨1, by decide, rfl, rfl, rfl⟩
      · rw [if_neg b, if_neg b, if_neg b]
        by_cases c : m_X3_codeAt (k + 1) sh fr n = 103
        · rw [if_pos c, if_pos c]; exact Or.inl ⟨2, by decide, rfl, rfl, rfl⟩
        · rw [if_neg c, if_neg c]; exact Or.inr ⟨rfl, rfl⟩
  have ev0 : s_rv (fun p => m_X3_codeAt p sh fr n) k 0 = m_X0_kindOfLetter (m_X3_codeAt (k + 1) sh fr n) := by
    unfold s_rv
    (rw [if_pos (show nI 0 = 0 from rfl)]) <;> rfl
  rcases hL with ⟨a, ha, hl1, hl2, hl3⟩ | ⟨hl1, hl2⟩
  · rw [hl2]
    unfold m_X3_readsThing_X59
    rw [hl3, rt_yes (by rw [ev0, hl1]; exact nI_pos (by omega)) (by rw [ev0, hl1, bp_0]; exact nI_lt ha (by decide)), ev0, hl1, sp_0 h6]
    have ev1 : s_rv (fun p => m_X3_codeAt p sh fr n) k 1 = m_X3_codeAt (k + 1 + 1) sh fr n - 48 := rv_s (by decide)
    rcases fig_e (sh := sh) (fr := fr) (n := n) (k + 1 + 1) (b := 2) (v := 1) (by decide) rfl with ⟨b, h1, h2, h3, h4⟩ | ⟨h1, h2, h3⟩
    · rw [rt_yes (by rw [ev1, h3]; exact nI_pos (by omega)) (by rw [ev1, h3, bp_1]; exact nI_lt h1 (by decide)), ev1, h3, sp_1 h6, h4]
      dsimp only
      rw [if_pos (show (0 : Int32) ≤ nI b from nI_pos' (by omega))]
      have ev2 : s_rv (fun p => m_X3_codeAt p sh fr n) k 2 = m_X3_codeAt (k + 1 + 1 + 1) sh fr n - 48 := rv_s (by decide)
      have hnc : (nI nc - 1).toInt = (nc : Int) - 1 := by
        rw [show (1 : Int32) = nI 1 from rfl, pk_sub (by omega), nI_toInt (by omega)]; omega
      rcases fig_e (sh := sh) (fr := fr) (n := n) (k + 1 + 1 + 1) (b := nc) (v := nI nc - 1) (by omega) hnc with ⟨c, g1, g2, g3, g4⟩ | ⟨g1, g2, g3⟩
      · rw [rt_yes (by rw [ev2, g3]; exact nI_pos (by omega)) (by rw [ev2, g3, bp_2]; exact nI_lt g1 (by omega)), ev2, g3, sp_2 h6, g4]
        dsimp only
        rw [if_pos (show (0 : Int32) ≤ nI c from nI_pos' (by omega))]
        have ev3 : s_rv (fun p => m_X3_codeAt p sh fr n) k 3 = m_X3_codeAt (k + 1 + 1 + 1 + 1) sh fr n - 48 := rv_s (by decide)
        rcases fig_e (sh := sh) (fr := fr) (n := n) (k + 1 + 1 + 1 + 1) (b := 10) (v := 9) (by decide) rfl with ⟨d, i1, i2, i3, i4⟩ | ⟨i1, i2, i3⟩
        · rw [rt_yes (by rw [ev3, i3]; exact nI_pos (by omega)) (by rw [ev3, i3, bp_3]; exact nI_lt i1 (by decide)), ev3, i3, sp_3 h6, i4]
          dsimp only
          rw [if_pos (show (0 : Int32) ≤ nI d from nI_pos' (by omega))]
          have hlt : k + 5 ≤ n := by
            rcases Nat.lt_or_ge (k + 1 + 1 + 1 + 1) n with q | q
            · omega
            · exact absurd i2 (out_no (b := 10) q (by omega) (Nat.le_refl _) d i1)
          exact Or.inl ⟨a, b, c, d, ha, h1, g1, i1, hlt, rfl, rfl⟩
        · rw [rt_no (by rw [ev3, bp_3]; exact i2), i3]
          dsimp only
          rw [if_neg (show ¬ (0 : Int32) ≤ -9 by decide)]
          exact Or.inr ⟨3, by decide, rfl, rfl, rfl⟩
      · rw [rt_no (by rw [ev2, bp_2]; exact g2), g3]
        dsimp only
        rw [if_neg (show ¬ (0 : Int32) ≤ -9 by decide)]
        exact Or.inr ⟨2, by decide, rfl, rfl, rfl⟩
    · rw [rt_no (by rw [ev1, bp_1]; exact h2), h3]
      dsimp only
      rw [if_neg (show ¬ (0 : Int32) ≤ -9 by decide)]
      exact Or.inr ⟨1, by decide, rfl, rfl, rfl⟩
  · rw [hl2, rt_no (by rw [ev0, hl1]; exact Or.inl (by decide))]
    exact Or.inr ⟨0, by decide, rfl, rfl, rfl⟩
end RT
def XR (A : Int32 × (Nat → Int32) × (Nat → Int32) × (Nat → Int32) × (Nat → Int32) × (Nat → Int32) × Nat × Nat × Int32) (B : Int32 × Nat × Nat × Nat × (Nat → Int32) × (Nat → Int32) × (Nat → Int32) × (Nat → Int32) × (Nat → Int32)) : Prop := (A.1 = -9 ∧ B.1 = 1 ∧ A.2.2.2.2.2.2.1 = B.2.2.1 ∧ A.2.2.2.2.2.2.2.1 = B.2.2.2.1 ∧ A.2.2.2.2.2.2.2.2 = 0 ∧ A.2.2.2.2.2.2.1 ≤ 6 ∧ A.2.2.2.2.2.2.2.1 ≤ 6 ∧ TC A.2.2.2.2.2.2.1 A.2.1 B.2.2.2.2.1 ∧ TH A.2.2.2.2.2.2.2.1 A.2.2.2.2.2.2.1 A.2.2.1 A.2.2.2.1 A.2.2.2.2.1 A.2.2.2.2.2.1 B.2.2.2.2.2.1 B.2.2.2.2.2.2.1 B.2.2.2.2.2.2.2.1 B.2.2.2.2.2.2.2.2) ∨ (∃ p, p < 100 ∧ A.1 = nI p ∧ B.1 = 0 ∧ B.2.1 = p)
theorem TH_push {n nc a b c d : Nat} {kd ho pl st kd' ho' pl' st' : Nat → Int32} (ha : a < 3) (hb : b < 2) (hc : c < nc) (hd : d < 10) (ht : TH n nc kd ho pl st kd' ho' pl' st') : TH (n + 1) nc (upd kd n (nI a)) (upd ho n (nI b)) (upd pl n (nI c)) (upd st n (nI d)) (upd kd' n (nI a)) (upd ho' n (nI b)) (upd pl' n (nI c)) (upd st' n (nI d)) := by
  intro i hi
  by_cases q : i = n
  · subst q
    rw [pk_us, pk_us, pk_us, pk_us, pk_us, pk_us, pk_us, pk_us]
    exact ⟨rfl, rfl, rfl, rfl, ⟨a, ha, rfl⟩, ⟨b, hb, rfl⟩, ⟨c, hc, rfl⟩, d, hd, rfl⟩
  · rw [pk_un q, pk_un q, pk_un q, pk_un q, pk_un q, pk_un q, pk_un q, pk_un q]
    exact ht i (by omega)
theorem L69_stop {rs m ra rt : Nat} {rac rkd rho rpl rst : Nat → Int32} : m_X3_readsTable_L69 sh fr n rs rac (m + 1) 0 ra rt rkd rho rpl rst = (0, ra, rs, rt, rac, rkd, rho, rpl, rst) := by
  rw [m_X3_readsTable_L69_s, if_pos rfl]
theorem p_th {nc : Nat} {ac rac : Nat → Int32} (hx : TX f sh S j fr n) (hc2 : 2 ≤ nc) (hc6 : nc ≤ 6) (hc : TC nc ac rac) : ∀ m nt k kd ho pl st kd' ho' pl' st', nt + m = 6 → k ≤ n → TH nt nc kd ho pl st kd' ho' pl' st' → XR (m_X0_readText_L111 f (nI S) (nI j) n ac nc (m + 1) k kd ho pl st nt) (m_X3_readsTable_L69 sh fr n nc rac (m + 1 + 1) 1 k nt kd' ho' pl' st') := by
  have hn := hx.2.1
  have hS := hx.1
  intro m
  induction m with
  | zero =>
    intro nt k kd ho pl st kd' ho' pl' st' h6 hk ht
    have e6 : nt = 6 := by omega
    subst e6
    rw [m_X0_readText_L111_s, m_X3_readsTable_L69_s, if_neg n10, if_neg (show ¬ nI 6 = 0 by decide)]
    by_cases a : n ≤ k
    · rw [if_pos (nI_le a (by omega)), if_pos (nI_le a (by omega)), if_neg (show ¬ nI 6 ≤ 0 by decide)]
      exact Or.inl ⟨rfl, rfl, rfl, rfl, rfl, hc6, Nat.le_refl _, hc, ht⟩
    · have er : m_X3_readsThing k nc 6 kd' ho' pl' st' sh fr n = (0, k, 6, kd', ho', pl', st') := by
        unfold m_X3_readsThing
        rw [if_pos (show nI 6 = 6 from rfl)]
      rw [if_neg (nI_ge (by omega) (by omega)), if_neg (nI_ge (by omega) (by omega)), if_pos (show nI 6 = 6 from rfl), er, L69_stop]
      exact Or.inr ⟨k, by omega, rfl, rfl, rfl⟩
  | succ m ih =>
    intro nt k kd ho pl st kd' ho' pl' st' h6 hk ht
    have hrt : ¬ nI nt = 6 := fun z => by have := (nI_eq (b := 6) (by omega) (by decide)).mp z; omega
    rw [m_X0_readText_L111_s, m_X3_readsTable_L69_s, if_neg n10]
    by_cases a : n ≤ k
    · rw [if_pos (nI_le a (by omega)), if_pos (nI_le a (by omega))]
      by_cases z : nt = 0
      · subst z
        have er : m_X3_readsThing k nc 0 kd' ho' pl' st' sh fr n = (0, k, 0, kd', ho', pl', st') := by
          unfold m_X3_readsThing
          rw [if_neg (show ¬ nI 0 = 6 by decide), cd_out a (by omega), if_neg (by decide)]
        rw [if_pos (show nI 0 = 0 from rfl), if_pos (show nI 0 ≤ 0 by decide), er, L69_stop]
        exact Or.inr ⟨n, by omega, rfl, rfl, by show k = n; omega⟩
      · rw [if_neg (nI_ne0 (by omega) (by omega)), if_neg (nI_nle (by omega) (by omega))]
        exact Or.inl ⟨rfl, rfl, rfl, rfl, rfl, hc6, by show nt ≤ 6; omega, hc, ht⟩
    · have a2 : ¬ nI n ≤ nI k := nI_ge (by omega) (by omega)
      rw [if_neg a2, if_neg a2, ite_self, if_neg hrt, at_cd hx (by omega)]
      by_cases s : m_X3_codeAt k sh fr n = 59
      · rw [if_pos s]
        have e1 : m_X0_readThing kd ho pl st nc nt f (nI S) (nI j + nI k + 1) (min 4 (n - k - 1)) = s_rt (fun p => m_X3_codeAt p sh fr n) k nc nt 4 0 kd ho pl st := p_rt1 hx (by omega) (min 4 (n - k - 1)) 0 kd ho pl st (Nat.zero_add _)
        rw [e1]
        rcases p_thg (kd := kd) (ho := ho) (pl := pl) (st := st) (kd' := kd') (ho' := ho') (pl' := pl') (st' := st') (show n ≤ 60 by omega) (show k < n by omega) s (show nt < 6 by omega) hc2 hc6 with ⟨x1, x2, x3, x4, b1, b2, b3, b4, b5, b6, b7⟩ | ⟨q, b1, b2, b3, b4⟩
        · rw [b6, b7]
          dsimp only
          rw [if_pos (show (4 : Int32) ≤ nI 4 by decide)]
          exact ih (nt + 1) (k + 5) _ _ _ _ _ _ _ _ (by omega) b5 (TH_push b1 b2 b3 b4 ht)
        · rw [b2, if_neg (show ¬ (4 : Int32) ≤ nI q from nI_ge (b := 4) b1 (by decide)), b3, b4, L69_stop]
          refine Or.inr ⟨k + 1 + q, by omega, ?_, rfl, rfl⟩
          show nI k + 1 + nI q = nI (k + 1 + q)
          rw [nI_1, nI_add]
      · rw [if_neg s]
        have er : m_X3_readsThing k nc nt kd' ho' pl' st' sh fr n = (0, k, nt, kd', ho', pl', st') := by
          unfold m_X3_readsThing
          rw [if_neg hrt, if_neg s]
        rw [er, L69_stop]
        exact Or.inr ⟨k, by omega, rfl, rfl, rfl⟩
theorem p_text {xac xkd xho xpl xst rac rkd rho rpl rst : Nat → Int32} (hx : TX f sh S j fr n) : XR (m_X0_readText xac xkd xho xpl xst f (nI S) (nI j) n) (m_X3_readsTable rac rkd rho rpl rst sh fr n) := by
  have hn := hx.2.1
  have hS := hx.1
  unfold m_X0_readText m_X3_readsTable
  have X69 : ∀ u3 ra rs (ra2 : Nat → Int32), m_X3_readsTable_X69 rkd rho rpl rst sh fr n u3 ra rs ra2 = m_X3_readsTable_L69 sh fr n rs ra2 (6 + 1 + 1) u3 ra 0 rkd rho rpl rst := fun _ _ _ _ => rfl
  by_cases z : n = 0
  · subst z
    have e : m_X3_codeAt 0 sh fr 0 = -9 := cd_out (Nat.le_refl _) (by decide)
    rw [e, if_pos (show nI 0 < 1 by decide), if_neg (show ¬ (-9 : Int32) = 116 by decide), if_pos rfl, if_pos rfl, X69, L69_stop]
    exact Or.inr ⟨0, by decide, rfl, rfl, rfl⟩
  · rw [if_neg (show ¬ nI n < 1 from nI_nlt (b := 1) (by omega) (by omega)), at_cd0 hx (by omega)]
    by_cases a : m_X3_codeAt 0 sh fr n = 116
    · rw [if_pos a, if_pos a, if_neg n10, if_neg n10]
      have h0 : TC 0 xac rac := fun i hi => absurd hi (Nat.not_lt_zero _)
      obtain ⟨D, aF, rF, g1, g2, g3, g4, g5⟩ := p_sq (kd := xkd) (ho := xho) (pl := xpl) (st := xst) hx 6 0 xac rac (n - 1) rfl (by omega) h0
      have e1 : m_X3_readsSquares (0 + 1) 0 rac sh fr n = (((if (nI D) ≤ 1 then 0 else 1) : Int32), rF, D, 1 + D) := g5
      have e2 : m_X0_readText_L35 xkd xho xpl xst f (nI S) (nI j) n (n - 1) 1 xac 0 = m_X0_readText_X100 xkd xho xpl xst f (nI S) (nI j) n (1 + D) aF D := g4
      rw [e1, e2]
      unfold m_X0_readText_X100
      dsimp only
      by_cases b : 2 ≤ D
      · rw [if_pos (show (2 : Int32) ≤ nI D from nI_le (a := 2) b (by omega)), if_neg (show ¬ nI D ≤ 1 from nI_ge (a := 1) (by omega) (by omega)), if_neg n10, X69]
        exact p_th hx b g1 g3 6 0 (1 + D) xkd xho xpl xst rkd rho rpl rst rfl g2 (fun i hi => absurd hi (Nat.not_lt_zero _))
      · rw [if_neg (show ¬ (2 : Int32) ≤ nI D from nI_ge (b := 2) (by omega) (by decide)), if_pos (show nI D ≤ 1 from nI_le (b := 1) (by omega) (by decide)), if_pos rfl, X69, L69_stop]
        exact Or.inr ⟨1 + D, by omega, rfl, rfl, rfl⟩
    · rw [if_neg a, if_neg a, if_pos rfl, if_pos rfl, X69, L69_stop]
      exact Or.inr ⟨0, by decide, rfl, rfl, rfl⟩
end TXS
def f2_table (ac : Nat → Int32) (kd : Nat → Int32) (ho : Nat → Int32) (pl : Nat → Int32) (st : Nat → Int32) (nc : Nat) (nt : Nat) (ea : Int32) (xac : Nat → Int32) (xkd : Nat → Int32) (xho : Nat → Int32) (xpl : Nat → Int32) (xst : Nat → Int32) (xnc : Nat) (xnt : Nat) (xea : Int32) (ro : Nat → Nat → Int32) (la : Nat → Int32) (sz : Nat → Int32) (nr : Nat) (k : Nat) (v2 : Int32) (v3 : Int32) (v4 : Int32) : Int32 × (Nat → Int32) × (Nat → Int32) × (Nat → Int32) × (Nat → Int32) × (Nat → Int32) × Nat × Nat × Int32 × (Nat → Int32) × (Nat → Int32) × (Nat → Int32) × (Nat → Int32) × (Nat → Int32) × Nat × Nat × Int32 × Nat × Int32 :=
  if (m_X1_faultOfCells (la k) (sz k) v2 v3 v4) = 0 then
    if ((m_X0_readText xac xkd xho xpl xst (ro k) (sz k) v3 v4.toNatClampNeg).1) = (-9) then
      (nI ((m_X0_readText xac xkd xho xpl xst (ro k) (sz k) v3 v4.toNatClampNeg).2.2.2.2.2.2.2.1), (m_X0_become ac kd ho pl st ((m_X0_readText xac xkd xho xpl xst (ro k) (sz k) v3 v4.toNatClampNeg).2.1) ((m_X0_readText xac xkd xho xpl xst (ro k) (sz k) v3 v4.toNatClampNeg).2.2.1) ((m_X0_readText xac xkd xho xpl xst (ro k) (sz k) v3 v4.toNatClampNeg).2.2.2.1) ((m_X0_readText xac xkd xho xpl xst (ro k) (sz k) v3 v4.toNatClampNeg).2.2.2.2.1) ((m_X0_readText xac xkd xho xpl xst (ro k) (sz k) v3 v4.toNatClampNeg).2.2.2.2.2.1)).1, (m_X0_become ac kd ho pl st ((m_X0_readText xac xkd xho xpl xst (ro k) (sz k) v3 v4.toNatClampNeg).2.1) ((m_X0_readText xac xkd xho xpl xst (ro k) (sz k) v3 v4.toNatClampNeg).2.2.1) ((m_X0_readText xac xkd xho xpl xst (ro k) (sz k) v3 v4.toNatClampNeg).2.2.2.1) ((m_X0_readText xac xkd xho xpl xst (ro k) (sz k) v3 v4.toNatClampNeg).2.2.2.2.1) ((m_X0_readText xac xkd xho xpl xst (ro k) (sz k) v3 v4.toNatClampNeg).2.2.2.2.2.1)).2.1, (m_X0_become ac kd ho pl st ((m_X0_readText xac xkd xho xpl xst (ro k) (sz k) v3 v4.toNatClampNeg).2.1) ((m_X0_readText xac xkd xho xpl xst (ro k) (sz k) v3 v4.toNatClampNeg).2.2.1) ((m_X0_readText xac xkd xho xpl xst (ro k) (sz k) v3 v4.toNatClampNeg).2.2.2.1) ((m_X0_readText xac xkd xho xpl xst (ro k) (sz k) v3 v4.toNatClampNeg).2.2.2.2.1) ((m_X0_readText xac xkd xho xpl xst (ro k) (sz k) v3 v4.toNatClampNeg).2.2.2.2.2.1)).2.2.1, (m_X0_become ac kd ho pl st ((m_X0_readText xac xkd xho xpl xst (ro k) (sz k) v3 v4.toNatClampNeg).2.1) ((m_X0_readText xac xkd xho xpl xst (ro k) (sz k) v3 v4.toNatClampNeg).2.2.1) ((m_X0_readText xac xkd xho xpl xst (ro k) (sz k) v3 v4.toNatClampNeg).2.2.2.1) ((m_X0_readText xac xkd xho xpl xst (ro k) (sz k) v3 v4.toNatClampNeg).2.2.2.2.1) ((m_X0_readText xac xkd xho xpl xst (ro k) (sz k) v3 v4.toNatClampNeg).2.2.2.2.2.1)).2.2.2.1, (m_X0_become ac kd ho pl st ((m_X0_readText xac xkd xho xpl xst (ro k) (sz k) v3 v4.toNatClampNeg).2.1) ((m_X0_readText xac xkd xho xpl xst (ro k) (sz k) v3 v4.toNatClampNeg).2.2.1) ((m_X0_readText xac xkd xho xpl xst (ro k) (sz k) v3 v4.toNatClampNeg).2.2.2.1) ((m_X0_readText xac xkd xho xpl xst (ro k) (sz k) v3 v4.toNatClampNeg).2.2.2.2.1) ((m_X0_readText xac xkd xho xpl xst (ro k) (sz k) v3 v4.toNatClampNeg).2.2.2.2.2.1)).2.2.2.2, ((m_X0_readText xac xkd xho xpl xst (ro k) (sz k) v3 v4.toNatClampNeg).2.2.2.2.2.2.1), ((m_X0_readText xac xkd xho xpl xst (ro k) (sz k) v3 v4.toNatClampNeg).2.2.2.2.2.2.2.1), (m_X0_readText xac xkd xho xpl xst (ro k) (sz k) v3 v4.toNatClampNeg).2.2.2.2.2.2.2.2, (m_X0_readText xac xkd xho xpl xst (ro k) (sz k) v3 v4.toNatClampNeg).2.1, (m_X0_readText xac xkd xho xpl xst (ro k) (sz k) v3 v4.toNatClampNeg).2.2.1, (m_X0_readText xac xkd xho xpl xst (ro k) (sz k) v3 v4.toNatClampNeg).2.2.2.1, (m_X0_readText xac xkd xho xpl xst (ro k) (sz k) v3 v4.toNatClampNeg).2.2.2.2.1, (m_X0_readText xac xkd xho xpl xst (ro k) (sz k) v3 v4.toNatClampNeg).2.2.2.2.2.1, ((m_X0_readText xac xkd xho xpl xst (ro k) (sz k) v3 v4.toNatClampNeg).2.2.2.2.2.2.1), ((m_X0_readText xac xkd xho xpl xst (ro k) (sz k) v3 v4.toNatClampNeg).2.2.2.2.2.2.2.1), (m_X0_readText xac xkd xho xpl xst (ro k) (sz k) v3 v4.toNatClampNeg).2.2.2.2.2.2.2.2, 0, 0)
    else
      ((-100) - ((m_X0_readText xac xkd xho xpl xst (ro k) (sz k) v3 v4.toNatClampNeg).1), ac, kd, ho, pl, st, nc, nt, ea, (m_X0_readText xac xkd xho xpl xst (ro k) (sz k) v3 v4.toNatClampNeg).2.1, (m_X0_readText xac xkd xho xpl xst (ro k) (sz k) v3 v4.toNatClampNeg).2.2.1, (m_X0_readText xac xkd xho xpl xst (ro k) (sz k) v3 v4.toNatClampNeg).2.2.2.1, (m_X0_readText xac xkd xho xpl xst (ro k) (sz k) v3 v4.toNatClampNeg).2.2.2.2.1, (m_X0_readText xac xkd xho xpl xst (ro k) (sz k) v3 v4.toNatClampNeg).2.2.2.2.2.1, ((m_X0_readText xac xkd xho xpl xst (ro k) (sz k) v3 v4.toNatClampNeg).2.2.2.2.2.2.1), ((m_X0_readText xac xkd xho xpl xst (ro k) (sz k) v3 v4.toNatClampNeg).2.2.2.2.2.2.2.1), (m_X0_readText xac xkd xho xpl xst (ro k) (sz k) v3 v4.toNatClampNeg).2.2.2.2.2.2.2.2, nr, 0)
  else
    ((m_X2_faulted (m_X1_faultOfCells (la k) (sz k) v2 v3 v4)).1, ac, kd, ho, pl, st, nc, nt, ea, xac, xkd, xho, xpl, xst, xnc, xnt, xea, nr, (m_X2_faulted (m_X1_faultOfCells (la k) (sz k) v2 v3 v4)).2)
theorem r98 {rac rkd rho rpl rst sh : Nat → Int32} {v1 v3 v4 : Int32} : ∀ m i (w : Nat → Int32) x, m_X3_table_L98 rac rkd rho rpl rst sh v1 v3 v4 m i w x = if i ≤ x ∧ x < i + m then (m_X3_readsTable rac rkd rho rpl rst sh (60 * v1.toNatClampNeg + v3.toNatClampNeg) v4.toNatClampNeg).2.2.2.2.1 x else w x := by
  intro m
  induction m with
  | zero => intro i w x; rw [m_X3_table_L98_0, if_neg (by omega)]
  | succ m ih =>
    intro i w x
    rw [m_X3_table_L98_s, ih]
    by_cases q : x = i
    · subst q; rw [pk_us, ite_self, if_pos (by omega)]
    · rw [pk_un q]
      by_cases z : i + 1 ≤ x ∧ x < i + 1 + m
      · rw [if_pos z, if_pos (by omega)]
      · rw [if_neg z, if_neg (by omega)]
theorem r130 {rac rkd rho rpl rst sh : Nat → Int32} {v1 v3 v4 : Int32} : ∀ m i (a b c d : Nat → Int32) x, (m_X3_table_L130 rac rkd rho rpl rst sh v1 v3 v4 m i a b c d).1 x = (if i ≤ x ∧ x < i + m then (m_X3_readsTable rac rkd rho rpl rst sh (60 * v1.toNatClampNeg + v3.toNatClampNeg) v4.toNatClampNeg).2.2.2.2.2.1 x else a x) ∧ (m_X3_table_L130 rac rkd rho rpl rst sh v1 v3 v4 m i a b c d).2.1 x = (if i ≤ x ∧ x < i + m then (m_X3_readsTable rac rkd rho rpl rst sh (60 * v1.toNatClampNeg + v3.toNatClampNeg) v4.toNatClampNeg).2.2.2.2.2.2.1 x else b x) ∧ (m_X3_table_L130 rac rkd rho rpl rst sh v1 v3 v4 m i a b c d).2.2.1 x = (if i ≤ x ∧ x < i + m then (m_X3_readsTable rac rkd rho rpl rst sh (60 * v1.toNatClampNeg + v3.toNatClampNeg) v4.toNatClampNeg).2.2.2.2.2.2.2.1 x else c x) ∧ (m_X3_table_L130 rac rkd rho rpl rst sh v1 v3 v4 m i a b c d).2.2.2 x = (if i ≤ x ∧ x < i + m then (m_X3_readsTable rac rkd rho rpl rst sh (60 * v1.toNatClampNeg + v3.toNatClampNeg) v4.toNatClampNeg).2.2.2.2.2.2.2.2 x else d x) := by
  intro m
  induction m with
  | zero => intro i a b c d x; rw [m_X3_table_L130_0, if_neg (by omega), if_neg (by omega), if_neg (by omega), if_neg (by omega)]; exact ⟨rfl, rfl, rfl, rfl⟩
  | succ m ih =>
    intro i a b c d x
    obtain ⟨h1, h2, h3, h4⟩ := ih (i + 1) (upd a i ((m_X3_readsTable rac rkd rho rpl rst sh (60 * v1.toNatClampNeg + v3.toNatClampNeg) v4.toNatClampNeg).2.2.2.2.2.1 i)) (upd b i ((m_X3_readsTable rac rkd rho rpl rst sh (60 * v1.toNatClampNeg + v3.toNatClampNeg) v4.toNatClampNeg).2.2.2.2.2.2.1 i)) (upd c i ((m_X3_readsTable rac rkd rho rpl rst sh (60 * v1.toNatClampNeg + v3.toNatClampNeg) v4.toNatClampNeg).2.2.2.2.2.2.2.1 i)) (upd d i ((m_X3_readsTable rac rkd rho rpl rst sh (60 * v1.toNatClampNeg + v3.toNatClampNeg) v4.toNatClampNeg).2.2.2.2.2.2.2.2 i)) x
    rw [m_X3_table_L130_s, h1, h2, h3, h4]
    by_cases q : x = i
    · subst q
      rw [pk_us, pk_us, pk_us, pk_us, ite_self, ite_self, ite_self, ite_self, if_pos (by omega), if_pos (by omega), if_pos (by omega), if_pos (by omega)]
      exact ⟨rfl, rfl, rfl, rfl⟩
    · rw [pk_un q, pk_un q, pk_un q, pk_un q]
      by_cases z : i + 1 ≤ x ∧ x < i + 1 + m
      · have z2 : i ≤ x ∧ x < i + (m + 1) := by omega
        rw [if_pos z, if_pos z, if_pos z, if_pos z, if_pos z2, if_pos z2, if_pos z2, if_pos z2]
        exact ⟨rfl, rfl, rfl, rfl⟩
      · have z2 : ¬ (i ≤ x ∧ x < i + (m + 1)) := by omega
        rw [if_neg z, if_neg z, if_neg z, if_neg z, if_neg z2, if_neg z2, if_neg z2, if_neg z2]
        exact ⟨rfl, rfl, rfl, rfl⟩
def DT (nr : Nat) (A : Int32 × (Nat → Int32) × (Nat → Int32) × (Nat → Int32) × (Nat → Int32) × (Nat → Int32) × Nat × Nat × Int32 × (Nat → Int32) × (Nat → Int32) × (Nat → Int32) × (Nat → Int32) × (Nat → Int32) × Nat × Nat × Int32 × Nat × Int32) (B : Int32 × Nat × (Nat → Int32) × Nat × (Nat → Int32) × (Nat → Int32) × (Nat → Int32) × (Nat → Int32) × Int32 × Nat × Nat × Nat × (Nat → Int32) × (Nat → Int32) × (Nat → Int32) × (Nat → Int32) × (Nat → Int32) × Nat × Int32) : Prop := A.1 = B.1 ∧ A.2.2.2.2.2.2.2.2.2.2.2.2.2.2.2.2.2.2 = B.2.2.2.2.2.2.2.2.2.2.2.2.2.2.2.2.2.2 ∧ A.2.2.2.2.2.2.1 = B.2.1 ∧ A.2.2.2.2.2.2.2.1 = B.2.2.2.1 ∧ A.2.2.2.2.2.2.2.2.1 = B.2.2.2.2.2.2.2.2.1 ∧ A.2.2.2.2.2.2.2.2.2.2.2.2.2.2.2.2.2.1 = B.2.2.2.2.2.2.2.2.2.2.2.2.2.2.2.2.2.1 ∧ A.2.2.2.2.2.2.2.2.2.2.2.2.2.2.2.2.2.1 ≤ nr ∧ A.2.2.2.2.2.2.1 ≤ 6 ∧ A.2.2.2.2.2.2.2.1 ≤ 6 ∧ TC A.2.2.2.2.2.2.1 A.2.1 B.2.2.1 ∧ TH A.2.2.2.2.2.2.2.1 A.2.2.2.2.2.2.1 A.2.2.1 A.2.2.2.1 A.2.2.2.2.1 A.2.2.2.2.2.1 B.2.2.2.2.1 B.2.2.2.2.2.1 B.2.2.2.2.2.2.1 B.2.2.2.2.2.2.2.1 ∧ EA A.2.2.2.2.2.2.2.1 A.2.2.2.2.2.2.2.2.1
theorem r_table {nt nc nr ra rs rt xnc xnt : Nat} {ac ac' kd ho pl st kd' ho' pl' st' xac xkd xho xpl xst rac rkd rho rpl rst la sz sz' la' sh' : Nat → Int32} {ro : Nat → Nat → Int32} {ea xea fa v1 v2 v3 v4 : Int32} (hn : nc ≤ 6) (h6 : nt ≤ 6) (ht : TH nt nc kd ho pl st kd' ho' pl' st') (hc : TC nc ac ac') (he : EA nt ea) (hs : TS ro la sz sz' la' sh') : DT nr (m_X2_table ac kd ho pl st nc nt ea xac xkd xho xpl xst xnc xnt xea ro la sz nr v1 v2 v3 v4) (m_X3_table fa nc ac' nt kd' ho' pl' st' ea ra rs rt rac rkd rho rpl rst nr sz' la' sh' v1 v2 v3 v4) := by
  unfold m_X3_table
  rcases p_sheet v1 with ⟨k, hk, rfl, e1, e2⟩ | ⟨e1, e2⟩
  · rw [e2, if_pos rfl]
    rcases p_lane v2 with ⟨t, h3, rfl, l1, l2⟩ | ⟨l1, l2⟩
    · rw [if_neg l2]
      have E : m_X2_table ac kd ho pl st nc nt ea xac xkd xho xpl xst xnc xnt xea ro la sz nr (nI k) (nI t) v3 v4 = f2_table ac kd ho pl st nc nt ea xac xkd xho xpl xst xnc xnt xea ro la sz nr k (nI t) v3 v4 := by
        unfold m_X2_table
        rw [e1, if_neg n10, l1, if_neg n10]
        exact sp4 hk (fun k => f2_table ac kd ho pl st nc nt ea xac xkd xho xpl xst xnc xnt xea ro la sz nr k (nI t) v3 v4)
      rw [E]
      unfold f2_table
      rcases p_bar hs hk (v2 := nI t) (v3 := v3) (fa := fa) (Int32.toInt_toInt64 v4) with ⟨f1, f2, S, j, w, g1, g2, rfl, rfl, g5, g6⟩ | ⟨f, f0, f1, f2, f3⟩
      · rw [f1, if_pos rfl, f2, if_pos (show (0 : Int32) ≤ 0 by decide)]
        have hx : TX (ro k) sh' S j (60 * k + j) w := ⟨g1, g2, fun p hp => by rw [g6 (j + p) (by omega), Nat.add_assoc]⟩
        have ef : 60 * (nI k).toNatClampNeg + (nI j).toNatClampNeg = 60 * k + j := by rw [nI_clamp (by omega), nI_clamp (by omega)]
        have hX : XR (m_X0_readText xac xkd xho xpl xst (ro k) (sz k) (nI j) (nI w).toNatClampNeg) (m_X3_readsTable rac rkd rho rpl rst sh' (60 * (nI k).toNatClampNeg + (nI j).toNatClampNeg) (nI w).toNatClampNeg) := by
          rw [ef, nI_clamp (show w < 2 ^ 31 by omega), g5]
          exact p_text hx
        rcases hX with ⟨x1, x2, x3, x4, x5, x6, x7, x8, x9⟩ | ⟨p, hp, x1, x2, x3⟩
        · rw [x1, if_pos rfl, x2, if_neg n10]
          have hTC2 : TC (m_X0_readText xac xkd xho xpl xst (ro k) (sz k) (nI j) (nI w).toNatClampNeg).2.2.2.2.2.2.1 (m_X0_readText xac xkd xho xpl xst (ro k) (sz k) (nI j) (nI w).toNatClampNeg).2.1 (m_X3_table_L98 rac rkd rho rpl rst sh' (nI k) (nI j) (nI w) (m_X3_readsTable rac rkd rho rpl rst sh' (60 * (nI k).toNatClampNeg + (nI j).toNatClampNeg) (nI w).toNatClampNeg).2.2.1 0 ac') := by
            intro i hi
            rw [r98, if_pos (by rw [← x3]; omega)]
            exact x8 i hi
          have hTH2 : TH (m_X0_readText xac xkd xho xpl xst (ro k) (sz k) (nI j) (nI w).toNatClampNeg).2.2.2.2.2.2.2.1 (m_X0_readText xac xkd xho xpl xst (ro k) (sz k) (nI j) (nI w).toNatClampNeg).2.2.2.2.2.2.1 (m_X0_readText xac xkd xho xpl xst (ro k) (sz k) (nI j) (nI w).toNatClampNeg).2.2.1 (m_X0_readText xac xkd xho xpl xst (ro k) (sz k) (nI j) (nI w).toNatClampNeg).2.2.2.1 (m_X0_readText xac xkd xho xpl xst (ro k) (sz k) (nI j) (nI w).toNatClampNeg).2.2.2.2.1 (m_X0_readText xac xkd xho xpl xst (ro k) (sz k) (nI j) (nI w).toNatClampNeg).2.2.2.2.2.1 (m_X3_table_L130 rac rkd rho rpl rst sh' (nI k) (nI j) (nI w) (m_X3_readsTable rac rkd rho rpl rst sh' (60 * (nI k).toNatClampNeg + (nI j).toNatClampNeg) (nI w).toNatClampNeg).2.2.2.1 0 kd' ho' pl' st').1 (m_X3_table_L130 rac rkd rho rpl rst sh' (nI k) (nI j) (nI w) (m_X3_readsTable rac rkd rho rpl rst sh' (60 * (nI k).toNatClampNeg + (nI j).toNatClampNeg) (nI w).toNatClampNeg).2.2.2.1 0 kd' ho' pl' st').2.1 (m_X3_table_L130 rac rkd rho rpl rst sh' (nI k) (nI j) (nI w) (m_X3_readsTable rac rkd rho rpl rst sh' (60 * (nI k).toNatClampNeg + (nI j).toNatClampNeg) (nI w).toNatClampNeg).2.2.2.1 0 kd' ho' pl' st').2.2.1 (m_X3_table_L130 rac rkd rho rpl rst sh' (nI k) (nI j) (nI w) (m_X3_readsTable rac rkd rho rpl rst sh' (60 * (nI k).toNatClampNeg + (nI j).toNatClampNeg) (nI w).toNatClampNeg).2.2.2.1 0 kd' ho' pl' st').2.2.2 := by
            intro i hi
            obtain ⟨y1, y2, y3, y4⟩ := r130 (rac := rac) (rkd := rkd) (rho := rho) (rpl := rpl) (rst := rst) (sh := sh') (v1 := nI k) (v3 := nI j) (v4 := nI w) (m_X3_readsTable rac rkd rho rpl rst sh' (60 * (nI k).toNatClampNeg + (nI j).toNatClampNeg) (nI w).toNatClampNeg).2.2.2.1 0 kd' ho' pl' st' i
            have z : 0 ≤ i ∧ i < 0 + (m_X3_readsTable rac rkd rho rpl rst sh' (60 * (nI k).toNatClampNeg + (nI j).toNatClampNeg) (nI w).toNatClampNeg).2.2.2.1 := by rw [← x4]; omega
            rw [if_pos z] at y1 y2 y3 y4
            rw [y1, y2, y3, y4]
            exact x9 i hi
          refine ⟨congrArg nI x4, rfl, x3, x4, x5, rfl, Nat.zero_le _, x6, x7, TC_cpy x6 hTC2, TH_cpy x7 hTH2, ?_⟩
          · show EA _ (m_X0_readText xac xkd xho xpl xst (ro k) (sz k) (nI j) (nI w).toNatClampNeg).2.2.2.2.2.2.2.2
            rw [x5]; exact EA_0
        · have q1 : ¬ (m_X0_readText xac xkd xho xpl xst (ro k) (sz k) (nI j) (nI w).toNatClampNeg).1 = -9 := by
            rw [x1]
            intro q
            have := nI_toInt (n := p) (by omega)
            rw [q] at this
            have z : (-9 : Int32).toInt = -9 := rfl
            omega
          rw [if_neg q1, x2, if_pos rfl]
          refine ⟨?_, rfl, rfl, rfl, rfl, rfl, Nat.le_refl _, hn, h6, hc, ht, he⟩
          show -100 - (m_X0_readText xac xkd xho xpl xst (ro k) (sz k) (nI j) (nI w).toNatClampNeg).1 = -100 - nI (m_X3_readsTable rac rkd rho rpl rst sh' (60 * (nI k).toNatClampNeg + (nI j).toNatClampNeg) (nI w).toNatClampNeg).2.1
          rw [x1, x3]
      · rw [f2, if_neg f0, f3, if_neg (Int32.not_le.mpr f1)]
        exact ⟨rfl, rfl, rfl, rfl, rfl, rfl, Nat.le_refl _, hn, h6, hc, ht, he⟩
    · rw [if_pos l2]
      unfold m_X2_table
      rw [e1, if_neg n10, l1, if_pos rfl]; exact ⟨rfl, rfl, rfl, rfl, rfl, rfl, Nat.le_refl _, hn, h6, hc, ht, he⟩
  · unfold m_X2_table
    rw [e1, e2, if_pos rfl, if_neg n10]; exact ⟨rfl, rfl, rfl, rfl, rfl, rfl, Nat.le_refl _, hn, h6, hc, ht, he⟩
