/-! class and reference: the small calls -/
def EA (nt : Nat) (ea : Int32) : Prop := ∃ e, e < 2 ^ nt ∧ ea = nI e
theorem n10 : ¬ (1 : Int32) = 0 := by decide
theorem EA_64 {nt : Nat} {ea : Int32} (h6 : nt ≤ 6) (h : EA nt ea) : ∃ e, e < 64 ∧ ea = nI e := by
  obtain ⟨e, he, rfl⟩ := h
  have := tw_p64 h6
  exact ⟨e, by omega, rfl⟩
theorem p_bits {nt : Nat} {ea : Int32} (h6 : nt ≤ 6) (h : EA nt ea) : m_X0_countEaten ea = m_X3_bits ea := by
  obtain ⟨e, he, rfl⟩ := EA_64 h6 h
  have key : ∀ e, e < 64 → m_X0_countEaten (nI e) = m_X3_bits (nI e) := by decide +kernel
  exact key e he
theorem EA_0 {nt : Nat} : EA nt 0 := ⟨0, Nat.two_pow_pos nt, rfl⟩
theorem EA_or {nt x : Nat} {ea : Int32} (h6 : nt ≤ 6) (hx : x < nt) (h : EA nt ea) : EA nt (ea ||| ((1 : Int32) <<< (nI x &&& 31))) := by
  obtain ⟨e, he, rfl⟩ := h
  have h64 := tw_p64 h6
  have key : ∀ e, e < 64 → ∀ x, x < 6 → nI e ||| ((1 : Int32) <<< (nI x &&& 31)) = nI (e ||| 2 ^ x) := by decide +kernel
  exact ⟨e ||| 2 ^ x, Nat.or_lt_two_pow he (Nat.pow_lt_pow_right (by decide) hx), key e (by omega) x (by omega)⟩
theorem p_eat {nt x : Nat} {ea : Int32} (h6 : nt ≤ 6) (hx : x < nt) (h : EA nt ea) : m_X0_isEaten (ea ||| ((1 : Int32) <<< (nI x &&& 31))) (nI x) = 1 := by
  obtain ⟨e, he, rfl⟩ := EA_64 h6 h
  have key : ∀ e, e < 64 → ∀ x, x < 6 → m_X0_isEaten (nI e ||| ((1 : Int32) <<< (nI x &&& 31))) (nI x) = 1 := by decide +kernel
  exact key e he x (by omega)
theorem p_dig (x : Int32) : (∃ j, j < 10 ∧ x = nI j ∧ ¬ x < 0 ∧ x < 10 ∧ ¬ m_X3_in x.toInt64 0 9 = 0) ∨ ((x < 0 ∨ ¬ x < 10) ∧ m_X3_in x.toInt64 0 9 = 0) := by
  rcases p_rng x (n := 10) (by omega) with ⟨j, hj, rfl⟩ | h
  · exact Or.inl ⟨j, hj, rfl, nI_pos (by omega), nI_lt (b := 10) hj (by decide), in_yes (by omega) (by show (j : Int) ≤ 9; omega)⟩
  · refine Or.inr ⟨?_, in_no (n := 10) (by omega) rfl h⟩
    rcases h with h | h
    · exact Or.inl h
    · exact Or.inr (Int32.not_lt.mpr h)
section TWO
variable {n nc : Nat} {ac ac' kd ho pl st kd' ho' pl' st' : Nat → Int32} {ea v1 v2 : Int32}
theorem r_ofThing (h6 : n ≤ 6) (ht : TH n nc kd ho pl st kd' ho' pl' st') : m_X2_ofThing kd ho pl st n ea v1 v2 = m_X3_ofThing n kd' ho' pl' st' ea v1 v2 := by
  unfold m_X2_ofThing m_X3_ofThing
  rcases p_thing v1 h6 with ⟨j, hj, rfl, e1, e2⟩ | ⟨e1, e2⟩
  · obtain ⟨t1, t2, t3, t4, t5, t6, t7, t8⟩ := ht j hj
    rw [e1, e2, if_neg n10, if_pos rfl, nI_clamp (by omega), t1, t2, t4, p_might (by omega) t1 t4 t5]
    have ew : m_X0_whereIs pl ea (nI j) = (if (m_X3_isIn ea (nI j)) = 0 then pl' j else (-9 : Int32)) := by
      unfold m_X0_whereIs
      rw [nI_clamp (by omega), t3]
      rfl
    rw [ew]
  · rw [e1, e2, if_pos rfl, if_neg n10]
theorem r_acres (hc6 : nc ≤ 6) (hc : TC nc ac ac') : m_X2_acres ac nc v1 = m_X3_acres nc ac' v1 := by
  unfold m_X2_acres m_X3_acres
  rcases p_cell v1 hc6 with ⟨j, hj, rfl, e1, e2⟩ | ⟨e1, e2⟩
  · rw [e1, e2, if_neg n10, if_pos rfl, nI_clamp (by omega), (hc j hj).1]
  · rw [e1, e2, if_pos rfl, if_neg n10]
theorem r_stain (hc6 : nc ≤ 6) (hc : TC nc ac ac') : (m_X2_stain ac nc v1 v2).1 = (m_X3_stain nc ac' v1 v2).1 ∧ TC nc (m_X2_stain ac nc v1 v2).2 (m_X3_stain nc ac' v1 v2).2 := by
  unfold m_X2_stain m_X3_stain
  rcases p_cell v1 hc6 with ⟨j, hj, rfl, e1, e2⟩ | ⟨e1, e2⟩
  · rw [e1, e2, if_neg n10, if_pos rfl]
    unfold m_X2_replaceDigit
    rcases p_dig v2 with ⟨d, hd, e, a, b, c⟩ | ⟨a, c⟩
    · rw [if_neg a, if_pos b, if_neg c, nI_clamp (by omega)]
      refine ⟨(hc j hj).1, fun i hi => ?_⟩
      dsimp only
      by_cases q : i = j
      · subst q; rw [pk_us, pk_us]; exact ⟨rfl, d, hd, e⟩
      · rw [pk_un q, pk_un q]; exact hc i hi
    · rw [if_pos c]
      by_cases q : v2 < 0
      · rw [if_pos q]; exact ⟨rfl, hc⟩
      · rw [if_neg q, if_neg (a.resolve_left q)]; exact ⟨rfl, hc⟩
  · rw [e1, e2, if_pos rfl, if_neg n10]; exact ⟨rfl, hc⟩
theorem r_arm (h6 : n ≤ 6) (ht : TH n nc kd ho pl st kd' ho' pl' st') : (m_X2_arm st n v1 v2).1 = (m_X3_arm n st' v1 v2).1 ∧ TH n nc kd ho pl (m_X2_arm st n v1 v2).2 kd' ho' pl' (m_X3_arm n st' v1 v2).2 := by
  unfold m_X2_arm m_X3_arm
  rcases p_thing v1 h6 with ⟨j, hj, rfl, e1, e2⟩ | ⟨e1, e2⟩
  · rw [e1, e2, if_neg n10, if_pos rfl]
    unfold m_X2_replaceDigit
    rcases p_dig v2 with ⟨d, hd, e, a, b, c⟩ | ⟨a, c⟩
    · rw [if_neg a, if_pos b, if_neg c, nI_clamp (by omega)]
      refine ⟨(ht j hj).2.2.2.1, fun i hi => ?_⟩
      obtain ⟨t1, t2, t3, t4, t5, t6, t7, t8⟩ := ht i hi
      refine ⟨t1, t2, t3, ?_, t5, t6, t7, ?_⟩
      · dsimp only
        by_cases q : i = j
        · subst q; rw [pk_us, pk_us]
        · rw [pk_un q, pk_un q]; exact t4
      · dsimp only
        by_cases q : i = j
        · subst q; rw [pk_us]; exact ⟨d, hd, e⟩
        · rw [pk_un q]; exact t8
    · rw [if_pos c]
      by_cases q : v2 < 0
      · rw [if_pos q]; exact ⟨rfl, ht⟩
      · rw [if_neg q, if_neg (a.resolve_left q)]; exact ⟨rfl, ht⟩
  · rw [e1, e2, if_pos rfl, if_neg n10]; exact ⟨rfl, ht⟩
theorem r_might (hc6 : nc ≤ 6) (h6 : n ≤ 6) (ht : TH n nc kd ho pl st kd' ho' pl' st') : m_X2_might kd ho pl st nc n ea v1 v2 = m_X3_might nc n kd' ho' pl' st' ea v1 v2 := by
  unfold m_X2_might m_X3_might
  rcases p_house v1 with ⟨_, h2, h3⟩ | ⟨h2, h3⟩
  · rw [h2, h3, if_neg n10, if_pos rfl]
    rcases p_cell v2 hc6 with ⟨j, hj, rfl, e1, e2⟩ | ⟨e1, e2⟩
    · rw [e1, e2, if_neg n10, if_pos rfl, p_mightIn h6 ht]
    · rw [e1, e2, if_pos rfl, if_neg n10]
  · rw [h2, h3, if_pos rfl, if_neg n10]
theorem r_holds (hc6 : nc ≤ 6) (h6 : n ≤ 6) (ht : TH n nc kd ho pl st kd' ho' pl' st') : m_X2_holds kd ho pl st nc n ea v1 = m_X3_holds nc n kd' ho' pl' st' ea v1 := by
  unfold m_X2_holds m_X3_holds
  rcases p_cell v1 hc6 with ⟨j, hj, rfl, e1, e2⟩ | ⟨e1, e2⟩
  · rw [e1, e2, if_neg n10, if_pos rfl, p_holder h6 ht]
  · rw [e1, e2, if_pos rfl, if_neg n10]
theorem r_land (h6 : n ≤ 6) (ht : TH n nc kd ho pl st kd' ho' pl' st') (hc : TC nc ac ac') : m_X2_land ac kd ho pl st nc n ea v1 = m_X3_land nc ac' n kd' ho' pl' st' ea v1 := by
  unfold m_X2_land m_X3_land
  rcases p_house v1 with ⟨_, h2, h3⟩ | ⟨h2, h3⟩
  · rw [h2, h3, if_neg n10, if_pos rfl]
    by_cases q : nI n = 0
    · rw [if_pos ((p_table h6).mpr q), if_pos q]
    · rw [if_neg (fun z => q ((p_table h6).mp z)), if_neg q, p_land h6 ht hc]
  · rw [h2, h3, if_pos rfl, if_neg n10]
theorem r_act (hc6 : nc ≤ 6) (h6 : n ≤ 6) (ht : TH n nc kd ho pl st kd' ho' pl' st') (he : EA n ea) : (m_X2_act pl nc n ea v1 v2).1 = (m_X3_act nc n pl' ea v1 v2).1 ∧ TH n nc kd ho (m_X2_act pl nc n ea v1 v2).2.1 st kd' ho' (m_X3_act nc n pl' ea v1 v2).2.1 st' ∧ (m_X2_act pl nc n ea v1 v2).2.2 = (m_X3_act nc n pl' ea v1 v2).2.2 ∧ EA n (m_X2_act pl nc n ea v1 v2).2.2 := by
  unfold m_X2_act m_X3_act
  rcases p_thing v1 h6 with ⟨j, hj, rfl, e1, e2⟩ | ⟨e1, e2⟩
  · rw [e1, e2, if_neg n10, if_pos rfl]
    have hA : m_X2_isAct v2 = 0 ↔ m_X3_in v2.toInt64 0 2 = 0 := by
      unfold m_X2_isAct
      rcases p_what v2 with ⟨d, hd, e, a, b, c⟩ | ⟨a, c⟩
      · rw [if_neg a, if_neg (Int32.not_le.mpr (by rw [e]; exact nI_lt (b := 3) hd (by decide)))]
        exact ⟨fun q => absurd q n10, fun q => absurd q c⟩
      · refine ⟨fun _ => c, fun _ => ?_⟩
        by_cases q : v2 < 0
        · rw [if_pos q]
        · rw [if_neg q, if_pos]
          have h2 := a.resolve_left q
          have z2 : (2 : Int32).toInt = 2 := rfl
          have z3 : (3 : Int32).toInt = 3 := rfl
          rw [Int32.le_iff_toInt_le, z2] at h2
          rw [Int32.le_iff_toInt_le, z3]
          omega
    by_cases c : m_X3_in v2.toInt64 0 2 = 0
    · rw [if_pos (hA.mpr c), if_pos c]; exact ⟨rfl, ht, rfl, he⟩
    · rw [if_neg (fun z => c (hA.mp z)), if_neg c]
      obtain ⟨d, hd, rfl, _⟩ : ∃ d, d < 3 ∧ v2 = nI d ∧ True := by
        rcases p_what v2 with ⟨d, hd, e, _⟩ | ⟨_, z⟩
        · exact ⟨d, hd, e, trivial⟩
        · exact absurd z c
      obtain ⟨t1, t2, t3, t4, t5, t6, t7, t8⟩ := ht j hj
      rw [p_canDo hc6 (show j < 2 ^ 31 by omega) hd t3 t7]
      by_cases q : m_X3_mayAct nc pl' ea (nI j) (nI d) = 0
      · rw [if_pos q, if_pos q]; exact ⟨rfl, ht, rfl, he⟩
      · rw [if_neg q, if_neg q]
        have q2 : ¬ m_X0_canDo pl nc ea (nI j) (nI d) = 0 := by rw [p_canDo hc6 (show j < 2 ^ 31 by omega) hd t3 t7]; exact q
        have hT := p_doTH hc6 hj h6 hd ht q2
        have hE := p_doEa (pl := pl) (pl' := pl') (ea := ea) (v := nI j) hd
        refine ⟨?_, hT, hE, ?_⟩
        · dsimp only
          unfold m_X0_whereIs
          rw [nI_clamp (by omega), (hT j hj).2.2.1]
          have h012 : d = 0 ∨ d = 1 ∨ d = 2 := by omega
          have hne : m_X0_isEaten ea (nI j) = 0 := by
            unfold m_X0_canDo at q2
            by_cases r : m_X0_isEaten ea (nI j) = 0
            · exact r
            · rw [if_neg r] at q2; exact absurd rfl q2
          rcases h012 with rfl | rfl | rfl
          · rw [if_neg (show ¬ nI 0 = 2 by decide), if_pos]
            unfold m_X0_doAct
            rw [if_pos (show nI 0 = 0 from rfl)]; exact hne
          · rw [if_neg (show ¬ nI 1 = 2 by decide), if_pos]
            unfold m_X0_doAct
            rw [if_neg (show ¬ nI 1 = 0 by decide), if_pos (show nI 1 = 1 from rfl)]; exact hne
          · rw [if_pos (show nI 2 = 2 from rfl), if_neg]
            unfold m_X0_doAct
            rw [if_neg (show ¬ nI 2 = 0 by decide), if_neg (show ¬ nI 2 = 1 by decide)]
            rw [p_eat h6 hj he]; exact n10
        · dsimp only
          unfold m_X0_doAct
          have h012 : d = 0 ∨ d = 1 ∨ d = 2 := by omega
          rcases h012 with rfl | rfl | rfl
          · rw [if_pos (show nI 0 = 0 from rfl)]; exact he
          · rw [if_neg (show ¬ nI 1 = 0 by decide), if_pos (show nI 1 = 1 from rfl)]; exact he
          · rw [if_neg (show ¬ nI 2 = 0 by decide), if_neg (show ¬ nI 2 = 1 by decide)]; exact EA_or h6 hj he
  · rw [e1, e2, if_pos rfl, if_neg n10]; exact ⟨rfl, ht, rfl, he⟩
theorem r_serve (h6 : n ≤ 6) (he : EA n ea) : m_X2_serve n ea = m_X3_serve n ea ∧ EA n (m_X2_serve n ea).2 := by
  unfold m_X2_serve m_X3_serve
  by_cases q : nI n = 0
  · rw [if_pos ((p_table h6).mpr q), if_pos q]; exact ⟨rfl, he⟩
  · rw [if_neg (fun z => q ((p_table h6).mp z)), if_neg q, p_bits h6 he]; exact ⟨rfl, EA_0⟩
theorem r_many {nr : Nat} (h6 : n ≤ 6) (he : EA n ea) : m_X2_many nc n ea nr v1 = m_X3_many nc n ea nr v1 := by
  unfold m_X2_many m_X3_many
  rw [p_bits h6 he]
def TRd (nr : Nat) (rc rh rc' rh' : Nat → Int32) : Prop := ∀ i, i < nr → rc i = rc' i ∧ rh i = rh' i
theorem TRd_push {nr : Nat} {rc rh rc' rh' : Nat → Int32} {a b : Int32} (h : TRd nr rc rh rc' rh') : TRd (nr + 1) (upd rc nr a) (upd rh nr b) (upd rc' nr a) (upd rh' nr b) := by
  intro i hi
  by_cases q : i = nr
  · subst q; rw [pk_us, pk_us, pk_us, pk_us]; exact ⟨rfl, rfl⟩
  · rw [pk_un q, pk_un q, pk_un q, pk_un q]; exact h i (by omega)
theorem r_reading {nr : Nat} {rc rh rc' rh' : Nat → Int32} (hc6 : nc ≤ 6) (hr : nr ≤ 8) (h : TRd nr rc rh rc' rh') : (m_X2_reading nc rc rh nr v1 v2).1 = (m_X3_reading nc nr rc' rh' v1 v2).1 ∧ (m_X2_reading nc rc rh nr v1 v2).2.2.2 = (m_X3_reading nc nr rc' rh' v1 v2).2.2.2 ∧ (m_X2_reading nc rc rh nr v1 v2).2.2.2 ≤ 8 ∧ TRd (m_X2_reading nc rc rh nr v1 v2).2.2.2 (m_X2_reading nc rc rh nr v1 v2).2.1 (m_X2_reading nc rc rh nr v1 v2).2.2.1 (m_X3_reading nc nr rc' rh' v1 v2).2.1 (m_X3_reading nc nr rc' rh' v1 v2).2.2.1 := by
  have hf : nI nr < 8 ↔ ¬ nI nr = 8 := by
    rw [show nI nr < 8 ↔ nr < 8 from nI_ltI (b := 8) (by omega) (by decide), show nI nr = 8 ↔ nr = 8 from nI_eq (b := 8) (by omega) (by decide)]
    omega
  have hl : nI nr < 8 → nr < 8 := fun q => (nI_ltI (b := 8) (by omega) (by decide)).mp q
  unfold m_X2_reading m_X3_reading
  rcases p_cell v1 hc6 with ⟨j, hj, rfl, e1, e2⟩ | ⟨e1, e2⟩
  · rw [e1, e2, if_neg n10, if_pos rfl]
    by_cases q : nI nr < 8
    · have q2 := hf.mp q
      rw [if_pos q, if_neg q2]
      rcases p_house v2 with ⟨_, h2, h3⟩ | ⟨h2, h3⟩
      · rw [h2, h3, if_neg n10, if_pos rfl, ite_self]
        exact ⟨rfl, rfl, hl q, TRd_push h⟩
      · rw [h2, h3, if_pos rfl, if_neg n10]
        by_cases z : v2 = -9
        · rw [if_pos z, if_pos z]; exact ⟨rfl, rfl, hl q, TRd_push h⟩
        · rw [if_neg z, if_neg z]; exact ⟨rfl, rfl, hr, h⟩
    · have q2 : nI nr = 8 := Classical.not_not.mp (fun z => q (hf.mpr z))
      rw [if_neg q, if_pos q2]
      rcases p_house v2 with ⟨_, h2, h3⟩ | ⟨h2, h3⟩
      · rw [h2, h3, if_neg n10, if_pos rfl, ite_self]
        exact ⟨rfl, rfl, hr, h⟩
      · rw [h2, h3, if_pos rfl, if_neg n10]
        by_cases z : v2 = -9
        · rw [if_pos z, if_pos z]; exact ⟨rfl, rfl, hr, h⟩
        · rw [if_neg z, if_neg z]; exact ⟨rfl, rfl, hr, h⟩
  · rw [e1, e2, if_pos rfl, if_neg n10]; exact ⟨rfl, rfl, hr, h⟩
theorem r_back {nr : Nat} (hr : nr ≤ 8) : m_X2_back nr v1 = m_X3_back nr v1 ∧ (m_X2_back nr v1).2 ≤ nr := by
  have e64 : ((nI nr).toInt64).toInt = ((nr + 1 : Nat) : Int) - 1 := by rw [Int32.toInt_toInt64, nI_toInt (by omega)]; omega
  unfold m_X2_back m_X3_back
  rcases p_rng v1 (n := nr + 1) (by omega) with ⟨j, hj, rfl⟩ | h
  · rw [if_neg (nI_pos (by omega)), if_pos (nI_le (by omega) (by omega)), if_neg (in_yes (by omega) (by rw [e64]; omega))]
    exact ⟨rfl, Nat.sub_le _ _⟩
  · rw [if_pos (in_no (n := nr + 1) (by omega) e64 h)]
    by_cases q : v1 < 0
    · rw [if_pos q]; exact ⟨rfl, Nat.le_refl _⟩
    · have h2 := h.resolve_left q
      have q2 : ¬ v1 ≤ nI nr := by
        intro z
        rw [Int32.le_iff_toInt_le, nI_toInt (by omega)] at h2 z
        omega
      rw [if_neg q, if_neg q2]; exact ⟨rfl, Nat.le_refl _⟩
theorem r_tell {tr : Int32} (h6 : n ≤ 6) (ht : TH n nc kd ho pl st kd' ho' pl' st') : m_X2_tell kd st n tr v1 = m_X3_tell n kd' st' tr v1 := by
  unfold m_X2_tell m_X3_tell
  rcases p_thing v1 h6 with ⟨j, hj, rfl, e1, e2⟩ | ⟨e1, e2⟩
  · obtain ⟨t1, t2, t3, t4, ⟨k, hk, ek⟩, t6, t7, t8⟩ := ht j hj
    unfold m_X2_gravyTells m_X2_saltTells m_X2_forkTells
    dsimp only
    rw [e1, e2, if_neg n10, if_pos rfl, nI_clamp (by omega), ← t1, t4, ek]
    have h012 : k = 0 ∨ k = 1 ∨ k = 2 := by omega
    rcases h012 with rfl | rfl | rfl
    · rw [if_neg (show ¬ nI 0 = 1 by decide), if_neg (show ¬ nI 0 = 2 by decide), if_neg (show ¬ nI 0 = 2 by decide), if_pos (show nI 0 ≤ 0 by decide), if_pos (show nI 0 = 0 from rfl)]
      rfl
    · rw [if_pos (show nI 1 = 1 from rfl), if_neg (show ¬ nI 1 = 2 by decide), if_neg (show ¬ nI 1 ≤ 0 by decide), if_neg (show ¬ nI 1 = 0 by decide), if_pos (show nI 1 = 1 from rfl)]
      rfl
    · rw [if_neg (show ¬ nI 2 = 1 by decide), if_pos (show nI 2 = 2 from rfl), if_pos (show nI 2 = 2 from rfl), if_neg (show ¬ nI 2 ≤ 0 by decide), if_neg (show ¬ nI 2 = 0 by decide), if_neg (show ¬ nI 2 = 1 by decide)]
      have e3 : st' j + 100 + st' j = 2 * st' j + 100 := by
        rw [show (2 : Int32) = 1 + 1 from rfl, Int32.add_mul, Int32.one_mul]; ac_rfl
      rw [e3]; rfl
  · rw [e1, e2, if_pos rfl, if_neg n10]
theorem r_pass {tr : Int32} (h6 : n ≤ 6) (ht : TH n nc kd ho pl st kd' ho' pl' st') : m_X2_pass kd n tr v1 = m_X3_pass n kd' tr v1 := by
  unfold m_X2_pass m_X3_pass
  rcases p_thing v1 h6 with ⟨j, hj, rfl, e1, e2⟩ | ⟨e1, e2⟩
  · rw [e1, e2, if_neg n10, if_pos rfl, nI_clamp (by omega), (ht j hj).1]
    by_cases q : kd' j = 2
    · rw [if_pos q, if_pos q, if_pos q]; rfl
    · rw [if_neg q, if_neg q, if_neg q]; rfl
  · rw [e1, e2, if_pos rfl, if_neg n10]
theorem r_as (h6 : n ≤ 6) (ht : TH n nc kd ho pl st kd' ho' pl' st') : m_X2_as kd n v1 v2 = m_X3_as n kd' v1 v2 := by
  unfold m_X2_as m_X3_as
  rcases p_thing v1 h6 with ⟨j, hj, rfl, e1, e2⟩ | ⟨e1, e2⟩
  · rw [e1, e2, if_neg n10, if_pos rfl, nI_clamp (by omega), (ht j hj).1]
    rcases p_what v2 with ⟨d, hd, e, a, b, c⟩ | ⟨a, c⟩
    · rw [if_neg a, if_pos b, if_neg c]
      by_cases q : kd' j < v2
      · rw [if_pos q, if_pos q]; rfl
      · rw [if_neg q, if_neg q]; rfl
    · rw [if_pos c]
      by_cases q : v2 < 0
      · rw [if_pos q]; rfl
      · rw [if_neg q, if_neg (a.resolve_left q)]; rfl
  · rw [e1, e2, if_pos rfl, if_neg n10]; rfl
end TWO
