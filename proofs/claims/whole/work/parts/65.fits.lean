/-! class and reference: what fits the readings -/
theorem areSo_0 {nt : Nat} {kd ho pl st : Nat → Int32} {ea : Int32} {rc rh : Nat → Int32} : ∀ k i, m_X3_areSo_L4 nt kd ho pl st ea rc rh k i 0 = 0 := by
  intro k
  induction k with
  | zero => exact fun i => rfl
  | succ k ih => intro i; rw [m_X3_areSo_L4_s, if_pos rfl]; exact ih (i + 1)
theorem p_areSoL {n nc nr : Nat} {kd ho pl st kd' ho' pl' st' rc rh rc' rh' : Nat → Int32} {ea : Int32} (h6 : n ≤ 6) (ht : TH n nc kd ho pl st kd' ho' pl' st') (hr : TRd nr rc rh rc' rh') : ∀ k i, i + k = nr → m_X2_readingsAreSo_L2 kd ho pl st n ea rc rh k i = m_X3_areSo_L4 n kd' ho' pl' st' ea rc' rh' k i 1 := by
  intro k
  induction k with
  | zero => exact fun i _ => rfl
  | succ k ih =>
    intro i hk
    obtain ⟨e1, e2⟩ := hr i (by omega)
    rw [m_X2_readingsAreSo_L2_s, m_X3_areSo_L4_s, if_neg n10, p_holder h6 ht, e1, e2]
    by_cases q : m_X3_holder n kd' ho' pl' st' ea (rc' i) = rh' i
    · rw [if_pos q, if_pos q]; exact ih (i + 1) (by omega)
    · rw [if_neg q, if_neg q, areSo_0]
theorem p_areSo {n nc nr : Nat} {kd ho pl st kd' ho' pl' st' rc rh rc' rh' : Nat → Int32} {ea : Int32} (h6 : n ≤ 6) (ht : TH n nc kd ho pl st kd' ho' pl' st') (hr : TRd nr rc rh rc' rh') : m_X2_readingsAreSo kd ho pl st n ea rc rh nr = m_X3_areSo n kd' ho' pl' st' ea nr rc' rh' := p_areSoL h6 ht hr nr 0 (Nat.zero_add _)
theorem TH_kd {n nc x d : Nat} {ho pl st ho' pl' st' w w' : Nat → Int32} (hd : d < 3) (ht : TH n nc w ho pl st w' ho' pl' st') : TH n nc (upd w x (nI d)) ho pl st (upd w' x (nI d)) ho' pl' st' := by
  intro i hi
  obtain ⟨t1, t2, t3, t4, t5, t6, t7, t8⟩ := ht i hi
  refine ⟨?_, t2, t3, t4, ?_, t6, t7, t8⟩
  · by_cases q : i = x
    · subst q; rw [pk_us, pk_us]
    · rw [pk_un q, pk_un q]; exact t1
  · by_cases q : i = x
    · subst q; rw [pk_us]; exact ⟨d, hd, rfl⟩
    · rw [pk_un q]; exact t5
theorem p_kindsL {n nc nr j : Nat} {ho pl st ho' pl' st' rc rh rc' rh' : Nat → Int32} {ea v1 : Int32} (h6 : n ≤ 6) (hr : TRd nr rc rh rc' rh') : ∀ k i u w w', i + k = 3 → TH n nc w ho pl st w' ho' pl' st' → (m_X2_valuesThatFit_kd_L11 ho pl st n ea rc rh nr v1 k i u w).1 = (m_X3_kinds_L22 n ho' pl' st' ea nr rc' rh' v1 k i u w').1 := by
  intro k
  induction k with
  | zero => exact fun i u w w' _ _ => rfl
  | succ k ih =>
    intro i u w w' hk ht
    rw [m_X2_valuesThatFit_kd_L11_s, m_X3_kinds_L22_s]
    have ht2 := TH_kd (x := v1.toNatClampNeg) (d := i) (by omega) ht
    rw [p_areSo h6 ht2 hr]
    by_cases q : m_X3_areSo n (upd w' v1.toNatClampNeg (nI i)) ho' pl' st' ea nr rc' rh' = 0
    · rw [if_pos q, if_pos q, or_z]; exact ih (i + 1) _ _ _ (by omega) ht2
    · rw [if_neg q, if_neg q]; exact ih (i + 1) _ _ _ (by omega) ht2
theorem r_kinds {n nc nr : Nat} {kd ho pl st kd' ho' pl' st' rc rh rc' rh' : Nat → Int32} {ea v1 : Int32} (h6 : n ≤ 6) (ht : TH n nc kd ho pl st kd' ho' pl' st') (hr : TRd nr rc rh rc' rh') : m_X2_kinds kd ho pl st n ea rc rh nr v1 = m_X3_kinds n kd' ho' pl' st' ea nr rc' rh' v1 := by
  unfold m_X2_kinds m_X3_kinds
  rcases p_thing v1 h6 with ⟨j, hj, e0, e1, e2⟩ | ⟨e1, e2⟩
  · rw [e1, e2, if_neg n10, if_pos rfl]
    exact p_kindsL (j := 0) h6 hr 3 0 0 kd kd' (Nat.zero_add _) ht
  · rw [e1, e2, if_pos rfl, if_neg n10]
theorem TH_pl {n nc x d : Nat} {kd ho st kd' ho' st' w w' : Nat → Int32} (hd : d < nc) (ht : TH n nc kd ho w st kd' ho' w' st') : TH n nc kd ho (upd w x (nI d)) st kd' ho' (upd w' x (nI d)) st' := by
  intro i hi
  obtain ⟨t1, t2, t3, t4, t5, t6, t7, t8⟩ := ht i hi
  refine ⟨t1, t2, ?_, t4, t5, t6, ?_, t8⟩
  · by_cases q : i = x
    · subst q; rw [pk_us, pk_us]
    · rw [pk_un q, pk_un q]; exact t3
  · by_cases q : i = x
    · subst q; rw [pk_us]; exact ⟨d, hd, rfl⟩
    · rw [pk_un q]; exact t7
theorem p_spotsL {n nc nr j : Nat} {kd ho st kd' ho' st' rc rh rc' rh' : Nat → Int32} {ea v1 : Int32} (h6 : n ≤ 6) (hr : TRd nr rc rh rc' rh') : ∀ k i u w w', i + k = nc → TH n nc kd ho w st kd' ho' w' st' → (m_X2_valuesThatFit_pl_L11 kd ho st n ea rc rh nr v1 k i u w).1 = (m_X3_spots_L22 n kd' ho' st' ea nr rc' rh' v1 k i u w').1 := by
  intro k
  induction k with
  | zero => exact fun i u w w' _ _ => rfl
  | succ k ih =>
    intro i u w w' hk ht
    rw [m_X2_valuesThatFit_pl_L11_s, m_X3_spots_L22_s]
    have ht2 := TH_pl (x := v1.toNatClampNeg) (d := i) (by omega) ht
    rw [p_areSo h6 ht2 hr]
    by_cases q : m_X3_areSo n kd' ho' (upd w' v1.toNatClampNeg (nI i)) st' ea nr rc' rh' = 0
    · rw [if_pos q, if_pos q, or_z]; exact ih (i + 1) _ _ _ (by omega) ht2
    · rw [if_neg q, if_neg q]; exact ih (i + 1) _ _ _ (by omega) ht2
theorem r_spots {n nc nr : Nat} {kd ho pl st kd' ho' pl' st' rc rh rc' rh' : Nat → Int32} {ea v1 : Int32} (h6 : n ≤ 6) (ht : TH n nc kd ho pl st kd' ho' pl' st') (hr : TRd nr rc rh rc' rh') : m_X2_spots kd ho pl st nc n ea rc rh nr v1 = m_X3_spots nc n kd' ho' pl' st' ea nr rc' rh' v1 := by
  unfold m_X2_spots m_X3_spots
  rcases p_thing v1 h6 with ⟨j, hj, e0, e1, e2⟩ | ⟨e1, e2⟩
  · rw [e1, e2, if_neg n10, if_pos rfl]
    exact p_spotsL (j := 0) h6 hr nc 0 0 pl pl' (Nat.zero_add _) ht
  · rw [e1, e2, if_pos rfl, if_neg n10]
theorem TH_st {n nc x d : Nat} {kd ho pl kd' ho' pl' w w' : Nat → Int32} (hd : d < 10) (ht : TH n nc kd ho pl w kd' ho' pl' w') : TH n nc kd ho pl (upd w x (nI d)) kd' ho' pl' (upd w' x (nI d)) := by
  intro i hi
  obtain ⟨t1, t2, t3, t4, t5, t6, t7, t8⟩ := ht i hi
  refine ⟨t1, t2, t3, ?_, t5, t6, t7, ?_⟩
  · by_cases q : i = x
    · subst q; rw [pk_us, pk_us]
    · rw [pk_un q, pk_un q]; exact t4
  · by_cases q : i = x
    · subst q; rw [pk_us]; exact ⟨d, hd, rfl⟩
    · rw [pk_un q]; exact t8
theorem p_strengthsL {n nc nr j : Nat} {kd ho pl kd' ho' pl' rc rh rc' rh' : Nat → Int32} {ea v1 : Int32} (h6 : n ≤ 6) (hr : TRd nr rc rh rc' rh') : ∀ k i u w w', i + k = 10 → TH n nc kd ho pl w kd' ho' pl' w' → (m_X2_valuesThatFit_st_L11 kd ho pl n ea rc rh nr v1 k i u w).1 = (m_X3_strengths_L22 n kd' ho' pl' ea nr rc' rh' v1 k i u w').1 := by
  intro k
  induction k with
  | zero => exact fun i u w w' _ _ => rfl
  | succ k ih =>
    intro i u w w' hk ht
    rw [m_X2_valuesThatFit_st_L11_s, m_X3_strengths_L22_s]
    have ht2 := TH_st (x := v1.toNatClampNeg) (d := i) (by omega) ht
    rw [p_areSo h6 ht2 hr]
    by_cases q : m_X3_areSo n kd' ho' pl' (upd w' v1.toNatClampNeg (nI i)) ea nr rc' rh' = 0
    · rw [if_pos q, if_pos q, or_z]; exact ih (i + 1) _ _ _ (by omega) ht2
    · rw [if_neg q, if_neg q]; exact ih (i + 1) _ _ _ (by omega) ht2
theorem r_strengths {n nc nr : Nat} {kd ho pl st kd' ho' pl' st' rc rh rc' rh' : Nat → Int32} {ea v1 : Int32} (h6 : n ≤ 6) (ht : TH n nc kd ho pl st kd' ho' pl' st') (hr : TRd nr rc rh rc' rh') : m_X2_strengths kd ho pl st n ea rc rh nr v1 = m_X3_strengths n kd' ho' pl' st' ea nr rc' rh' v1 := by
  unfold m_X2_strengths m_X3_strengths
  rcases p_thing v1 h6 with ⟨j, hj, e0, e1, e2⟩ | ⟨e1, e2⟩
  · rw [e1, e2, if_neg n10, if_pos rfl]
    exact p_strengthsL (j := 0) h6 hr 10 0 0 st st' (Nat.zero_add _) ht
  · rw [e1, e2, if_pos rfl, if_neg n10]
