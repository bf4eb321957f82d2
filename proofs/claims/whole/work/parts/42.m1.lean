def m_X3_in (v0 : Int64) (v2 : Int64) (v4 : Int64) : Int32 :=
  (if (lg_cmp v0 v2) < 0 then 0 else (if 0 < (lg_cmp v0 v4) then 0 else 1))
set_option maxHeartbeats 4000000 in
set_option maxRecDepth 100000 in
theorem c_X3_in (l : Launch) (D : va_G) (cI cS : ClassId)  (v0 : Int64) (v2 : Int64) (v4 : Int64)  : Met l yX3_in wsX3_in ({ frames := 0, cells := 0, slots := 0, locals := 0 }) (tw_R D cI cS [.long v0, .long v2, .long v4] []) (vp_Si (fun r => r = (m_X3_in v0 v2 v4))) 0 0 (fun _ => False) := by
  refine Met.ofW (cc := cX3_in) (maxL := 6) (ret := (some .boolean)) (by decide) rfl ?_
  intro p e s m args below meth c s₁ B hml hv
  obtain ⟨rfl, hP, hK⟩ := hv
  have hx := B.exec
  have hb := B.bytes
  have hr := B.returns
  have hts := atoms_spec (ws := wsX3_in) B.pre
  have hown : s.vm.findClass RX3 = some m.cls := findClass_of_methodNamed B.named
  have hlocks := B.notSynchronized
  have hl := lv_entry ([.long v0, .long v2, .long v4]) (n := 6) (Nat.le_of_ble_eq_true rfl)
  rw [lg_entry_eq]
  generalize (lg_sl ([.long v0, .long v2, .long v4]) ++ List.replicate (6 - (lg_sl ([.long v0, .long v2, .long v4])).length) Slot.unset).toArray = ls at hl ⊢
  have hl : lv_has ls 6 [(0, .long v0), (2, .long v2), (4, .long v4)] := hl
  refine lv_lload_n hx hb dX3_in_0 rfl (lv_at hl 0 rfl) ?_
  refine lv_lload_n hx hb dX3_in_1 rfl (lv_at hl 1 rfl) ?_
  refine W.lcmp hx hb dX3_in_2 ?_
  refine tw_join (fun (y : Int32) => F0 m 18 ls (.int y :: [])) (if (lg_cmp v0 v2) < 0 then 0 else (if 0 < (lg_cmp v0 v4) then 0 else 1)) ?_ (fun J18_0 => ?_)
  · intro y18 hy18
    exact W.zret (ty := .boolean) hx hb hr (by rw [hy18]; (repeat' split) <;> rfl) (fun t ht _ => ⟨_, rfl, (by (unfold m_X3_in; (try rw [← hy18])) <;> rfl), ht⟩) (fun _ h => nomatch h) dX3_in_18
  · refine lv_if_lt (tgt := 17) hx hb dX3_in_3 (by decide) (fun c_3 => ?_) (fun c_3 => ?_)
    · refine lv_iconst (v := 0) hx hb dX3_in_17 (by decide) ?_
      exact J18_0 _ (by (rw [if_pos c_3]) <;> rfl)
    · refine lv_lload_n hx hb dX3_in_6 rfl (lv_at hl 0 rfl) ?_
      refine lv_lload hx hb dX3_in_7 (lv_at hl 2 rfl) ?_
      refine W.lcmp hx hb dX3_in_9 ?_
      refine lv_if_gt (tgt := 17) hx hb dX3_in_10 (by decide) (fun c_10 => ?_) (fun c_10 => ?_)
      · refine lv_iconst (v := 0) hx hb dX3_in_17 (by decide) ?_
        exact J18_0 _ (by (rw [if_neg c_3]; rw [if_pos c_10]) <;> rfl)
      · refine lv_iconst (v := 1) hx hb dX3_in_13 (by decide) ?_
        refine lv_goto (tgt := 18) hx hb dX3_in_14 (by decide) ?_
        exact J18_0 _ (by (rw [if_neg c_3]; rw [if_neg c_10]) <;> rfl)

def m_X3_lost  : Int64 :=
  (-9223372036854775808)
set_option maxHeartbeats 4000000 in
set_option maxRecDepth 100000 in
theorem c_X3_lost (l : Launch) (D : va_G) (cI cS : ClassId)    : Met l yX3_lost wsX3_lost ({ frames := 0, cells := 0, slots := 0, locals := 0 }) (tw_R D cI cS [] []) (vp_Sl (fun r => r = m_X3_lost)) 0 0 (fun _ => False) := by
  refine Met.ofW (cc := cX3_lost) (maxL := 0) (ret := (some .long)) (by decide) rfl ?_
  intro p e s m args below meth c s₁ B hml hv
  obtain ⟨rfl, hP, hK⟩ := hv
  have hx := B.exec
  have hb := B.bytes
  have hr := B.returns
  have hts := atoms_spec (ws := wsX3_lost) B.pre
  have hown : s.vm.findClass RX3 = some m.cls := findClass_of_methodNamed B.named
  have hlocks := B.notSynchronized
  have kl_61 := hts (.constantLong RX3 61 (-9223372036854775808)) (by decide +kernel)
  have hl := lv_entry ([]) (n := 0) (Nat.le_of_ble_eq_true rfl)
  rw [lg_entry_eq]
  generalize (lg_sl ([]) ++ List.replicate (0 - (lg_sl ([])).length) Slot.unset).toArray = ls at hl ⊢
  have hl : lv_has ls 0 [] := hl
  refine lv_ldc2 (v := (-9223372036854775808)) hx hb hown kl_61 dX3_lost_0 ?_
  exact W.lret hx hb hr (fun t ht _ => ⟨_, rfl, (by (unfold m_X3_lost) <;> rfl), ht⟩) (fun _ h => nomatch h) dX3_lost_3

def m_X3_isIn (v0 : Int32) (v1 : Int32) : Int32 :=
  (if ((v0 >>> (v1 &&& 31)) &&& 1) = 1 then 1 else 0)
set_option maxHeartbeats 4000000 in
set_option maxRecDepth 100000 in
theorem c_X3_isIn (l : Launch) (D : va_G) (cI cS : ClassId)  (v0 : Int32) (v1 : Int32)  : Met l yX3_isIn wsX3_isIn ({ frames := 0, cells := 0, slots := 0, locals := 0 }) (tw_R D cI cS [.int v0, .int v1] []) (vp_Si (fun r => r = (m_X3_isIn v0 v1))) 0 0 (fun _ => False) := by
  refine Met.ofW (cc := cX3_isIn) (maxL := 2) (ret := (some .boolean)) (by decide) rfl ?_
  intro p e s m args below meth c s₁ B hml hv
  obtain ⟨rfl, hP, hK⟩ := hv
  have hx := B.exec
  have hb := B.bytes
  have hr := B.returns
  have hts := atoms_spec (ws := wsX3_isIn) B.pre
  have hown : s.vm.findClass RX3 = some m.cls := findClass_of_methodNamed B.named
  have hlocks := B.notSynchronized
  have hl := lv_entry ([.int v0, .int v1]) (n := 2) (Nat.le_of_ble_eq_true rfl)
  rw [lg_entry_eq]
  generalize (lg_sl ([.int v0, .int v1]) ++ List.replicate (2 - (lg_sl ([.int v0, .int v1])).length) Slot.unset).toArray = ls at hl ⊢
  have hl : lv_has ls 2 [(0, .int v0), (1, .int v1)] := hl
  refine lv_iload_n hx hb dX3_isIn_0 rfl (lv_at hl 0 rfl) ?_
  refine lv_iload_n hx hb dX3_isIn_1 rfl (lv_at hl 1 rfl) ?_
  refine lv_ishr hx hb dX3_isIn_2 ?_
  refine lv_iconst (v := 1) hx hb dX3_isIn_3 (by decide) ?_
  refine lv_iand hx hb dX3_isIn_4 ?_
  refine lv_iconst (v := 1) hx hb dX3_isIn_5 (by decide) ?_
  refine tw_join (fun (y : Int32) => F0 m 14 ls (.int y :: [])) (if ((v0 >>> (v1 &&& 31)) &&& 1) = 1 then 1 else 0) ?_ (fun J14_0 => ?_)
  · intro y14 hy14
    exact W.zret (ty := .boolean) hx hb hr (by rw [hy14]; (repeat' split) <;> rfl) (fun t ht _ => ⟨_, rfl, (by (unfold m_X3_isIn; (try rw [← hy14])) <;> rfl), ht⟩) (fun _ h => nomatch h) dX3_isIn_14
  · refine lv_icmp_ne (tgt := 13) hx hb dX3_isIn_6 (by decide) (fun c_6 => ?_) (fun c_6 => ?_)
    · refine lv_iconst (v := 0) hx hb dX3_isIn_13 (by decide) ?_
      exact J14_0 _ (by (rw [if_neg c_6]) <;> rfl)
    · refine lv_iconst (v := 1) hx hb dX3_isIn_9 (by decide) ?_
      refine lv_goto (tgt := 14) hx hb dX3_isIn_10 (by decide) ?_
      exact J14_0 _ (by (rw [if_pos c_6]) <;> rfl)

def m_X3_isBeyond (v0 : Int32) (v1 : Int64) (v3 : Int32) : Int32 :=
  (if v0 < 0 then 1 else (if (lg_cmp v1 0) < 0 then 1 else (if (lg_cmp (v0.toInt64 + v1) v3.toInt64) ≤ 0 then 0 else 1)))
set_option maxHeartbeats 4000000 in
set_option maxRecDepth 100000 in
theorem c_X3_isBeyond (l : Launch) (D : va_G) (cI cS : ClassId)  (v0 : Int32) (v1 : Int64) (v3 : Int32)  : Met l yX3_isBeyond wsX3_isBeyond ({ frames := 0, cells := 0, slots := 0, locals := 0 }) (tw_R D cI cS [.int v0, .long v1, .int v3] []) (vp_Si (fun r => r = (m_X3_isBeyond v0 v1 v3))) 0 0 (fun _ => False) := by
  refine Met.ofW (cc := cX3_isBeyond) (maxL := 4) (ret := (some .boolean)) (by decide) rfl ?_
  intro p e s m args below meth c s₁ B hml hv
  obtain ⟨rfl, hP, hK⟩ := hv
  have hx := B.exec
  have hb := B.bytes
  have hr := B.returns
  have hts := atoms_spec (ws := wsX3_isBeyond) B.pre
  have hown : s.vm.findClass RX3 = some m.cls := findClass_of_methodNamed B.named
  have hlocks := B.notSynchronized
  have hl := lv_entry ([.int v0, .long v1, .int v3]) (n := 4) (Nat.le_of_ble_eq_true rfl)
  rw [lg_entry_eq]
  generalize (lg_sl ([.int v0, .long v1, .int v3]) ++ List.replicate (4 - (lg_sl ([.int v0, .long v1, .int v3])).length) Slot.unset).toArray = ls at hl ⊢
  have hl : lv_has ls 4 [(0, .int v0), (1, .long v1), (3, .int v3)] := hl
  refine lv_iload_n hx hb dX3_isBeyond_0 rfl (lv_at hl 0 rfl) ?_
  refine tw_join (fun (y : Int32) => F0 m 25 ls (.int y :: [])) (if v0 < 0 then 1 else (if (lg_cmp v1 0) < 0 then 1 else (if (lg_cmp (v0.toInt64 + v1) v3.toInt64) ≤ 0 then 0 else 1))) ?_ (fun J25_0 => ?_)
  · intro y25 hy25
    exact W.zret (ty := .boolean) hx hb hr (by rw [hy25]; (repeat' split) <;> rfl) (fun t ht _ => ⟨_, rfl, (by (unfold m_X3_isBeyond; (try rw [← hy25])) <;> rfl), ht⟩) (fun _ h => nomatch h) dX3_isBeyond_25
  · refine lv_if_lt (tgt := 20) hx hb dX3_isBeyond_1 (by decide) (fun c_1 => ?_) (fun c_1 => ?_)
    · refine lv_iconst (v := 1) hx hb dX3_isBeyond_20 (by decide) ?_
      refine lv_goto (tgt := 25) hx hb dX3_isBeyond_21 (by decide) ?_
      exact J25_0 _ (by (rw [if_pos c_1]) <;> rfl)
    · refine lv_lload_n hx hb dX3_isBeyond_4 rfl (lv_at hl 1 rfl) ?_
      refine lv_lconst (v := 0) hx hb dX3_isBeyond_5 (by decide) ?_
      refine W.lcmp hx hb dX3_isBeyond_6 ?_
      refine lv_if_lt (tgt := 20) hx hb dX3_isBeyond_7 (by decide) (fun c_7 => ?_) (fun c_7 => ?_)
      · refine lv_iconst (v := 1) hx hb dX3_isBeyond_20 (by decide) ?_
        refine lv_goto (tgt := 25) hx hb dX3_isBeyond_21 (by decide) ?_
        exact J25_0 _ (by (rw [if_neg c_1]; rw [if_pos c_7]) <;> rfl)
      · refine lv_iload_n hx hb dX3_isBeyond_10 rfl (lv_at hl 0 rfl) ?_
        refine lv_i2l (v := v0.toInt64) hx hb dX3_isBeyond_11 rfl ?_
        refine lv_lload_n hx hb dX3_isBeyond_12 rfl (lv_at hl 1 rfl) ?_
        refine lv_ladd hx hb dX3_isBeyond_13 ?_
        refine lv_iload_n hx hb dX3_isBeyond_14 rfl (lv_at hl 2 rfl) ?_
        refine lv_i2l (v := v3.toInt64) hx hb dX3_isBeyond_15 rfl ?_
        refine W.lcmp hx hb dX3_isBeyond_16 ?_
        refine lv_if_le (tgt := 24) hx hb dX3_isBeyond_17 (by decide) (fun c_17 => ?_) (fun c_17 => ?_)
        · refine lv_iconst (v := 0) hx hb dX3_isBeyond_24 (by decide) ?_
          exact J25_0 _ (by (rw [if_neg c_1]; rw [if_neg c_7]; rw [if_pos c_17]) <;> rfl)
        · refine lv_iconst (v := 1) hx hb dX3_isBeyond_20 (by decide) ?_
          refine lv_goto (tgt := 25) hx hb dX3_isBeyond_21 (by decide) ?_
          exact J25_0 _ (by (rw [if_neg c_1]; rw [if_neg c_7]; rw [if_neg c_17]) <;> rfl)

def m_X3_bits_L4  : Nat → Int32 → Int32 → Int32
  | 0, u2_4, u1_4 =>
    0
  | k4 + 1, u2_4, u1_4 =>
    if u2_4 ≤ 0 then
      u1_4
    else
      m_X3_bits_L4 k4 (u2_4 >>> (1 &&& 31)) (u1_4 + (u2_4 &&& 1))
theorem m_X3_bits_L4_0 (u2_4 : Int32) (u1_4 : Int32) : m_X3_bits_L4 0 u2_4 u1_4 = 
    0 := rfl
theorem m_X3_bits_L4_s (u2_4 : Int32) (u1_4 : Int32) (k4 : Nat) : m_X3_bits_L4 (k4 + 1) u2_4 u1_4 = 
    if u2_4 ≤ 0 then
      u1_4
    else
      m_X3_bits_L4 k4 (u2_4 >>> (1 &&& 31)) (u1_4 + (u2_4 &&& 1)) := rfl
def m_X3_bits (v0 : Int32) : Int32 :=
  m_X3_bits_L4 32 v0 0
set_option maxHeartbeats 4000000 in
set_option maxRecDepth 100000 in
theorem c_X3_bits (l : Launch) (D : va_G) (cI cS : ClassId)  (v0 : Int32)  : Met l yX3_bits wsX3_bits ({ frames := 0, cells := 0, slots := 0, locals := 0 }) (tw_R D cI cS [.int v0] []) (vp_Si (fun r => r = (m_X3_bits v0))) 0 0 (fun _ => False) := by
  refine Met.ofW (cc := cX3_bits) (maxL := 3) (ret := (some .int)) (by decide) rfl ?_
  intro p e s m args below meth c s₁ B hml hv
  obtain ⟨rfl, hP, hK⟩ := hv
  have hx := B.exec
  have hb := B.bytes
  have hr := B.returns
  have hts := atoms_spec (ws := wsX3_bits) B.pre
  have hown : s.vm.findClass RX3 = some m.cls := findClass_of_methodNamed B.named
  have hlocks := B.notSynchronized
  have hl := lv_entry ([.int v0]) (n := 3) (Nat.le_of_ble_eq_true rfl)
  rw [lg_entry_eq]
  generalize (lg_sl ([.int v0]) ++ List.replicate (3 - (lg_sl ([.int v0])).length) Slot.unset).toArray = ls at hl ⊢
  have hl : lv_has ls 3 [(0, .int v0)] := hl
  refine lv_iconst (v := 0) hx hb dX3_bits_0 (by decide) ?_
  refine lv_istore_n (lv' := [(1, .int 0), (0, .int v0)]) hx hb dX3_bits_1 rfl hl (by decide) rfl (fun ls hl => ?_)
  refine lv_iload_n hx hb dX3_bits_2 rfl (lv_at hl 1 rfl) ?_
  refine lv_istore_n (lv' := [(2, .int v0), (1, .int 0), (0, .int v0)]) hx hb dX3_bits_3 rfl hl (by decide) rfl (fun ls hl => ?_)
  refine tw_loopR (σ := Int32 × Int32) (fun k i z ls => 1 ≤ k ∧ z.1.toInt < 2 ^ (k - 1) ∧ (m_X3_bits v0) = m_X3_bits_L4 k z.1 z.2 ∧ lv_has ls 3 [(2, .int z.1), (1, .int z.2), (0, .int v0)]) 32 0 (v0, 0) ⟨(show 1 ≤ 32 from (by decide)), (show v0.toInt < 2 ^ (32 - 1) from (Int32.toInt_lt _)), (by (unfold m_X3_bits) <;> rfl), lv_sub hl [0, 1, 2] rfl⟩ ?_ ?_
  · intro i4 z ls hI
    obtain ⟨u2_4, u1_4⟩ := z
    obtain ⟨hk1, hl2, hm4, hl⟩ := hI
    have hm4 : (m_X3_bits v0) = m_X3_bits_L4 0 u2_4 u1_4 := hm4
    have hk1 : 1 ≤ 0 := hk1
    have hl2 : u2_4.toInt < 2 ^ (0 - 1) := hl2
    have hl : lv_has ls 3 [(2, .int u2_4), (1, .int u1_4), (0, .int v0)] := hl
    exact absurd hk1 (by decide)
  · intro k4 i4 z ls ih4 hI
    obtain ⟨u2_4, u1_4⟩ := z
    obtain ⟨hk1, hl2, hm4, hl⟩ := hI
    have hm4 : (m_X3_bits v0) = m_X3_bits_L4 (k4 + 1) u2_4 u1_4 := hm4
    have hk1 : 1 ≤ (k4 + 1) := hk1
    have hl2 : u2_4.toInt < 2 ^ ((k4 + 1) - 1) := hl2
    have hl : lv_has ls 3 [(2, .int u2_4), (1, .int u1_4), (0, .int v0)] := hl
    refine lv_iload_n hx hb dX3_bits_4 rfl (lv_at hl 0 rfl) ?_
    refine lv_if_le (tgt := 21) hx hb dX3_bits_5 (by decide) (fun c_5 => ?_) (fun c_5 => ?_)
    · refine lv_iload_n hx hb dX3_bits_21 rfl (lv_at hl 1 rfl) ?_
      exact W.iret hx hb hr (fun t ht _ => ⟨_, rfl, (by (rw [hm4, m_X3_bits_L4_s]; rw [if_pos c_5]) <;> rfl), ht⟩) (fun _ h => nomatch h) dX3_bits_22
    · refine lv_iload_n hx hb dX3_bits_8 rfl (lv_at hl 1 rfl) ?_
      refine lv_iload_n hx hb dX3_bits_9 rfl (lv_at hl 0 rfl) ?_
      refine lv_iconst (v := 1) hx hb dX3_bits_10 (by decide) ?_
      refine lv_iand hx hb dX3_bits_11 ?_
      refine lv_iadd hx hb dX3_bits_12 ?_
      refine lv_istore_n (lv' := [(1, .int (u1_4 + (u2_4 &&& 1))), (2, .int u2_4), (0, .int v0)]) hx hb dX3_bits_13 rfl hl (by decide) rfl (fun ls hl => ?_)
      refine lv_iload_n hx hb dX3_bits_14 rfl (lv_at hl 1 rfl) ?_
      refine lv_iconst (v := 1) hx hb dX3_bits_15 (by decide) ?_
      refine lv_ishr hx hb dX3_bits_16 ?_
      refine lv_istore_n (lv' := [(2, .int (u2_4 >>> (1 &&& 31))), (1, .int (u1_4 + (u2_4 &&& 1))), (0, .int v0)]) hx hb dX3_bits_17 rfl hl (by decide) rfl (fun ls hl => ?_)
      refine lv_goto (tgt := 4) hx hb dX3_bits_18 (by decide) ?_
      exact ih4 (u2_4 >>> (1 &&& 31), u1_4 + (u2_4 &&& 1)) ls ⟨(show 1 ≤ k4 from (bits_k hl2 c_5)), (show (u2_4 >>> (1 &&& 31)).toInt < 2 ^ (k4 - 1) from (bits_s hl2 c_5)), (by (rw [hm4, m_X3_bits_L4_s]; rw [if_neg c_5]) <;> rfl), lv_sub hl [0, 1, 2] rfl⟩

def m_X3_noHouse (v0 : Int32) : Int32 :=
  (if (m_X3_in v0.toInt64 0 1) = 0 then 1 else 0)
set_option maxHeartbeats 4000000 in
set_option maxRecDepth 100000 in
theorem c_X3_noHouse (l : Launch) (D : va_G) (cI cS : ClassId)  (v0 : Int32)  : Met l yX3_noHouse wsX3_noHouse ({ frames := 1, cells := 0, slots := 0, locals := 25 }) (tw_R D cI cS [.int v0] []) (vp_Si (fun r => r = (m_X3_noHouse v0))) 0 0 (fun _ => False) := by
  refine Met.ofW (cc := cX3_noHouse) (maxL := 1) (ret := (some .boolean)) (by decide) rfl ?_
  intro p e s m args below meth c s₁ B hml hv
  obtain ⟨rfl, hP, hK⟩ := hv
  have hx := B.exec
  have hb := B.bytes
  have hr := B.returns
  have hts := atoms_spec (ws := wsX3_noHouse) B.pre
  have hown : s.vm.findClass RX3 = some m.cls := findClass_of_methodNamed B.named
  have hlocks := B.notSynchronized
  have hl := lv_entry ([.int v0]) (n := 1) (Nat.le_of_ble_eq_true rfl)
  rw [lg_entry_eq]
  generalize (lg_sl ([.int v0]) ++ List.replicate (1 - (lg_sl ([.int v0])).length) Slot.unset).toArray = ls at hl ⊢
  have hl : lv_has ls 1 [(0, .int v0)] := hl
  refine lv_iload_n hx hb dX3_noHouse_0 rfl (lv_at hl 0 rfl) ?_
  refine lv_i2l (v := v0.toInt64) hx hb dX3_noHouse_1 rfl ?_
  refine lv_lconst (v := 0) hx hb dX3_noHouse_2 (by decide) ?_
  refine lv_lconst (v := 1) hx hb dX3_noHouse_3 (by decide) ?_
  refine tw_cs (va_runS (As := [.long v0.toInt64, .long 0, .long 1]) (rest := []) ⟨hx, hb, hml, hown, hts⟩ (c_X3_in l D cI cS v0.toInt64 0 1) (va_cwS 3 hts gX3_noHouse_X3_in rfl rfl rfl (by decide +kernel) ⟨Nat.le_of_ble_eq_true rfl, Nat.le_of_ble_eq_true rfl⟩) ⟨tw_Rb, tw_Rp (hP.sub (ws' := []) [] rfl) hK⟩ rfl rfl hl.1 rfl (lv_room (Nat.le_of_ble_eq_true rfl)) dX3_noHouse_4 ⟨Nat.zero_le _, Nat.zero_le _⟩) ?_
  refine tw_join (fun (y : Int32) => F0 m 15 ls (.int y :: [])) (if (m_X3_in v0.toInt64 0 1) = 0 then 1 else 0) ?_ (fun J15_0 => ?_)
  · intro y15 hy15
    exact W.zret (ty := .boolean) hx hb hr (by rw [hy15]; (repeat' split) <;> rfl) (fun t ht _ => ⟨_, rfl, (by (unfold m_X3_noHouse; (try rw [← hy15])) <;> rfl), ht⟩) (fun _ h => nomatch h) dX3_noHouse_15
  · refine lv_if_ne (tgt := 14) hx hb dX3_noHouse_7 (by decide) (fun c_7 => ?_) (fun c_7 => ?_)
    · refine lv_iconst (v := 0) hx hb dX3_noHouse_14 (by decide) ?_
      exact J15_0 _ (by (rw [if_neg c_7]) <;> rfl)
    · refine lv_iconst (v := 1) hx hb dX3_noHouse_10 (by decide) ?_
      refine lv_goto (tgt := 15) hx hb dX3_noHouse_11 (by decide) ?_
      exact J15_0 _ (by (rw [if_pos c_7]) <;> rfl)

def m_X3_noSheet (v0 : Int32) : Int32 :=
  (if (m_X3_in v0.toInt64 0 3) = 0 then 1 else 0)
set_option maxHeartbeats 4000000 in
set_option maxRecDepth 100000 in
theorem c_X3_noSheet (l : Launch) (D : va_G) (cI cS : ClassId)  (v0 : Int32)  : Met l yX3_noSheet wsX3_noSheet ({ frames := 1, cells := 0, slots := 0, locals := 25 }) (tw_R D cI cS [.int v0] []) (vp_Si (fun r => r = (m_X3_noSheet v0))) 0 0 (fun _ => False) := by
  refine Met.ofW (cc := cX3_noSheet) (maxL := 1) (ret := (some .boolean)) (by decide) rfl ?_
  intro p e s m args below meth c s₁ B hml hv
  obtain ⟨rfl, hP, hK⟩ := hv
  have hx := B.exec
  have hb := B.bytes
  have hr := B.returns
  have hts := atoms_spec (ws := wsX3_noSheet) B.pre
  have hown : s.vm.findClass RX3 = some m.cls := findClass_of_methodNamed B.named
  have hlocks := B.notSynchronized
  have kl_174 := hts (.constantLong RX3 174 (3)) (by decide +kernel)
  have hl := lv_entry ([.int v0]) (n := 1) (Nat.le_of_ble_eq_true rfl)
  rw [lg_entry_eq]
  generalize (lg_sl ([.int v0]) ++ List.replicate (1 - (lg_sl ([.int v0])).length) Slot.unset).toArray = ls at hl ⊢
  have hl : lv_has ls 1 [(0, .int v0)] := hl
  refine lv_iload_n hx hb dX3_noSheet_0 rfl (lv_at hl 0 rfl) ?_
  refine lv_i2l (v := v0.toInt64) hx hb dX3_noSheet_1 rfl ?_
  refine lv_lconst (v := 0) hx hb dX3_noSheet_2 (by decide) ?_
  refine lv_ldc2 (v := 3) hx hb hown kl_174 dX3_noSheet_3 ?_
  refine tw_cs (va_runS (As := [.long v0.toInt64, .long 0, .long 3]) (rest := []) ⟨hx, hb, hml, hown, hts⟩ (c_X3_in l D cI cS v0.toInt64 0 3) (va_cwS 3 hts gX3_noSheet_X3_in rfl rfl rfl (by decide +kernel) ⟨Nat.le_of_ble_eq_true rfl, Nat.le_of_ble_eq_true rfl⟩) ⟨tw_Rb, tw_Rp (hP.sub (ws' := []) [] rfl) hK⟩ rfl rfl hl.1 rfl (lv_room (Nat.le_of_ble_eq_true rfl)) dX3_noSheet_6 ⟨Nat.zero_le _, Nat.zero_le _⟩) ?_
  refine tw_join (fun (y : Int32) => F0 m 17 ls (.int y :: [])) (if (m_X3_in v0.toInt64 0 3) = 0 then 1 else 0) ?_ (fun J17_0 => ?_)
  · intro y17 hy17
    exact W.zret (ty := .boolean) hx hb hr (by rw [hy17]; (repeat' split) <;> rfl) (fun t ht _ => ⟨_, rfl, (by (unfold m_X3_noSheet; (try rw [← hy17])) <;> rfl), ht⟩) (fun _ h => nomatch h) dX3_noSheet_17
  · refine lv_if_ne (tgt := 16) hx hb dX3_noSheet_9 (by decide) (fun c_9 => ?_) (fun c_9 => ?_)
    · refine lv_iconst (v := 0) hx hb dX3_noSheet_16 (by decide) ?_
      exact J17_0 _ (by (rw [if_neg c_9]) <;> rfl)
    · refine lv_iconst (v := 1) hx hb dX3_noSheet_12 (by decide) ?_
      refine lv_goto (tgt := 17) hx hb dX3_noSheet_13 (by decide) ?_
      exact J17_0 _ (by (rw [if_pos c_9]) <;> rfl)

def m_X3_noSquare (nc : Nat) (v1 : Int32) : Int32 :=
  (if (m_X3_in v1.toInt64 0 (((nI nc).toInt64) - 1)) = 0 then 1 else 0)
set_option maxHeartbeats 4000000 in
set_option maxRecDepth 100000 in
theorem c_X3_noSquare (l : Launch) (D : va_G) (cI cS : ClassId) (q : Nat → Nat) (fa : Int32) (nc : Nat) (nt : Nat) (ea : Int32) (ra : Nat) (rs : Nat) (rt : Nat) (nr : Nat) (tr : Int32) (v1 : Int32)  : Met l yX3_noSquare wsX3_noSquare ({ frames := 1, cells := 0, slots := 0, locals := 25 }) (tw_R D cI cS [.ref (q 0), .int v1] [((q 0), .inr (3, [.int fa, .int (nI nc), .ref (q 1), .int (nI nt), .ref (q 2), .ref (q 3), .ref (q 4), .ref (q 5), .int ea, .int (nI ra), .int (nI rs), .int (nI rt), .ref (q 6), .ref (q 7), .ref (q 8), .ref (q 9), .ref (q 10), .ref (q 11), .int (nI nr), .ref (q 12), .ref (q 13), .ref (q 14), .ref (q 15), .ref (q 16), .ref (q 17), .int tr]))]) (vp_Si (fun r => r = (m_X3_noSquare nc v1))) 0 0 (fun _ => False) := by
  refine Met.ofW (cc := cX3_noSquare) (maxL := 2) (ret := (some .boolean)) (by decide) rfl ?_
  intro p e s m args below meth c s₁ B hml hv
  obtain ⟨rfl, hP, hK⟩ := hv
  have hx := B.exec
  have hb := B.bytes
  have hr := B.returns
  have hts := atoms_spec (ws := wsX3_noSquare) B.pre
  have hown : s.vm.findClass RX3 = some m.cls := findClass_of_methodNamed B.named
  have hlocks := B.notSynchronized
  have fl_75 := hts (.fieldLink RX3 75 "TableWarModel" "squares" "I") (by decide +kernel)
  have hin_X3 := (show ∀ w ∈ u_ws RX3 TX3 26, w ∈ wsX3_noSquare from by decide +kernel)
  have hl := lv_entry ([.ref (q 0), .int v1]) (n := 2) (Nat.le_of_ble_eq_true rfl)
  rw [lg_entry_eq]
  generalize (lg_sl ([.ref (q 0), .int v1]) ++ List.replicate (2 - (lg_sl ([.ref (q 0), .int v1])).length) Slot.unset).toArray = ls at hl ⊢
  have hl : lv_has ls 2 [(0, .ref (q 0)), (1, .int v1)] := hl
  refine lv_iload_n hx hb dX3_noSquare_0 rfl (lv_at hl 1 rfl) ?_
  refine lv_i2l (v := v1.toInt64) hx hb dX3_noSquare_1 rfl ?_
  refine lv_lconst (v := 0) hx hb dX3_noSquare_2 (by decide) ?_
  refine lv_aload_n hx hb dX3_noSquare_3 rfl (lv_at hl 0 rfl) ?_
  refine va_get (ci := 3) (v := .int (nI nc)) (C := RX3) (T := TX3) (N := 26) hx hb hts hin_X3 hown hK hP 0 rfl rfl 1 (by decide) fl_75 (fun _ h9 => h9) rfl dX3_noSquare_4 ?_
  refine lv_i2l (v := (nI nc).toInt64) hx hb dX3_noSquare_7 rfl ?_
  refine lv_lconst (v := 1) hx hb dX3_noSquare_8 (by decide) ?_
  refine lv_lsub hx hb dX3_noSquare_9 ?_
  refine tw_cs (va_runS (As := [.long v1.toInt64, .long 0, .long (((nI nc).toInt64) - 1)]) (rest := []) ⟨hx, hb, hml, hown, hts⟩ (c_X3_in l D cI cS v1.toInt64 0 (((nI nc).toInt64) - 1)) (va_cwS 3 hts gX3_noSquare_X3_in rfl rfl rfl (by decide +kernel) ⟨Nat.le_of_ble_eq_true rfl, Nat.le_of_ble_eq_true rfl⟩) ⟨tw_Rb, tw_Rp (hP.sub (ws' := []) [] rfl) hK⟩ rfl rfl hl.1 rfl (lv_room (Nat.le_of_ble_eq_true rfl)) dX3_noSquare_10 ⟨Nat.zero_le _, Nat.zero_le _⟩) ?_
  refine tw_join (fun (y : Int32) => F0 m 21 ls (.int y :: [])) (if (m_X3_in v1.toInt64 0 (((nI nc).toInt64) - 1)) = 0 then 1 else 0) ?_ (fun J21_0 => ?_)
  · intro y21 hy21
    exact W.zret (ty := .boolean) hx hb hr (by rw [hy21]; (repeat' split) <;> rfl) (fun t ht _ => ⟨_, rfl, (by (unfold m_X3_noSquare; (try rw [← hy21])) <;> rfl), ht⟩) (fun _ h => nomatch h) dX3_noSquare_21
  · refine lv_if_ne (tgt := 20) hx hb dX3_noSquare_13 (by decide) (fun c_13 => ?_) (fun c_13 => ?_)
    · refine lv_iconst (v := 0) hx hb dX3_noSquare_20 (by decide) ?_
      exact J21_0 _ (by (rw [if_neg c_13]) <;> rfl)
    · refine lv_iconst (v := 1) hx hb dX3_noSquare_16 (by decide) ?_
      refine lv_goto (tgt := 21) hx hb dX3_noSquare_17 (by decide) ?_
      exact J21_0 _ (by (rw [if_pos c_13]) <;> rfl)

def m_X3_noThing (nt : Nat) (v1 : Int32) : Int32 :=
  (if (m_X3_in v1.toInt64 0 (((nI nt).toInt64) - 1)) = 0 then 1 else 0)
set_option maxHeartbeats 4000000 in
set_option maxRecDepth 100000 in
theorem c_X3_noThing (l : Launch) (D : va_G) (cI cS : ClassId) (q : Nat → Nat) (fa : Int32) (nc : Nat) (nt : Nat) (ea : Int32) (ra : Nat) (rs : Nat) (rt : Nat) (nr : Nat) (tr : Int32) (v1 : Int32)  : Met l yX3_noThing wsX3_noThing ({ frames := 1, cells := 0, slots := 0, locals := 25 }) (tw_R D cI cS [.ref (q 0), .int v1] [((q 0), .inr (3, [.int fa, .int (nI nc), .ref (q 1), .int (nI nt), .ref (q 2), .ref (q 3), .ref (q 4), .ref (q 5), .int ea, .int (nI ra), .int (nI rs), .int (nI rt), .ref (q 6), .ref (q 7), .ref (q 8), .ref (q 9), .ref (q 10), .ref (q 11), .int (nI nr), .ref (q 12), .ref (q 13), .ref (q 14), .ref (q 15), .ref (q 16), .ref (q 17), .int tr]))]) (vp_Si (fun r => r = (m_X3_noThing nt v1))) 0 0 (fun _ => False) := by
  refine Met.ofW (cc := cX3_noThing) (maxL := 2) (ret := (some .boolean)) (by decide) rfl ?_
  intro p e s m args below meth c s₁ B hml hv
  obtain ⟨rfl, hP, hK⟩ := hv
  have hx := B.exec
  have hb := B.bytes
  have hr := B.returns
  have hts := atoms_spec (ws := wsX3_noThing) B.pre
  have hown : s.vm.findClass RX3 = some m.cls := findClass_of_methodNamed B.named
  have hlocks := B.notSynchronized
  have fl_78 := hts (.fieldLink RX3 78 "TableWarModel" "things" "I") (by decide +kernel)
  have hin_X3 := (show ∀ w ∈ u_ws RX3 TX3 26, w ∈ wsX3_noThing from by decide +kernel)
  have hl := lv_entry ([.ref (q 0), .int v1]) (n := 2) (Nat.le_of_ble_eq_true rfl)
  rw [lg_entry_eq]
  generalize (lg_sl ([.ref (q 0), .int v1]) ++ List.replicate (2 - (lg_sl ([.ref (q 0), .int v1])).length) Slot.unset).toArray = ls at hl ⊢
  have hl : lv_has ls 2 [(0, .ref (q 0)), (1, .int v1)] := hl
  refine lv_iload_n hx hb dX3_noThing_0 rfl (lv_at hl 1 rfl) ?_
  refine lv_i2l (v := v1.toInt64) hx hb dX3_noThing_1 rfl ?_
  refine lv_lconst (v := 0) hx hb dX3_noThing_2 (by decide) ?_
  refine lv_aload_n hx hb dX3_noThing_3 rfl (lv_at hl 0 rfl) ?_
  refine va_get (ci := 3) (v := .int (nI nt)) (C := RX3) (T := TX3) (N := 26) hx hb hts hin_X3 hown hK hP 0 rfl rfl 3 (by decide) fl_78 (fun _ h9 => h9) rfl dX3_noThing_4 ?_
  refine lv_i2l (v := (nI nt).toInt64) hx hb dX3_noThing_7 rfl ?_
  refine lv_lconst (v := 1) hx hb dX3_noThing_8 (by decide) ?_
  refine lv_lsub hx hb dX3_noThing_9 ?_
  refine tw_cs (va_runS (As := [.long v1.toInt64, .long 0, .long (((nI nt).toInt64) - 1)]) (rest := []) ⟨hx, hb, hml, hown, hts⟩ (c_X3_in l D cI cS v1.toInt64 0 (((nI nt).toInt64) - 1)) (va_cwS 3 hts gX3_noThing_X3_in rfl rfl rfl (by decide +kernel) ⟨Nat.le_of_ble_eq_true rfl, Nat.le_of_ble_eq_true rfl⟩) ⟨tw_Rb, tw_Rp (hP.sub (ws' := []) [] rfl) hK⟩ rfl rfl hl.1 rfl (lv_room (Nat.le_of_ble_eq_true rfl)) dX3_noThing_10 ⟨Nat.zero_le _, Nat.zero_le _⟩) ?_
  refine tw_join (fun (y : Int32) => F0 m 21 ls (.int y :: [])) (if (m_X3_in v1.toInt64 0 (((nI nt).toInt64) - 1)) = 0 then 1 else 0) ?_ (fun J21_0 => ?_)
  · intro y21 hy21
    exact W.zret (ty := .boolean) hx hb hr (by rw [hy21]; (repeat' split) <;> rfl) (fun t ht _ => ⟨_, rfl, (by (unfold m_X3_noThing; (try rw [← hy21])) <;> rfl), ht⟩) (fun _ h => nomatch h) dX3_noThing_21
  · refine lv_if_ne (tgt := 20) hx hb dX3_noThing_13 (by decide) (fun c_13 => ?_) (fun c_13 => ?_)
    · refine lv_iconst (v := 0) hx hb dX3_noThing_20 (by decide) ?_
      exact J21_0 _ (by (rw [if_neg c_13]) <;> rfl)
    · refine lv_iconst (v := 1) hx hb dX3_noThing_16 (by decide) ?_
      refine lv_goto (tgt := 21) hx hb dX3_noThing_17 (by decide) ?_
      exact J21_0 _ (by (rw [if_pos c_13]) <;> rfl)

def m_X3_refused (v1 : Int32) : Int32 × Int32 :=
  (v1, 0)
set_option maxHeartbeats 4000000 in
set_option maxRecDepth 100000 in
theorem c_X3_refused (l : Launch) (D : va_G) (cI cS : ClassId) (q : Nat → Nat) (hz : Nat) (fa : Int32) (nc : Nat) (nt : Nat) (ea : Int32) (ra : Nat) (rs : Nat) (rt : Nat) (nr : Nat) (tr : Int32) (v1 : Int32)  : Met l yX3_refused wsX3_refused ({ frames := 0, cells := 0, slots := 0, locals := 0 }) (tw_W D cI cS [.ref (q 0), .int v1] hz [((q 0), .inr (3, [.int fa, .int (nI nc), .ref (q 1), .int (nI nt), .ref (q 2), .ref (q 3), .ref (q 4), .ref (q 5), .int ea, .int (nI ra), .int (nI rs), .int (nI rt), .ref (q 6), .ref (q 7), .ref (q 8), .ref (q 9), .ref (q 10), .ref (q 11), .int (nI nr), .ref (q 12), .ref (q 13), .ref (q 14), .ref (q 15), .ref (q 16), .ref (q 17), .int tr]))]) (va_Qi (fun r (_ : Unit) => r = (m_X3_refused v1).1) (tw_B D cI cS (va_A [((q 0), .inr (3, [.int fa, .int (nI nc), .ref (q 1), .int (nI nt), .ref (q 2), .ref (q 3), .ref (q 4), .ref (q 5), .int ea, .int (nI ra), .int (nI rs), .int (nI rt), .ref (q 6), .ref (q 7), .ref (q 8), .ref (q 9), .ref (q 10), .ref (q 11), .int (nI nr), .ref (q 12), .ref (q 13), .ref (q 14), .ref (q 15), .ref (q 16), .ref (q 17), .int tr]))] hz) [((q 0), .inr (3, [.int ((m_X3_refused v1).2), .int (nI nc), .ref (q 1), .int (nI nt), .ref (q 2), .ref (q 3), .ref (q 4), .ref (q 5), .int ea, .int (nI ra), .int (nI rs), .int (nI rt), .ref (q 6), .ref (q 7), .ref (q 8), .ref (q 9), .ref (q 10), .ref (q 11), .int (nI nr), .ref (q 12), .ref (q 13), .ref (q 14), .ref (q 15), .ref (q 16), .ref (q 17), .int tr]))]) (va_A [((q 0), .inr (3, [.int fa, .int (nI nc), .ref (q 1), .int (nI nt), .ref (q 2), .ref (q 3), .ref (q 4), .ref (q 5), .int ea, .int (nI ra), .int (nI rs), .int (nI rt), .ref (q 6), .ref (q 7), .ref (q 8), .ref (q 9), .ref (q 10), .ref (q 11), .int (nI nr), .ref (q 12), .ref (q 13), .ref (q 14), .ref (q 15), .ref (q 16), .ref (q 17), .int tr]))] hz)) 0 0 (va_A [((q 0), .inr (3, [.int fa, .int (nI nc), .ref (q 1), .int (nI nt), .ref (q 2), .ref (q 3), .ref (q 4), .ref (q 5), .int ea, .int (nI ra), .int (nI rs), .int (nI rt), .ref (q 6), .ref (q 7), .ref (q 8), .ref (q 9), .ref (q 10), .ref (q 11), .int (nI nr), .ref (q 12), .ref (q 13), .ref (q 14), .ref (q 15), .ref (q 16), .ref (q 17), .int tr]))] hz) := by
  refine Met.ofW (cc := cX3_refused) (maxL := 2) (ret := (some .int)) (by decide) rfl ?_
  intro p e s m args below meth c s₁ B hml hv
  obtain ⟨rfl, hsz, hP, hK, hD0⟩ := hv
  have hx := B.exec
  have hb := B.bytes
  have hr := B.returns
  have hts := atoms_spec (ws := wsX3_refused) B.pre
  have hown : s.vm.findClass RX3 = some m.cls := findClass_of_methodNamed B.named
  have hlocks := B.notSynchronized
  subst hsz
  have hD := hD0.self (sz := s.heap.size)
  generalize hAe : va_A [((q 0), .inr (3, [.int fa, .int (nI nc), .ref (q 1), .int (nI nt), .ref (q 2), .ref (q 3), .ref (q 4), .ref (q 5), .int ea, .int (nI ra), .int (nI rs), .int (nI rt), .ref (q 6), .ref (q 7), .ref (q 8), .ref (q 9), .ref (q 10), .ref (q 11), .int (nI nr), .ref (q 12), .ref (q 13), .ref (q 14), .ref (q 15), .ref (q 16), .ref (q 17), .int tr]))] s.heap.size = A at hD ⊢
  have hA : ∀ q : Nat, s.heap.size ≤ q → A q := fun q h => by rw [← hAe]; exact Or.inr h
  have hS : va_S A s.heap s.heap [] := va_S.rf
  have fl_63 := hts (.fieldLink RX3 63 "TableWarModel" "fault" "I") (by decide +kernel)
  have hin_X3 := (show ∀ w ∈ u_ws RX3 TX3 26, w ∈ wsX3_refused from by decide +kernel)
  have hl := lv_entry ([.ref (q 0), .int v1]) (n := 2) (Nat.le_of_ble_eq_true rfl)
  rw [lg_entry_eq]
  generalize (lg_sl ([.ref (q 0), .int v1]) ++ List.replicate (2 - (lg_sl ([.ref (q 0), .int v1])).length) Slot.unset).toArray = ls at hl ⊢
  have hl : lv_has ls 2 [(0, .ref (q 0)), (1, .int v1)] := hl
  refine lv_aload_n hx hb dX3_refused_0 rfl (lv_at hl 0 rfl) ?_
  refine lv_iconst (v := 0) hx hb dX3_refused_1 (by decide) ?_
  refine va_put (ci := 3) (v := .int 0) (ty := .int) (C := RX3) (T := TX3) (N := 26) hx hb hts hin_X3 tyX3 tyX3_ok nmX3 hown hK hP hD hS 0 rfl rfl 0 (by decide) fl_63 (fun _ h9 => h9) rfl (by decide +kernel) rfl rfl (Nat.le_of_ble_eq_true rfl) dX3_refused_2 (fun H locs hP hD hS => ?_)
  have hP : va_P D vwCl [((q 0), .inr (3, [.int 0, .int (nI nc), .ref (q 1), .int (nI nt), .ref (q 2), .ref (q 3), .ref (q 4), .ref (q 5), .int ea, .int (nI ra), .int (nI rs), .int (nI rt), .ref (q 6), .ref (q 7), .ref (q 8), .ref (q 9), .ref (q 10), .ref (q 11), .int (nI nr), .ref (q 12), .ref (q 13), .ref (q 14), .ref (q 15), .ref (q 16), .ref (q 17), .int tr]))] H := hP
  have hD : va_D A [((q 0), .inr (3, [.int 0, .int (nI nc), .ref (q 1), .int (nI nt), .ref (q 2), .ref (q 3), .ref (q 4), .ref (q 5), .int ea, .int (nI ra), .int (nI rs), .int (nI rt), .ref (q 6), .ref (q 7), .ref (q 8), .ref (q 9), .ref (q 10), .ref (q 11), .int (nI nr), .ref (q 12), .ref (q 13), .ref (q 14), .ref (q 15), .ref (q 16), .ref (q 17), .int tr]))] := hD
  refine lv_iload_n hx hb dX3_refused_5 rfl (lv_at hl 1 rfl) ?_
  have hE : (m_X3_refused v1) = (v1, 0) := Eq.symm (by (unfold m_X3_refused) <;> rfl)
  rw [hE]
  exact W.iret hx hb hr (fun t ht hW => ⟨⟨_, (), rfl, rfl, by rw [ht]; exact hP, va_K.moved hW.alike hK, hD⟩, hS.F ht⟩) hS.2.2 dX3_refused_6

def m_X3_failed (v1 : Int32) : Int32 × Int32 :=
  ((-10) - v1, v1)
set_option maxHeartbeats 4000000 in
set_option maxRecDepth 100000 in
theorem c_X3_failed (l : Launch) (D : va_G) (cI cS : ClassId) (q : Nat → Nat) (hz : Nat) (fa : Int32) (nc : Nat) (nt : Nat) (ea : Int32) (ra : Nat) (rs : Nat) (rt : Nat) (nr : Nat) (tr : Int32) (v1 : Int32)  : Met l yX3_failed wsX3_failed ({ frames := 0, cells := 0, slots := 0, locals := 0 }) (tw_W D cI cS [.ref (q 0), .int v1] hz [((q 0), .inr (3, [.int fa, .int (nI nc), .ref (q 1), .int (nI nt), .ref (q 2), .ref (q 3), .ref (q 4), .ref (q 5), .int ea, .int (nI ra), .int (nI rs), .int (nI rt), .ref (q 6), .ref (q 7), .ref (q 8), .ref (q 9), .ref (q 10), .ref (q 11), .int (nI nr), .ref (q 12), .ref (q 13), .ref (q 14), .ref (q 15), .ref (q 16), .ref (q 17), .int tr]))]) (va_Qi (fun r (_ : Unit) => r = (m_X3_failed v1).1) (tw_B D cI cS (va_A [((q 0), .inr (3, [.int fa, .int (nI nc), .ref (q 1), .int (nI nt), .ref (q 2), .ref (q 3), .ref (q 4), .ref (q 5), .int ea, .int (nI ra), .int (nI rs), .int (nI rt), .ref (q 6), .ref (q 7), .ref (q 8), .ref (q 9), .ref (q 10), .ref (q 11), .int (nI nr), .ref (q 12), .ref (q 13), .ref (q 14), .ref (q 15), .ref (q 16), .ref (q 17), .int tr]))] hz) [((q 0), .inr (3, [.int ((m_X3_failed v1).2), .int (nI nc), .ref (q 1), .int (nI nt), .ref (q 2), .ref (q 3), .ref (q 4), .ref (q 5), .int ea, .int (nI ra), .int (nI rs), .int (nI rt), .ref (q 6), .ref (q 7), .ref (q 8), .ref (q 9), .ref (q 10), .ref (q 11), .int (nI nr), .ref (q 12), .ref (q 13), .ref (q 14), .ref (q 15), .ref (q 16), .ref (q 17), .int tr]))]) (va_A [((q 0), .inr (3, [.int fa, .int (nI nc), .ref (q 1), .int (nI nt), .ref (q 2), .ref (q 3), .ref (q 4), .ref (q 5), .int ea, .int (nI ra), .int (nI rs), .int (nI rt), .ref (q 6), .ref (q 7), .ref (q 8), .ref (q 9), .ref (q 10), .ref (q 11), .int (nI nr), .ref (q 12), .ref (q 13), .ref (q 14), .ref (q 15), .ref (q 16), .ref (q 17), .int tr]))] hz)) 0 0 (va_A [((q 0), .inr (3, [.int fa, .int (nI nc), .ref (q 1), .int (nI nt), .ref (q 2), .ref (q 3), .ref (q 4), .ref (q 5), .int ea, .int (nI ra), .int (nI rs), .int (nI rt), .ref (q 6), .ref (q 7), .ref (q 8), .ref (q 9), .ref (q 10), .ref (q 11), .int (nI nr), .ref (q 12), .ref (q 13), .ref (q 14), .ref (q 15), .ref (q 16), .ref (q 17), .int tr]))] hz) := by
  refine Met.ofW (cc := cX3_failed) (maxL := 2) (ret := (some .int)) (by decide) rfl ?_
  intro p e s m args below meth c s₁ B hml hv
  obtain ⟨rfl, hsz, hP, hK, hD0⟩ := hv
  have hx := B.exec
  have hb := B.bytes
  have hr := B.returns
  have hts := atoms_spec (ws := wsX3_failed) B.pre
  have hown : s.vm.findClass RX3 = some m.cls := findClass_of_methodNamed B.named
  have hlocks := B.notSynchronized
  subst hsz
  have hD := hD0.self (sz := s.heap.size)
  generalize hAe : va_A [((q 0), .inr (3, [.int fa, .int (nI nc), .ref (q 1), .int (nI nt), .ref (q 2), .ref (q 3), .ref (q 4), .ref (q 5), .int ea, .int (nI ra), .int (nI rs), .int (nI rt), .ref (q 6), .ref (q 7), .ref (q 8), .ref (q 9), .ref (q 10), .ref (q 11), .int (nI nr), .ref (q 12), .ref (q 13), .ref (q 14), .ref (q 15), .ref (q 16), .ref (q 17), .int tr]))] s.heap.size = A at hD ⊢
  have hA : ∀ q : Nat, s.heap.size ≤ q → A q := fun q h => by rw [← hAe]; exact Or.inr h
  have hS : va_S A s.heap s.heap [] := va_S.rf
  have fl_63 := hts (.fieldLink RX3 63 "TableWarModel" "fault" "I") (by decide +kernel)
  have hin_X3 := (show ∀ w ∈ u_ws RX3 TX3 26, w ∈ wsX3_failed from by decide +kernel)
  have hl := lv_entry ([.ref (q 0), .int v1]) (n := 2) (Nat.le_of_ble_eq_true rfl)
  rw [lg_entry_eq]
  generalize (lg_sl ([.ref (q 0), .int v1]) ++ List.replicate (2 - (lg_sl ([.ref (q 0), .int v1])).length) Slot.unset).toArray = ls at hl ⊢
  have hl : lv_has ls 2 [(0, .ref (q 0)), (1, .int v1)] := hl
  refine lv_aload_n hx hb dX3_failed_0 rfl (lv_at hl 0 rfl) ?_
  refine lv_iload_n hx hb dX3_failed_1 rfl (lv_at hl 1 rfl) ?_
  refine va_put (ci := 3) (v := .int v1) (ty := .int) (C := RX3) (T := TX3) (N := 26) hx hb hts hin_X3 tyX3 tyX3_ok nmX3 hown hK hP hD hS 0 rfl rfl 0 (by decide) fl_63 (fun _ h9 => h9) rfl (by decide +kernel) rfl rfl (Nat.le_of_ble_eq_true rfl) dX3_failed_2 (fun H locs hP hD hS => ?_)
  have hP : va_P D vwCl [((q 0), .inr (3, [.int v1, .int (nI nc), .ref (q 1), .int (nI nt), .ref (q 2), .ref (q 3), .ref (q 4), .ref (q 5), .int ea, .int (nI ra), .int (nI rs), .int (nI rt), .ref (q 6), .ref (q 7), .ref (q 8), .ref (q 9), .ref (q 10), .ref (q 11), .int (nI nr), .ref (q 12), .ref (q 13), .ref (q 14), .ref (q 15), .ref (q 16), .ref (q 17), .int tr]))] H := hP
  have hD : va_D A [((q 0), .inr (3, [.int v1, .int (nI nc), .ref (q 1), .int (nI nt), .ref (q 2), .ref (q 3), .ref (q 4), .ref (q 5), .int ea, .int (nI ra), .int (nI rs), .int (nI rt), .ref (q 6), .ref (q 7), .ref (q 8), .ref (q 9), .ref (q 10), .ref (q 11), .int (nI nr), .ref (q 12), .ref (q 13), .ref (q 14), .ref (q 15), .ref (q 16), .ref (q 17), .int tr]))] := hD
  refine lv_bipush (v := (-10)) hx hb dX3_failed_5 (by decide) ?_
  refine lv_iload_n hx hb dX3_failed_7 rfl (lv_at hl 1 rfl) ?_
  refine lv_isub hx hb dX3_failed_8 ?_
  have hE : (m_X3_failed v1) = ((-10) - v1, v1) := Eq.symm (by (unfold m_X3_failed) <;> rfl)
  rw [hE]
  exact W.iret hx hb hr (fun t ht hW => ⟨⟨_, (), rfl, rfl, by rw [ht]; exact hP, va_K.moved hW.alike hK, hD⟩, hS.F ht⟩) hS.2.2 dX3_failed_9

def m_X3_failedLong (v1 : Int32) : Int64 × Int32 :=
  (m_X3_lost, v1)
set_option maxHeartbeats 4000000 in
set_option maxRecDepth 100000 in
theorem c_X3_failedLong (l : Launch) (D : va_G) (cI cS : ClassId) (q : Nat → Nat) (hz : Nat) (fa : Int32) (nc : Nat) (nt : Nat) (ea : Int32) (ra : Nat) (rs : Nat) (rt : Nat) (nr : Nat) (tr : Int32) (v1 : Int32)  : Met l yX3_failedLong wsX3_failedLong ({ frames := 1, cells := 0, slots := 0, locals := 19 }) (tw_W D cI cS [.ref (q 0), .int v1] hz [((q 0), .inr (3, [.int fa, .int (nI nc), .ref (q 1), .int (nI nt), .ref (q 2), .ref (q 3), .ref (q 4), .ref (q 5), .int ea, .int (nI ra), .int (nI rs), .int (nI rt), .ref (q 6), .ref (q 7), .ref (q 8), .ref (q 9), .ref (q 10), .ref (q 11), .int (nI nr), .ref (q 12), .ref (q 13), .ref (q 14), .ref (q 15), .ref (q 16), .ref (q 17), .int tr]))]) (va_Ql (fun r (_ : Unit) => r = (m_X3_failedLong v1).1) (tw_B D cI cS (va_A [((q 0), .inr (3, [.int fa, .int (nI nc), .ref (q 1), .int (nI nt), .ref (q 2), .ref (q 3), .ref (q 4), .ref (q 5), .int ea, .int (nI ra), .int (nI rs), .int (nI rt), .ref (q 6), .ref (q 7), .ref (q 8), .ref (q 9), .ref (q 10), .ref (q 11), .int (nI nr), .ref (q 12), .ref (q 13), .ref (q 14), .ref (q 15), .ref (q 16), .ref (q 17), .int tr]))] hz) [((q 0), .inr (3, [.int ((m_X3_failedLong v1).2), .int (nI nc), .ref (q 1), .int (nI nt), .ref (q 2), .ref (q 3), .ref (q 4), .ref (q 5), .int ea, .int (nI ra), .int (nI rs), .int (nI rt), .ref (q 6), .ref (q 7), .ref (q 8), .ref (q 9), .ref (q 10), .ref (q 11), .int (nI nr), .ref (q 12), .ref (q 13), .ref (q 14), .ref (q 15), .ref (q 16), .ref (q 17), .int tr]))]) (va_A [((q 0), .inr (3, [.int fa, .int (nI nc), .ref (q 1), .int (nI nt), .ref (q 2), .ref (q 3), .ref (q 4), .ref (q 5), .int ea, .int (nI ra), .int (nI rs), .int (nI rt), .ref (q 6), .ref (q 7), .ref (q 8), .ref (q 9), .ref (q 10), .ref (q 11), .int (nI nr), .ref (q 12), .ref (q 13), .ref (q 14), .ref (q 15), .ref (q 16), .ref (q 17), .int tr]))] hz)) 0 0 (va_A [((q 0), .inr (3, [.int fa, .int (nI nc), .ref (q 1), .int (nI nt), .ref (q 2), .ref (q 3), .ref (q 4), .ref (q 5), .int ea, .int (nI ra), .int (nI rs), .int (nI rt), .ref (q 6), .ref (q 7), .ref (q 8), .ref (q 9), .ref (q 10), .ref (q 11), .int (nI nr), .ref (q 12), .ref (q 13), .ref (q 14), .ref (q 15), .ref (q 16), .ref (q 17), .int tr]))] hz) := by
  refine Met.ofW (cc := cX3_failedLong) (maxL := 2) (ret := (some .long)) (by decide) rfl ?_
  intro p e s m args below meth c s₁ B hml hv
  obtain ⟨rfl, hsz, hP, hK, hD0⟩ := hv
  have hx := B.exec
  have hb := B.bytes
  have hr := B.returns
  have hts := atoms_spec (ws := wsX3_failedLong) B.pre
  have hown : s.vm.findClass RX3 = some m.cls := findClass_of_methodNamed B.named
  have hlocks := B.notSynchronized
  subst hsz
  have hD := hD0.self (sz := s.heap.size)
  generalize hAe : va_A [((q 0), .inr (3, [.int fa, .int (nI nc), .ref (q 1), .int (nI nt), .ref (q 2), .ref (q 3), .ref (q 4), .ref (q 5), .int ea, .int (nI ra), .int (nI rs), .int (nI rt), .ref (q 6), .ref (q 7), .ref (q 8), .ref (q 9), .ref (q 10), .ref (q 11), .int (nI nr), .ref (q 12), .ref (q 13), .ref (q 14), .ref (q 15), .ref (q 16), .ref (q 17), .int tr]))] s.heap.size = A at hD ⊢
  have hA : ∀ q : Nat, s.heap.size ≤ q → A q := fun q h => by rw [← hAe]; exact Or.inr h
  have hS : va_S A s.heap s.heap [] := va_S.rf
  have fl_63 := hts (.fieldLink RX3 63 "TableWarModel" "fault" "I") (by decide +kernel)
  have hin_X3 := (show ∀ w ∈ u_ws RX3 TX3 26, w ∈ wsX3_failedLong from by decide +kernel)
  have hl := lv_entry ([.ref (q 0), .int v1]) (n := 2) (Nat.le_of_ble_eq_true rfl)
  rw [lg_entry_eq]
  generalize (lg_sl ([.ref (q 0), .int v1]) ++ List.replicate (2 - (lg_sl ([.ref (q 0), .int v1])).length) Slot.unset).toArray = ls at hl ⊢
  have hl : lv_has ls 2 [(0, .ref (q 0)), (1, .int v1)] := hl
  refine lv_aload_n hx hb dX3_failedLong_0 rfl (lv_at hl 0 rfl) ?_
  refine lv_iload_n hx hb dX3_failedLong_1 rfl (lv_at hl 1 rfl) ?_
  refine va_put (ci := 3) (v := .int v1) (ty := .int) (C := RX3) (T := TX3) (N := 26) hx hb hts hin_X3 tyX3 tyX3_ok nmX3 hown hK hP hD hS 0 rfl rfl 0 (by decide) fl_63 (fun _ h9 => h9) rfl (by decide +kernel) rfl rfl (Nat.le_of_ble_eq_true rfl) dX3_failedLong_2 (fun H locs hP hD hS => ?_)
  have hP : va_P D vwCl [((q 0), .inr (3, [.int v1, .int (nI nc), .ref (q 1), .int (nI nt), .ref (q 2), .ref (q 3), .ref (q 4), .ref (q 5), .int ea, .int (nI ra), .int (nI rs), .int (nI rt), .ref (q 6), .ref (q 7), .ref (q 8), .ref (q 9), .ref (q 10), .ref (q 11), .int (nI nr), .ref (q 12), .ref (q 13), .ref (q 14), .ref (q 15), .ref (q 16), .ref (q 17), .int tr]))] H := hP
  have hD : va_D A [((q 0), .inr (3, [.int v1, .int (nI nc), .ref (q 1), .int (nI nt), .ref (q 2), .ref (q 3), .ref (q 4), .ref (q 5), .int ea, .int (nI ra), .int (nI rs), .int (nI rt), .ref (q 6), .ref (q 7), .ref (q 8), .ref (q 9), .ref (q 10), .ref (q 11), .int (nI nr), .ref (q 12), .ref (q 13), .ref (q 14), .ref (q 15), .ref (q 16), .ref (q 17), .int tr]))] := hD
  refine tw_cl (va_runS (As := []) (rest := []) ⟨hx, hb, hml, hown, hts⟩ (c_X3_lost l D cI cS ) (va_cwS 0 hts gX3_failedLong_X3_lost rfl rfl rfl (by decide +kernel) ⟨Nat.le_of_ble_eq_true rfl, Nat.le_of_ble_eq_true rfl⟩) ⟨tw_Rb, tw_Rp (hP.sub (ws' := []) [] rfl) hK⟩ rfl rfl hl.1 rfl (lv_room (Nat.le_of_ble_eq_true rfl)) dX3_failedLong_5 ⟨Nat.zero_le _, Nat.zero_le _⟩) ?_
  have hE : (m_X3_failedLong v1) = (m_X3_lost, v1) := Eq.symm (by (unfold m_X3_failedLong) <;> rfl)
  rw [hE]
  exact W.lret hx hb hr (fun t ht hW => ⟨⟨_, (), rfl, rfl, by rw [ht]; exact hP, va_K.moved hW.alike hK, hD⟩, hS.F ht⟩) hS.2.2 dX3_failedLong_8

def m_X3_traced (tr : Int32) (v1 : Int32) : Int32 :=
  (31 * tr) + v1
set_option maxHeartbeats 4000000 in
set_option maxRecDepth 100000 in
theorem c_X3_traced (l : Launch) (D : va_G) (cI cS : ClassId) (q : Nat → Nat) (hz : Nat) (fa : Int32) (nc : Nat) (nt : Nat) (ea : Int32) (ra : Nat) (rs : Nat) (rt : Nat) (nr : Nat) (tr : Int32) (v1 : Int32)  : Met l yX3_traced wsX3_traced ({ frames := 0, cells := 0, slots := 0, locals := 0 }) (tw_W D cI cS [.ref (q 0), .int v1] hz [((q 0), .inr (3, [.int fa, .int (nI nc), .ref (q 1), .int (nI nt), .ref (q 2), .ref (q 3), .ref (q 4), .ref (q 5), .int ea, .int (nI ra), .int (nI rs), .int (nI rt), .ref (q 6), .ref (q 7), .ref (q 8), .ref (q 9), .ref (q 10), .ref (q 11), .int (nI nr), .ref (q 12), .ref (q 13), .ref (q 14), .ref (q 15), .ref (q 16), .ref (q 17), .int tr]))]) (va_Qv (fun (_ : Unit) => True) (tw_B D cI cS (va_A [((q 0), .inr (3, [.int fa, .int (nI nc), .ref (q 1), .int (nI nt), .ref (q 2), .ref (q 3), .ref (q 4), .ref (q 5), .int ea, .int (nI ra), .int (nI rs), .int (nI rt), .ref (q 6), .ref (q 7), .ref (q 8), .ref (q 9), .ref (q 10), .ref (q 11), .int (nI nr), .ref (q 12), .ref (q 13), .ref (q 14), .ref (q 15), .ref (q 16), .ref (q 17), .int tr]))] hz) [((q 0), .inr (3, [.int fa, .int (nI nc), .ref (q 1), .int (nI nt), .ref (q 2), .ref (q 3), .ref (q 4), .ref (q 5), .int ea, .int (nI ra), .int (nI rs), .int (nI rt), .ref (q 6), .ref (q 7), .ref (q 8), .ref (q 9), .ref (q 10), .ref (q 11), .int (nI nr), .ref (q 12), .ref (q 13), .ref (q 14), .ref (q 15), .ref (q 16), .ref (q 17), .int (m_X3_traced tr v1)]))]) (va_A [((q 0), .inr (3, [.int fa, .int (nI nc), .ref (q 1), .int (nI nt), .ref (q 2), .ref (q 3), .ref (q 4), .ref (q 5), .int ea, .int (nI ra), .int (nI rs), .int (nI rt), .ref (q 6), .ref (q 7), .ref (q 8), .ref (q 9), .ref (q 10), .ref (q 11), .int (nI nr), .ref (q 12), .ref (q 13), .ref (q 14), .ref (q 15), .ref (q 16), .ref (q 17), .int tr]))] hz)) 0 0 (va_A [((q 0), .inr (3, [.int fa, .int (nI nc), .ref (q 1), .int (nI nt), .ref (q 2), .ref (q 3), .ref (q 4), .ref (q 5), .int ea, .int (nI ra), .int (nI rs), .int (nI rt), .ref (q 6), .ref (q 7), .ref (q 8), .ref (q 9), .ref (q 10), .ref (q 11), .int (nI nr), .ref (q 12), .ref (q 13), .ref (q 14), .ref (q 15), .ref (q 16), .ref (q 17), .int tr]))] hz) := by
  refine Met.ofW (cc := cX3_traced) (maxL := 2) (ret := none) (by decide) rfl ?_
  intro p e s m args below meth c s₁ B hml hv
  obtain ⟨rfl, hsz, hP, hK, hD0⟩ := hv
  have hx := B.exec
  have hb := B.bytes
  have hr := B.returns
  have hts := atoms_spec (ws := wsX3_traced) B.pre
  have hown : s.vm.findClass RX3 = some m.cls := findClass_of_methodNamed B.named
  have hlocks := B.notSynchronized
  subst hsz
  have hD := hD0.self (sz := s.heap.size)
  generalize hAe : va_A [((q 0), .inr (3, [.int fa, .int (nI nc), .ref (q 1), .int (nI nt), .ref (q 2), .ref (q 3), .ref (q 4), .ref (q 5), .int ea, .int (nI ra), .int (nI rs), .int (nI rt), .ref (q 6), .ref (q 7), .ref (q 8), .ref (q 9), .ref (q 10), .ref (q 11), .int (nI nr), .ref (q 12), .ref (q 13), .ref (q 14), .ref (q 15), .ref (q 16), .ref (q 17), .int tr]))] s.heap.size = A at hD ⊢
  have hA : ∀ q : Nat, s.heap.size ≤ q → A q := fun q h => by rw [← hAe]; exact Or.inr h
  have hS : va_S A s.heap s.heap [] := va_S.rf
  have fl_220 := hts (.fieldLink RX3 220 "TableWarModel" "traceNow" "I") (by decide +kernel)
  have hin_X3 := (show ∀ w ∈ u_ws RX3 TX3 26, w ∈ wsX3_traced from by decide +kernel)
  have hl := lv_entry ([.ref (q 0), .int v1]) (n := 2) (Nat.le_of_ble_eq_true rfl)
  rw [lg_entry_eq]
  generalize (lg_sl ([.ref (q 0), .int v1]) ++ List.replicate (2 - (lg_sl ([.ref (q 0), .int v1])).length) Slot.unset).toArray = ls at hl ⊢
  have hl : lv_has ls 2 [(0, .ref (q 0)), (1, .int v1)] := hl
  refine lv_aload_n hx hb dX3_traced_0 rfl (lv_at hl 0 rfl) ?_
  refine lv_bipush (v := 31) hx hb dX3_traced_1 (by decide) ?_
  refine lv_aload_n hx hb dX3_traced_3 rfl (lv_at hl 0 rfl) ?_
  refine va_get (ci := 3) (v := .int tr) (C := RX3) (T := TX3) (N := 26) hx hb hts hin_X3 hown hK hP 0 rfl rfl 25 (by decide) fl_220 (fun _ h9 => h9) rfl dX3_traced_4 ?_
  refine lv_imul hx hb dX3_traced_7 ?_
  refine lv_iload_n hx hb dX3_traced_8 rfl (lv_at hl 1 rfl) ?_
  refine lv_iadd hx hb dX3_traced_9 ?_
  refine va_put (ci := 3) (v := .int ((31 * tr) + v1)) (ty := .int) (C := RX3) (T := TX3) (N := 26) hx hb hts hin_X3 tyX3 tyX3_ok nmX3 hown hK hP hD hS 0 rfl rfl 25 (by decide) fl_220 (fun _ h9 => h9) rfl (by decide +kernel) rfl rfl (Nat.le_of_ble_eq_true rfl) dX3_traced_10 (fun H locs hP hD hS => ?_)
  have hP : va_P D vwCl [((q 0), .inr (3, [.int fa, .int (nI nc), .ref (q 1), .int (nI nt), .ref (q 2), .ref (q 3), .ref (q 4), .ref (q 5), .int ea, .int (nI ra), .int (nI rs), .int (nI rt), .ref (q 6), .ref (q 7), .ref (q 8), .ref (q 9), .ref (q 10), .ref (q 11), .int (nI nr), .ref (q 12), .ref (q 13), .ref (q 14), .ref (q 15), .ref (q 16), .ref (q 17), .int ((31 * tr) + v1)]))] H := hP
  have hD : va_D A [((q 0), .inr (3, [.int fa, .int (nI nc), .ref (q 1), .int (nI nt), .ref (q 2), .ref (q 3), .ref (q 4), .ref (q 5), .int ea, .int (nI ra), .int (nI rs), .int (nI rt), .ref (q 6), .ref (q 7), .ref (q 8), .ref (q 9), .ref (q 10), .ref (q 11), .int (nI nr), .ref (q 12), .ref (q 13), .ref (q 14), .ref (q 15), .ref (q 16), .ref (q 17), .int ((31 * tr) + v1)]))] := hD
  have hE : (m_X3_traced tr v1) = (31 * tr) + v1 := Eq.symm (by (unfold m_X3_traced) <;> rfl)
  rw [hE]
  exact W.vret hx hb hr (fun t ht hW => ⟨⟨(), rfl, trivial, by rw [ht]; exact hP, va_K.moved hW.alike hK, hD⟩, hS.F ht⟩) hS.2.2 dX3_traced_13

def m_X3_trace (tr : Int32) : Int32 :=
  tr
set_option maxHeartbeats 4000000 in
set_option maxRecDepth 100000 in
theorem c_X3_trace (l : Launch) (D : va_G) (cI cS : ClassId) (q : Nat → Nat) (fa : Int32) (nc : Nat) (nt : Nat) (ea : Int32) (ra : Nat) (rs : Nat) (rt : Nat) (nr : Nat) (tr : Int32)  : Met l yX3_trace wsX3_trace ({ frames := 0, cells := 0, slots := 0, locals := 0 }) (tw_R D cI cS [.ref (q 0)] [((q 0), .inr (3, [.int fa, .int (nI nc), .ref (q 1), .int (nI nt), .ref (q 2), .ref (q 3), .ref (q 4), .ref (q 5), .int ea, .int (nI ra), .int (nI rs), .int (nI rt), .ref (q 6), .ref (q 7), .ref (q 8), .ref (q 9), .ref (q 10), .ref (q 11), .int (nI nr), .ref (q 12), .ref (q 13), .ref (q 14), .ref (q 15), .ref (q 16), .ref (q 17), .int tr]))]) (vp_Si (fun r => r = (m_X3_trace tr))) 0 0 (fun _ => False) := by
  refine Met.ofW (cc := cX3_trace) (maxL := 1) (ret := (some .int)) (by decide) rfl ?_
  intro p e s m args below meth c s₁ B hml hv
  obtain ⟨rfl, hP, hK⟩ := hv
  have hx := B.exec
  have hb := B.bytes
  have hr := B.returns
  have hts := atoms_spec (ws := wsX3_trace) B.pre
  have hown : s.vm.findClass RX3 = some m.cls := findClass_of_methodNamed B.named
  have hlocks := B.notSynchronized
  have fl_220 := hts (.fieldLink RX3 220 "TableWarModel" "traceNow" "I") (by decide +kernel)
  have hin_X3 := (show ∀ w ∈ u_ws RX3 TX3 26, w ∈ wsX3_trace from by decide +kernel)
  have hl := lv_entry ([.ref (q 0)]) (n := 1) (Nat.le_of_ble_eq_true rfl)
  rw [lg_entry_eq]
  generalize (lg_sl ([.ref (q 0)]) ++ List.replicate (1 - (lg_sl ([.ref (q 0)])).length) Slot.unset).toArray = ls at hl ⊢
  have hl : lv_has ls 1 [(0, .ref (q 0))] := hl
  refine lv_aload_n hx hb dX3_trace_0 rfl (lv_at hl 0 rfl) ?_
  refine va_get (ci := 3) (v := .int tr) (C := RX3) (T := TX3) (N := 26) hx hb hts hin_X3 hown hK hP 0 rfl rfl 25 (by decide) fl_220 (fun _ h9 => h9) rfl dX3_trace_1 ?_
  exact W.iret hx hb hr (fun t ht _ => ⟨_, rfl, (by (unfold m_X3_trace) <;> rfl), ht⟩) (fun _ h => nomatch h) dX3_trace_4

def m_X3_fault (fa : Int32) : Int32 :=
  fa
set_option maxHeartbeats 4000000 in
set_option maxRecDepth 100000 in
theorem c_X3_fault (l : Launch) (D : va_G) (cI cS : ClassId) (q : Nat → Nat) (fa : Int32) (nc : Nat) (nt : Nat) (ea : Int32) (ra : Nat) (rs : Nat) (rt : Nat) (nr : Nat) (tr : Int32)  : Met l yX3_fault wsX3_fault ({ frames := 0, cells := 0, slots := 0, locals := 0 }) (tw_R D cI cS [.ref (q 0)] [((q 0), .inr (3, [.int fa, .int (nI nc), .ref (q 1), .int (nI nt), .ref (q 2), .ref (q 3), .ref (q 4), .ref (q 5), .int ea, .int (nI ra), .int (nI rs), .int (nI rt), .ref (q 6), .ref (q 7), .ref (q 8), .ref (q 9), .ref (q 10), .ref (q 11), .int (nI nr), .ref (q 12), .ref (q 13), .ref (q 14), .ref (q 15), .ref (q 16), .ref (q 17), .int tr]))]) (vp_Si (fun r => r = (m_X3_fault fa))) 0 0 (fun _ => False) := by
  refine Met.ofW (cc := cX3_fault) (maxL := 1) (ret := (some .int)) (by decide) rfl ?_
  intro p e s m args below meth c s₁ B hml hv
  obtain ⟨rfl, hP, hK⟩ := hv
  have hx := B.exec
  have hb := B.bytes
  have hr := B.returns
  have hts := atoms_spec (ws := wsX3_fault) B.pre
  have hown : s.vm.findClass RX3 = some m.cls := findClass_of_methodNamed B.named
  have hlocks := B.notSynchronized
  have fl_63 := hts (.fieldLink RX3 63 "TableWarModel" "fault" "I") (by decide +kernel)
  have hin_X3 := (show ∀ w ∈ u_ws RX3 TX3 26, w ∈ wsX3_fault from by decide +kernel)
  have hl := lv_entry ([.ref (q 0)]) (n := 1) (Nat.le_of_ble_eq_true rfl)
  rw [lg_entry_eq]
  generalize (lg_sl ([.ref (q 0)]) ++ List.replicate (1 - (lg_sl ([.ref (q 0)])).length) Slot.unset).toArray = ls at hl ⊢
  have hl : lv_has ls 1 [(0, .ref (q 0))] := hl
  refine lv_aload_n hx hb dX3_fault_0 rfl (lv_at hl 0 rfl) ?_
  refine va_get (ci := 3) (v := .int fa) (C := RX3) (T := TX3) (N := 26) hx hb hts hin_X3 hown hK hP 0 rfl rfl 0 (by decide) fl_63 (fun _ h9 => h9) rfl dX3_fault_1 ?_
  exact W.iret hx hb hr (fun t ht _ => ⟨_, rfl, (by (unfold m_X3_fault) <;> rfl), ht⟩) (fun _ h => nomatch h) dX3_fault_4

def m_X3_many (nc : Nat) (nt : Nat) (ea : Int32) (nr : Nat) (v1 : Int32) : Int32 :=
  if v1 = 0 then
    nI nt
  else
    if v1 = 1 then
      nI nc
    else
      if v1 = 2 then
        (m_X3_bits ea)
      else
        if v1 = 3 then
          nI nr
        else
          (-2)
set_option maxHeartbeats 4000000 in
set_option maxRecDepth 100000 in
theorem c_X3_many (l : Launch) (D : va_G) (cI cS : ClassId) (q : Nat → Nat) (fa : Int32) (nc : Nat) (nt : Nat) (ea : Int32) (ra : Nat) (rs : Nat) (rt : Nat) (nr : Nat) (tr : Int32) (v1 : Int32)  : Met l yX3_many wsX3_many ({ frames := 1, cells := 0, slots := 0, locals := 22 }) (tw_R D cI cS [.ref (q 0), .int v1] [((q 0), .inr (3, [.int fa, .int (nI nc), .ref (q 1), .int (nI nt), .ref (q 2), .ref (q 3), .ref (q 4), .ref (q 5), .int ea, .int (nI ra), .int (nI rs), .int (nI rt), .ref (q 6), .ref (q 7), .ref (q 8), .ref (q 9), .ref (q 10), .ref (q 11), .int (nI nr), .ref (q 12), .ref (q 13), .ref (q 14), .ref (q 15), .ref (q 16), .ref (q 17), .int tr]))]) (vp_Si (fun r => r = (m_X3_many nc nt ea nr v1))) 0 0 (fun _ => False) := by
  refine Met.ofW (cc := cX3_many) (maxL := 2) (ret := (some .int)) (by decide) rfl ?_
  intro p e s m args below meth c s₁ B hml hv
  obtain ⟨rfl, hP, hK⟩ := hv
  have hx := B.exec
  have hb := B.bytes
  have hr := B.returns
  have hts := atoms_spec (ws := wsX3_many) B.pre
  have hown : s.vm.findClass RX3 = some m.cls := findClass_of_methodNamed B.named
  have hlocks := B.notSynchronized
  have fl_78 := hts (.fieldLink RX3 78 "TableWarModel" "things" "I") (by decide +kernel)
  have hin_X3 := (show ∀ w ∈ u_ws RX3 TX3 26, w ∈ wsX3_many from by decide +kernel)
  have fl_75 := hts (.fieldLink RX3 75 "TableWarModel" "squares" "I") (by decide +kernel)
  have fl_129 := hts (.fieldLink RX3 129 "TableWarModel" "eaten" "I") (by decide +kernel)
  have fl_132 := hts (.fieldLink RX3 132 "TableWarModel" "readings" "I") (by decide +kernel)
  have hl := lv_entry ([.ref (q 0), .int v1]) (n := 2) (Nat.le_of_ble_eq_true rfl)
  rw [lg_entry_eq]
  generalize (lg_sl ([.ref (q 0), .int v1]) ++ List.replicate (2 - (lg_sl ([.ref (q 0), .int v1])).length) Slot.unset).toArray = ls at hl ⊢
  have hl : lv_has ls 2 [(0, .ref (q 0)), (1, .int v1)] := hl
  refine lv_iload_n hx hb dX3_many_0 rfl (lv_at hl 1 rfl) ?_
  by_cases c_1_0 : v1 = 0
  · refine lv_tableIn (tgt := 32) hx hb dX3_many_1 (by (rw [c_1_0]) <;> decide) (by (rw [c_1_0]) <;> decide) (by (rw [c_1_0]) <;> rfl) (by decide) ?_
    refine lv_aload_n hx hb dX3_many_32 rfl (lv_at hl 0 rfl) ?_
    refine va_get (ci := 3) (v := .int (nI nt)) (C := RX3) (T := TX3) (N := 26) hx hb hts hin_X3 hown hK hP 0 rfl rfl 3 (by decide) fl_78 (fun _ h9 => h9) rfl dX3_many_33 ?_
    exact W.iret hx hb hr (fun t ht _ => ⟨_, rfl, (by (unfold m_X3_many; rw [if_pos c_1_0]) <;> rfl), ht⟩) (fun _ h => nomatch h) dX3_many_36
  by_cases c_1_1 : v1 = 1
  · refine lv_tableIn (tgt := 37) hx hb dX3_many_1 (by (rw [c_1_1]) <;> decide) (by (rw [c_1_1]) <;> decide) (by (rw [c_1_1]) <;> rfl) (by decide) ?_
    refine lv_aload_n hx hb dX3_many_37 rfl (lv_at hl 0 rfl) ?_
    refine va_get (ci := 3) (v := .int (nI nc)) (C := RX3) (T := TX3) (N := 26) hx hb hts hin_X3 hown hK hP 0 rfl rfl 1 (by decide) fl_75 (fun _ h9 => h9) rfl dX3_many_38 ?_
    exact W.iret hx hb hr (fun t ht _ => ⟨_, rfl, (by (unfold m_X3_many; rw [if_neg c_1_0]; rw [if_pos c_1_1]) <;> rfl), ht⟩) (fun _ h => nomatch h) dX3_many_41
  by_cases c_1_2 : v1 = 2
  · refine lv_tableIn (tgt := 42) hx hb dX3_many_1 (by (rw [c_1_2]) <;> decide) (by (rw [c_1_2]) <;> decide) (by (rw [c_1_2]) <;> rfl) (by decide) ?_
    refine lv_aload_n hx hb dX3_many_42 rfl (lv_at hl 0 rfl) ?_
    refine va_get (ci := 3) (v := .int ea) (C := RX3) (T := TX3) (N := 26) hx hb hts hin_X3 hown hK hP 0 rfl rfl 8 (by decide) fl_129 (fun _ h9 => h9) rfl dX3_many_43 ?_
    refine tw_cs (va_runS (As := [.int ea]) (rest := []) ⟨hx, hb, hml, hown, hts⟩ (c_X3_bits l D cI cS ea) (va_cwS 1 hts gX3_many_X3_bits rfl rfl rfl (by decide +kernel) ⟨Nat.le_of_ble_eq_true rfl, Nat.le_of_ble_eq_true rfl⟩) ⟨tw_Rb, tw_Rp (hP.sub (ws' := []) [] rfl) hK⟩ rfl rfl hl.1 rfl (lv_room (Nat.le_of_ble_eq_true rfl)) dX3_many_46 ⟨Nat.zero_le _, Nat.zero_le _⟩) ?_
    exact W.iret hx hb hr (fun t ht _ => ⟨_, rfl, (by (unfold m_X3_many; rw [if_neg c_1_0]; rw [if_neg c_1_1]; rw [if_pos c_1_2]) <;> rfl), ht⟩) (fun _ h => nomatch h) dX3_many_49
  by_cases c_1_3 : v1 = 3
  · refine lv_tableIn (tgt := 50) hx hb dX3_many_1 (by (rw [c_1_3]) <;> decide) (by (rw [c_1_3]) <;> decide) (by (rw [c_1_3]) <;> rfl) (by decide) ?_
    refine lv_aload_n hx hb dX3_many_50 rfl (lv_at hl 0 rfl) ?_
    refine va_get (ci := 3) (v := .int (nI nr)) (C := RX3) (T := TX3) (N := 26) hx hb hts hin_X3 hown hK hP 0 rfl rfl 18 (by decide) fl_132 (fun _ h9 => h9) rfl dX3_many_51 ?_
    exact W.iret hx hb hr (fun t ht _ => ⟨_, rfl, (by (unfold m_X3_many; rw [if_neg c_1_0]; rw [if_neg c_1_1]; rw [if_neg c_1_2]; rw [if_pos c_1_3]) <;> rfl), ht⟩) (fun _ h => nomatch h) dX3_many_54
  · have tc_1_0 := lv_neT c_1_0 (a := 0) rfl
    have tc_1_1 := lv_neT c_1_1 (a := 1) rfl
    have tc_1_2 := lv_neT c_1_2 (a := 2) rfl
    have tc_1_3 := lv_neT c_1_3 (a := 3) rfl
    refine lv_tableOut (tgt := 55) hx hb dX3_many_1 (by omega) (by decide) ?_
    refine lv_bipush (v := (-2)) hx hb dX3_many_55 (by decide) ?_
    exact W.iret hx hb hr (fun t ht _ => ⟨_, rfl, (by (unfold m_X3_many; rw [if_neg c_1_0]; rw [if_neg c_1_1]; rw [if_neg c_1_2]; rw [if_neg c_1_3]) <;> rfl), ht⟩) (fun _ h => nomatch h) dX3_many_57

def m_X3_serve (nt : Nat) (ea : Int32) : Int32 × Int32 :=
  if (nI nt) = 0 then
    ((-3), ea)
  else
    ((m_X3_bits ea), 0)
set_option maxHeartbeats 4000000 in
set_option maxRecDepth 100000 in
theorem c_X3_serve (l : Launch) (D : va_G) (cI cS : ClassId) (q : Nat → Nat) (hz : Nat) (fa : Int32) (nc : Nat) (nt : Nat) (ea : Int32) (ra : Nat) (rs : Nat) (rt : Nat) (nr : Nat) (tr : Int32)  : Met l yX3_serve wsX3_serve ({ frames := 1, cells := 0, slots := 0, locals := 22 }) (tw_W D cI cS [.ref (q 0)] hz [((q 0), .inr (3, [.int fa, .int (nI nc), .ref (q 1), .int (nI nt), .ref (q 2), .ref (q 3), .ref (q 4), .ref (q 5), .int ea, .int (nI ra), .int (nI rs), .int (nI rt), .ref (q 6), .ref (q 7), .ref (q 8), .ref (q 9), .ref (q 10), .ref (q 11), .int (nI nr), .ref (q 12), .ref (q 13), .ref (q 14), .ref (q 15), .ref (q 16), .ref (q 17), .int tr]))]) (va_Qi (fun r (_ : Unit) => r = (m_X3_serve nt ea).1) (tw_B D cI cS (va_A [((q 0), .inr (3, [.int fa, .int (nI nc), .ref (q 1), .int (nI nt), .ref (q 2), .ref (q 3), .ref (q 4), .ref (q 5), .int ea, .int (nI ra), .int (nI rs), .int (nI rt), .ref (q 6), .ref (q 7), .ref (q 8), .ref (q 9), .ref (q 10), .ref (q 11), .int (nI nr), .ref (q 12), .ref (q 13), .ref (q 14), .ref (q 15), .ref (q 16), .ref (q 17), .int tr]))] hz) [((q 0), .inr (3, [.int fa, .int (nI nc), .ref (q 1), .int (nI nt), .ref (q 2), .ref (q 3), .ref (q 4), .ref (q 5), .int ((m_X3_serve nt ea).2), .int (nI ra), .int (nI rs), .int (nI rt), .ref (q 6), .ref (q 7), .ref (q 8), .ref (q 9), .ref (q 10), .ref (q 11), .int (nI nr), .ref (q 12), .ref (q 13), .ref (q 14), .ref (q 15), .ref (q 16), .ref (q 17), .int tr]))]) (va_A [((q 0), .inr (3, [.int fa, .int (nI nc), .ref (q 1), .int (nI nt), .ref (q 2), .ref (q 3), .ref (q 4), .ref (q 5), .int ea, .int (nI ra), .int (nI rs), .int (nI rt), .ref (q 6), .ref (q 7), .ref (q 8), .ref (q 9), .ref (q 10), .ref (q 11), .int (nI nr), .ref (q 12), .ref (q 13), .ref (q 14), .ref (q 15), .ref (q 16), .ref (q 17), .int tr]))] hz)) 0 0 (va_A [((q 0), .inr (3, [.int fa, .int (nI nc), .ref (q 1), .int (nI nt), .ref (q 2), .ref (q 3), .ref (q 4), .ref (q 5), .int ea, .int (nI ra), .int (nI rs), .int (nI rt), .ref (q 6), .ref (q 7), .ref (q 8), .ref (q 9), .ref (q 10), .ref (q 11), .int (nI nr), .ref (q 12), .ref (q 13), .ref (q 14), .ref (q 15), .ref (q 16), .ref (q 17), .int tr]))] hz) := by
  refine Met.ofW (cc := cX3_serve) (maxL := 2) (ret := (some .int)) (by decide) rfl ?_
  intro p e s m args below meth c s₁ B hml hv
  obtain ⟨rfl, hsz, hP, hK, hD0⟩ := hv
  have hx := B.exec
  have hb := B.bytes
  have hr := B.returns
  have hts := atoms_spec (ws := wsX3_serve) B.pre
  have hown : s.vm.findClass RX3 = some m.cls := findClass_of_methodNamed B.named
  have hlocks := B.notSynchronized
  subst hsz
  have hD := hD0.self (sz := s.heap.size)
  generalize hAe : va_A [((q 0), .inr (3, [.int fa, .int (nI nc), .ref (q 1), .int (nI nt), .ref (q 2), .ref (q 3), .ref (q 4), .ref (q 5), .int ea, .int (nI ra), .int (nI rs), .int (nI rt), .ref (q 6), .ref (q 7), .ref (q 8), .ref (q 9), .ref (q 10), .ref (q 11), .int (nI nr), .ref (q 12), .ref (q 13), .ref (q 14), .ref (q 15), .ref (q 16), .ref (q 17), .int tr]))] s.heap.size = A at hD ⊢
  have hA : ∀ q : Nat, s.heap.size ≤ q → A q := fun q h => by rw [← hAe]; exact Or.inr h
  have hS : va_S A s.heap s.heap [] := va_S.rf
  have fl_78 := hts (.fieldLink RX3 78 "TableWarModel" "things" "I") (by decide +kernel)
  have hin_X3 := (show ∀ w ∈ u_ws RX3 TX3 26, w ∈ wsX3_serve from by decide +kernel)
  have fl_129 := hts (.fieldLink RX3 129 "TableWarModel" "eaten" "I") (by decide +kernel)
  have hl := lv_entry ([.ref (q 0)]) (n := 2) (Nat.le_of_ble_eq_true rfl)
  rw [lg_entry_eq]
  generalize (lg_sl ([.ref (q 0)]) ++ List.replicate (2 - (lg_sl ([.ref (q 0)])).length) Slot.unset).toArray = ls at hl ⊢
  have hl : lv_has ls 2 [(0, .ref (q 0))] := hl
  refine lv_aload_n hx hb dX3_serve_0 rfl (lv_at hl 0 rfl) ?_
  refine va_get (ci := 3) (v := .int (nI nt)) (C := RX3) (T := TX3) (N := 26) hx hb hts hin_X3 hown hK hP 0 rfl rfl 3 (by decide) fl_78 (fun _ h9 => h9) rfl dX3_serve_1 ?_
  refine lv_if_ne (tgt := 10) hx hb dX3_serve_4 (by decide) (fun c_4 => ?_) (fun c_4 => ?_)
  · refine lv_aload_n hx hb dX3_serve_10 rfl (lv_at hl 0 rfl) ?_
    refine va_get (ci := 3) (v := .int ea) (C := RX3) (T := TX3) (N := 26) hx hb hts hin_X3 hown hK hP 0 rfl rfl 8 (by decide) fl_129 (fun _ h9 => h9) rfl dX3_serve_11 ?_
    refine tw_cs (va_runS (As := [.int ea]) (rest := []) ⟨hx, hb, hml, hown, hts⟩ (c_X3_bits l D cI cS ea) (va_cwS 1 hts gX3_serve_X3_bits rfl rfl rfl (by decide +kernel) ⟨Nat.le_of_ble_eq_true rfl, Nat.le_of_ble_eq_true rfl⟩) ⟨tw_Rb, tw_Rp (hP.sub (ws' := []) [] rfl) hK⟩ rfl rfl hl.1 rfl (lv_room (Nat.le_of_ble_eq_true rfl)) dX3_serve_14 ⟨Nat.zero_le _, Nat.zero_le _⟩) ?_
    refine lv_istore_n (lv' := [(1, .int (m_X3_bits ea)), (0, .ref (q 0))]) hx hb dX3_serve_17 rfl hl (by decide) rfl (fun ls hl => ?_)
    refine lv_aload_n hx hb dX3_serve_18 rfl (lv_at hl 1 rfl) ?_
    refine lv_iconst (v := 0) hx hb dX3_serve_19 (by decide) ?_
    refine va_put (ci := 3) (v := .int 0) (ty := .int) (C := RX3) (T := TX3) (N := 26) hx hb hts hin_X3 tyX3 tyX3_ok nmX3 hown hK hP hD hS 0 rfl rfl 8 (by decide) fl_129 (fun _ h9 => h9) rfl (by decide +kernel) rfl rfl (Nat.le_of_ble_eq_true rfl) dX3_serve_20 (fun H locs hP hD hS => ?_)
    have hP : va_P D vwCl [((q 0), .inr (3, [.int fa, .int (nI nc), .ref (q 1), .int (nI nt), .ref (q 2), .ref (q 3), .ref (q 4), .ref (q 5), .int 0, .int (nI ra), .int (nI rs), .int (nI rt), .ref (q 6), .ref (q 7), .ref (q 8), .ref (q 9), .ref (q 10), .ref (q 11), .int (nI nr), .ref (q 12), .ref (q 13), .ref (q 14), .ref (q 15), .ref (q 16), .ref (q 17), .int tr]))] H := hP
    have hD : va_D A [((q 0), .inr (3, [.int fa, .int (nI nc), .ref (q 1), .int (nI nt), .ref (q 2), .ref (q 3), .ref (q 4), .ref (q 5), .int 0, .int (nI ra), .int (nI rs), .int (nI rt), .ref (q 6), .ref (q 7), .ref (q 8), .ref (q 9), .ref (q 10), .ref (q 11), .int (nI nr), .ref (q 12), .ref (q 13), .ref (q 14), .ref (q 15), .ref (q 16), .ref (q 17), .int tr]))] := hD
    refine lv_iload_n hx hb dX3_serve_23 rfl (lv_at hl 0 rfl) ?_
    have hE : (m_X3_serve nt ea) = ((m_X3_bits ea), 0) := Eq.symm (by (unfold m_X3_serve; rw [if_neg c_4]) <;> rfl)
    rw [hE]
    exact W.iret hx hb hr (fun t ht hW => ⟨⟨_, (), rfl, rfl, by rw [ht]; exact hP, va_K.moved hW.alike hK, hD⟩, hS.F ht⟩) hS.2.2 dX3_serve_24
  · refine lv_bipush (v := (-3)) hx hb dX3_serve_7 (by decide) ?_
    have hE : (m_X3_serve nt ea) = ((-3), ea) := Eq.symm (by (unfold m_X3_serve; rw [if_pos c_4]) <;> rfl)
    rw [hE]
    exact W.iret hx hb hr (fun t ht hW => ⟨⟨_, (), rfl, rfl, by rw [ht]; exact hP, va_K.moved hW.alike hK, hD⟩, hS.F ht⟩) hS.2.2 dX3_serve_9
