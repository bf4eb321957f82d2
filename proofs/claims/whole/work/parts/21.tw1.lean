def m_X2_isHouse (v0 : Int32) : Int32 :=
  (if v0 = 0 then 1 else (if v0 = 1 then 1 else 0))
set_option maxHeartbeats 4000000 in
set_option maxRecDepth 100000 in
theorem c_X2_isHouse (l : Launch) (D : va_G) (cI cS : ClassId)  (v0 : Int32)  : Met l yX2_isHouse wsX2_isHouse ({ frames := 0, cells := 0, slots := 0, locals := 0 }) (tw_R D cI cS [.int v0] []) (vp_Si (fun r => r = (m_X2_isHouse v0))) 0 0 (fun _ => False) := by
  refine Met.ofW (cc := cX2_isHouse) (maxL := 1) (ret := (some .boolean)) (by decide) rfl ?_
  intro p e s m args below meth c s₁ B hml hv
  obtain ⟨rfl, hP, hK⟩ := hv
  have hx := B.exec
  have hb := B.bytes
  have hr := B.returns
  have hts := atoms_spec (ws := wsX2_isHouse) B.pre
  have hown : s.vm.findClass RX2 = some m.cls := findClass_of_methodNamed B.named
  have hlocks := B.notSynchronized
  have hl := lv_entry ([.int v0]) (n := 1) (Nat.le_of_ble_eq_true rfl)
  rw [lg_entry_eq]
  generalize (lg_sl ([.int v0]) ++ List.replicate (1 - (lg_sl ([.int v0])).length) Slot.unset).toArray = ls at hl ⊢
  have hl : lv_has ls 1 [(0, .int v0)] := hl
  refine lv_iload_n hx hb dX2_isHouse_0 rfl (lv_at hl 0 rfl) ?_
  refine tw_join (fun (y : Int32) => F0 m 14 ls (.int y :: [])) (if v0 = 0 then 1 else (if v0 = 1 then 1 else 0)) ?_ (fun J14_0 => ?_)
  · intro y14 hy14
    exact W.zret (ty := .boolean) hx hb hr (by rw [hy14]; (repeat' split) <;> rfl) (fun t ht _ => ⟨_, rfl, (by (unfold m_X2_isHouse; (try rw [← hy14])) <;> rfl), ht⟩) (fun _ h => nomatch h) dX2_isHouse_14
  · refine lv_if_eq (tgt := 9) hx hb dX2_isHouse_1 (by decide) (fun c_1 => ?_) (fun c_1 => ?_)
    · refine lv_iconst (v := 1) hx hb dX2_isHouse_9 (by decide) ?_
      refine lv_goto (tgt := 14) hx hb dX2_isHouse_10 (by decide) ?_
      exact J14_0 _ (by (rw [if_pos c_1]) <;> rfl)
    · refine lv_iload_n hx hb dX2_isHouse_4 rfl (lv_at hl 0 rfl) ?_
      refine lv_iconst (v := 1) hx hb dX2_isHouse_5 (by decide) ?_
      refine lv_icmp_ne (tgt := 13) hx hb dX2_isHouse_6 (by decide) (fun c_6 => ?_) (fun c_6 => ?_)
      · refine lv_iconst (v := 0) hx hb dX2_isHouse_13 (by decide) ?_
        exact J14_0 _ (by (rw [if_neg c_1]; rw [if_neg c_6]) <;> rfl)
      · refine lv_iconst (v := 1) hx hb dX2_isHouse_9 (by decide) ?_
        refine lv_goto (tgt := 14) hx hb dX2_isHouse_10 (by decide) ?_
        exact J14_0 _ (by (rw [if_neg c_1]; rw [if_pos c_6]) <;> rfl)

def m_X2_isAct (v0 : Int32) : Int32 :=
  (if v0 < 0 then 0 else (if 3 ≤ v0 then 0 else 1))
set_option maxHeartbeats 4000000 in
set_option maxRecDepth 100000 in
theorem c_X2_isAct (l : Launch) (D : va_G) (cI cS : ClassId)  (v0 : Int32)  : Met l yX2_isAct wsX2_isAct ({ frames := 0, cells := 0, slots := 0, locals := 0 }) (tw_R D cI cS [.int v0] []) (vp_Si (fun r => r = (m_X2_isAct v0))) 0 0 (fun _ => False) := by
  refine Met.ofW (cc := cX2_isAct) (maxL := 1) (ret := (some .boolean)) (by decide) rfl ?_
  intro p e s m args below meth c s₁ B hml hv
  obtain ⟨rfl, hP, hK⟩ := hv
  have hx := B.exec
  have hb := B.bytes
  have hr := B.returns
  have hts := atoms_spec (ws := wsX2_isAct) B.pre
  have hown : s.vm.findClass RX2 = some m.cls := findClass_of_methodNamed B.named
  have hlocks := B.notSynchronized
  have hl := lv_entry ([.int v0]) (n := 1) (Nat.le_of_ble_eq_true rfl)
  rw [lg_entry_eq]
  generalize (lg_sl ([.int v0]) ++ List.replicate (1 - (lg_sl ([.int v0])).length) Slot.unset).toArray = ls at hl ⊢
  have hl : lv_has ls 1 [(0, .int v0)] := hl
  refine lv_iload_n hx hb dX2_isAct_0 rfl (lv_at hl 0 rfl) ?_
  refine tw_join (fun (y : Int32) => F0 m 14 ls (.int y :: [])) (if v0 < 0 then 0 else (if 3 ≤ v0 then 0 else 1)) ?_ (fun J14_0 => ?_)
  · intro y14 hy14
    exact W.zret (ty := .boolean) hx hb hr (by rw [hy14]; (repeat' split) <;> rfl) (fun t ht _ => ⟨_, rfl, (by (unfold m_X2_isAct; (try rw [← hy14])) <;> rfl), ht⟩) (fun _ h => nomatch h) dX2_isAct_14
  · refine lv_if_lt (tgt := 13) hx hb dX2_isAct_1 (by decide) (fun c_1 => ?_) (fun c_1 => ?_)
    · refine lv_iconst (v := 0) hx hb dX2_isAct_13 (by decide) ?_
      exact J14_0 _ (by (rw [if_pos c_1]) <;> rfl)
    · refine lv_iload_n hx hb dX2_isAct_4 rfl (lv_at hl 0 rfl) ?_
      refine lv_iconst (v := 3) hx hb dX2_isAct_5 (by decide) ?_
      refine lv_icmp_ge (tgt := 13) hx hb dX2_isAct_6 (by decide) (fun c_6 => ?_) (fun c_6 => ?_)
      · refine lv_iconst (v := 0) hx hb dX2_isAct_13 (by decide) ?_
        exact J14_0 _ (by (rw [if_neg c_1]; rw [if_pos c_6]) <;> rfl)
      · refine lv_iconst (v := 1) hx hb dX2_isAct_9 (by decide) ?_
        refine lv_goto (tgt := 14) hx hb dX2_isAct_10 (by decide) ?_
        exact J14_0 _ (by (rw [if_neg c_1]; rw [if_neg c_6]) <;> rfl)

def m_X2_isSheet (v0 : Int32) : Int32 :=
  (if v0 < 0 then 0 else (if 4 ≤ v0 then 0 else 1))
set_option maxHeartbeats 4000000 in
set_option maxRecDepth 100000 in
theorem c_X2_isSheet (l : Launch) (D : va_G) (cI cS : ClassId)  (v0 : Int32)  : Met l yX2_isSheet wsX2_isSheet ({ frames := 0, cells := 0, slots := 0, locals := 0 }) (tw_R D cI cS [.int v0] []) (vp_Si (fun r => r = (m_X2_isSheet v0))) 0 0 (fun _ => False) := by
  refine Met.ofW (cc := cX2_isSheet) (maxL := 1) (ret := (some .boolean)) (by decide) rfl ?_
  intro p e s m args below meth c s₁ B hml hv
  obtain ⟨rfl, hP, hK⟩ := hv
  have hx := B.exec
  have hb := B.bytes
  have hr := B.returns
  have hts := atoms_spec (ws := wsX2_isSheet) B.pre
  have hown : s.vm.findClass RX2 = some m.cls := findClass_of_methodNamed B.named
  have hlocks := B.notSynchronized
  have hl := lv_entry ([.int v0]) (n := 1) (Nat.le_of_ble_eq_true rfl)
  rw [lg_entry_eq]
  generalize (lg_sl ([.int v0]) ++ List.replicate (1 - (lg_sl ([.int v0])).length) Slot.unset).toArray = ls at hl ⊢
  have hl : lv_has ls 1 [(0, .int v0)] := hl
  refine lv_iload_n hx hb dX2_isSheet_0 rfl (lv_at hl 0 rfl) ?_
  refine tw_join (fun (y : Int32) => F0 m 14 ls (.int y :: [])) (if v0 < 0 then 0 else (if 4 ≤ v0 then 0 else 1)) ?_ (fun J14_0 => ?_)
  · intro y14 hy14
    exact W.zret (ty := .boolean) hx hb hr (by rw [hy14]; (repeat' split) <;> rfl) (fun t ht _ => ⟨_, rfl, (by (unfold m_X2_isSheet; (try rw [← hy14])) <;> rfl), ht⟩) (fun _ h => nomatch h) dX2_isSheet_14
  · refine lv_if_lt (tgt := 13) hx hb dX2_isSheet_1 (by decide) (fun c_1 => ?_) (fun c_1 => ?_)
    · refine lv_iconst (v := 0) hx hb dX2_isSheet_13 (by decide) ?_
      exact J14_0 _ (by (rw [if_pos c_1]) <;> rfl)
    · refine lv_iload_n hx hb dX2_isSheet_4 rfl (lv_at hl 0 rfl) ?_
      refine lv_iconst (v := 4) hx hb dX2_isSheet_5 (by decide) ?_
      refine lv_icmp_ge (tgt := 13) hx hb dX2_isSheet_6 (by decide) (fun c_6 => ?_) (fun c_6 => ?_)
      · refine lv_iconst (v := 0) hx hb dX2_isSheet_13 (by decide) ?_
        exact J14_0 _ (by (rw [if_neg c_1]; rw [if_pos c_6]) <;> rfl)
      · refine lv_iconst (v := 1) hx hb dX2_isSheet_9 (by decide) ?_
        refine lv_goto (tgt := 14) hx hb dX2_isSheet_10 (by decide) ?_
        exact J14_0 _ (by (rw [if_neg c_1]; rw [if_neg c_6]) <;> rfl)

def m_X2_isLane (v0 : Int32) : Int32 :=
  (if v0 < 0 then 0 else (if 3 ≤ v0 then 0 else 1))
set_option maxHeartbeats 4000000 in
set_option maxRecDepth 100000 in
theorem c_X2_isLane (l : Launch) (D : va_G) (cI cS : ClassId)  (v0 : Int32)  : Met l yX2_isLane wsX2_isLane ({ frames := 0, cells := 0, slots := 0, locals := 0 }) (tw_R D cI cS [.int v0] []) (vp_Si (fun r => r = (m_X2_isLane v0))) 0 0 (fun _ => False) := by
  refine Met.ofW (cc := cX2_isLane) (maxL := 1) (ret := (some .boolean)) (by decide) rfl ?_
  intro p e s m args below meth c s₁ B hml hv
  obtain ⟨rfl, hP, hK⟩ := hv
  have hx := B.exec
  have hb := B.bytes
  have hr := B.returns
  have hts := atoms_spec (ws := wsX2_isLane) B.pre
  have hown : s.vm.findClass RX2 = some m.cls := findClass_of_methodNamed B.named
  have hlocks := B.notSynchronized
  have hl := lv_entry ([.int v0]) (n := 1) (Nat.le_of_ble_eq_true rfl)
  rw [lg_entry_eq]
  generalize (lg_sl ([.int v0]) ++ List.replicate (1 - (lg_sl ([.int v0])).length) Slot.unset).toArray = ls at hl ⊢
  have hl : lv_has ls 1 [(0, .int v0)] := hl
  refine lv_iload_n hx hb dX2_isLane_0 rfl (lv_at hl 0 rfl) ?_
  refine tw_join (fun (y : Int32) => F0 m 14 ls (.int y :: [])) (if v0 < 0 then 0 else (if 3 ≤ v0 then 0 else 1)) ?_ (fun J14_0 => ?_)
  · intro y14 hy14
    exact W.zret (ty := .boolean) hx hb hr (by rw [hy14]; (repeat' split) <;> rfl) (fun t ht _ => ⟨_, rfl, (by (unfold m_X2_isLane; (try rw [← hy14])) <;> rfl), ht⟩) (fun _ h => nomatch h) dX2_isLane_14
  · refine lv_if_lt (tgt := 13) hx hb dX2_isLane_1 (by decide) (fun c_1 => ?_) (fun c_1 => ?_)
    · refine lv_iconst (v := 0) hx hb dX2_isLane_13 (by decide) ?_
      exact J14_0 _ (by (rw [if_pos c_1]) <;> rfl)
    · refine lv_iload_n hx hb dX2_isLane_4 rfl (lv_at hl 0 rfl) ?_
      refine lv_iconst (v := 3) hx hb dX2_isLane_5 (by decide) ?_
      refine lv_icmp_ge (tgt := 13) hx hb dX2_isLane_6 (by decide) (fun c_6 => ?_) (fun c_6 => ?_)
      · refine lv_iconst (v := 0) hx hb dX2_isLane_13 (by decide) ?_
        exact J14_0 _ (by (rw [if_neg c_1]; rw [if_pos c_6]) <;> rfl)
      · refine lv_iconst (v := 1) hx hb dX2_isLane_9 (by decide) ?_
        refine lv_goto (tgt := 14) hx hb dX2_isLane_10 (by decide) ?_
        exact J14_0 _ (by (rw [if_neg c_1]; rw [if_neg c_6]) <;> rfl)

def m_X2_isDinnerQuestion (v0 : Int32) : Int32 :=
  (if v0 < 0 then (if v0 < 10 then (if v0 < 20 then 0 else (if 26 ≤ v0 then 0 else 1)) else (if v0 < 16 then 1 else (if v0 < 20 then 0 else (if 26 ≤ v0 then 0 else 1)))) else (if v0 ≤ 3 then 1 else (if v0 < 10 then (if v0 < 20 then 0 else (if 26 ≤ v0 then 0 else 1)) else (if v0 < 16 then 1 else (if v0 < 20 then 0 else (if 26 ≤ v0 then 0 else 1))))))
set_option maxHeartbeats 4000000 in
set_option maxRecDepth 100000 in
theorem c_X2_isDinnerQuestion (l : Launch) (D : va_G) (cI cS : ClassId)  (v0 : Int32)  : Met l yX2_isDinnerQuestion wsX2_isDinnerQuestion ({ frames := 0, cells := 0, slots := 0, locals := 0 }) (tw_R D cI cS [.int v0] []) (vp_Si (fun r => r = (m_X2_isDinnerQuestion v0))) 0 0 (fun _ => False) := by
  refine Met.ofW (cc := cX2_isDinnerQuestion) (maxL := 1) (ret := (some .boolean)) (by decide) rfl ?_
  intro p e s m args below meth c s₁ B hml hv
  obtain ⟨rfl, hP, hK⟩ := hv
  have hx := B.exec
  have hb := B.bytes
  have hr := B.returns
  have hts := atoms_spec (ws := wsX2_isDinnerQuestion) B.pre
  have hown : s.vm.findClass RX2 = some m.cls := findClass_of_methodNamed B.named
  have hlocks := B.notSynchronized
  have hl := lv_entry ([.int v0]) (n := 1) (Nat.le_of_ble_eq_true rfl)
  rw [lg_entry_eq]
  generalize (lg_sl ([.int v0]) ++ List.replicate (1 - (lg_sl ([.int v0])).length) Slot.unset).toArray = ls at hl ⊢
  have hl : lv_has ls 1 [(0, .int v0)] := hl
  refine lv_iload_n hx hb dX2_isDinnerQuestion_0 rfl (lv_at hl 0 rfl) ?_
  refine tw_join (fun (y : Int32) => F0 m 38 ls (.int y :: [])) (if v0 < 0 then (if v0 < 10 then (if v0 < 20 then 0 else (if 26 ≤ v0 then 0 else 1)) else (if v0 < 16 then 1 else (if v0 < 20 then 0 else (if 26 ≤ v0 then 0 else 1)))) else (if v0 ≤ 3 then 1 else (if v0 < 10 then (if v0 < 20 then 0 else (if 26 ≤ v0 then 0 else 1)) else (if v0 < 16 then 1 else (if v0 < 20 then 0 else (if 26 ≤ v0 then 0 else 1)))))) ?_ (fun J38_0 => ?_)
  · intro y38 hy38
    exact W.zret (ty := .boolean) hx hb hr (by rw [hy38]; (repeat' split) <;> rfl) (fun t ht _ => ⟨_, rfl, (by (unfold m_X2_isDinnerQuestion; (try rw [← hy38])) <;> rfl), ht⟩) (fun _ h => nomatch h) dX2_isDinnerQuestion_38
  · refine lv_if_lt (tgt := 9) hx hb dX2_isDinnerQuestion_1 (by decide) (fun c_1 => ?_) (fun c_1 => ?_)
    · refine lv_iload_n hx hb dX2_isDinnerQuestion_9 rfl (lv_at hl 0 rfl) ?_
      refine lv_bipush (v := 10) hx hb dX2_isDinnerQuestion_10 (by decide) ?_
      refine lv_icmp_lt (tgt := 21) hx hb dX2_isDinnerQuestion_12 (by decide) (fun c_12 => ?_) (fun c_12 => ?_)
      · refine lv_iload_n hx hb dX2_isDinnerQuestion_21 rfl (lv_at hl 0 rfl) ?_
        refine lv_bipush (v := 20) hx hb dX2_isDinnerQuestion_22 (by decide) ?_
        refine lv_icmp_lt (tgt := 37) hx hb dX2_isDinnerQuestion_24 (by decide) (fun c_24 => ?_) (fun c_24 => ?_)
        · refine lv_iconst (v := 0) hx hb dX2_isDinnerQuestion_37 (by decide) ?_
          exact J38_0 _ (by (rw [if_pos c_1]; rw [if_pos c_12]; rw [if_pos c_24]) <;> rfl)
        · refine lv_iload_n hx hb dX2_isDinnerQuestion_27 rfl (lv_at hl 0 rfl) ?_
          refine lv_bipush (v := 26) hx hb dX2_isDinnerQuestion_28 (by decide) ?_
          refine lv_icmp_ge (tgt := 37) hx hb dX2_isDinnerQuestion_30 (by decide) (fun c_30 => ?_) (fun c_30 => ?_)
          · refine lv_iconst (v := 0) hx hb dX2_isDinnerQuestion_37 (by decide) ?_
            exact J38_0 _ (by (rw [if_pos c_1]; rw [if_pos c_12]; rw [if_neg c_24]; rw [if_pos c_30]) <;> rfl)
          · refine lv_iconst (v := 1) hx hb dX2_isDinnerQuestion_33 (by decide) ?_
            refine lv_goto (tgt := 38) hx hb dX2_isDinnerQuestion_34 (by decide) ?_
            exact J38_0 _ (by (rw [if_pos c_1]; rw [if_pos c_12]; rw [if_neg c_24]; rw [if_neg c_30]) <;> rfl)
      · refine lv_iload_n hx hb dX2_isDinnerQuestion_15 rfl (lv_at hl 0 rfl) ?_
        refine lv_bipush (v := 16) hx hb dX2_isDinnerQuestion_16 (by decide) ?_
        refine lv_icmp_lt (tgt := 33) hx hb dX2_isDinnerQuestion_18 (by decide) (fun c_18 => ?_) (fun c_18 => ?_)
        · refine lv_iconst (v := 1) hx hb dX2_isDinnerQuestion_33 (by decide) ?_
          refine lv_goto (tgt := 38) hx hb dX2_isDinnerQuestion_34 (by decide) ?_
          exact J38_0 _ (by (rw [if_pos c_1]; rw [if_neg c_12]; rw [if_pos c_18]) <;> rfl)
        · refine lv_iload_n hx hb dX2_isDinnerQuestion_21 rfl (lv_at hl 0 rfl) ?_
          refine lv_bipush (v := 20) hx hb dX2_isDinnerQuestion_22 (by decide) ?_
          refine lv_icmp_lt (tgt := 37) hx hb dX2_isDinnerQuestion_24 (by decide) (fun c_24 => ?_) (fun c_24 => ?_)
          · refine lv_iconst (v := 0) hx hb dX2_isDinnerQuestion_37 (by decide) ?_
            exact J38_0 _ (by (rw [if_pos c_1]; rw [if_neg c_12]; rw [if_neg c_18]; rw [if_pos c_24]) <;> rfl)
          · refine lv_iload_n hx hb dX2_isDinnerQuestion_27 rfl (lv_at hl 0 rfl) ?_
            refine lv_bipush (v := 26) hx hb dX2_isDinnerQuestion_28 (by decide) ?_
            refine lv_icmp_ge (tgt := 37) hx hb dX2_isDinnerQuestion_30 (by decide) (fun c_30 => ?_) (fun c_30 => ?_)
            · refine lv_iconst (v := 0) hx hb dX2_isDinnerQuestion_37 (by decide) ?_
              exact J38_0 _ (by (rw [if_pos c_1]; rw [if_neg c_12]; rw [if_neg c_18]; rw [if_neg c_24]; rw [if_pos c_30]) <;> rfl)
            · refine lv_iconst (v := 1) hx hb dX2_isDinnerQuestion_33 (by decide) ?_
              refine lv_goto (tgt := 38) hx hb dX2_isDinnerQuestion_34 (by decide) ?_
              exact J38_0 _ (by (rw [if_pos c_1]; rw [if_neg c_12]; rw [if_neg c_18]; rw [if_neg c_24]; rw [if_neg c_30]) <;> rfl)
    · refine lv_iload_n hx hb dX2_isDinnerQuestion_4 rfl (lv_at hl 0 rfl) ?_
      refine lv_iconst (v := 3) hx hb dX2_isDinnerQuestion_5 (by decide) ?_
      refine lv_icmp_le (tgt := 33) hx hb dX2_isDinnerQuestion_6 (by decide) (fun c_6 => ?_) (fun c_6 => ?_)
      · refine lv_iconst (v := 1) hx hb dX2_isDinnerQuestion_33 (by decide) ?_
        refine lv_goto (tgt := 38) hx hb dX2_isDinnerQuestion_34 (by decide) ?_
        exact J38_0 _ (by (rw [if_neg c_1]; rw [if_pos c_6]) <;> rfl)
      · refine lv_iload_n hx hb dX2_isDinnerQuestion_9 rfl (lv_at hl 0 rfl) ?_
        refine lv_bipush (v := 10) hx hb dX2_isDinnerQuestion_10 (by decide) ?_
        refine lv_icmp_lt (tgt := 21) hx hb dX2_isDinnerQuestion_12 (by decide) (fun c_12 => ?_) (fun c_12 => ?_)
        · refine lv_iload_n hx hb dX2_isDinnerQuestion_21 rfl (lv_at hl 0 rfl) ?_
          refine lv_bipush (v := 20) hx hb dX2_isDinnerQuestion_22 (by decide) ?_
          refine lv_icmp_lt (tgt := 37) hx hb dX2_isDinnerQuestion_24 (by decide) (fun c_24 => ?_) (fun c_24 => ?_)
          · refine lv_iconst (v := 0) hx hb dX2_isDinnerQuestion_37 (by decide) ?_
            exact J38_0 _ (by (rw [if_neg c_1]; rw [if_neg c_6]; rw [if_pos c_12]; rw [if_pos c_24]) <;> rfl)
          · refine lv_iload_n hx hb dX2_isDinnerQuestion_27 rfl (lv_at hl 0 rfl) ?_
            refine lv_bipush (v := 26) hx hb dX2_isDinnerQuestion_28 (by decide) ?_
            refine lv_icmp_ge (tgt := 37) hx hb dX2_isDinnerQuestion_30 (by decide) (fun c_30 => ?_) (fun c_30 => ?_)
            · refine lv_iconst (v := 0) hx hb dX2_isDinnerQuestion_37 (by decide) ?_
              exact J38_0 _ (by (rw [if_neg c_1]; rw [if_neg c_6]; rw [if_pos c_12]; rw [if_neg c_24]; rw [if_pos c_30]) <;> rfl)
            · refine lv_iconst (v := 1) hx hb dX2_isDinnerQuestion_33 (by decide) ?_
              refine lv_goto (tgt := 38) hx hb dX2_isDinnerQuestion_34 (by decide) ?_
              exact J38_0 _ (by (rw [if_neg c_1]; rw [if_neg c_6]; rw [if_pos c_12]; rw [if_neg c_24]; rw [if_neg c_30]) <;> rfl)
        · refine lv_iload_n hx hb dX2_isDinnerQuestion_15 rfl (lv_at hl 0 rfl) ?_
          refine lv_bipush (v := 16) hx hb dX2_isDinnerQuestion_16 (by decide) ?_
          refine lv_icmp_lt (tgt := 33) hx hb dX2_isDinnerQuestion_18 (by decide) (fun c_18 => ?_) (fun c_18 => ?_)
          · refine lv_iconst (v := 1) hx hb dX2_isDinnerQuestion_33 (by decide) ?_
            refine lv_goto (tgt := 38) hx hb dX2_isDinnerQuestion_34 (by decide) ?_
            exact J38_0 _ (by (rw [if_neg c_1]; rw [if_neg c_6]; rw [if_neg c_12]; rw [if_pos c_18]) <;> rfl)
          · refine lv_iload_n hx hb dX2_isDinnerQuestion_21 rfl (lv_at hl 0 rfl) ?_
            refine lv_bipush (v := 20) hx hb dX2_isDinnerQuestion_22 (by decide) ?_
            refine lv_icmp_lt (tgt := 37) hx hb dX2_isDinnerQuestion_24 (by decide) (fun c_24 => ?_) (fun c_24 => ?_)
            · refine lv_iconst (v := 0) hx hb dX2_isDinnerQuestion_37 (by decide) ?_
              exact J38_0 _ (by (rw [if_neg c_1]; rw [if_neg c_6]; rw [if_neg c_12]; rw [if_neg c_18]; rw [if_pos c_24]) <;> rfl)
            · refine lv_iload_n hx hb dX2_isDinnerQuestion_27 rfl (lv_at hl 0 rfl) ?_
              refine lv_bipush (v := 26) hx hb dX2_isDinnerQuestion_28 (by decide) ?_
              refine lv_icmp_ge (tgt := 37) hx hb dX2_isDinnerQuestion_30 (by decide) (fun c_30 => ?_) (fun c_30 => ?_)
              · refine lv_iconst (v := 0) hx hb dX2_isDinnerQuestion_37 (by decide) ?_
                exact J38_0 _ (by (rw [if_neg c_1]; rw [if_neg c_6]; rw [if_neg c_12]; rw [if_neg c_18]; rw [if_neg c_24]; rw [if_pos c_30]) <;> rfl)
              · refine lv_iconst (v := 1) hx hb dX2_isDinnerQuestion_33 (by decide) ?_
                refine lv_goto (tgt := 38) hx hb dX2_isDinnerQuestion_34 (by decide) ?_
                exact J38_0 _ (by (rw [if_neg c_1]; rw [if_neg c_6]; rw [if_neg c_12]; rw [if_neg c_18]; rw [if_neg c_24]; rw [if_neg c_30]) <;> rfl)

def m_X2_hasTable (nt : Nat) : Int32 :=
  (if (nI nt) ≤ 0 then 0 else 1)
set_option maxHeartbeats 4000000 in
set_option maxRecDepth 100000 in
theorem c_X2_hasTable (l : Launch) (D : va_G) (cI cS : ClassId) (q : Nat → Nat) (nc : Nat) (nt : Nat) (ea : Int32) (nr : Nat) (tr : Int32) (lf : Int32)  : Met l yX2_hasTable wsX2_hasTable ({ frames := 0, cells := 0, slots := 0, locals := 0 }) (tw_R D cI cS [.ref (q 0)] [((q 0), .inr (2, [.ref (q 1), .ref (q 7), .ref (q 13), .ref (q 22), .ref (q 23), .int (nI nr), .int tr, .int lf])), ((q 1), .inr (0, [.ref (q 2), .ref (q 3), .ref (q 4), .ref (q 5), .ref (q 6), .int (nI nc), .int (nI nt), .int ea]))]) (vp_Si (fun r => r = (m_X2_hasTable nt))) 0 0 (fun _ => False) := by
  refine Met.ofW (cc := cX2_hasTable) (maxL := 1) (ret := (some .boolean)) (by decide) rfl ?_
  intro p e s m args below meth c s₁ B hml hv
  obtain ⟨rfl, hP, hK⟩ := hv
  have hx := B.exec
  have hb := B.bytes
  have hr := B.returns
  have hts := atoms_spec (ws := wsX2_hasTable) B.pre
  have hown : s.vm.findClass RX2 = some m.cls := findClass_of_methodNamed B.named
  have hlocks := B.notSynchronized
  have fl_14 := hts (.fieldLink RX2 14 "TableWar" "cloth" "LTableWar$Cloth;") (by decide +kernel)
  have hin_X2 := (show ∀ w ∈ u_ws RX2 TX2 8, w ∈ wsX2_hasTable from by decide +kernel)
  have fl_65 := hts (.fieldLink RX2 65 "TableWar$Cloth" "things" "I") (by decide +kernel)
  have hin_X0 := (show ∀ w ∈ u_ws RX0 TX0 8, w ∈ wsX2_hasTable from by decide +kernel)
  have hl := lv_entry ([.ref (q 0)]) (n := 1) (Nat.le_of_ble_eq_true rfl)
  rw [lg_entry_eq]
  generalize (lg_sl ([.ref (q 0)]) ++ List.replicate (1 - (lg_sl ([.ref (q 0)])).length) Slot.unset).toArray = ls at hl ⊢
  have hl : lv_has ls 1 [(0, .ref (q 0))] := hl
  refine lv_aload_n hx hb dX2_hasTable_0 rfl (lv_at hl 0 rfl) ?_
  refine va_get (ci := 2) (v := .ref (q 1)) (C := RX2) (T := TX2) (N := 8) hx hb hts hin_X2 hown hK hP 0 rfl rfl 0 (by decide) fl_14 (fun _ h9 => h9) rfl dX2_hasTable_1 ?_
  refine va_get (ci := 0) (v := .int (nI nt)) (C := RX0) (T := TX0) (N := 8) hx hb hts hin_X0 hown hK hP 1 rfl rfl 6 (by decide) fl_65 (fun _ h9 => h9) rfl dX2_hasTable_4 ?_
  refine tw_join (fun (y : Int32) => F0 m 15 ls (.int y :: [])) (if (nI nt) ≤ 0 then 0 else 1) ?_ (fun J15_0 => ?_)
  · intro y15 hy15
    exact W.zret (ty := .boolean) hx hb hr (by rw [hy15]; (repeat' split) <;> rfl) (fun t ht _ => ⟨_, rfl, (by (unfold m_X2_hasTable; (try rw [← hy15])) <;> rfl), ht⟩) (fun _ h => nomatch h) dX2_hasTable_15
  · refine lv_if_le (tgt := 14) hx hb dX2_hasTable_7 (by decide) (fun c_7 => ?_) (fun c_7 => ?_)
    · refine lv_iconst (v := 0) hx hb dX2_hasTable_14 (by decide) ?_
      exact J15_0 _ (by (rw [if_pos c_7]) <;> rfl)
    · refine lv_iconst (v := 1) hx hb dX2_hasTable_10 (by decide) ?_
      refine lv_goto (tgt := 15) hx hb dX2_hasTable_11 (by decide) ?_
      exact J15_0 _ (by (rw [if_neg c_7]) <;> rfl)

def m_X2_isThing (nt : Nat) (v1 : Int32) : Int32 :=
  (if v1 < 0 then 0 else (if (nI nt) ≤ v1 then 0 else 1))
set_option maxHeartbeats 4000000 in
set_option maxRecDepth 100000 in
theorem c_X2_isThing (l : Launch) (D : va_G) (cI cS : ClassId) (q : Nat → Nat) (nc : Nat) (nt : Nat) (ea : Int32) (nr : Nat) (tr : Int32) (lf : Int32) (v1 : Int32)  : Met l yX2_isThing wsX2_isThing ({ frames := 0, cells := 0, slots := 0, locals := 0 }) (tw_R D cI cS [.ref (q 0), .int v1] [((q 0), .inr (2, [.ref (q 1), .ref (q 7), .ref (q 13), .ref (q 22), .ref (q 23), .int (nI nr), .int tr, .int lf])), ((q 1), .inr (0, [.ref (q 2), .ref (q 3), .ref (q 4), .ref (q 5), .ref (q 6), .int (nI nc), .int (nI nt), .int ea]))]) (vp_Si (fun r => r = (m_X2_isThing nt v1))) 0 0 (fun _ => False) := by
  refine Met.ofW (cc := cX2_isThing) (maxL := 2) (ret := (some .boolean)) (by decide) rfl ?_
  intro p e s m args below meth c s₁ B hml hv
  obtain ⟨rfl, hP, hK⟩ := hv
  have hx := B.exec
  have hb := B.bytes
  have hr := B.returns
  have hts := atoms_spec (ws := wsX2_isThing) B.pre
  have hown : s.vm.findClass RX2 = some m.cls := findClass_of_methodNamed B.named
  have hlocks := B.notSynchronized
  have fl_14 := hts (.fieldLink RX2 14 "TableWar" "cloth" "LTableWar$Cloth;") (by decide +kernel)
  have hin_X2 := (show ∀ w ∈ u_ws RX2 TX2 8, w ∈ wsX2_isThing from by decide +kernel)
  have fl_65 := hts (.fieldLink RX2 65 "TableWar$Cloth" "things" "I") (by decide +kernel)
  have hin_X0 := (show ∀ w ∈ u_ws RX0 TX0 8, w ∈ wsX2_isThing from by decide +kernel)
  have hl := lv_entry ([.ref (q 0), .int v1]) (n := 2) (Nat.le_of_ble_eq_true rfl)
  rw [lg_entry_eq]
  generalize (lg_sl ([.ref (q 0), .int v1]) ++ List.replicate (2 - (lg_sl ([.ref (q 0), .int v1])).length) Slot.unset).toArray = ls at hl ⊢
  have hl : lv_has ls 2 [(0, .ref (q 0)), (1, .int v1)] := hl
  refine lv_iload_n hx hb dX2_isThing_0 rfl (lv_at hl 1 rfl) ?_
  refine tw_join (fun (y : Int32) => F0 m 20 ls (.int y :: [])) (if v1 < 0 then 0 else (if (nI nt) ≤ v1 then 0 else 1)) ?_ (fun J20_0 => ?_)
  · intro y20 hy20
    exact W.zret (ty := .boolean) hx hb hr (by rw [hy20]; (repeat' split) <;> rfl) (fun t ht _ => ⟨_, rfl, (by (unfold m_X2_isThing; (try rw [← hy20])) <;> rfl), ht⟩) (fun _ h => nomatch h) dX2_isThing_20
  · refine lv_if_lt (tgt := 19) hx hb dX2_isThing_1 (by decide) (fun c_1 => ?_) (fun c_1 => ?_)
    · refine lv_iconst (v := 0) hx hb dX2_isThing_19 (by decide) ?_
      exact J20_0 _ (by (rw [if_pos c_1]) <;> rfl)
    · refine lv_iload_n hx hb dX2_isThing_4 rfl (lv_at hl 1 rfl) ?_
      refine lv_aload_n hx hb dX2_isThing_5 rfl (lv_at hl 0 rfl) ?_
      refine va_get (ci := 2) (v := .ref (q 1)) (C := RX2) (T := TX2) (N := 8) hx hb hts hin_X2 hown hK hP 0 rfl rfl 0 (by decide) fl_14 (fun _ h9 => h9) rfl dX2_isThing_6 ?_
      refine va_get (ci := 0) (v := .int (nI nt)) (C := RX0) (T := TX0) (N := 8) hx hb hts hin_X0 hown hK hP 1 rfl rfl 6 (by decide) fl_65 (fun _ h9 => h9) rfl dX2_isThing_9 ?_
      refine lv_icmp_ge (tgt := 19) hx hb dX2_isThing_12 (by decide) (fun c_12 => ?_) (fun c_12 => ?_)
      · refine lv_iconst (v := 0) hx hb dX2_isThing_19 (by decide) ?_
        exact J20_0 _ (by (rw [if_neg c_1]; rw [if_pos c_12]) <;> rfl)
      · refine lv_iconst (v := 1) hx hb dX2_isThing_15 (by decide) ?_
        refine lv_goto (tgt := 20) hx hb dX2_isThing_16 (by decide) ?_
        exact J20_0 _ (by (rw [if_neg c_1]; rw [if_neg c_12]) <;> rfl)

def m_X2_isCell (nc : Nat) (v1 : Int32) : Int32 :=
  (if v1 < 0 then 0 else (if (nI nc) ≤ v1 then 0 else 1))
set_option maxHeartbeats 4000000 in
set_option maxRecDepth 100000 in
theorem c_X2_isCell (l : Launch) (D : va_G) (cI cS : ClassId) (q : Nat → Nat) (nc : Nat) (nt : Nat) (ea : Int32) (nr : Nat) (tr : Int32) (lf : Int32) (v1 : Int32)  : Met l yX2_isCell wsX2_isCell ({ frames := 0, cells := 0, slots := 0, locals := 0 }) (tw_R D cI cS [.ref (q 0), .int v1] [((q 0), .inr (2, [.ref (q 1), .ref (q 7), .ref (q 13), .ref (q 22), .ref (q 23), .int (nI nr), .int tr, .int lf])), ((q 1), .inr (0, [.ref (q 2), .ref (q 3), .ref (q 4), .ref (q 5), .ref (q 6), .int (nI nc), .int (nI nt), .int ea]))]) (vp_Si (fun r => r = (m_X2_isCell nc v1))) 0 0 (fun _ => False) := by
  refine Met.ofW (cc := cX2_isCell) (maxL := 2) (ret := (some .boolean)) (by decide) rfl ?_
  intro p e s m args below meth c s₁ B hml hv
  obtain ⟨rfl, hP, hK⟩ := hv
  have hx := B.exec
  have hb := B.bytes
  have hr := B.returns
  have hts := atoms_spec (ws := wsX2_isCell) B.pre
  have hown : s.vm.findClass RX2 = some m.cls := findClass_of_methodNamed B.named
  have hlocks := B.notSynchronized
  have fl_14 := hts (.fieldLink RX2 14 "TableWar" "cloth" "LTableWar$Cloth;") (by decide +kernel)
  have hin_X2 := (show ∀ w ∈ u_ws RX2 TX2 8, w ∈ wsX2_isCell from by decide +kernel)
  have fl_164 := hts (.fieldLink RX2 164 "TableWar$Cloth" "cells" "I") (by decide +kernel)
  have hin_X0 := (show ∀ w ∈ u_ws RX0 TX0 8, w ∈ wsX2_isCell from by decide +kernel)
  have hl := lv_entry ([.ref (q 0), .int v1]) (n := 2) (Nat.le_of_ble_eq_true rfl)
  rw [lg_entry_eq]
  generalize (lg_sl ([.ref (q 0), .int v1]) ++ List.replicate (2 - (lg_sl ([.ref (q 0), .int v1])).length) Slot.unset).toArray = ls at hl ⊢
  have hl : lv_has ls 2 [(0, .ref (q 0)), (1, .int v1)] := hl
  refine lv_iload_n hx hb dX2_isCell_0 rfl (lv_at hl 1 rfl) ?_
  refine tw_join (fun (y : Int32) => F0 m 20 ls (.int y :: [])) (if v1 < 0 then 0 else (if (nI nc) ≤ v1 then 0 else 1)) ?_ (fun J20_0 => ?_)
  · intro y20 hy20
    exact W.zret (ty := .boolean) hx hb hr (by rw [hy20]; (repeat' split) <;> rfl) (fun t ht _ => ⟨_, rfl, (by (unfold m_X2_isCell; (try rw [← hy20])) <;> rfl), ht⟩) (fun _ h => nomatch h) dX2_isCell_20
  · refine lv_if_lt (tgt := 19) hx hb dX2_isCell_1 (by decide) (fun c_1 => ?_) (fun c_1 => ?_)
    · refine lv_iconst (v := 0) hx hb dX2_isCell_19 (by decide) ?_
      exact J20_0 _ (by (rw [if_pos c_1]) <;> rfl)
    · refine lv_iload_n hx hb dX2_isCell_4 rfl (lv_at hl 1 rfl) ?_
      refine lv_aload_n hx hb dX2_isCell_5 rfl (lv_at hl 0 rfl) ?_
      refine va_get (ci := 2) (v := .ref (q 1)) (C := RX2) (T := TX2) (N := 8) hx hb hts hin_X2 hown hK hP 0 rfl rfl 0 (by decide) fl_14 (fun _ h9 => h9) rfl dX2_isCell_6 ?_
      refine va_get (ci := 0) (v := .int (nI nc)) (C := RX0) (T := TX0) (N := 8) hx hb hts hin_X0 hown hK hP 1 rfl rfl 5 (by decide) fl_164 (fun _ h9 => h9) rfl dX2_isCell_9 ?_
      refine lv_icmp_ge (tgt := 19) hx hb dX2_isCell_12 (by decide) (fun c_12 => ?_) (fun c_12 => ?_)
      · refine lv_iconst (v := 0) hx hb dX2_isCell_19 (by decide) ?_
        exact J20_0 _ (by (rw [if_neg c_1]; rw [if_pos c_12]) <;> rfl)
      · refine lv_iconst (v := 1) hx hb dX2_isCell_15 (by decide) ?_
        refine lv_goto (tgt := 20) hx hb dX2_isCell_16 (by decide) ?_
        exact J20_0 _ (by (rw [if_neg c_1]; rw [if_neg c_12]) <;> rfl)

def m_X2_faulted (v1 : Int32) : Int32 × Int32 :=
  ((-10) - v1, v1)
set_option maxHeartbeats 4000000 in
set_option maxRecDepth 100000 in
theorem c_X2_faulted (l : Launch) (D : va_G) (cI cS : ClassId) (q : Nat → Nat) (hz : Nat) (nr : Nat) (tr : Int32) (lf : Int32) (v1 : Int32)  : Met l yX2_faulted wsX2_faulted ({ frames := 0, cells := 0, slots := 0, locals := 0 }) (tw_W D cI cS [.ref (q 0), .int v1] hz [((q 0), .inr (2, [.ref (q 1), .ref (q 7), .ref (q 13), .ref (q 22), .ref (q 23), .int (nI nr), .int tr, .int lf]))]) (va_Qi (fun r (_ : Unit) => r = (m_X2_faulted v1).1) (tw_B D cI cS (va_A [((q 0), .inr (2, [.ref (q 1), .ref (q 7), .ref (q 13), .ref (q 22), .ref (q 23), .int (nI nr), .int tr, .int lf]))] hz) [((q 0), .inr (2, [.ref (q 1), .ref (q 7), .ref (q 13), .ref (q 22), .ref (q 23), .int (nI nr), .int tr, .int ((m_X2_faulted v1).2)]))]) (va_A [((q 0), .inr (2, [.ref (q 1), .ref (q 7), .ref (q 13), .ref (q 22), .ref (q 23), .int (nI nr), .int tr, .int lf]))] hz)) 0 0 (va_A [((q 0), .inr (2, [.ref (q 1), .ref (q 7), .ref (q 13), .ref (q 22), .ref (q 23), .int (nI nr), .int tr, .int lf]))] hz) := by
  refine Met.ofW (cc := cX2_faulted) (maxL := 2) (ret := (some .int)) (by decide) rfl ?_
  intro p e s m args below meth c s₁ B hml hv
  obtain ⟨rfl, hsz, hP, hK, hD0⟩ := hv
  have hx := B.exec
  have hb := B.bytes
  have hr := B.returns
  have hts := atoms_spec (ws := wsX2_faulted) B.pre
  have hown : s.vm.findClass RX2 = some m.cls := findClass_of_methodNamed B.named
  have hlocks := B.notSynchronized
  subst hsz
  have hD := hD0.self (sz := s.heap.size)
  generalize hAe : va_A [((q 0), .inr (2, [.ref (q 1), .ref (q 7), .ref (q 13), .ref (q 22), .ref (q 23), .int (nI nr), .int tr, .int lf]))] s.heap.size = A at hD ⊢
  have hA : ∀ q : Nat, s.heap.size ≤ q → A q := fun q h => by rw [← hAe]; exact Or.inr h
  have hS : va_S A s.heap s.heap [] := va_S.rf
  have fl_35 := hts (.fieldLink RX2 35 "TableWar" "lastFault" "I") (by decide +kernel)
  have hin_X2 := (show ∀ w ∈ u_ws RX2 TX2 8, w ∈ wsX2_faulted from by decide +kernel)
  have hl := lv_entry ([.ref (q 0), .int v1]) (n := 2) (Nat.le_of_ble_eq_true rfl)
  rw [lg_entry_eq]
  generalize (lg_sl ([.ref (q 0), .int v1]) ++ List.replicate (2 - (lg_sl ([.ref (q 0), .int v1])).length) Slot.unset).toArray = ls at hl ⊢
  have hl : lv_has ls 2 [(0, .ref (q 0)), (1, .int v1)] := hl
  refine lv_aload_n hx hb dX2_faulted_0 rfl (lv_at hl 0 rfl) ?_
  refine lv_iload_n hx hb dX2_faulted_1 rfl (lv_at hl 1 rfl) ?_
  refine va_put (ci := 2) (v := .int v1) (ty := .int) (C := RX2) (T := TX2) (N := 8) hx hb hts hin_X2 tyX2 tyX2_ok nmX2 hown hK hP hD hS 0 rfl rfl 7 (by decide) fl_35 (fun _ h9 => h9) rfl (by decide +kernel) rfl rfl (Nat.le_of_ble_eq_true rfl) dX2_faulted_2 (fun H locs hP hD hS => ?_)
  have hP : va_P D vwCl [((q 0), .inr (2, [.ref (q 1), .ref (q 7), .ref (q 13), .ref (q 22), .ref (q 23), .int (nI nr), .int tr, .int v1]))] H := hP
  have hD : va_D A [((q 0), .inr (2, [.ref (q 1), .ref (q 7), .ref (q 13), .ref (q 22), .ref (q 23), .int (nI nr), .int tr, .int v1]))] := hD
  refine lv_bipush (v := (-10)) hx hb dX2_faulted_5 (by decide) ?_
  refine lv_iload_n hx hb dX2_faulted_7 rfl (lv_at hl 1 rfl) ?_
  refine lv_isub hx hb dX2_faulted_8 ?_
  have hE : (m_X2_faulted v1) = ((-10) - v1, v1) := Eq.symm (by (unfold m_X2_faulted) <;> rfl)
  rw [hE]
  exact W.iret hx hb hr (fun t ht hW => ⟨⟨_, (), rfl, rfl, by rw [ht]; exact hP, va_K.moved hW.alike hK, hD⟩, hS.F ht⟩) hS.2.2 dX2_faulted_9

def m_X2_leaveTrace (tr : Int32) (v1 : Int32) : Int32 :=
  (31 * tr) + v1
set_option maxHeartbeats 4000000 in
set_option maxRecDepth 100000 in
theorem c_X2_leaveTrace (l : Launch) (D : va_G) (cI cS : ClassId) (q : Nat → Nat) (hz : Nat) (nr : Nat) (tr : Int32) (lf : Int32) (v1 : Int32)  : Met l yX2_leaveTrace wsX2_leaveTrace ({ frames := 0, cells := 0, slots := 0, locals := 0 }) (tw_W D cI cS [.ref (q 0), .int v1] hz [((q 0), .inr (2, [.ref (q 1), .ref (q 7), .ref (q 13), .ref (q 22), .ref (q 23), .int (nI nr), .int tr, .int lf]))]) (va_Qv (fun (_ : Unit) => True) (tw_B D cI cS (va_A [((q 0), .inr (2, [.ref (q 1), .ref (q 7), .ref (q 13), .ref (q 22), .ref (q 23), .int (nI nr), .int tr, .int lf]))] hz) [((q 0), .inr (2, [.ref (q 1), .ref (q 7), .ref (q 13), .ref (q 22), .ref (q 23), .int (nI nr), .int (m_X2_leaveTrace tr v1), .int lf]))]) (va_A [((q 0), .inr (2, [.ref (q 1), .ref (q 7), .ref (q 13), .ref (q 22), .ref (q 23), .int (nI nr), .int tr, .int lf]))] hz)) 0 0 (va_A [((q 0), .inr (2, [.ref (q 1), .ref (q 7), .ref (q 13), .ref (q 22), .ref (q 23), .int (nI nr), .int tr, .int lf]))] hz) := by
  refine Met.ofW (cc := cX2_leaveTrace) (maxL := 2) (ret := none) (by decide) rfl ?_
  intro p e s m args below meth c s₁ B hml hv
  obtain ⟨rfl, hsz, hP, hK, hD0⟩ := hv
  have hx := B.exec
  have hb := B.bytes
  have hr := B.returns
  have hts := atoms_spec (ws := wsX2_leaveTrace) B.pre
  have hown : s.vm.findClass RX2 = some m.cls := findClass_of_methodNamed B.named
  have hlocks := B.notSynchronized
  subst hsz
  have hD := hD0.self (sz := s.heap.size)
  generalize hAe : va_A [((q 0), .inr (2, [.ref (q 1), .ref (q 7), .ref (q 13), .ref (q 22), .ref (q 23), .int (nI nr), .int tr, .int lf]))] s.heap.size = A at hD ⊢
  have hA : ∀ q : Nat, s.heap.size ≤ q → A q := fun q h => by rw [← hAe]; exact Or.inr h
  have hS : va_S A s.heap s.heap [] := va_S.rf
  have fl_215 := hts (.fieldLink RX2 215 "TableWar" "traced" "I") (by decide +kernel)
  have hin_X2 := (show ∀ w ∈ u_ws RX2 TX2 8, w ∈ wsX2_leaveTrace from by decide +kernel)
  have hl := lv_entry ([.ref (q 0), .int v1]) (n := 2) (Nat.le_of_ble_eq_true rfl)
  rw [lg_entry_eq]
  generalize (lg_sl ([.ref (q 0), .int v1]) ++ List.replicate (2 - (lg_sl ([.ref (q 0), .int v1])).length) Slot.unset).toArray = ls at hl ⊢
  have hl : lv_has ls 2 [(0, .ref (q 0)), (1, .int v1)] := hl
  refine lv_aload_n hx hb dX2_leaveTrace_0 rfl (lv_at hl 0 rfl) ?_
  refine lv_bipush (v := 31) hx hb dX2_leaveTrace_1 (by decide) ?_
  refine lv_aload_n hx hb dX2_leaveTrace_3 rfl (lv_at hl 0 rfl) ?_
  refine va_get (ci := 2) (v := .int tr) (C := RX2) (T := TX2) (N := 8) hx hb hts hin_X2 hown hK hP 0 rfl rfl 6 (by decide) fl_215 (fun _ h9 => h9) rfl dX2_leaveTrace_4 ?_
  refine lv_imul hx hb dX2_leaveTrace_7 ?_
  refine lv_iload_n hx hb dX2_leaveTrace_8 rfl (lv_at hl 1 rfl) ?_
  refine lv_iadd hx hb dX2_leaveTrace_9 ?_
  refine va_put (ci := 2) (v := .int ((31 * tr) + v1)) (ty := .int) (C := RX2) (T := TX2) (N := 8) hx hb hts hin_X2 tyX2 tyX2_ok nmX2 hown hK hP hD hS 0 rfl rfl 6 (by decide) fl_215 (fun _ h9 => h9) rfl (by decide +kernel) rfl rfl (Nat.le_of_ble_eq_true rfl) dX2_leaveTrace_10 (fun H locs hP hD hS => ?_)
  have hP : va_P D vwCl [((q 0), .inr (2, [.ref (q 1), .ref (q 7), .ref (q 13), .ref (q 22), .ref (q 23), .int (nI nr), .int ((31 * tr) + v1), .int lf]))] H := hP
  have hD : va_D A [((q 0), .inr (2, [.ref (q 1), .ref (q 7), .ref (q 13), .ref (q 22), .ref (q 23), .int (nI nr), .int ((31 * tr) + v1), .int lf]))] := hD
  have hE : (m_X2_leaveTrace tr v1) = (31 * tr) + v1 := Eq.symm (by (unfold m_X2_leaveTrace) <;> rfl)
  rw [hE]
  exact W.vret hx hb hr (fun t ht hW => ⟨⟨(), rfl, trivial, by rw [ht]; exact hP, va_K.moved hW.alike hK, hD⟩, hS.F ht⟩) hS.2.2 dX2_leaveTrace_13

def m_X2_trace (tr : Int32) : Int32 :=
  tr
set_option maxHeartbeats 4000000 in
set_option maxRecDepth 100000 in
theorem c_X2_trace (l : Launch) (D : va_G) (cI cS : ClassId) (q : Nat → Nat) (nr : Nat) (tr : Int32) (lf : Int32)  : Met l yX2_trace wsX2_trace ({ frames := 0, cells := 0, slots := 0, locals := 0 }) (tw_R D cI cS [.ref (q 0)] [((q 0), .inr (2, [.ref (q 1), .ref (q 7), .ref (q 13), .ref (q 22), .ref (q 23), .int (nI nr), .int tr, .int lf]))]) (vp_Si (fun r => r = (m_X2_trace tr))) 0 0 (fun _ => False) := by
  refine Met.ofW (cc := cX2_trace) (maxL := 1) (ret := (some .int)) (by decide) rfl ?_
  intro p e s m args below meth c s₁ B hml hv
  obtain ⟨rfl, hP, hK⟩ := hv
  have hx := B.exec
  have hb := B.bytes
  have hr := B.returns
  have hts := atoms_spec (ws := wsX2_trace) B.pre
  have hown : s.vm.findClass RX2 = some m.cls := findClass_of_methodNamed B.named
  have hlocks := B.notSynchronized
  have fl_215 := hts (.fieldLink RX2 215 "TableWar" "traced" "I") (by decide +kernel)
  have hin_X2 := (show ∀ w ∈ u_ws RX2 TX2 8, w ∈ wsX2_trace from by decide +kernel)
  have hl := lv_entry ([.ref (q 0)]) (n := 1) (Nat.le_of_ble_eq_true rfl)
  rw [lg_entry_eq]
  generalize (lg_sl ([.ref (q 0)]) ++ List.replicate (1 - (lg_sl ([.ref (q 0)])).length) Slot.unset).toArray = ls at hl ⊢
  have hl : lv_has ls 1 [(0, .ref (q 0))] := hl
  refine lv_aload_n hx hb dX2_trace_0 rfl (lv_at hl 0 rfl) ?_
  refine va_get (ci := 2) (v := .int tr) (C := RX2) (T := TX2) (N := 8) hx hb hts hin_X2 hown hK hP 0 rfl rfl 6 (by decide) fl_215 (fun _ h9 => h9) rfl dX2_trace_1 ?_
  exact W.iret hx hb hr (fun t ht _ => ⟨_, rfl, (by (unfold m_X2_trace) <;> rfl), ht⟩) (fun _ h => nomatch h) dX2_trace_4

def m_X2_fault (lf : Int32) : Int32 :=
  lf
set_option maxHeartbeats 4000000 in
set_option maxRecDepth 100000 in
theorem c_X2_fault (l : Launch) (D : va_G) (cI cS : ClassId) (q : Nat → Nat) (nr : Nat) (tr : Int32) (lf : Int32)  : Met l yX2_fault wsX2_fault ({ frames := 0, cells := 0, slots := 0, locals := 0 }) (tw_R D cI cS [.ref (q 0)] [((q 0), .inr (2, [.ref (q 1), .ref (q 7), .ref (q 13), .ref (q 22), .ref (q 23), .int (nI nr), .int tr, .int lf]))]) (vp_Si (fun r => r = (m_X2_fault lf))) 0 0 (fun _ => False) := by
  refine Met.ofW (cc := cX2_fault) (maxL := 1) (ret := (some .int)) (by decide) rfl ?_
  intro p e s m args below meth c s₁ B hml hv
  obtain ⟨rfl, hP, hK⟩ := hv
  have hx := B.exec
  have hb := B.bytes
  have hr := B.returns
  have hts := atoms_spec (ws := wsX2_fault) B.pre
  have hown : s.vm.findClass RX2 = some m.cls := findClass_of_methodNamed B.named
  have hlocks := B.notSynchronized
  have fl_35 := hts (.fieldLink RX2 35 "TableWar" "lastFault" "I") (by decide +kernel)
  have hin_X2 := (show ∀ w ∈ u_ws RX2 TX2 8, w ∈ wsX2_fault from by decide +kernel)
  have hl := lv_entry ([.ref (q 0)]) (n := 1) (Nat.le_of_ble_eq_true rfl)
  rw [lg_entry_eq]
  generalize (lg_sl ([.ref (q 0)]) ++ List.replicate (1 - (lg_sl ([.ref (q 0)])).length) Slot.unset).toArray = ls at hl ⊢
  have hl : lv_has ls 1 [(0, .ref (q 0))] := hl
  refine lv_aload_n hx hb dX2_fault_0 rfl (lv_at hl 0 rfl) ?_
  refine va_get (ci := 2) (v := .int lf) (C := RX2) (T := TX2) (N := 8) hx hb hts hin_X2 hown hK hP 0 rfl rfl 7 (by decide) fl_35 (fun _ h9 => h9) rfl dX2_fault_1 ?_
  exact W.iret hx hb hr (fun t ht _ => ⟨_, rfl, (by (unfold m_X2_fault) <;> rfl), ht⟩) (fun _ h => nomatch h) dX2_fault_4

def m_X2_partOfChoice (v0 : Int32) (v1 : Int32) : Int32 :=
  if v0 = (-9) then
    (-9)
  else
    if v1 = 0 then
      (m_X0_moveOfChoice v0) / 3
    else
      if v1 = 1 then
        (m_X0_moveOfChoice v0) - (m_X0_moveOfChoice v0) / 3 * 3
      else
        (m_X0_leadOfChoice v0)
set_option maxHeartbeats 4000000 in
set_option maxRecDepth 100000 in
theorem c_X2_partOfChoice (l : Launch) (D : va_G) (cI cS : ClassId)  (v0 : Int32) (v1 : Int32)  : Met l yX2_partOfChoice wsX2_partOfChoice ({ frames := 1, cells := 0, slots := 0, locals := 20 }) (tw_R D cI cS [.int v0, .int v1] []) (vp_Si (fun r => r = (m_X2_partOfChoice v0 v1))) 0 0 (fun _ => False) := by
  refine Met.ofW (cc := cX2_partOfChoice) (maxL := 3) (ret := (some .int)) (by decide) rfl ?_
  intro p e s m args below meth c s₁ B hml hv
  obtain ⟨rfl, hP, hK⟩ := hv
  have hx := B.exec
  have hb := B.bytes
  have hr := B.returns
  have hts := atoms_spec (ws := wsX2_partOfChoice) B.pre
  have hown : s.vm.findClass RX2 = some m.cls := findClass_of_methodNamed B.named
  have hlocks := B.notSynchronized
  have hl := lv_entry ([.int v0, .int v1]) (n := 3) (Nat.le_of_ble_eq_true rfl)
  rw [lg_entry_eq]
  generalize (lg_sl ([.int v0, .int v1]) ++ List.replicate (3 - (lg_sl ([.int v0, .int v1])).length) Slot.unset).toArray = ls at hl ⊢
  have hl : lv_has ls 3 [(0, .int v0), (1, .int v1)] := hl
  refine lv_iload_n hx hb dX2_partOfChoice_0 rfl (lv_at hl 0 rfl) ?_
  refine lv_bipush (v := (-9)) hx hb dX2_partOfChoice_1 (by decide) ?_
  refine lv_icmp_ne (tgt := 9) hx hb dX2_partOfChoice_3 (by decide) (fun c_3 => ?_) (fun c_3 => ?_)
  · refine lv_iload_n hx hb dX2_partOfChoice_9 rfl (lv_at hl 0 rfl) ?_
    refine tw_cs (va_runS (As := [.int v0]) (rest := []) ⟨hx, hb, hml, hown, hts⟩ (c_X0_moveOfChoice l D cI cS v0) (va_cwS 1 hts gX2_partOfChoice_X0_moveOfChoice rfl rfl rfl (by decide +kernel) ⟨Nat.le_of_ble_eq_true rfl, Nat.le_of_ble_eq_true rfl⟩) ⟨tw_Rb, tw_Rp (hP.sub (ws' := []) [] rfl) hK⟩ rfl rfl hl.1 rfl (lv_room (Nat.le_of_ble_eq_true rfl)) dX2_partOfChoice_10 ⟨Nat.zero_le _, Nat.zero_le _⟩) ?_
    refine lv_istore_n (lv' := [(2, .int (m_X0_moveOfChoice v0)), (0, .int v0), (1, .int v1)]) hx hb dX2_partOfChoice_13 rfl hl (by decide) rfl (fun ls hl => ?_)
    refine lv_iload_n hx hb dX2_partOfChoice_14 rfl (lv_at hl 2 rfl) ?_
    by_cases c_15_0 : v1 = 0
    · refine lv_lookup (tgt := 40) hx hb dX2_partOfChoice_15 (by decide) (by (rw [c_15_0]) <;> rfl) (by decide) ?_
      refine lv_iload_n hx hb dX2_partOfChoice_40 rfl (lv_at hl 0 rfl) ?_
      refine lv_iconst (v := 3) hx hb dX2_partOfChoice_41 (by decide) ?_
      refine lv_idiv hx hb dX2_partOfChoice_42 (by decide) ?_
      exact W.iret hx hb hr (fun t ht _ => ⟨_, rfl, (by (unfold m_X2_partOfChoice; rw [if_neg c_3]; rw [if_pos c_15_0]) <;> rfl), ht⟩) (fun _ h => nomatch h) dX2_partOfChoice_43
    by_cases c_15_1 : v1 = 1
    · refine lv_lookup (tgt := 44) hx hb dX2_partOfChoice_15 (by decide) (by (rw [c_15_1]) <;> rfl) (by decide) ?_
      refine lv_iload_n hx hb dX2_partOfChoice_44 rfl (lv_at hl 0 rfl) ?_
      refine lv_iconst (v := 3) hx hb dX2_partOfChoice_45 (by decide) ?_
      refine lv_irem hx hb dX2_partOfChoice_46 (by decide) ?_
      exact W.iret hx hb hr (fun t ht _ => ⟨_, rfl, (by (unfold m_X2_partOfChoice; rw [if_neg c_3]; rw [if_neg c_15_0]; rw [if_pos c_15_1]) <;> rfl), ht⟩) (fun _ h => nomatch h) dX2_partOfChoice_47
    · refine lv_lookup (tgt := 48) hx hb dX2_partOfChoice_15 (by decide) (show Op.lookupswitch.offset [(0, 25), (1, 29)] 33 _ = 33 from by (rw [lv_osw (k := 0) (a := 0) c_15_0 rfl, lv_osw (k := 1) (a := 1) c_15_1 rfl]) <;> rfl) (by decide) ?_
      refine lv_iload_n hx hb dX2_partOfChoice_48 rfl (lv_at hl 1 rfl) ?_
      refine tw_cs (va_runS (As := [.int v0]) (rest := []) ⟨hx, hb, hml, hown, hts⟩ (c_X0_leadOfChoice l D cI cS v0) (va_cwS 1 hts gX2_partOfChoice_X0_leadOfChoice rfl rfl rfl (by decide +kernel) ⟨Nat.le_of_ble_eq_true rfl, Nat.le_of_ble_eq_true rfl⟩) ⟨tw_Rb, tw_Rp (hP.sub (ws' := []) [] rfl) hK⟩ rfl rfl hl.1 rfl (lv_room (Nat.le_of_ble_eq_true rfl)) dX2_partOfChoice_49 ⟨Nat.zero_le _, Nat.zero_le _⟩) ?_
      exact W.iret hx hb hr (fun t ht _ => ⟨_, rfl, (by (unfold m_X2_partOfChoice; rw [if_neg c_3]; rw [if_neg c_15_0]; rw [if_neg c_15_1]) <;> rfl), ht⟩) (fun _ h => nomatch h) dX2_partOfChoice_52
  · refine lv_bipush (v := (-9)) hx hb dX2_partOfChoice_6 (by decide) ?_
    exact W.iret hx hb hr (fun t ht _ => ⟨_, rfl, (by (unfold m_X2_partOfChoice; rw [if_pos c_3]) <;> rfl), ht⟩) (fun _ h => nomatch h) dX2_partOfChoice_8

def m_X2_refusalOfMove (nt : Nat) (v1 : Int32) (v2 : Int32) : Int32 :=
  if (m_X2_isHouse v1) = 0 then
    (-1)
  else
    if v2 < 0 then
      (-2)
    else
      if v2 ≤ 2 then
        (if (m_X2_hasTable nt) = 0 then (-3) else 0)
      else
        (-2)
set_option maxHeartbeats 4000000 in
set_option maxRecDepth 100000 in
theorem c_X2_refusalOfMove (l : Launch) (D : va_G) (cI cS : ClassId) (q : Nat → Nat) (nc : Nat) (nt : Nat) (ea : Int32) (nr : Nat) (tr : Int32) (lf : Int32) (v1 : Int32) (v2 : Int32)  : Met l yX2_refusalOfMove wsX2_refusalOfMove ({ frames := 1, cells := 0, slots := 0, locals := 20 }) (tw_R D cI cS [.ref (q 0), .int v1, .int v2] [((q 0), .inr (2, [.ref (q 1), .ref (q 7), .ref (q 13), .ref (q 22), .ref (q 23), .int (nI nr), .int tr, .int lf])), ((q 1), .inr (0, [.ref (q 2), .ref (q 3), .ref (q 4), .ref (q 5), .ref (q 6), .int (nI nc), .int (nI nt), .int ea]))]) (vp_Si (fun r => r = (m_X2_refusalOfMove nt v1 v2))) 0 0 (fun _ => False) := by
  refine Met.ofW (cc := cX2_refusalOfMove) (maxL := 3) (ret := (some .int)) (by decide) rfl ?_
  intro p e s m args below meth c s₁ B hml hv
  obtain ⟨rfl, hP, hK⟩ := hv
  have hx := B.exec
  have hb := B.bytes
  have hr := B.returns
  have hts := atoms_spec (ws := wsX2_refusalOfMove) B.pre
  have hown : s.vm.findClass RX2 = some m.cls := findClass_of_methodNamed B.named
  have hlocks := B.notSynchronized
  have hl := lv_entry ([.ref (q 0), .int v1, .int v2]) (n := 3) (Nat.le_of_ble_eq_true rfl)
  rw [lg_entry_eq]
  generalize (lg_sl ([.ref (q 0), .int v1, .int v2]) ++ List.replicate (3 - (lg_sl ([.ref (q 0), .int v1, .int v2])).length) Slot.unset).toArray = ls at hl ⊢
  have hl : lv_has ls 3 [(0, .ref (q 0)), (1, .int v1), (2, .int v2)] := hl
  refine lv_iload_n hx hb dX2_refusalOfMove_0 rfl (lv_at hl 1 rfl) ?_
  refine tw_cs (va_runS (As := [.int v1]) (rest := []) ⟨hx, hb, hml, hown, hts⟩ (c_X2_isHouse l D cI cS v1) (va_cwS 1 hts gX2_refusalOfMove_X2_isHouse rfl rfl rfl (by decide +kernel) ⟨Nat.le_of_ble_eq_true rfl, Nat.le_of_ble_eq_true rfl⟩) ⟨tw_Rb, tw_Rp (hP.sub (ws' := []) [] rfl) hK⟩ rfl rfl hl.1 rfl (lv_room (Nat.le_of_ble_eq_true rfl)) dX2_refusalOfMove_1 ⟨Nat.zero_le _, Nat.zero_le _⟩) ?_
  refine lv_if_ne (tgt := 9) hx hb dX2_refusalOfMove_4 (by decide) (fun c_4 => ?_) (fun c_4 => ?_)
  · refine lv_iload_n hx hb dX2_refusalOfMove_9 rfl (lv_at hl 2 rfl) ?_
    refine lv_if_lt (tgt := 18) hx hb dX2_refusalOfMove_10 (by decide) (fun c_10 => ?_) (fun c_10 => ?_)
    · refine lv_bipush (v := (-2)) hx hb dX2_refusalOfMove_18 (by decide) ?_
      exact W.iret hx hb hr (fun t ht _ => ⟨_, rfl, (by (unfold m_X2_refusalOfMove; rw [if_neg c_4]; rw [if_pos c_10]) <;> rfl), ht⟩) (fun _ h => nomatch h) dX2_refusalOfMove_20
    · refine lv_iload_n hx hb dX2_refusalOfMove_13 rfl (lv_at hl 2 rfl) ?_
      refine lv_iconst (v := 2) hx hb dX2_refusalOfMove_14 (by decide) ?_
      refine lv_icmp_le (tgt := 21) hx hb dX2_refusalOfMove_15 (by decide) (fun c_15 => ?_) (fun c_15 => ?_)
      · refine lv_aload_n hx hb dX2_refusalOfMove_21 rfl (lv_at hl 0 rfl) ?_
        refine tw_cs (va_runV (As := []) (rest := []) ⟨hx, hb, hml, hown, hts⟩ (c_X2_hasTable l D cI cS q nc nt ea nr tr lf) (cwV 0 hts gX2_refusalOfMove_X2_hasTable rfl rfl rfl (by decide +kernel) ⟨Nat.le_of_ble_eq_true rfl, Nat.le_of_ble_eq_true rfl⟩) ⟨tw_Rb, va_recv hK hP (ci := 2) (q0 := 0) rfl rfl, tw_Rp (hP.sub (ws' := [((q 0), .inr (2, [.ref (q 1), .ref (q 7), .ref (q 13), .ref (q 22), .ref (q 23), .int (nI nr), .int tr, .int lf])), ((q 1), .inr (0, [.ref (q 2), .ref (q 3), .ref (q 4), .ref (q 5), .ref (q 6), .int (nI nc), .int (nI nt), .int ea]))]) [0, 1] rfl) hK⟩ rfl rfl hl.1 rfl (lv_room (Nat.le_of_ble_eq_true rfl)) dX2_refusalOfMove_22 ⟨Nat.zero_le _, Nat.zero_le _⟩) ?_
        refine tw_join (fun (y : Int32) => F0 m 34 ls (.int y :: [])) (if (m_X2_hasTable nt) = 0 then (-3) else 0) ?_ (fun J34_0 => ?_)
        · intro y34 hy34
          exact W.iret hx hb hr (fun t ht _ => ⟨_, rfl, (by (unfold m_X2_refusalOfMove; rw [if_neg c_4]; rw [if_neg c_10]; rw [if_pos c_15]; (try rw [← hy34])) <;> rfl), ht⟩) (fun _ h => nomatch h) dX2_refusalOfMove_34
        · refine lv_if_eq (tgt := 32) hx hb dX2_refusalOfMove_25 (by decide) (fun c_25 => ?_) (fun c_25 => ?_)
          · refine lv_bipush (v := (-3)) hx hb dX2_refusalOfMove_32 (by decide) ?_
            exact J34_0 _ (by (rw [if_pos c_25]) <;> rfl)
          · refine lv_iconst (v := 0) hx hb dX2_refusalOfMove_28 (by decide) ?_
            refine lv_goto (tgt := 34) hx hb dX2_refusalOfMove_29 (by decide) ?_
            exact J34_0 _ (by (rw [if_neg c_25]) <;> rfl)
      · refine lv_bipush (v := (-2)) hx hb dX2_refusalOfMove_18 (by decide) ?_
        exact W.iret hx hb hr (fun t ht _ => ⟨_, rfl, (by (unfold m_X2_refusalOfMove; rw [if_neg c_4]; rw [if_neg c_10]; rw [if_neg c_15]) <;> rfl), ht⟩) (fun _ h => nomatch h) dX2_refusalOfMove_20
  · refine lv_iconst (v := (-1)) hx hb dX2_refusalOfMove_7 (by decide) ?_
    exact W.iret hx hb hr (fun t ht _ => ⟨_, rfl, (by (unfold m_X2_refusalOfMove; rw [if_pos c_4]) <;> rfl), ht⟩) (fun _ h => nomatch h) dX2_refusalOfMove_8

def m_X2_replaceDigit (va : Nat → Int32) (v1 : Int32) (v2 : Int32) : Int32 × (Nat → Int32) :=
  if v2 < 0 then
    ((-2), va)
  else
    if v2 < 10 then
      (va v1.toNatClampNeg, upd va v1.toNatClampNeg v2)
    else
      ((-2), va)
set_option maxHeartbeats 4000000 in
set_option maxRecDepth 100000 in
theorem c_X2_replaceDigit (l : Launch) (D : va_G) (cI cS : ClassId) (b0 : Nat) (hz : Nat) (va : Nat → Int32) (v1 : Int32) (v2 : Int32) (h1 : vp_in v1 6) : Met l yX2_replaceDigit wsX2_replaceDigit ({ frames := 0, cells := 0, slots := 0, locals := 0 }) (tw_W D cI cS [.ref b0, .int v1, .int v2] hz [(b0, .inl (cI, 6, .inl va))]) (va_Qi (fun r (_ : Unit) => r = (m_X2_replaceDigit va v1 v2).1) (tw_B D cI cS (va_A [(b0, .inl (cI, 6, .inl va))] hz) [(b0, .inl (cI, 6, .inl ((m_X2_replaceDigit va v1 v2).2)))]) (va_A [(b0, .inl (cI, 6, .inl va))] hz)) 0 0 (va_A [(b0, .inl (cI, 6, .inl va))] hz) := by
  refine Met.ofW (cc := cX2_replaceDigit) (maxL := 4) (ret := (some .int)) (by decide) rfl ?_
  intro p e s m args below meth c s₁ B hml hv
  obtain ⟨rfl, hsz, hP, hK, hD0⟩ := hv
  have hx := B.exec
  have hb := B.bytes
  have hr := B.returns
  have hts := atoms_spec (ws := wsX2_replaceDigit) B.pre
  have hown : s.vm.findClass RX2 = some m.cls := findClass_of_methodNamed B.named
  have hlocks := B.notSynchronized
  subst hsz
  have hD := hD0.self (sz := s.heap.size)
  generalize hAe : va_A [(b0, .inl (cI, 6, .inl va))] s.heap.size = A at hD ⊢
  have hA : ∀ q : Nat, s.heap.size ≤ q → A q := fun q h => by rw [← hAe]; exact Or.inr h
  have hS : va_S A s.heap s.heap [] := va_S.rf
  have hl := lv_entry ([.ref b0, .int v1, .int v2]) (n := 4) (Nat.le_of_ble_eq_true rfl)
  rw [lg_entry_eq]
  generalize (lg_sl ([.ref b0, .int v1, .int v2]) ++ List.replicate (4 - (lg_sl ([.ref b0, .int v1, .int v2])).length) Slot.unset).toArray = ls at hl ⊢
  have hl : lv_has ls 4 [(0, .ref b0), (1, .int v1), (2, .int v2)] := hl
  refine lv_iload_n hx hb dX2_replaceDigit_0 rfl (lv_at hl 2 rfl) ?_
  refine lv_if_lt (tgt := 10) hx hb dX2_replaceDigit_1 (by decide) (fun c_1 => ?_) (fun c_1 => ?_)
  · refine lv_bipush (v := (-2)) hx hb dX2_replaceDigit_10 (by decide) ?_
    have hE : (m_X2_replaceDigit va v1 v2) = ((-2), va) := Eq.symm (by (unfold m_X2_replaceDigit; rw [if_pos c_1]) <;> rfl)
    rw [hE]
    exact W.iret hx hb hr (fun t ht hW => ⟨⟨_, (), rfl, rfl, by rw [ht]; exact hP, va_K.moved hW.alike hK, hD⟩, hS.F ht⟩) hS.2.2 dX2_replaceDigit_12
  · refine lv_iload_n hx hb dX2_replaceDigit_4 rfl (lv_at hl 2 rfl) ?_
    refine lv_bipush (v := 10) hx hb dX2_replaceDigit_5 (by decide) ?_
    refine lv_icmp_lt (tgt := 13) hx hb dX2_replaceDigit_7 (by decide) (fun c_7 => ?_) (fun c_7 => ?_)
    · refine lv_aload_n hx hb dX2_replaceDigit_13 rfl (lv_at hl 0 rfl) ?_
      refine lv_iload_n hx hb dX2_replaceDigit_14 rfl (lv_at hl 1 rfl) ?_
      refine va_iald hx hb hK hP 0 0 rfl rfl (by assumption) dX2_replaceDigit_15 ?_
      refine lv_istore_n (lv' := [(3, .int (va v1.toNatClampNeg)), (0, .ref b0), (1, .int v1), (2, .int v2)]) hx hb dX2_replaceDigit_16 rfl hl (by decide) rfl (fun ls hl => ?_)
      refine lv_aload_n hx hb dX2_replaceDigit_17 rfl (lv_at hl 1 rfl) ?_
      refine lv_iload_n hx hb dX2_replaceDigit_18 rfl (lv_at hl 2 rfl) ?_
      refine lv_iload_n hx hb dX2_replaceDigit_19 rfl (lv_at hl 3 rfl) ?_
      refine va_iast hx hb hK hP hD hS 0 0 rfl rfl (by assumption) dX2_replaceDigit_20 (fun H locs hP hD hS => ?_)
      have hP : va_P D vwCl [(b0, .inl (cI, 6, .inl (upd va v1.toNatClampNeg v2)))] H := hP
      have hD : va_D A [(b0, .inl (cI, 6, .inl (upd va v1.toNatClampNeg v2)))] := hD
      refine lv_iload_n hx hb dX2_replaceDigit_21 rfl (lv_at hl 0 rfl) ?_
      have hE : (m_X2_replaceDigit va v1 v2) = (va v1.toNatClampNeg, upd va v1.toNatClampNeg v2) := Eq.symm (by (unfold m_X2_replaceDigit; rw [if_neg c_1]; rw [if_pos c_7]) <;> rfl)
      rw [hE]
      exact W.iret hx hb hr (fun t ht hW => ⟨⟨_, (), rfl, rfl, by rw [ht]; exact hP, va_K.moved hW.alike hK, hD⟩, hS.F ht⟩) hS.2.2 dX2_replaceDigit_22
    · refine lv_bipush (v := (-2)) hx hb dX2_replaceDigit_10 (by decide) ?_
      have hE : (m_X2_replaceDigit va v1 v2) = ((-2), va) := Eq.symm (by (unfold m_X2_replaceDigit; rw [if_neg c_1]; rw [if_neg c_7]) <;> rfl)
      rw [hE]
      exact W.iret hx hb hr (fun t ht hW => ⟨⟨_, (), rfl, rfl, by rw [ht]; exact hP, va_K.moved hW.alike hK, hD⟩, hS.F ht⟩) hS.2.2 dX2_replaceDigit_12
