def m_X0_isEaten (ea : Int32) (v1 : Int32) : Int32 :=
  (if ((ea >>> (v1 &&& 31)) &&& 1) = 1 then 1 else 0)
set_option maxHeartbeats 4000000 in
set_option maxRecDepth 100000 in
theorem c_X0_isEaten (l : Launch) (D : va_G) (cI cS : ClassId) (b0 : Nat) (b1 : Nat) (b2 : Nat) (b3 : Nat) (b4 : Nat) (b5 : Nat) (ac : Nat → Int32) (kd : Nat → Int32) (ho : Nat → Int32) (pl : Nat → Int32) (st : Nat → Int32) (nc : Nat) (nt : Nat) (ea : Int32) (v1 : Int32)  : Met l yX0_isEaten wsX0_isEaten ({ frames := 0, cells := 0, slots := 0, locals := 0 }) (tw_R D cI cS [.ref b0, .int v1] [(b0, .inr (0, [.ref b1, .ref b2, .ref b3, .ref b4, .ref b5, .int (nI nc), .int (nI nt), .int ea])), (b1, .inl (cI, 6, .inl ac)), (b2, .inl (cI, 6, .inl kd)), (b3, .inl (cI, 6, .inl ho)), (b4, .inl (cI, 6, .inl pl)), (b5, .inl (cI, 6, .inl st))]) (vp_Si (fun r => r = (m_X0_isEaten ea v1))) 0 0 (fun _ => False) := by
  refine Met.ofW (cc := cX0_isEaten) (maxL := 2) (ret := (some .boolean)) (by decide) rfl ?_
  intro p e s m args below meth c s₁ B hml hv
  obtain ⟨rfl, hP, hK⟩ := hv
  have hx := B.exec
  have hb := B.bytes
  have hr := B.returns
  have hts := atoms_spec (ws := wsX0_isEaten) B.pre
  have hown : s.vm.findClass RX0 = some m.cls := findClass_of_methodNamed B.named
  have hlocks := B.notSynchronized
  have fl_40 := hts (.fieldLink RX0 40 "TableWar$Cloth" "eaten" "I") (by decide +kernel)
  have hin_X0 := (show ∀ w ∈ u_ws RX0 TX0 8, w ∈ wsX0_isEaten from by decide +kernel)
  have hl := lv_entry ([.ref b0, .int v1]) (n := 2) (Nat.le_of_ble_eq_true rfl)
  rw [lg_entry_eq]
  generalize (lg_sl ([.ref b0, .int v1]) ++ List.replicate (2 - (lg_sl ([.ref b0, .int v1])).length) Slot.unset).toArray = ls at hl ⊢
  have hl : lv_has ls 2 [(0, .ref b0), (1, .int v1)] := hl
  refine lv_aload_n hx hb dX0_isEaten_0 rfl (lv_at hl 0 rfl) ?_
  refine va_get (ci := 0) (v := .int ea) (C := RX0) (T := TX0) (N := 8) hx hb hts hin_X0 hown hK hP 0 rfl rfl 7 (by decide) fl_40 (fun _ h9 => h9) rfl dX0_isEaten_1 ?_
  refine lv_iload_n hx hb dX0_isEaten_4 rfl (lv_at hl 1 rfl) ?_
  refine lv_ishr hx hb dX0_isEaten_5 ?_
  refine lv_iconst (v := 1) hx hb dX0_isEaten_6 (by decide) ?_
  refine lv_iand hx hb dX0_isEaten_7 ?_
  refine lv_iconst (v := 1) hx hb dX0_isEaten_8 (by decide) ?_
  refine tw_join (fun (y : Int32) => F0 m 17 ls (.int y :: [])) (if ((ea >>> (v1 &&& 31)) &&& 1) = 1 then 1 else 0) ?_ (fun J17_0 => ?_)
  · intro y17 hy17
    exact W.zret (ty := .boolean) hx hb hr (by rw [hy17]; (repeat' split) <;> rfl) (fun t ht _ => ⟨_, rfl, (by (unfold m_X0_isEaten; (try rw [← hy17])) <;> rfl), ht⟩) (fun _ h => nomatch h) dX0_isEaten_17
  · refine lv_icmp_ne (tgt := 16) hx hb dX0_isEaten_9 (by decide) (fun c_9 => ?_) (fun c_9 => ?_)
    · refine lv_iconst (v := 0) hx hb dX0_isEaten_16 (by decide) ?_
      exact J17_0 _ (by (rw [if_neg c_9]) <;> rfl)
    · refine lv_iconst (v := 1) hx hb dX0_isEaten_12 (by decide) ?_
      refine lv_goto (tgt := 17) hx hb dX0_isEaten_13 (by decide) ?_
      exact J17_0 _ (by (rw [if_pos c_9]) <;> rfl)

def m_X0_countEaten (ea : Int32) : Int32 :=
  (m_J6_bitCount ea)
set_option maxHeartbeats 4000000 in
set_option maxRecDepth 100000 in
theorem c_X0_countEaten (l : Launch) (D : va_G) (cI cS : ClassId) (b0 : Nat) (b1 : Nat) (b2 : Nat) (b3 : Nat) (b4 : Nat) (b5 : Nat) (ac : Nat → Int32) (kd : Nat → Int32) (ho : Nat → Int32) (pl : Nat → Int32) (st : Nat → Int32) (nc : Nat) (nt : Nat) (ea : Int32)  : Met l yX0_countEaten wsX0_countEaten ({ frames := 1, cells := 0, slots := 0, locals := 20 }) (tw_R D cI cS [.ref b0] [(b0, .inr (0, [.ref b1, .ref b2, .ref b3, .ref b4, .ref b5, .int (nI nc), .int (nI nt), .int ea])), (b1, .inl (cI, 6, .inl ac)), (b2, .inl (cI, 6, .inl kd)), (b3, .inl (cI, 6, .inl ho)), (b4, .inl (cI, 6, .inl pl)), (b5, .inl (cI, 6, .inl st))]) (vp_Si (fun r => r = (m_X0_countEaten ea))) 0 0 (fun _ => False) := by
  refine Met.ofW (cc := cX0_countEaten) (maxL := 1) (ret := (some .int)) (by decide) rfl ?_
  intro p e s m args below meth c s₁ B hml hv
  obtain ⟨rfl, hP, hK⟩ := hv
  have hx := B.exec
  have hb := B.bytes
  have hr := B.returns
  have hts := atoms_spec (ws := wsX0_countEaten) B.pre
  have hown : s.vm.findClass RX0 = some m.cls := findClass_of_methodNamed B.named
  have hlocks := B.notSynchronized
  have fl_40 := hts (.fieldLink RX0 40 "TableWar$Cloth" "eaten" "I") (by decide +kernel)
  have hin_X0 := (show ∀ w ∈ u_ws RX0 TX0 8, w ∈ wsX0_countEaten from by decide +kernel)
  have hl := lv_entry ([.ref b0]) (n := 1) (Nat.le_of_ble_eq_true rfl)
  rw [lg_entry_eq]
  generalize (lg_sl ([.ref b0]) ++ List.replicate (1 - (lg_sl ([.ref b0])).length) Slot.unset).toArray = ls at hl ⊢
  have hl : lv_has ls 1 [(0, .ref b0)] := hl
  refine lv_aload_n hx hb dX0_countEaten_0 rfl (lv_at hl 0 rfl) ?_
  refine va_get (ci := 0) (v := .int ea) (C := RX0) (T := TX0) (N := 8) hx hb hts hin_X0 hown hK hP 0 rfl rfl 7 (by decide) fl_40 (fun _ h9 => h9) rfl dX0_countEaten_1 ?_
  refine tw_cs (va_runS (As := [.int ea]) (rest := []) ⟨hx, hb, hml, hown, hts⟩ (c_J6_bitCount l D cI cS ea) (va_cwS 1 hts gX0_countEaten_J6_bitCount_0f7a4 rfl rfl rfl (by decide +kernel) ⟨Nat.le_of_ble_eq_true rfl, Nat.le_of_ble_eq_true rfl⟩) ⟨tw_Rb, tw_Rp (hP.sub (ws' := []) [] rfl) hK⟩ rfl rfl hl.1 rfl (lv_room (Nat.le_of_ble_eq_true rfl)) dX0_countEaten_4 ⟨Nat.zero_le _, Nat.zero_le _⟩) ?_
  exact W.iret hx hb hr (fun t ht _ => ⟨_, rfl, (by (unfold m_X0_countEaten) <;> rfl), ht⟩) (fun _ h => nomatch h) dX0_countEaten_7

def m_X0_whereIs (pl : Nat → Int32) (ea : Int32) (v1 : Int32) : Int32 :=
  (if (m_X0_isEaten ea v1) = 0 then pl v1.toNatClampNeg else (-9))
set_option maxHeartbeats 4000000 in
set_option maxRecDepth 100000 in
theorem c_X0_whereIs (l : Launch) (D : va_G) (cI cS : ClassId) (b0 : Nat) (b1 : Nat) (b2 : Nat) (b3 : Nat) (b4 : Nat) (b5 : Nat) (ac : Nat → Int32) (kd : Nat → Int32) (ho : Nat → Int32) (pl : Nat → Int32) (st : Nat → Int32) (nc : Nat) (nt : Nat) (ea : Int32) (v1 : Int32) (h1 : vp_in v1 6) : Met l yX0_whereIs wsX0_whereIs ({ frames := 1, cells := 0, slots := 0, locals := 21 }) (tw_R D cI cS [.ref b0, .int v1] [(b0, .inr (0, [.ref b1, .ref b2, .ref b3, .ref b4, .ref b5, .int (nI nc), .int (nI nt), .int ea])), (b1, .inl (cI, 6, .inl ac)), (b2, .inl (cI, 6, .inl kd)), (b3, .inl (cI, 6, .inl ho)), (b4, .inl (cI, 6, .inl pl)), (b5, .inl (cI, 6, .inl st))]) (vp_Si (fun r => r = (m_X0_whereIs pl ea v1))) 0 0 (fun _ => False) := by
  refine Met.ofW (cc := cX0_whereIs) (maxL := 2) (ret := (some .int)) (by decide) rfl ?_
  intro p e s m args below meth c s₁ B hml hv
  obtain ⟨rfl, hP, hK⟩ := hv
  have hx := B.exec
  have hb := B.bytes
  have hr := B.returns
  have hts := atoms_spec (ws := wsX0_whereIs) B.pre
  have hown : s.vm.findClass RX0 = some m.cls := findClass_of_methodNamed B.named
  have hlocks := B.notSynchronized
  have fl_21 := hts (.fieldLink RX0 21 "TableWar$Cloth" "place" "[I") (by decide +kernel)
  have hin_X0 := (show ∀ w ∈ u_ws RX0 TX0 8, w ∈ wsX0_whereIs from by decide +kernel)
  have hl := lv_entry ([.ref b0, .int v1]) (n := 2) (Nat.le_of_ble_eq_true rfl)
  rw [lg_entry_eq]
  generalize (lg_sl ([.ref b0, .int v1]) ++ List.replicate (2 - (lg_sl ([.ref b0, .int v1])).length) Slot.unset).toArray = ls at hl ⊢
  have hl : lv_has ls 2 [(0, .ref b0), (1, .int v1)] := hl
  refine lv_aload_n hx hb dX0_whereIs_0 rfl (lv_at hl 0 rfl) ?_
  refine lv_iload_n hx hb dX0_whereIs_1 rfl (lv_at hl 1 rfl) ?_
  refine tw_cs (va_runV (As := [.int v1]) (rest := []) ⟨hx, hb, hml, hown, hts⟩ (c_X0_isEaten l D cI cS b0 b1 b2 b3 b4 b5 ac kd ho pl st nc nt ea v1) (cwV 1 hts gX0_whereIs_X0_isEaten rfl rfl rfl (by decide +kernel) ⟨Nat.le_of_ble_eq_true rfl, Nat.le_of_ble_eq_true rfl⟩) ⟨tw_Rb, va_recv hK hP (ci := 0) (q0 := 0) rfl rfl, tw_Rp (hP.sub (ws' := [(b0, .inr (0, [.ref b1, .ref b2, .ref b3, .ref b4, .ref b5, .int (nI nc), .int (nI nt), .int ea])), (b1, .inl (cI, 6, .inl ac)), (b2, .inl (cI, 6, .inl kd)), (b3, .inl (cI, 6, .inl ho)), (b4, .inl (cI, 6, .inl pl)), (b5, .inl (cI, 6, .inl st))]) [0, 1, 2, 3, 4, 5] rfl) hK⟩ rfl rfl hl.1 rfl (lv_room (Nat.le_of_ble_eq_true rfl)) dX0_whereIs_2 ⟨Nat.zero_le _, Nat.zero_le _⟩) ?_
  refine tw_join (fun (y : Int32) => F0 m 19 ls (.int y :: [])) (if (m_X0_isEaten ea v1) = 0 then pl v1.toNatClampNeg else (-9)) ?_ (fun J19_0 => ?_)
  · intro y19 hy19
    exact W.iret hx hb hr (fun t ht _ => ⟨_, rfl, (by (unfold m_X0_whereIs; (try rw [← hy19])) <;> rfl), ht⟩) (fun _ h => nomatch h) dX0_whereIs_19
  · refine lv_if_eq (tgt := 13) hx hb dX0_whereIs_5 (by decide) (fun c_5 => ?_) (fun c_5 => ?_)
    · refine lv_aload_n hx hb dX0_whereIs_13 rfl (lv_at hl 0 rfl) ?_
      refine va_get (ci := 0) (v := .ref b4) (C := RX0) (T := TX0) (N := 8) hx hb hts hin_X0 hown hK hP 0 rfl rfl 3 (by decide) fl_21 (fun _ h9 => h9) rfl dX0_whereIs_14 ?_
      refine lv_iload_n hx hb dX0_whereIs_17 rfl (lv_at hl 1 rfl) ?_
      refine va_iald hx hb hK hP 4 0 rfl rfl (by assumption) dX0_whereIs_18 ?_
      exact J19_0 _ (by (rw [if_pos c_5]) <;> rfl)
    · refine lv_bipush (v := (-9)) hx hb dX0_whereIs_8 (by decide) ?_
      refine lv_goto (tgt := 19) hx hb dX0_whereIs_10 (by decide) ?_
      exact J19_0 _ (by (rw [if_neg c_5]) <;> rfl)

def m_X0_mightOf (kd : Nat → Int32) (st : Nat → Int32) (ea : Int32) (v1 : Int32) : Int32 :=
  if (m_X0_isEaten ea v1) = 0 then
    if (kd v1.toNatClampNeg) = 1 then
      (st v1.toNatClampNeg) + 1
    else
      if (kd v1.toNatClampNeg) = 2 then
        2 * ((st v1.toNatClampNeg) + 1)
      else
        st v1.toNatClampNeg
  else
    0
set_option maxHeartbeats 4000000 in
set_option maxRecDepth 100000 in
theorem c_X0_mightOf (l : Launch) (D : va_G) (cI cS : ClassId) (b0 : Nat) (b1 : Nat) (b2 : Nat) (b3 : Nat) (b4 : Nat) (b5 : Nat) (ac : Nat → Int32) (kd : Nat → Int32) (ho : Nat → Int32) (pl : Nat → Int32) (st : Nat → Int32) (nc : Nat) (nt : Nat) (ea : Int32) (v1 : Int32) (h1 : vp_in v1 6) : Met l yX0_mightOf wsX0_mightOf ({ frames := 1, cells := 0, slots := 0, locals := 21 }) (tw_R D cI cS [.ref b0, .int v1] [(b0, .inr (0, [.ref b1, .ref b2, .ref b3, .ref b4, .ref b5, .int (nI nc), .int (nI nt), .int ea])), (b1, .inl (cI, 6, .inl ac)), (b2, .inl (cI, 6, .inl kd)), (b3, .inl (cI, 6, .inl ho)), (b4, .inl (cI, 6, .inl pl)), (b5, .inl (cI, 6, .inl st))]) (vp_Si (fun r => r = (m_X0_mightOf kd st ea v1))) 0 0 (fun _ => False) := by
  refine Met.ofW (cc := cX0_mightOf) (maxL := 2) (ret := (some .int)) (by decide) rfl ?_
  intro p e s m args below meth c s₁ B hml hv
  obtain ⟨rfl, hP, hK⟩ := hv
  have hx := B.exec
  have hb := B.bytes
  have hr := B.returns
  have hts := atoms_spec (ws := wsX0_mightOf) B.pre
  have hown : s.vm.findClass RX0 = some m.cls := findClass_of_methodNamed B.named
  have hlocks := B.notSynchronized
  have fl_15 := hts (.fieldLink RX0 15 "TableWar$Cloth" "kind" "[I") (by decide +kernel)
  have hin_X0 := (show ∀ w ∈ u_ws RX0 TX0 8, w ∈ wsX0_mightOf from by decide +kernel)
  have fl_24 := hts (.fieldLink RX0 24 "TableWar$Cloth" "strength" "[I") (by decide +kernel)
  have hl := lv_entry ([.ref b0, .int v1]) (n := 2) (Nat.le_of_ble_eq_true rfl)
  rw [lg_entry_eq]
  generalize (lg_sl ([.ref b0, .int v1]) ++ List.replicate (2 - (lg_sl ([.ref b0, .int v1])).length) Slot.unset).toArray = ls at hl ⊢
  have hl : lv_has ls 2 [(0, .ref b0), (1, .int v1)] := hl
  refine lv_aload_n hx hb dX0_mightOf_0 rfl (lv_at hl 0 rfl) ?_
  refine lv_iload_n hx hb dX0_mightOf_1 rfl (lv_at hl 1 rfl) ?_
  refine tw_cs (va_runV (As := [.int v1]) (rest := []) ⟨hx, hb, hml, hown, hts⟩ (c_X0_isEaten l D cI cS b0 b1 b2 b3 b4 b5 ac kd ho pl st nc nt ea v1) (cwV 1 hts gX0_mightOf_X0_isEaten rfl rfl rfl (by decide +kernel) ⟨Nat.le_of_ble_eq_true rfl, Nat.le_of_ble_eq_true rfl⟩) ⟨tw_Rb, va_recv hK hP (ci := 0) (q0 := 0) rfl rfl, tw_Rp (hP.sub (ws' := [(b0, .inr (0, [.ref b1, .ref b2, .ref b3, .ref b4, .ref b5, .int (nI nc), .int (nI nt), .int ea])), (b1, .inl (cI, 6, .inl ac)), (b2, .inl (cI, 6, .inl kd)), (b3, .inl (cI, 6, .inl ho)), (b4, .inl (cI, 6, .inl pl)), (b5, .inl (cI, 6, .inl st))]) [0, 1, 2, 3, 4, 5] rfl) hK⟩ rfl rfl hl.1 rfl (lv_room (Nat.le_of_ble_eq_true rfl)) dX0_mightOf_2 ⟨Nat.zero_le _, Nat.zero_le _⟩) ?_
  refine lv_if_eq (tgt := 10) hx hb dX0_mightOf_5 (by decide) (fun c_5 => ?_) (fun c_5 => ?_)
  · refine lv_aload_n hx hb dX0_mightOf_10 rfl (lv_at hl 0 rfl) ?_
    refine va_get (ci := 0) (v := .ref b2) (C := RX0) (T := TX0) (N := 8) hx hb hts hin_X0 hown hK hP 0 rfl rfl 1 (by decide) fl_15 (fun _ h9 => h9) rfl dX0_mightOf_11 ?_
    refine lv_iload_n hx hb dX0_mightOf_14 rfl (lv_at hl 1 rfl) ?_
    refine va_iald hx hb hK hP 2 0 rfl rfl (by assumption) dX0_mightOf_15 ?_
    by_cases c_16_0 : (kd v1.toNatClampNeg) = 1
    · refine lv_lookup (tgt := 55) hx hb dX0_mightOf_16 (by decide) (by (rw [c_16_0]) <;> rfl) (by decide) ?_
      refine lv_aload_n hx hb dX0_mightOf_55 rfl (lv_at hl 0 rfl) ?_
      refine va_get (ci := 0) (v := .ref b5) (C := RX0) (T := TX0) (N := 8) hx hb hts hin_X0 hown hK hP 0 rfl rfl 4 (by decide) fl_24 (fun _ h9 => h9) rfl dX0_mightOf_56 ?_
      refine lv_iload_n hx hb dX0_mightOf_59 rfl (lv_at hl 1 rfl) ?_
      refine va_iald hx hb hK hP 5 0 rfl rfl (by assumption) dX0_mightOf_60 ?_
      refine lv_iconst (v := 1) hx hb dX0_mightOf_61 (by decide) ?_
      refine lv_iadd hx hb dX0_mightOf_62 ?_
      exact W.iret hx hb hr (fun t ht _ => ⟨_, rfl, (by (unfold m_X0_mightOf; rw [if_pos c_5]; rw [if_pos c_16_0]) <;> rfl), ht⟩) (fun _ h => nomatch h) dX0_mightOf_63
    by_cases c_16_1 : (kd v1.toNatClampNeg) = 2
    · refine lv_lookup (tgt := 44) hx hb dX0_mightOf_16 (by decide) (by (rw [c_16_1]) <;> rfl) (by decide) ?_
      refine lv_iconst (v := 2) hx hb dX0_mightOf_44 (by decide) ?_
      refine lv_aload_n hx hb dX0_mightOf_45 rfl (lv_at hl 0 rfl) ?_
      refine va_get (ci := 0) (v := .ref b5) (C := RX0) (T := TX0) (N := 8) hx hb hts hin_X0 hown hK hP 0 rfl rfl 4 (by decide) fl_24 (fun _ h9 => h9) rfl dX0_mightOf_46 ?_
      refine lv_iload_n hx hb dX0_mightOf_49 rfl (lv_at hl 1 rfl) ?_
      refine va_iald hx hb hK hP 5 0 rfl rfl (by assumption) dX0_mightOf_50 ?_
      refine lv_iconst (v := 1) hx hb dX0_mightOf_51 (by decide) ?_
      refine lv_iadd hx hb dX0_mightOf_52 ?_
      refine lv_imul hx hb dX0_mightOf_53 ?_
      exact W.iret hx hb hr (fun t ht _ => ⟨_, rfl, (by (unfold m_X0_mightOf; rw [if_pos c_5]; rw [if_neg c_16_0]; rw [if_pos c_16_1]) <;> rfl), ht⟩) (fun _ h => nomatch h) dX0_mightOf_54
    · refine lv_lookup (tgt := 64) hx hb dX0_mightOf_16 (by decide) (show Op.lookupswitch.offset [(1, 39), (2, 28)] 48 _ = 48 from by (rw [lv_osw (k := 1) (a := 1) c_16_0 rfl, lv_osw (k := 2) (a := 2) c_16_1 rfl]) <;> rfl) (by decide) ?_
      refine lv_aload_n hx hb dX0_mightOf_64 rfl (lv_at hl 0 rfl) ?_
      refine va_get (ci := 0) (v := .ref b5) (C := RX0) (T := TX0) (N := 8) hx hb hts hin_X0 hown hK hP 0 rfl rfl 4 (by decide) fl_24 (fun _ h9 => h9) rfl dX0_mightOf_65 ?_
      refine lv_iload_n hx hb dX0_mightOf_68 rfl (lv_at hl 1 rfl) ?_
      refine va_iald hx hb hK hP 5 0 rfl rfl (by assumption) dX0_mightOf_69 ?_
      exact W.iret hx hb hr (fun t ht _ => ⟨_, rfl, (by (unfold m_X0_mightOf; rw [if_pos c_5]; rw [if_neg c_16_0]; rw [if_neg c_16_1]) <;> rfl), ht⟩) (fun _ h => nomatch h) dX0_mightOf_70
  · refine lv_iconst (v := 0) hx hb dX0_mightOf_8 (by decide) ?_
    exact W.iret hx hb hr (fun t ht _ => ⟨_, rfl, (by (unfold m_X0_mightOf; rw [if_neg c_5]) <;> rfl), ht⟩) (fun _ h => nomatch h) dX0_mightOf_9

def m_X0_mightIn_L5 (kd : Nat → Int32) (ho : Nat → Int32) (pl : Nat → Int32) (st : Nat → Int32) (ea : Int32) (v1 : Int32) (v2 : Int32) : Nat → Nat → Int32 → Int32
  | 0, i5, u3_5 =>
    u3_5
  | k5 + 1, i5, u3_5 =>
    if (ho i5) = v1 then
      if (pl i5) = v2 then
        m_X0_mightIn_L5 kd ho pl st ea v1 v2 k5 (i5 + 1) (u3_5 + (m_X0_mightOf kd st ea (nI i5)))
      else
        m_X0_mightIn_L5 kd ho pl st ea v1 v2 k5 (i5 + 1) u3_5
    else
      m_X0_mightIn_L5 kd ho pl st ea v1 v2 k5 (i5 + 1) u3_5
theorem m_X0_mightIn_L5_0 (kd : Nat → Int32) (ho : Nat → Int32) (pl : Nat → Int32) (st : Nat → Int32) (ea : Int32) (v1 : Int32) (v2 : Int32) (i5 : Nat) (u3_5 : Int32) : m_X0_mightIn_L5 kd ho pl st ea v1 v2 0 i5 u3_5 = 
    u3_5 := rfl
theorem m_X0_mightIn_L5_s (kd : Nat → Int32) (ho : Nat → Int32) (pl : Nat → Int32) (st : Nat → Int32) (ea : Int32) (v1 : Int32) (v2 : Int32) (i5 : Nat) (u3_5 : Int32) (k5 : Nat) : m_X0_mightIn_L5 kd ho pl st ea v1 v2 (k5 + 1) i5 u3_5 = 
    if (ho i5) = v1 then
      if (pl i5) = v2 then
        m_X0_mightIn_L5 kd ho pl st ea v1 v2 k5 (i5 + 1) (u3_5 + (m_X0_mightOf kd st ea (nI i5)))
      else
        m_X0_mightIn_L5 kd ho pl st ea v1 v2 k5 (i5 + 1) u3_5
    else
      m_X0_mightIn_L5 kd ho pl st ea v1 v2 k5 (i5 + 1) u3_5 := rfl
def m_X0_mightIn (kd : Nat → Int32) (ho : Nat → Int32) (pl : Nat → Int32) (st : Nat → Int32) (nt : Nat) (ea : Int32) (v1 : Int32) (v2 : Int32) : Int32 :=
  (m_X0_mightIn_L5 kd ho pl st ea v1 v2 nt 0 0)
set_option maxHeartbeats 4000000 in
set_option maxRecDepth 100000 in
theorem c_X0_mightIn (l : Launch) (D : va_G) (cI cS : ClassId) (b0 : Nat) (b1 : Nat) (b2 : Nat) (b3 : Nat) (b4 : Nat) (b5 : Nat) (ac : Nat → Int32) (kd : Nat → Int32) (ho : Nat → Int32) (pl : Nat → Int32) (st : Nat → Int32) (nc : Nat) (nt : Nat) (ea : Int32) (v1 : Int32) (v2 : Int32) (hn : nt ≤ 6) : Met l yX0_mightIn wsX0_mightIn ({ frames := 2, cells := 0, slots := 0, locals := 42 }) (tw_R D cI cS [.ref b0, .int v1, .int v2] [(b0, .inr (0, [.ref b1, .ref b2, .ref b3, .ref b4, .ref b5, .int (nI nc), .int (nI nt), .int ea])), (b1, .inl (cI, 6, .inl ac)), (b2, .inl (cI, 6, .inl kd)), (b3, .inl (cI, 6, .inl ho)), (b4, .inl (cI, 6, .inl pl)), (b5, .inl (cI, 6, .inl st))]) (vp_Si (fun r => r = (m_X0_mightIn kd ho pl st nt ea v1 v2))) 0 0 (fun _ => False) := by
  refine Met.ofW (cc := cX0_mightIn) (maxL := 5) (ret := (some .int)) (by decide) rfl ?_
  intro p e s m args below meth c s₁ B hml hv
  obtain ⟨rfl, hP, hK⟩ := hv
  have hx := B.exec
  have hb := B.bytes
  have hr := B.returns
  have hts := atoms_spec (ws := wsX0_mightIn) B.pre
  have hown : s.vm.findClass RX0 = some m.cls := findClass_of_methodNamed B.named
  have hlocks := B.notSynchronized
  have fl_37 := hts (.fieldLink RX0 37 "TableWar$Cloth" "things" "I") (by decide +kernel)
  have hin_X0 := (show ∀ w ∈ u_ws RX0 TX0 8, w ∈ wsX0_mightIn from by decide +kernel)
  have fl_18 := hts (.fieldLink RX0 18 "TableWar$Cloth" "house" "[I") (by decide +kernel)
  have fl_21 := hts (.fieldLink RX0 21 "TableWar$Cloth" "place" "[I") (by decide +kernel)
  have hl := lv_entry ([.ref b0, .int v1, .int v2]) (n := 5) (Nat.le_of_ble_eq_true rfl)
  rw [lg_entry_eq]
  generalize (lg_sl ([.ref b0, .int v1, .int v2]) ++ List.replicate (5 - (lg_sl ([.ref b0, .int v1, .int v2])).length) Slot.unset).toArray = ls at hl ⊢
  have hl : lv_has ls 5 [(0, .ref b0), (1, .int v1), (2, .int v2)] := hl
  refine lv_iconst (v := 0) hx hb dX0_mightIn_0 (by decide) ?_
  refine lv_istore_n (lv' := [(3, .int 0), (0, .ref b0), (1, .int v1), (2, .int v2)]) hx hb dX0_mightIn_1 rfl hl (by decide) rfl (fun ls hl => ?_)
  refine lv_iconst (v := 0) hx hb dX0_mightIn_2 (by decide) ?_
  refine lv_istore (lv' := [(4, .int 0), (3, .int 0), (0, .ref b0), (1, .int v1), (2, .int v2)]) hx hb dX0_mightIn_3 hl (by decide) rfl (fun ls hl => ?_)
  refine tw_loopR (σ := Int32) (fun k i z ls => i + k = nt ∧ m_X0_mightIn_L5 kd ho pl st ea v1 v2 k i z = m_X0_mightIn_L5 kd ho pl st ea v1 v2 nt 0 0 ∧ lv_has ls 5 [(4, .int (nI i)), (3, .int z), (0, .ref b0), (1, .int v1), (2, .int v2)]) nt 0 0 ⟨Nat.zero_add _, rfl, lv_sub hl [0, 1, 2, 3, 4] rfl⟩ ?_ ?_
  · intro i5 u3_5 ls hI
    obtain ⟨hk5, hm5, hl⟩ := hI
    have hm5 : m_X0_mightIn_L5 kd ho pl st ea v1 v2 0 i5 u3_5 = m_X0_mightIn_L5 kd ho pl st ea v1 v2 nt 0 0 := hm5
    have hl : lv_has ls 5 [(4, .int (nI i5)), (3, .int u3_5), (0, .ref b0), (1, .int v1), (2, .int v2)] := hl
    have hm5 : u3_5 = m_X0_mightIn_L5 kd ho pl st ea v1 v2 nt 0 0 := hm5
    refine lv_iload hx hb dX0_mightIn_5 (lv_at hl 0 rfl) ?_
    refine lv_aload_n hx hb dX0_mightIn_7 rfl (lv_at hl 2 rfl) ?_
    refine va_get (ci := 0) (v := .int (nI nt)) (C := RX0) (T := TX0) (N := 8) hx hb hts hin_X0 hown hK hP 0 rfl rfl 6 (by decide) fl_37 (fun _ h9 => h9) rfl dX0_mightIn_8 ?_
    refine lv_icmp_ge (tgt := 51) hx hb dX0_mightIn_11 (by decide) (fun c_11 => ?_) (fun c_11 => absurd (tw_tge rfl (show nt ≤ i5 by omega) (show i5 < 2 ^ 31 by omega)) c_11)
    refine lv_iload_n hx hb dX0_mightIn_51 rfl (lv_at hl 1 rfl) ?_
    exact W.iret hx hb hr (fun t ht _ => ⟨_, rfl, (by (unfold m_X0_mightIn; rw [← hm5]) <;> rfl), ht⟩) (fun _ h => nomatch h) dX0_mightIn_52
  · intro k5 i5 u3_5 ls ih5 hI
    obtain ⟨hk5, hm5, hl⟩ := hI
    have hm5 : m_X0_mightIn_L5 kd ho pl st ea v1 v2 (k5 + 1) i5 u3_5 = m_X0_mightIn_L5 kd ho pl st ea v1 v2 nt 0 0 := hm5
    have hl : lv_has ls 5 [(4, .int (nI i5)), (3, .int u3_5), (0, .ref b0), (1, .int v1), (2, .int v2)] := hl
    refine lv_iload hx hb dX0_mightIn_5 (lv_at hl 0 rfl) ?_
    refine lv_aload_n hx hb dX0_mightIn_7 rfl (lv_at hl 2 rfl) ?_
    refine va_get (ci := 0) (v := .int (nI nt)) (C := RX0) (T := TX0) (N := 8) hx hb hts hin_X0 hown hK hP 0 rfl rfl 6 (by decide) fl_37 (fun _ h9 => h9) rfl dX0_mightIn_8 ?_
    refine lv_icmp_ge (tgt := 51) hx hb dX0_mightIn_11 (by decide) (fun c_11 => absurd c_11 (tw_tlt rfl (show i5 < nt by omega) (show nt < 2 ^ 31 by omega))) (fun c_11 => ?_)
    refine lv_aload_n hx hb dX0_mightIn_14 rfl (lv_at hl 2 rfl) ?_
    refine va_get (ci := 0) (v := .ref b3) (C := RX0) (T := TX0) (N := 8) hx hb hts hin_X0 hown hK hP 0 rfl rfl 2 (by decide) fl_18 (fun _ h9 => h9) rfl dX0_mightIn_15 ?_
    refine lv_iload hx hb dX0_mightIn_18 (lv_at hl 0 rfl) ?_
    refine va_iald hx hb hK hP 3 0 rfl rfl (vp_in_nI (show i5 < 6 by omega) (by decide)) dX0_mightIn_20 ?_
    refine tw_top (show _ = ho i5 from by rw [nI_clamp (by omega)]) ?_
    refine lv_iload_n hx hb dX0_mightIn_21 rfl (lv_at hl 3 rfl) ?_
    refine lv_icmp_ne (tgt := 45) hx hb dX0_mightIn_22 (by decide) (fun c_22 => ?_) (fun c_22 => ?_)
    · refine lv_iinc (v := nI (i5 + 1)) (lv' := [(4, .int (nI (i5 + 1))), (3, .int u3_5), (0, .ref b0), (1, .int v1), (2, .int v2)]) hx hb dX0_mightIn_45 hl (k := 0) rfl (nI_1 _) (by decide) rfl (fun ls hl => ?_)
      refine lv_goto (tgt := 5) hx hb dX0_mightIn_48 (by decide) ?_
      exact ih5 u3_5 ls ⟨by omega, (by (rw [← hm5, m_X0_mightIn_L5_s]; rw [if_neg c_22]) <;> rfl), lv_sub hl [0, 1, 2, 3, 4] rfl⟩
    · refine lv_aload_n hx hb dX0_mightIn_25 rfl (lv_at hl 2 rfl) ?_
      refine va_get (ci := 0) (v := .ref b4) (C := RX0) (T := TX0) (N := 8) hx hb hts hin_X0 hown hK hP 0 rfl rfl 3 (by decide) fl_21 (fun _ h9 => h9) rfl dX0_mightIn_26 ?_
      refine lv_iload hx hb dX0_mightIn_29 (lv_at hl 0 rfl) ?_
      refine va_iald hx hb hK hP 4 0 rfl rfl (vp_in_nI (show i5 < 6 by omega) (by decide)) dX0_mightIn_31 ?_
      refine tw_top (show _ = pl i5 from by rw [nI_clamp (by omega)]) ?_
      refine lv_iload_n hx hb dX0_mightIn_32 rfl (lv_at hl 4 rfl) ?_
      refine lv_icmp_ne (tgt := 45) hx hb dX0_mightIn_33 (by decide) (fun c_33 => ?_) (fun c_33 => ?_)
      · refine lv_iinc (v := nI (i5 + 1)) (lv' := [(4, .int (nI (i5 + 1))), (3, .int u3_5), (0, .ref b0), (1, .int v1), (2, .int v2)]) hx hb dX0_mightIn_45 hl (k := 0) rfl (nI_1 _) (by decide) rfl (fun ls hl => ?_)
        refine lv_goto (tgt := 5) hx hb dX0_mightIn_48 (by decide) ?_
        exact ih5 u3_5 ls ⟨by omega, (by (rw [← hm5, m_X0_mightIn_L5_s]; rw [if_pos c_22]; rw [if_neg c_33]) <;> rfl), lv_sub hl [0, 1, 2, 3, 4] rfl⟩
      · refine lv_iload_n hx hb dX0_mightIn_36 rfl (lv_at hl 1 rfl) ?_
        refine lv_aload_n hx hb dX0_mightIn_37 rfl (lv_at hl 2 rfl) ?_
        refine lv_iload hx hb dX0_mightIn_38 (lv_at hl 0 rfl) ?_
        refine tw_cs (va_runV (As := [.int (nI i5)]) (rest := [.int u3_5]) ⟨hx, hb, hml, hown, hts⟩ (c_X0_mightOf l D cI cS b0 b1 b2 b3 b4 b5 ac kd ho pl st nc nt ea (nI i5) (by first | assumption | omega | exact hz60 _ | exact vp_in_nI (by omega) (by decide))) (cwV 1 hts gX0_mightIn_X0_mightOf rfl rfl rfl (by decide +kernel) ⟨Nat.le_of_ble_eq_true rfl, Nat.le_of_ble_eq_true rfl⟩) ⟨tw_Rb, va_recv hK hP (ci := 0) (q0 := 0) rfl rfl, tw_Rp (hP.sub (ws' := [(b0, .inr (0, [.ref b1, .ref b2, .ref b3, .ref b4, .ref b5, .int (nI nc), .int (nI nt), .int ea])), (b1, .inl (cI, 6, .inl ac)), (b2, .inl (cI, 6, .inl kd)), (b3, .inl (cI, 6, .inl ho)), (b4, .inl (cI, 6, .inl pl)), (b5, .inl (cI, 6, .inl st))]) [0, 1, 2, 3, 4, 5] rfl) hK⟩ rfl rfl hl.1 rfl (lv_room (Nat.le_of_ble_eq_true rfl)) dX0_mightIn_40 ⟨Nat.zero_le _, Nat.zero_le _⟩) ?_
        refine lv_iadd hx hb dX0_mightIn_43 ?_
        refine lv_istore_n (lv' := [(3, .int (u3_5 + (m_X0_mightOf kd st ea (nI i5)))), (4, .int (nI i5)), (0, .ref b0), (1, .int v1), (2, .int v2)]) hx hb dX0_mightIn_44 rfl hl (by decide) rfl (fun ls hl => ?_)
        refine lv_iinc (v := nI (i5 + 1)) (lv' := [(4, .int (nI (i5 + 1))), (3, .int (u3_5 + (m_X0_mightOf kd st ea (nI i5)))), (0, .ref b0), (1, .int v1), (2, .int v2)]) hx hb dX0_mightIn_45 hl (k := 1) rfl (nI_1 _) (by decide) rfl (fun ls hl => ?_)
        refine lv_goto (tgt := 5) hx hb dX0_mightIn_48 (by decide) ?_
        exact ih5 (u3_5 + (m_X0_mightOf kd st ea (nI i5))) ls ⟨by omega, (by (rw [← hm5, m_X0_mightIn_L5_s]; rw [if_pos c_22]; rw [if_pos c_33]) <;> rfl), lv_sub hl [0, 1, 2, 3, 4] rfl⟩

def m_X0_holderOf_L4 (kd : Nat → Int32) (ho : Nat → Int32) (pl : Nat → Int32) (st : Nat → Int32) (ea : Int32) (v1 : Int32) : Nat → Nat → Int32 → Int32
  | 0, i4, u2_4 =>
    u2_4
  | k4 + 1, i4, u2_4 =>
    if (pl i4) = v1 then
      m_X0_holderOf_L4 kd ho pl st ea v1 k4 (i4 + 1) (u2_4 + (if (ho i4) = 0 then (m_X0_mightOf kd st ea (nI i4)) else -(m_X0_mightOf kd st ea (nI i4))))
    else
      m_X0_holderOf_L4 kd ho pl st ea v1 k4 (i4 + 1) u2_4
theorem m_X0_holderOf_L4_0 (kd : Nat → Int32) (ho : Nat → Int32) (pl : Nat → Int32) (st : Nat → Int32) (ea : Int32) (v1 : Int32) (i4 : Nat) (u2_4 : Int32) : m_X0_holderOf_L4 kd ho pl st ea v1 0 i4 u2_4 = 
    u2_4 := rfl
theorem m_X0_holderOf_L4_s (kd : Nat → Int32) (ho : Nat → Int32) (pl : Nat → Int32) (st : Nat → Int32) (ea : Int32) (v1 : Int32) (i4 : Nat) (u2_4 : Int32) (k4 : Nat) : m_X0_holderOf_L4 kd ho pl st ea v1 (k4 + 1) i4 u2_4 = 
    if (pl i4) = v1 then
      m_X0_holderOf_L4 kd ho pl st ea v1 k4 (i4 + 1) (u2_4 + (if (ho i4) = 0 then (m_X0_mightOf kd st ea (nI i4)) else -(m_X0_mightOf kd st ea (nI i4))))
    else
      m_X0_holderOf_L4 kd ho pl st ea v1 k4 (i4 + 1) u2_4 := rfl
def m_X0_holderOf (kd : Nat → Int32) (ho : Nat → Int32) (pl : Nat → Int32) (st : Nat → Int32) (nt : Nat) (ea : Int32) (v1 : Int32) : Int32 :=
  if (m_X0_holderOf_L4 kd ho pl st ea v1 nt 0 0) = 0 then
    (-9)
  else
    (if (m_X0_holderOf_L4 kd ho pl st ea v1 nt 0 0) ≤ 0 then 1 else 0)
set_option maxHeartbeats 4000000 in
set_option maxRecDepth 100000 in
theorem c_X0_holderOf (l : Launch) (D : va_G) (cI cS : ClassId) (b0 : Nat) (b1 : Nat) (b2 : Nat) (b3 : Nat) (b4 : Nat) (b5 : Nat) (ac : Nat → Int32) (kd : Nat → Int32) (ho : Nat → Int32) (pl : Nat → Int32) (st : Nat → Int32) (nc : Nat) (nt : Nat) (ea : Int32) (v1 : Int32) (hn : nt ≤ 6) : Met l yX0_holderOf wsX0_holderOf ({ frames := 2, cells := 0, slots := 0, locals := 42 }) (tw_R D cI cS [.ref b0, .int v1] [(b0, .inr (0, [.ref b1, .ref b2, .ref b3, .ref b4, .ref b5, .int (nI nc), .int (nI nt), .int ea])), (b1, .inl (cI, 6, .inl ac)), (b2, .inl (cI, 6, .inl kd)), (b3, .inl (cI, 6, .inl ho)), (b4, .inl (cI, 6, .inl pl)), (b5, .inl (cI, 6, .inl st))]) (vp_Si (fun r => r = (m_X0_holderOf kd ho pl st nt ea v1))) 0 0 (fun _ => False) := by
  refine Met.ofW (cc := cX0_holderOf) (maxL := 4) (ret := (some .int)) (by decide) rfl ?_
  intro p e s m args below meth c s₁ B hml hv
  obtain ⟨rfl, hP, hK⟩ := hv
  have hx := B.exec
  have hb := B.bytes
  have hr := B.returns
  have hts := atoms_spec (ws := wsX0_holderOf) B.pre
  have hown : s.vm.findClass RX0 = some m.cls := findClass_of_methodNamed B.named
  have hlocks := B.notSynchronized
  have fl_37 := hts (.fieldLink RX0 37 "TableWar$Cloth" "things" "I") (by decide +kernel)
  have hin_X0 := (show ∀ w ∈ u_ws RX0 TX0 8, w ∈ wsX0_holderOf from by decide +kernel)
  have fl_21 := hts (.fieldLink RX0 21 "TableWar$Cloth" "place" "[I") (by decide +kernel)
  have fl_18 := hts (.fieldLink RX0 18 "TableWar$Cloth" "house" "[I") (by decide +kernel)
  have hl := lv_entry ([.ref b0, .int v1]) (n := 4) (Nat.le_of_ble_eq_true rfl)
  rw [lg_entry_eq]
  generalize (lg_sl ([.ref b0, .int v1]) ++ List.replicate (4 - (lg_sl ([.ref b0, .int v1])).length) Slot.unset).toArray = ls at hl ⊢
  have hl : lv_has ls 4 [(0, .ref b0), (1, .int v1)] := hl
  refine lv_iconst (v := 0) hx hb dX0_holderOf_0 (by decide) ?_
  refine lv_istore_n (lv' := [(2, .int 0), (0, .ref b0), (1, .int v1)]) hx hb dX0_holderOf_1 rfl hl (by decide) rfl (fun ls hl => ?_)
  refine lv_iconst (v := 0) hx hb dX0_holderOf_2 (by decide) ?_
  refine lv_istore_n (lv' := [(3, .int 0), (2, .int 0), (0, .ref b0), (1, .int v1)]) hx hb dX0_holderOf_3 rfl hl (by decide) rfl (fun ls hl => ?_)
  refine tw_loopR (σ := Int32) (fun k i z ls => i + k = nt ∧ m_X0_holderOf_L4 kd ho pl st ea v1 k i z = m_X0_holderOf_L4 kd ho pl st ea v1 nt 0 0 ∧ lv_has ls 4 [(3, .int (nI i)), (2, .int z), (0, .ref b0), (1, .int v1)]) nt 0 0 ⟨Nat.zero_add _, rfl, lv_sub hl [0, 1, 2, 3] rfl⟩ ?_ ?_
  · intro i4 u2_4 ls hI
    obtain ⟨hk4, hm4, hl⟩ := hI
    have hm4 : m_X0_holderOf_L4 kd ho pl st ea v1 0 i4 u2_4 = m_X0_holderOf_L4 kd ho pl st ea v1 nt 0 0 := hm4
    have hl : lv_has ls 4 [(3, .int (nI i4)), (2, .int u2_4), (0, .ref b0), (1, .int v1)] := hl
    have hm4 : u2_4 = m_X0_holderOf_L4 kd ho pl st ea v1 nt 0 0 := hm4
    refine lv_iload_n hx hb dX0_holderOf_4 rfl (lv_at hl 0 rfl) ?_
    refine lv_aload_n hx hb dX0_holderOf_5 rfl (lv_at hl 2 rfl) ?_
    refine va_get (ci := 0) (v := .int (nI nt)) (C := RX0) (T := TX0) (N := 8) hx hb hts hin_X0 hown hK hP 0 rfl rfl 6 (by decide) fl_37 (fun _ h9 => h9) rfl dX0_holderOf_6 ?_
    refine lv_icmp_ge (tgt := 54) hx hb dX0_holderOf_9 (by decide) (fun c_9 => ?_) (fun c_9 => absurd (tw_tge rfl (show nt ≤ i4 by omega) (show i4 < 2 ^ 31 by omega)) c_9)
    refine lv_iload_n hx hb dX0_holderOf_54 rfl (lv_at hl 1 rfl) ?_
    refine lv_if_ne (tgt := 61) hx hb dX0_holderOf_55 (by decide) (fun c_55 => ?_) (fun c_55 => ?_)
    · refine lv_iload_n hx hb dX0_holderOf_61 rfl (lv_at hl 1 rfl) ?_
      refine tw_join (fun (y : Int32) => F0 m 70 ls (.int y :: [])) (if u2_4 ≤ 0 then 1 else 0) ?_ (fun J70_1 => ?_)
      · intro y70 hy70
        exact W.iret hx hb hr (fun t ht _ => ⟨_, rfl, (by (unfold m_X0_holderOf; rw [← hm4]; rw [if_neg c_55]; (try rw [← hy70])) <;> rfl), ht⟩) (fun _ h => nomatch h) dX0_holderOf_70
      · refine lv_if_le (tgt := 69) hx hb dX0_holderOf_62 (by decide) (fun c_62 => ?_) (fun c_62 => ?_)
        · refine lv_iconst (v := 1) hx hb dX0_holderOf_69 (by decide) ?_
          exact J70_1 _ (by (rw [if_pos c_62]) <;> rfl)
        · refine lv_iconst (v := 0) hx hb dX0_holderOf_65 (by decide) ?_
          refine lv_goto (tgt := 70) hx hb dX0_holderOf_66 (by decide) ?_
          exact J70_1 _ (by (rw [if_neg c_62]) <;> rfl)
    · refine lv_bipush (v := (-9)) hx hb dX0_holderOf_58 (by decide) ?_
      exact W.iret hx hb hr (fun t ht _ => ⟨_, rfl, (by (unfold m_X0_holderOf; rw [← hm4]; rw [if_pos c_55]) <;> rfl), ht⟩) (fun _ h => nomatch h) dX0_holderOf_60
  · intro k4 i4 u2_4 ls ih4 hI
    obtain ⟨hk4, hm4, hl⟩ := hI
    have hm4 : m_X0_holderOf_L4 kd ho pl st ea v1 (k4 + 1) i4 u2_4 = m_X0_holderOf_L4 kd ho pl st ea v1 nt 0 0 := hm4
    have hl : lv_has ls 4 [(3, .int (nI i4)), (2, .int u2_4), (0, .ref b0), (1, .int v1)] := hl
    refine lv_iload_n hx hb dX0_holderOf_4 rfl (lv_at hl 0 rfl) ?_
    refine lv_aload_n hx hb dX0_holderOf_5 rfl (lv_at hl 2 rfl) ?_
    refine va_get (ci := 0) (v := .int (nI nt)) (C := RX0) (T := TX0) (N := 8) hx hb hts hin_X0 hown hK hP 0 rfl rfl 6 (by decide) fl_37 (fun _ h9 => h9) rfl dX0_holderOf_6 ?_
    refine lv_icmp_ge (tgt := 54) hx hb dX0_holderOf_9 (by decide) (fun c_9 => absurd c_9 (tw_tlt rfl (show i4 < nt by omega) (show nt < 2 ^ 31 by omega))) (fun c_9 => ?_)
    refine lv_aload_n hx hb dX0_holderOf_12 rfl (lv_at hl 2 rfl) ?_
    refine va_get (ci := 0) (v := .ref b4) (C := RX0) (T := TX0) (N := 8) hx hb hts hin_X0 hown hK hP 0 rfl rfl 3 (by decide) fl_21 (fun _ h9 => h9) rfl dX0_holderOf_13 ?_
    refine lv_iload_n hx hb dX0_holderOf_16 rfl (lv_at hl 0 rfl) ?_
    refine va_iald hx hb hK hP 4 0 rfl rfl (vp_in_nI (show i4 < 6 by omega) (by decide)) dX0_holderOf_17 ?_
    refine tw_top (show _ = pl i4 from by rw [nI_clamp (by omega)]) ?_
    refine lv_iload_n hx hb dX0_holderOf_18 rfl (lv_at hl 3 rfl) ?_
    refine lv_icmp_ne (tgt := 48) hx hb dX0_holderOf_19 (by decide) (fun c_19 => ?_) (fun c_19 => ?_)
    · refine lv_iinc (v := nI (i4 + 1)) (lv' := [(3, .int (nI (i4 + 1))), (2, .int u2_4), (0, .ref b0), (1, .int v1)]) hx hb dX0_holderOf_48 hl (k := 0) rfl (nI_1 _) (by decide) rfl (fun ls hl => ?_)
      refine lv_goto (tgt := 4) hx hb dX0_holderOf_51 (by decide) ?_
      exact ih4 u2_4 ls ⟨by omega, (by (rw [← hm4, m_X0_holderOf_L4_s]; rw [if_neg c_19]) <;> rfl), lv_sub hl [0, 1, 2, 3] rfl⟩
    · refine lv_iload_n hx hb dX0_holderOf_22 rfl (lv_at hl 1 rfl) ?_
      refine lv_aload_n hx hb dX0_holderOf_23 rfl (lv_at hl 2 rfl) ?_
      refine va_get (ci := 0) (v := .ref b3) (C := RX0) (T := TX0) (N := 8) hx hb hts hin_X0 hown hK hP 0 rfl rfl 2 (by decide) fl_18 (fun _ h9 => h9) rfl dX0_holderOf_24 ?_
      refine lv_iload_n hx hb dX0_holderOf_27 rfl (lv_at hl 0 rfl) ?_
      refine va_iald hx hb hK hP 3 0 rfl rfl (vp_in_nI (show i4 < 6 by omega) (by decide)) dX0_holderOf_28 ?_
      refine tw_top (show _ = ho i4 from by rw [nI_clamp (by omega)]) ?_
      refine tw_join (fun (y : Int32) => F0 m 46 ls (.int y :: .int u2_4 :: [])) (if (ho i4) = 0 then (m_X0_mightOf kd st ea (nI i4)) else -(m_X0_mightOf kd st ea (nI i4))) ?_ (fun J46_0 => ?_)
      · intro y46 hy46
        refine lv_iadd hx hb dX0_holderOf_46 ?_
        refine lv_istore_n (lv' := [(2, .int (u2_4 + y46)), (3, .int (nI i4)), (0, .ref b0), (1, .int v1)]) hx hb dX0_holderOf_47 rfl hl (by decide) rfl (fun ls hl => ?_)
        refine lv_iinc (v := nI (i4 + 1)) (lv' := [(3, .int (nI (i4 + 1))), (2, .int (u2_4 + y46)), (0, .ref b0), (1, .int v1)]) hx hb dX0_holderOf_48 hl (k := 1) rfl (nI_1 _) (by decide) rfl (fun ls hl => ?_)
        refine lv_goto (tgt := 4) hx hb dX0_holderOf_51 (by decide) ?_
        exact ih4 (u2_4 + y46) ls ⟨by omega, (by (rw [← hm4, m_X0_holderOf_L4_s]; rw [if_pos c_19]; (try rw [← hy46])) <;> rfl), lv_sub hl [0, 1, 2, 3] rfl⟩
      · refine lv_if_ne (tgt := 40) hx hb dX0_holderOf_29 (by decide) (fun c_29 => ?_) (fun c_29 => ?_)
        · refine lv_aload_n hx hb dX0_holderOf_40 rfl (lv_at hl 2 rfl) ?_
          refine lv_iload_n hx hb dX0_holderOf_41 rfl (lv_at hl 0 rfl) ?_
          refine tw_cs (va_runV (As := [.int (nI i4)]) (rest := [.int u2_4]) ⟨hx, hb, hml, hown, hts⟩ (c_X0_mightOf l D cI cS b0 b1 b2 b3 b4 b5 ac kd ho pl st nc nt ea (nI i4) (by first | assumption | omega | exact hz60 _ | exact vp_in_nI (by omega) (by decide))) (cwV 1 hts gX0_holderOf_X0_mightOf rfl rfl rfl (by decide +kernel) ⟨Nat.le_of_ble_eq_true rfl, Nat.le_of_ble_eq_true rfl⟩) ⟨tw_Rb, va_recv hK hP (ci := 0) (q0 := 0) rfl rfl, tw_Rp (hP.sub (ws' := [(b0, .inr (0, [.ref b1, .ref b2, .ref b3, .ref b4, .ref b5, .int (nI nc), .int (nI nt), .int ea])), (b1, .inl (cI, 6, .inl ac)), (b2, .inl (cI, 6, .inl kd)), (b3, .inl (cI, 6, .inl ho)), (b4, .inl (cI, 6, .inl pl)), (b5, .inl (cI, 6, .inl st))]) [0, 1, 2, 3, 4, 5] rfl) hK⟩ rfl rfl hl.1 rfl (lv_room (Nat.le_of_ble_eq_true rfl)) dX0_holderOf_42 ⟨Nat.zero_le _, Nat.zero_le _⟩) ?_
          refine lv_ineg hx hb dX0_holderOf_45 ?_
          exact J46_0 _ (by (rw [if_neg c_29]) <;> rfl)
        · refine lv_aload_n hx hb dX0_holderOf_32 rfl (lv_at hl 2 rfl) ?_
          refine lv_iload_n hx hb dX0_holderOf_33 rfl (lv_at hl 0 rfl) ?_
          refine tw_cs (va_runV (As := [.int (nI i4)]) (rest := [.int u2_4]) ⟨hx, hb, hml, hown, hts⟩ (c_X0_mightOf l D cI cS b0 b1 b2 b3 b4 b5 ac kd ho pl st nc nt ea (nI i4) (by first | assumption | omega | exact hz60 _ | exact vp_in_nI (by omega) (by decide))) (cwV 1 hts gX0_holderOf_X0_mightOf rfl rfl rfl (by decide +kernel) ⟨Nat.le_of_ble_eq_true rfl, Nat.le_of_ble_eq_true rfl⟩) ⟨tw_Rb, va_recv hK hP (ci := 0) (q0 := 0) rfl rfl, tw_Rp (hP.sub (ws' := [(b0, .inr (0, [.ref b1, .ref b2, .ref b3, .ref b4, .ref b5, .int (nI nc), .int (nI nt), .int ea])), (b1, .inl (cI, 6, .inl ac)), (b2, .inl (cI, 6, .inl kd)), (b3, .inl (cI, 6, .inl ho)), (b4, .inl (cI, 6, .inl pl)), (b5, .inl (cI, 6, .inl st))]) [0, 1, 2, 3, 4, 5] rfl) hK⟩ rfl rfl hl.1 rfl (lv_room (Nat.le_of_ble_eq_true rfl)) dX0_holderOf_34 ⟨Nat.zero_le _, Nat.zero_le _⟩) ?_
          refine lv_goto (tgt := 46) hx hb dX0_holderOf_37 (by decide) ?_
          exact J46_0 _ (by (rw [if_pos c_29]) <;> rfl)

def m_X0_landOf_L4 (ac : Nat → Int32) (kd : Nat → Int32) (ho : Nat → Int32) (pl : Nat → Int32) (st : Nat → Int32) (nt : Nat) (ea : Int32) (v1 : Int32) : Nat → Nat → Int32 → Int32
  | 0, i4, u2_4 =>
    u2_4
  | k4 + 1, i4, u2_4 =>
    if (m_X0_holderOf kd ho pl st nt ea (nI i4)) = v1 then
      m_X0_landOf_L4 ac kd ho pl st nt ea v1 k4 (i4 + 1) (u2_4 + (ac i4))
    else
      m_X0_landOf_L4 ac kd ho pl st nt ea v1 k4 (i4 + 1) u2_4
theorem m_X0_landOf_L4_0 (ac : Nat → Int32) (kd : Nat → Int32) (ho : Nat → Int32) (pl : Nat → Int32) (st : Nat → Int32) (nt : Nat) (ea : Int32) (v1 : Int32) (i4 : Nat) (u2_4 : Int32) : m_X0_landOf_L4 ac kd ho pl st nt ea v1 0 i4 u2_4 = 
    u2_4 := rfl
theorem m_X0_landOf_L4_s (ac : Nat → Int32) (kd : Nat → Int32) (ho : Nat → Int32) (pl : Nat → Int32) (st : Nat → Int32) (nt : Nat) (ea : Int32) (v1 : Int32) (i4 : Nat) (u2_4 : Int32) (k4 : Nat) : m_X0_landOf_L4 ac kd ho pl st nt ea v1 (k4 + 1) i4 u2_4 = 
    if (m_X0_holderOf kd ho pl st nt ea (nI i4)) = v1 then
      m_X0_landOf_L4 ac kd ho pl st nt ea v1 k4 (i4 + 1) (u2_4 + (ac i4))
    else
      m_X0_landOf_L4 ac kd ho pl st nt ea v1 k4 (i4 + 1) u2_4 := rfl
def m_X0_landOf (ac : Nat → Int32) (kd : Nat → Int32) (ho : Nat → Int32) (pl : Nat → Int32) (st : Nat → Int32) (nc : Nat) (nt : Nat) (ea : Int32) (v1 : Int32) : Int32 :=
  (m_X0_landOf_L4 ac kd ho pl st nt ea v1 nc 0 0)
set_option maxHeartbeats 4000000 in
set_option maxRecDepth 100000 in
theorem c_X0_landOf (l : Launch) (D : va_G) (cI cS : ClassId) (b0 : Nat) (b1 : Nat) (b2 : Nat) (b3 : Nat) (b4 : Nat) (b5 : Nat) (ac : Nat → Int32) (kd : Nat → Int32) (ho : Nat → Int32) (pl : Nat → Int32) (st : Nat → Int32) (nc : Nat) (nt : Nat) (ea : Int32) (v1 : Int32) (hn : nt ≤ 6) (hc : nc ≤ 6) : Met l yX0_landOf wsX0_landOf ({ frames := 3, cells := 0, slots := 0, locals := 65 }) (tw_R D cI cS [.ref b0, .int v1] [(b0, .inr (0, [.ref b1, .ref b2, .ref b3, .ref b4, .ref b5, .int (nI nc), .int (nI nt), .int ea])), (b1, .inl (cI, 6, .inl ac)), (b2, .inl (cI, 6, .inl kd)), (b3, .inl (cI, 6, .inl ho)), (b4, .inl (cI, 6, .inl pl)), (b5, .inl (cI, 6, .inl st))]) (vp_Si (fun r => r = (m_X0_landOf ac kd ho pl st nc nt ea v1))) 0 0 (fun _ => False) := by
  refine Met.ofW (cc := cX0_landOf) (maxL := 4) (ret := (some .int)) (by decide) rfl ?_
  intro p e s m args below meth c s₁ B hml hv
  obtain ⟨rfl, hP, hK⟩ := hv
  have hx := B.exec
  have hb := B.bytes
  have hr := B.returns
  have hts := atoms_spec (ws := wsX0_landOf) B.pre
  have hown : s.vm.findClass RX0 = some m.cls := findClass_of_methodNamed B.named
  have hlocks := B.notSynchronized
  have fl_33 := hts (.fieldLink RX0 33 "TableWar$Cloth" "cells" "I") (by decide +kernel)
  have hin_X0 := (show ∀ w ∈ u_ws RX0 TX0 8, w ∈ wsX0_landOf from by decide +kernel)
  have fl_9 := hts (.fieldLink RX0 9 "TableWar$Cloth" "acresOf" "[I") (by decide +kernel)
  have hl := lv_entry ([.ref b0, .int v1]) (n := 4) (Nat.le_of_ble_eq_true rfl)
  rw [lg_entry_eq]
  generalize (lg_sl ([.ref b0, .int v1]) ++ List.replicate (4 - (lg_sl ([.ref b0, .int v1])).length) Slot.unset).toArray = ls at hl ⊢
  have hl : lv_has ls 4 [(0, .ref b0), (1, .int v1)] := hl
  refine lv_iconst (v := 0) hx hb dX0_landOf_0 (by decide) ?_
  refine lv_istore_n (lv' := [(2, .int 0), (0, .ref b0), (1, .int v1)]) hx hb dX0_landOf_1 rfl hl (by decide) rfl (fun ls hl => ?_)
  refine lv_iconst (v := 0) hx hb dX0_landOf_2 (by decide) ?_
  refine lv_istore_n (lv' := [(3, .int 0), (2, .int 0), (0, .ref b0), (1, .int v1)]) hx hb dX0_landOf_3 rfl hl (by decide) rfl (fun ls hl => ?_)
  refine tw_loopR (σ := Int32) (fun k i z ls => i + k = nc ∧ m_X0_landOf_L4 ac kd ho pl st nt ea v1 k i z = m_X0_landOf_L4 ac kd ho pl st nt ea v1 nc 0 0 ∧ lv_has ls 4 [(3, .int (nI i)), (2, .int z), (0, .ref b0), (1, .int v1)]) nc 0 0 ⟨Nat.zero_add _, rfl, lv_sub hl [0, 1, 2, 3] rfl⟩ ?_ ?_
  · intro i4 u2_4 ls hI
    obtain ⟨hk4, hm4, hl⟩ := hI
    have hm4 : m_X0_landOf_L4 ac kd ho pl st nt ea v1 0 i4 u2_4 = m_X0_landOf_L4 ac kd ho pl st nt ea v1 nc 0 0 := hm4
    have hl : lv_has ls 4 [(3, .int (nI i4)), (2, .int u2_4), (0, .ref b0), (1, .int v1)] := hl
    have hm4 : u2_4 = m_X0_landOf_L4 ac kd ho pl st nt ea v1 nc 0 0 := hm4
    refine lv_iload_n hx hb dX0_landOf_4 rfl (lv_at hl 0 rfl) ?_
    refine lv_aload_n hx hb dX0_landOf_5 rfl (lv_at hl 2 rfl) ?_
    refine va_get (ci := 0) (v := .int (nI nc)) (C := RX0) (T := TX0) (N := 8) hx hb hts hin_X0 hown hK hP 0 rfl rfl 5 (by decide) fl_33 (fun _ h9 => h9) rfl dX0_landOf_6 ?_
    refine lv_icmp_ge (tgt := 36) hx hb dX0_landOf_9 (by decide) (fun c_9 => ?_) (fun c_9 => absurd (tw_tge rfl (show nc ≤ i4 by omega) (show i4 < 2 ^ 31 by omega)) c_9)
    refine lv_iload_n hx hb dX0_landOf_36 rfl (lv_at hl 1 rfl) ?_
    exact W.iret hx hb hr (fun t ht _ => ⟨_, rfl, (by (unfold m_X0_landOf; rw [← hm4]) <;> rfl), ht⟩) (fun _ h => nomatch h) dX0_landOf_37
  · intro k4 i4 u2_4 ls ih4 hI
    obtain ⟨hk4, hm4, hl⟩ := hI
    have hm4 : m_X0_landOf_L4 ac kd ho pl st nt ea v1 (k4 + 1) i4 u2_4 = m_X0_landOf_L4 ac kd ho pl st nt ea v1 nc 0 0 := hm4
    have hl : lv_has ls 4 [(3, .int (nI i4)), (2, .int u2_4), (0, .ref b0), (1, .int v1)] := hl
    refine lv_iload_n hx hb dX0_landOf_4 rfl (lv_at hl 0 rfl) ?_
    refine lv_aload_n hx hb dX0_landOf_5 rfl (lv_at hl 2 rfl) ?_
    refine va_get (ci := 0) (v := .int (nI nc)) (C := RX0) (T := TX0) (N := 8) hx hb hts hin_X0 hown hK hP 0 rfl rfl 5 (by decide) fl_33 (fun _ h9 => h9) rfl dX0_landOf_6 ?_
    refine lv_icmp_ge (tgt := 36) hx hb dX0_landOf_9 (by decide) (fun c_9 => absurd c_9 (tw_tlt rfl (show i4 < nc by omega) (show nc < 2 ^ 31 by omega))) (fun c_9 => ?_)
    refine lv_aload_n hx hb dX0_landOf_12 rfl (lv_at hl 2 rfl) ?_
    refine lv_iload_n hx hb dX0_landOf_13 rfl (lv_at hl 0 rfl) ?_
    refine tw_cs (va_runV (As := [.int (nI i4)]) (rest := []) ⟨hx, hb, hml, hown, hts⟩ (c_X0_holderOf l D cI cS b0 b1 b2 b3 b4 b5 ac kd ho pl st nc nt ea (nI i4) (by first | assumption | omega | exact hz60 _ | exact vp_in_nI (by omega) (by decide))) (cwV 1 hts gX0_landOf_X0_holderOf rfl rfl rfl (by decide +kernel) ⟨Nat.le_of_ble_eq_true rfl, Nat.le_of_ble_eq_true rfl⟩) ⟨tw_Rb, va_recv hK hP (ci := 0) (q0 := 0) rfl rfl, tw_Rp (hP.sub (ws' := [(b0, .inr (0, [.ref b1, .ref b2, .ref b3, .ref b4, .ref b5, .int (nI nc), .int (nI nt), .int ea])), (b1, .inl (cI, 6, .inl ac)), (b2, .inl (cI, 6, .inl kd)), (b3, .inl (cI, 6, .inl ho)), (b4, .inl (cI, 6, .inl pl)), (b5, .inl (cI, 6, .inl st))]) [0, 1, 2, 3, 4, 5] rfl) hK⟩ rfl rfl hl.1 rfl (lv_room (Nat.le_of_ble_eq_true rfl)) dX0_landOf_14 ⟨Nat.zero_le _, Nat.zero_le _⟩) ?_
    refine lv_iload_n hx hb dX0_landOf_17 rfl (lv_at hl 3 rfl) ?_
    refine lv_icmp_ne (tgt := 30) hx hb dX0_landOf_18 (by decide) (fun c_18 => ?_) (fun c_18 => ?_)
    · refine lv_iinc (v := nI (i4 + 1)) (lv' := [(3, .int (nI (i4 + 1))), (2, .int u2_4), (0, .ref b0), (1, .int v1)]) hx hb dX0_landOf_30 hl (k := 0) rfl (nI_1 _) (by decide) rfl (fun ls hl => ?_)
      refine lv_goto (tgt := 4) hx hb dX0_landOf_33 (by decide) ?_
      exact ih4 u2_4 ls ⟨by omega, (by (rw [← hm4, m_X0_landOf_L4_s]; rw [if_neg c_18]) <;> rfl), lv_sub hl [0, 1, 2, 3] rfl⟩
    · refine lv_iload_n hx hb dX0_landOf_21 rfl (lv_at hl 1 rfl) ?_
      refine lv_aload_n hx hb dX0_landOf_22 rfl (lv_at hl 2 rfl) ?_
      refine va_get (ci := 0) (v := .ref b1) (C := RX0) (T := TX0) (N := 8) hx hb hts hin_X0 hown hK hP 0 rfl rfl 0 (by decide) fl_9 (fun _ h9 => h9) rfl dX0_landOf_23 ?_
      refine lv_iload_n hx hb dX0_landOf_26 rfl (lv_at hl 0 rfl) ?_
      refine va_iald hx hb hK hP 1 0 rfl rfl (vp_in_nI (show i4 < 6 by omega) (by decide)) dX0_landOf_27 ?_
      refine tw_top (show _ = ac i4 from by rw [nI_clamp (by omega)]) ?_
      refine lv_iadd hx hb dX0_landOf_28 ?_
      refine lv_istore_n (lv' := [(2, .int (u2_4 + (ac i4))), (3, .int (nI i4)), (0, .ref b0), (1, .int v1)]) hx hb dX0_landOf_29 rfl hl (by decide) rfl (fun ls hl => ?_)
      refine lv_iinc (v := nI (i4 + 1)) (lv' := [(3, .int (nI (i4 + 1))), (2, .int (u2_4 + (ac i4))), (0, .ref b0), (1, .int v1)]) hx hb dX0_landOf_30 hl (k := 1) rfl (nI_1 _) (by decide) rfl (fun ls hl => ?_)
      refine lv_goto (tgt := 4) hx hb dX0_landOf_33 (by decide) ?_
      exact ih4 (u2_4 + (ac i4)) ls ⟨by omega, (by (rw [← hm4, m_X0_landOf_L4_s]; rw [if_pos c_18]) <;> rfl), lv_sub hl [0, 1, 2, 3] rfl⟩

def m_X0_leadOf_L5 (ac : Nat → Int32) (kd : Nat → Int32) (ho : Nat → Int32) (pl : Nat → Int32) (st : Nat → Int32) (nt : Nat) (ea : Int32) (v1 : Int32) : Nat → Nat → Int32 → Int32
  | 0, i5, u2_5 =>
    u2_5
  | k5 + 1, i5, u2_5 =>
    if (m_X0_holderOf kd ho pl st nt ea (nI i5)) = (-9) then
      m_X0_leadOf_L5 ac kd ho pl st nt ea v1 k5 (i5 + 1) u2_5
    else
      m_X0_leadOf_L5 ac kd ho pl st nt ea v1 k5 (i5 + 1) (u2_5 + (if (m_X0_holderOf kd ho pl st nt ea (nI i5)) = v1 then ac i5 else -(ac i5)))
theorem m_X0_leadOf_L5_0 (ac : Nat → Int32) (kd : Nat → Int32) (ho : Nat → Int32) (pl : Nat → Int32) (st : Nat → Int32) (nt : Nat) (ea : Int32) (v1 : Int32) (i5 : Nat) (u2_5 : Int32) : m_X0_leadOf_L5 ac kd ho pl st nt ea v1 0 i5 u2_5 = 
    u2_5 := rfl
theorem m_X0_leadOf_L5_s (ac : Nat → Int32) (kd : Nat → Int32) (ho : Nat → Int32) (pl : Nat → Int32) (st : Nat → Int32) (nt : Nat) (ea : Int32) (v1 : Int32) (i5 : Nat) (u2_5 : Int32) (k5 : Nat) : m_X0_leadOf_L5 ac kd ho pl st nt ea v1 (k5 + 1) i5 u2_5 = 
    if (m_X0_holderOf kd ho pl st nt ea (nI i5)) = (-9) then
      m_X0_leadOf_L5 ac kd ho pl st nt ea v1 k5 (i5 + 1) u2_5
    else
      m_X0_leadOf_L5 ac kd ho pl st nt ea v1 k5 (i5 + 1) (u2_5 + (if (m_X0_holderOf kd ho pl st nt ea (nI i5)) = v1 then ac i5 else -(ac i5))) := rfl
def m_X0_leadOf (ac : Nat → Int32) (kd : Nat → Int32) (ho : Nat → Int32) (pl : Nat → Int32) (st : Nat → Int32) (nc : Nat) (nt : Nat) (ea : Int32) (v1 : Int32) : Int32 :=
  (m_X0_leadOf_L5 ac kd ho pl st nt ea v1 nc 0 100)
set_option maxHeartbeats 4000000 in
set_option maxRecDepth 100000 in
theorem c_X0_leadOf (l : Launch) (D : va_G) (cI cS : ClassId) (b0 : Nat) (b1 : Nat) (b2 : Nat) (b3 : Nat) (b4 : Nat) (b5 : Nat) (ac : Nat → Int32) (kd : Nat → Int32) (ho : Nat → Int32) (pl : Nat → Int32) (st : Nat → Int32) (nc : Nat) (nt : Nat) (ea : Int32) (v1 : Int32) (hn : nt ≤ 6) (hc : nc ≤ 6) : Met l yX0_leadOf wsX0_leadOf ({ frames := 3, cells := 0, slots := 0, locals := 65 }) (tw_R D cI cS [.ref b0, .int v1] [(b0, .inr (0, [.ref b1, .ref b2, .ref b3, .ref b4, .ref b5, .int (nI nc), .int (nI nt), .int ea])), (b1, .inl (cI, 6, .inl ac)), (b2, .inl (cI, 6, .inl kd)), (b3, .inl (cI, 6, .inl ho)), (b4, .inl (cI, 6, .inl pl)), (b5, .inl (cI, 6, .inl st))]) (vp_Si (fun r => r = (m_X0_leadOf ac kd ho pl st nc nt ea v1))) 0 0 (fun _ => False) := by
  refine Met.ofW (cc := cX0_leadOf) (maxL := 5) (ret := (some .int)) (by decide) rfl ?_
  intro p e s m args below meth c s₁ B hml hv
  obtain ⟨rfl, hP, hK⟩ := hv
  have hx := B.exec
  have hb := B.bytes
  have hr := B.returns
  have hts := atoms_spec (ws := wsX0_leadOf) B.pre
  have hown : s.vm.findClass RX0 = some m.cls := findClass_of_methodNamed B.named
  have hlocks := B.notSynchronized
  have fl_33 := hts (.fieldLink RX0 33 "TableWar$Cloth" "cells" "I") (by decide +kernel)
  have hin_X0 := (show ∀ w ∈ u_ws RX0 TX0 8, w ∈ wsX0_leadOf from by decide +kernel)
  have fl_9 := hts (.fieldLink RX0 9 "TableWar$Cloth" "acresOf" "[I") (by decide +kernel)
  have hl := lv_entry ([.ref b0, .int v1]) (n := 5) (Nat.le_of_ble_eq_true rfl)
  rw [lg_entry_eq]
  generalize (lg_sl ([.ref b0, .int v1]) ++ List.replicate (5 - (lg_sl ([.ref b0, .int v1])).length) Slot.unset).toArray = ls at hl ⊢
  have hl : lv_has ls 5 [(0, .ref b0), (1, .int v1)] := hl
  refine lv_bipush (v := 100) hx hb dX0_leadOf_0 (by decide) ?_
  refine lv_istore_n (lv' := [(2, .int 100), (0, .ref b0), (1, .int v1)]) hx hb dX0_leadOf_2 rfl hl (by decide) rfl (fun ls hl => ?_)
  refine lv_iconst (v := 0) hx hb dX0_leadOf_3 (by decide) ?_
  refine lv_istore_n (lv' := [(3, .int 0), (2, .int 100), (0, .ref b0), (1, .int v1)]) hx hb dX0_leadOf_4 rfl hl (by decide) rfl (fun ls hl => ?_)
  refine tw_loopR (σ := Int32) (fun k i z ls => i + k = nc ∧ m_X0_leadOf_L5 ac kd ho pl st nt ea v1 k i z = m_X0_leadOf_L5 ac kd ho pl st nt ea v1 nc 0 100 ∧ lv_has ls 5 [(3, .int (nI i)), (2, .int z), (0, .ref b0), (1, .int v1)]) nc 0 100 ⟨Nat.zero_add _, rfl, lv_sub hl [0, 1, 2, 3] rfl⟩ ?_ ?_
  · intro i5 u2_5 ls hI
    obtain ⟨hk5, hm5, hl⟩ := hI
    have hm5 : m_X0_leadOf_L5 ac kd ho pl st nt ea v1 0 i5 u2_5 = m_X0_leadOf_L5 ac kd ho pl st nt ea v1 nc 0 100 := hm5
    have hl : lv_has ls 5 [(3, .int (nI i5)), (2, .int u2_5), (0, .ref b0), (1, .int v1)] := hl
    have hm5 : u2_5 = m_X0_leadOf_L5 ac kd ho pl st nt ea v1 nc 0 100 := hm5
    refine lv_iload_n hx hb dX0_leadOf_5 rfl (lv_at hl 0 rfl) ?_
    refine lv_aload_n hx hb dX0_leadOf_6 rfl (lv_at hl 2 rfl) ?_
    refine va_get (ci := 0) (v := .int (nI nc)) (C := RX0) (T := TX0) (N := 8) hx hb hts hin_X0 hown hK hP 0 rfl rfl 5 (by decide) fl_33 (fun _ h9 => h9) rfl dX0_leadOf_7 ?_
    refine lv_icmp_ge (tgt := 58) hx hb dX0_leadOf_10 (by decide) (fun c_10 => ?_) (fun c_10 => absurd (tw_tge rfl (show nc ≤ i5 by omega) (show i5 < 2 ^ 31 by omega)) c_10)
    refine lv_iload_n hx hb dX0_leadOf_58 rfl (lv_at hl 1 rfl) ?_
    exact W.iret hx hb hr (fun t ht _ => ⟨_, rfl, (by (unfold m_X0_leadOf; rw [← hm5]) <;> rfl), ht⟩) (fun _ h => nomatch h) dX0_leadOf_59
  · intro k5 i5 u2_5 ls ih5 hI
    obtain ⟨hk5, hm5, hl⟩ := hI
    have hm5 : m_X0_leadOf_L5 ac kd ho pl st nt ea v1 (k5 + 1) i5 u2_5 = m_X0_leadOf_L5 ac kd ho pl st nt ea v1 nc 0 100 := hm5
    have hl : lv_has ls 5 [(3, .int (nI i5)), (2, .int u2_5), (0, .ref b0), (1, .int v1)] := hl
    refine lv_iload_n hx hb dX0_leadOf_5 rfl (lv_at hl 0 rfl) ?_
    refine lv_aload_n hx hb dX0_leadOf_6 rfl (lv_at hl 2 rfl) ?_
    refine va_get (ci := 0) (v := .int (nI nc)) (C := RX0) (T := TX0) (N := 8) hx hb hts hin_X0 hown hK hP 0 rfl rfl 5 (by decide) fl_33 (fun _ h9 => h9) rfl dX0_leadOf_7 ?_
    refine lv_icmp_ge (tgt := 58) hx hb dX0_leadOf_10 (by decide) (fun c_10 => absurd c_10 (tw_tlt rfl (show i5 < nc by omega) (show nc < 2 ^ 31 by omega))) (fun c_10 => ?_)
    refine lv_aload_n hx hb dX0_leadOf_13 rfl (lv_at hl 2 rfl) ?_
    refine lv_iload_n hx hb dX0_leadOf_14 rfl (lv_at hl 0 rfl) ?_
    refine tw_cs (va_runV (As := [.int (nI i5)]) (rest := []) ⟨hx, hb, hml, hown, hts⟩ (c_X0_holderOf l D cI cS b0 b1 b2 b3 b4 b5 ac kd ho pl st nc nt ea (nI i5) (by first | assumption | omega | exact hz60 _ | exact vp_in_nI (by omega) (by decide))) (cwV 1 hts gX0_leadOf_X0_holderOf rfl rfl rfl (by decide +kernel) ⟨Nat.le_of_ble_eq_true rfl, Nat.le_of_ble_eq_true rfl⟩) ⟨tw_Rb, va_recv hK hP (ci := 0) (q0 := 0) rfl rfl, tw_Rp (hP.sub (ws' := [(b0, .inr (0, [.ref b1, .ref b2, .ref b3, .ref b4, .ref b5, .int (nI nc), .int (nI nt), .int ea])), (b1, .inl (cI, 6, .inl ac)), (b2, .inl (cI, 6, .inl kd)), (b3, .inl (cI, 6, .inl ho)), (b4, .inl (cI, 6, .inl pl)), (b5, .inl (cI, 6, .inl st))]) [0, 1, 2, 3, 4, 5] rfl) hK⟩ rfl rfl hl.1 rfl (lv_room (Nat.le_of_ble_eq_true rfl)) dX0_leadOf_15 ⟨Nat.zero_le _, Nat.zero_le _⟩) ?_
    refine lv_istore (lv' := [(4, .int (m_X0_holderOf kd ho pl st nt ea (nI i5))), (3, .int (nI i5)), (2, .int u2_5), (0, .ref b0), (1, .int v1)]) hx hb dX0_leadOf_18 hl (by decide) rfl (fun ls hl => ?_)
    refine lv_iload hx hb dX0_leadOf_20 (lv_at hl 0 rfl) ?_
    refine lv_bipush (v := (-9)) hx hb dX0_leadOf_22 (by decide) ?_
    refine lv_icmp_eq (tgt := 52) hx hb dX0_leadOf_24 (by decide) (fun c_24 => ?_) (fun c_24 => ?_)
    · refine lv_iinc (v := nI (i5 + 1)) (lv' := [(3, .int (nI (i5 + 1))), (4, .int (m_X0_holderOf kd ho pl st nt ea (nI i5))), (2, .int u2_5), (0, .ref b0), (1, .int v1)]) hx hb dX0_leadOf_52 hl (k := 1) rfl (nI_1 _) (by decide) rfl (fun ls hl => ?_)
      refine lv_goto (tgt := 5) hx hb dX0_leadOf_55 (by decide) ?_
      exact ih5 u2_5 ls ⟨by omega, (by (rw [← hm5, m_X0_leadOf_L5_s]; rw [if_pos c_24]) <;> rfl), lv_sub hl [0, 2, 3, 4] rfl⟩
    · refine lv_iload_n hx hb dX0_leadOf_27 rfl (lv_at hl 2 rfl) ?_
      refine lv_iload hx hb dX0_leadOf_28 (lv_at hl 0 rfl) ?_
      refine lv_iload_n hx hb dX0_leadOf_30 rfl (lv_at hl 4 rfl) ?_
      refine tw_join (fun (y : Int32) => F0 m 50 ls (.int y :: .int u2_5 :: [])) (if (m_X0_holderOf kd ho pl st nt ea (nI i5)) = v1 then ac i5 else -(ac i5)) ?_ (fun J50_0 => ?_)
      · intro y50 hy50
        refine lv_iadd hx hb dX0_leadOf_50 ?_
        refine lv_istore_n (lv' := [(2, .int (u2_5 + y50)), (4, .int (m_X0_holderOf kd ho pl st nt ea (nI i5))), (3, .int (nI i5)), (0, .ref b0), (1, .int v1)]) hx hb dX0_leadOf_51 rfl hl (by decide) rfl (fun ls hl => ?_)
        refine lv_iinc (v := nI (i5 + 1)) (lv' := [(3, .int (nI (i5 + 1))), (2, .int (u2_5 + y50)), (4, .int (m_X0_holderOf kd ho pl st nt ea (nI i5))), (0, .ref b0), (1, .int v1)]) hx hb dX0_leadOf_52 hl (k := 2) rfl (nI_1 _) (by decide) rfl (fun ls hl => ?_)
        refine lv_goto (tgt := 5) hx hb dX0_leadOf_55 (by decide) ?_
        exact ih5 (u2_5 + y50) ls ⟨by omega, (by (rw [← hm5, m_X0_leadOf_L5_s]; rw [if_neg c_24]; (try rw [← hy50])) <;> rfl), lv_sub hl [0, 1, 3, 4] rfl⟩
      · refine lv_icmp_ne (tgt := 43) hx hb dX0_leadOf_31 (by decide) (fun c_31 => ?_) (fun c_31 => ?_)
        · refine lv_aload_n hx hb dX0_leadOf_43 rfl (lv_at hl 3 rfl) ?_
          refine va_get (ci := 0) (v := .ref b1) (C := RX0) (T := TX0) (N := 8) hx hb hts hin_X0 hown hK hP 0 rfl rfl 0 (by decide) fl_9 (fun _ h9 => h9) rfl dX0_leadOf_44 ?_
          refine lv_iload_n hx hb dX0_leadOf_47 rfl (lv_at hl 1 rfl) ?_
          refine va_iald hx hb hK hP 1 0 rfl rfl (vp_in_nI (show i5 < 6 by omega) (by decide)) dX0_leadOf_48 ?_
          refine tw_top (show _ = ac i5 from by rw [nI_clamp (by omega)]) ?_
          refine lv_ineg hx hb dX0_leadOf_49 ?_
          exact J50_0 _ (by (rw [if_neg c_31]) <;> rfl)
        · refine lv_aload_n hx hb dX0_leadOf_34 rfl (lv_at hl 3 rfl) ?_
          refine va_get (ci := 0) (v := .ref b1) (C := RX0) (T := TX0) (N := 8) hx hb hts hin_X0 hown hK hP 0 rfl rfl 0 (by decide) fl_9 (fun _ h9 => h9) rfl dX0_leadOf_35 ?_
          refine lv_iload_n hx hb dX0_leadOf_38 rfl (lv_at hl 1 rfl) ?_
          refine va_iald hx hb hK hP 1 0 rfl rfl (vp_in_nI (show i5 < 6 by omega) (by decide)) dX0_leadOf_39 ?_
          refine tw_top (show _ = ac i5 from by rw [nI_clamp (by omega)]) ?_
          refine lv_goto (tgt := 50) hx hb dX0_leadOf_40 (by decide) ?_
          exact J50_0 _ (by (rw [if_pos c_31]) <;> rfl)

def m_X0_canDo (pl : Nat → Int32) (nc : Nat) (ea : Int32) (v1 : Int32) (v2 : Int32) : Int32 :=
  if (m_X0_isEaten ea v1) = 0 then
    if v2 = 0 then
      (if (pl v1.toNatClampNeg) ≤ 0 then 0 else 1)
    else
      if v2 = 1 then
        (if (nI nc) ≤ ((pl v1.toNatClampNeg) + 1) then 0 else 1)
      else
        1
  else
    0
set_option maxHeartbeats 4000000 in
set_option maxRecDepth 100000 in
theorem c_X0_canDo (l : Launch) (D : va_G) (cI cS : ClassId) (b0 : Nat) (b1 : Nat) (b2 : Nat) (b3 : Nat) (b4 : Nat) (b5 : Nat) (ac : Nat → Int32) (kd : Nat → Int32) (ho : Nat → Int32) (pl : Nat → Int32) (st : Nat → Int32) (nc : Nat) (nt : Nat) (ea : Int32) (v1 : Int32) (v2 : Int32) (h1 : vp_in v1 6) : Met l yX0_canDo wsX0_canDo ({ frames := 1, cells := 0, slots := 0, locals := 21 }) (tw_R D cI cS [.ref b0, .int v1, .int v2] [(b0, .inr (0, [.ref b1, .ref b2, .ref b3, .ref b4, .ref b5, .int (nI nc), .int (nI nt), .int ea])), (b1, .inl (cI, 6, .inl ac)), (b2, .inl (cI, 6, .inl kd)), (b3, .inl (cI, 6, .inl ho)), (b4, .inl (cI, 6, .inl pl)), (b5, .inl (cI, 6, .inl st))]) (vp_Si (fun r => r = (m_X0_canDo pl nc ea v1 v2))) 0 0 (fun _ => False) := by
  refine Met.ofW (cc := cX0_canDo) (maxL := 3) (ret := (some .boolean)) (by decide) rfl ?_
  intro p e s m args below meth c s₁ B hml hv
  obtain ⟨rfl, hP, hK⟩ := hv
  have hx := B.exec
  have hb := B.bytes
  have hr := B.returns
  have hts := atoms_spec (ws := wsX0_canDo) B.pre
  have hown : s.vm.findClass RX0 = some m.cls := findClass_of_methodNamed B.named
  have hlocks := B.notSynchronized
  have fl_21 := hts (.fieldLink RX0 21 "TableWar$Cloth" "place" "[I") (by decide +kernel)
  have hin_X0 := (show ∀ w ∈ u_ws RX0 TX0 8, w ∈ wsX0_canDo from by decide +kernel)
  have fl_33 := hts (.fieldLink RX0 33 "TableWar$Cloth" "cells" "I") (by decide +kernel)
  have hl := lv_entry ([.ref b0, .int v1, .int v2]) (n := 3) (Nat.le_of_ble_eq_true rfl)
  rw [lg_entry_eq]
  generalize (lg_sl ([.ref b0, .int v1, .int v2]) ++ List.replicate (3 - (lg_sl ([.ref b0, .int v1, .int v2])).length) Slot.unset).toArray = ls at hl ⊢
  have hl : lv_has ls 3 [(0, .ref b0), (1, .int v1), (2, .int v2)] := hl
  refine lv_aload_n hx hb dX0_canDo_0 rfl (lv_at hl 0 rfl) ?_
  refine lv_iload_n hx hb dX0_canDo_1 rfl (lv_at hl 1 rfl) ?_
  refine tw_cs (va_runV (As := [.int v1]) (rest := []) ⟨hx, hb, hml, hown, hts⟩ (c_X0_isEaten l D cI cS b0 b1 b2 b3 b4 b5 ac kd ho pl st nc nt ea v1) (cwV 1 hts gX0_canDo_X0_isEaten rfl rfl rfl (by decide +kernel) ⟨Nat.le_of_ble_eq_true rfl, Nat.le_of_ble_eq_true rfl⟩) ⟨tw_Rb, va_recv hK hP (ci := 0) (q0 := 0) rfl rfl, tw_Rp (hP.sub (ws' := [(b0, .inr (0, [.ref b1, .ref b2, .ref b3, .ref b4, .ref b5, .int (nI nc), .int (nI nt), .int ea])), (b1, .inl (cI, 6, .inl ac)), (b2, .inl (cI, 6, .inl kd)), (b3, .inl (cI, 6, .inl ho)), (b4, .inl (cI, 6, .inl pl)), (b5, .inl (cI, 6, .inl st))]) [0, 1, 2, 3, 4, 5] rfl) hK⟩ rfl rfl hl.1 rfl (lv_room (Nat.le_of_ble_eq_true rfl)) dX0_canDo_2 ⟨Nat.zero_le _, Nat.zero_le _⟩) ?_
  refine lv_if_eq (tgt := 10) hx hb dX0_canDo_5 (by decide) (fun c_5 => ?_) (fun c_5 => ?_)
  · refine lv_iload_n hx hb dX0_canDo_10 rfl (lv_at hl 2 rfl) ?_
    by_cases c_11_0 : v2 = 0
    · refine lv_lookup (tgt := 36) hx hb dX0_canDo_11 (by decide) (by (rw [c_11_0]) <;> rfl) (by decide) ?_
      refine lv_aload_n hx hb dX0_canDo_36 rfl (lv_at hl 0 rfl) ?_
      refine va_get (ci := 0) (v := .ref b4) (C := RX0) (T := TX0) (N := 8) hx hb hts hin_X0 hown hK hP 0 rfl rfl 3 (by decide) fl_21 (fun _ h9 => h9) rfl dX0_canDo_37 ?_
      refine lv_iload_n hx hb dX0_canDo_40 rfl (lv_at hl 1 rfl) ?_
      refine va_iald hx hb hK hP 4 0 rfl rfl (by assumption) dX0_canDo_41 ?_
      refine tw_join (fun (y : Int32) => F0 m 50 ls (.int y :: [])) (if (pl v1.toNatClampNeg) ≤ 0 then 0 else 1) ?_ (fun J50_0 => ?_)
      · intro y50 hy50
        exact W.zret (ty := .boolean) hx hb hr (by rw [hy50]; (repeat' split) <;> rfl) (fun t ht _ => ⟨_, rfl, (by (unfold m_X0_canDo; rw [if_pos c_5]; rw [if_pos c_11_0]; (try rw [← hy50])) <;> rfl), ht⟩) (fun _ h => nomatch h) dX0_canDo_50
      · refine lv_if_le (tgt := 49) hx hb dX0_canDo_42 (by decide) (fun c_42 => ?_) (fun c_42 => ?_)
        · refine lv_iconst (v := 0) hx hb dX0_canDo_49 (by decide) ?_
          exact J50_0 _ (by (rw [if_pos c_42]) <;> rfl)
        · refine lv_iconst (v := 1) hx hb dX0_canDo_45 (by decide) ?_
          refine lv_goto (tgt := 50) hx hb dX0_canDo_46 (by decide) ?_
          exact J50_0 _ (by (rw [if_neg c_42]) <;> rfl)
    by_cases c_11_1 : v2 = 1
    · refine lv_lookup (tgt := 51) hx hb dX0_canDo_11 (by decide) (by (rw [c_11_1]) <;> rfl) (by decide) ?_
      refine lv_aload_n hx hb dX0_canDo_51 rfl (lv_at hl 0 rfl) ?_
      refine va_get (ci := 0) (v := .ref b4) (C := RX0) (T := TX0) (N := 8) hx hb hts hin_X0 hown hK hP 0 rfl rfl 3 (by decide) fl_21 (fun _ h9 => h9) rfl dX0_canDo_52 ?_
      refine lv_iload_n hx hb dX0_canDo_55 rfl (lv_at hl 1 rfl) ?_
      refine va_iald hx hb hK hP 4 0 rfl rfl (by assumption) dX0_canDo_56 ?_
      refine lv_iconst (v := 1) hx hb dX0_canDo_57 (by decide) ?_
      refine lv_iadd hx hb dX0_canDo_58 ?_
      refine lv_aload_n hx hb dX0_canDo_59 rfl (lv_at hl 0 rfl) ?_
      refine va_get (ci := 0) (v := .int (nI nc)) (C := RX0) (T := TX0) (N := 8) hx hb hts hin_X0 hown hK hP 0 rfl rfl 5 (by decide) fl_33 (fun _ h9 => h9) rfl dX0_canDo_60 ?_
      refine tw_join (fun (y : Int32) => F0 m 71 ls (.int y :: [])) (if (nI nc) ≤ ((pl v1.toNatClampNeg) + 1) then 0 else 1) ?_ (fun J71_1 => ?_)
      · intro y71 hy71
        exact W.zret (ty := .boolean) hx hb hr (by rw [hy71]; (repeat' split) <;> rfl) (fun t ht _ => ⟨_, rfl, (by (unfold m_X0_canDo; rw [if_pos c_5]; rw [if_neg c_11_0]; rw [if_pos c_11_1]; (try rw [← hy71])) <;> rfl), ht⟩) (fun _ h => nomatch h) dX0_canDo_71
      · refine lv_icmp_ge (tgt := 70) hx hb dX0_canDo_63 (by decide) (fun c_63 => ?_) (fun c_63 => ?_)
        · refine lv_iconst (v := 0) hx hb dX0_canDo_70 (by decide) ?_
          exact J71_1 _ (by (rw [if_pos c_63]) <;> rfl)
        · refine lv_iconst (v := 1) hx hb dX0_canDo_66 (by decide) ?_
          refine lv_goto (tgt := 71) hx hb dX0_canDo_67 (by decide) ?_
          exact J71_1 _ (by (rw [if_neg c_63]) <;> rfl)
    · refine lv_lookup (tgt := 72) hx hb dX0_canDo_11 (by decide) (show Op.lookupswitch.offset [(0, 25), (1, 40)] 61 _ = 61 from by (rw [lv_osw (k := 0) (a := 0) c_11_0 rfl, lv_osw (k := 1) (a := 1) c_11_1 rfl]) <;> rfl) (by decide) ?_
      refine lv_iconst (v := 1) hx hb dX0_canDo_72 (by decide) ?_
      exact W.zret (ty := .boolean) hx hb hr rfl (fun t ht _ => ⟨_, rfl, (by (unfold m_X0_canDo; rw [if_pos c_5]; rw [if_neg c_11_0]; rw [if_neg c_11_1]) <;> rfl), ht⟩) (fun _ h => nomatch h) dX0_canDo_73
  · refine lv_iconst (v := 0) hx hb dX0_canDo_8 (by decide) ?_
    exact W.zret (ty := .boolean) hx hb hr rfl (fun t ht _ => ⟨_, rfl, (by (unfold m_X0_canDo; rw [if_neg c_5]) <;> rfl), ht⟩) (fun _ h => nomatch h) dX0_canDo_9

def m_X0_doAct (pl : Nat → Int32) (ea : Int32) (v1 : Int32) (v2 : Int32) : (Nat → Int32) × Int32 :=
  if v2 = 0 then
    (upd pl v1.toNatClampNeg ((pl v1.toNatClampNeg) - 1), ea)
  else
    if v2 = 1 then
      (upd pl v1.toNatClampNeg ((pl v1.toNatClampNeg) + 1), ea)
    else
      (pl, ea ||| (1 <<< (v1 &&& 31)))
set_option maxHeartbeats 4000000 in
set_option maxRecDepth 100000 in
theorem c_X0_doAct (l : Launch) (D : va_G) (cI cS : ClassId) (b0 : Nat) (b1 : Nat) (b2 : Nat) (b3 : Nat) (b4 : Nat) (b5 : Nat) (hz : Nat) (ac : Nat → Int32) (kd : Nat → Int32) (ho : Nat → Int32) (pl : Nat → Int32) (st : Nat → Int32) (nc : Nat) (nt : Nat) (ea : Int32) (v1 : Int32) (v2 : Int32) (h1 : vp_in v1 6) : Met l yX0_doAct wsX0_doAct ({ frames := 0, cells := 0, slots := 0, locals := 0 }) (tw_W D cI cS [.ref b0, .int v1, .int v2] hz [(b0, .inr (0, [.ref b1, .ref b2, .ref b3, .ref b4, .ref b5, .int (nI nc), .int (nI nt), .int ea])), (b1, .inl (cI, 6, .inl ac)), (b2, .inl (cI, 6, .inl kd)), (b3, .inl (cI, 6, .inl ho)), (b4, .inl (cI, 6, .inl pl)), (b5, .inl (cI, 6, .inl st))]) (va_Qv (fun (_ : Unit) => True) (tw_B D cI cS (va_A [(b0, .inr (0, [.ref b1, .ref b2, .ref b3, .ref b4, .ref b5, .int (nI nc), .int (nI nt), .int ea])), (b1, .inl (cI, 6, .inl ac)), (b2, .inl (cI, 6, .inl kd)), (b3, .inl (cI, 6, .inl ho)), (b4, .inl (cI, 6, .inl pl)), (b5, .inl (cI, 6, .inl st))] hz) [(b0, .inr (0, [.ref b1, .ref b2, .ref b3, .ref b4, .ref b5, .int (nI nc), .int (nI nt), .int ((m_X0_doAct pl ea v1 v2).2)])), (b1, .inl (cI, 6, .inl ac)), (b2, .inl (cI, 6, .inl kd)), (b3, .inl (cI, 6, .inl ho)), (b4, .inl (cI, 6, .inl ((m_X0_doAct pl ea v1 v2).1))), (b5, .inl (cI, 6, .inl st))]) (va_A [(b0, .inr (0, [.ref b1, .ref b2, .ref b3, .ref b4, .ref b5, .int (nI nc), .int (nI nt), .int ea])), (b1, .inl (cI, 6, .inl ac)), (b2, .inl (cI, 6, .inl kd)), (b3, .inl (cI, 6, .inl ho)), (b4, .inl (cI, 6, .inl pl)), (b5, .inl (cI, 6, .inl st))] hz)) 0 0 (va_A [(b0, .inr (0, [.ref b1, .ref b2, .ref b3, .ref b4, .ref b5, .int (nI nc), .int (nI nt), .int ea])), (b1, .inl (cI, 6, .inl ac)), (b2, .inl (cI, 6, .inl kd)), (b3, .inl (cI, 6, .inl ho)), (b4, .inl (cI, 6, .inl pl)), (b5, .inl (cI, 6, .inl st))] hz) := by
  refine Met.ofW (cc := cX0_doAct) (maxL := 3) (ret := none) (by decide) rfl ?_
  intro p e s m args below meth c s₁ B hml hv
  obtain ⟨rfl, hsz, hP, hK, hD0⟩ := hv
  have hx := B.exec
  have hb := B.bytes
  have hr := B.returns
  have hts := atoms_spec (ws := wsX0_doAct) B.pre
  have hown : s.vm.findClass RX0 = some m.cls := findClass_of_methodNamed B.named
  have hlocks := B.notSynchronized
  subst hsz
  have hD := hD0.self (sz := s.heap.size)
  generalize hAe : va_A [(b0, .inr (0, [.ref b1, .ref b2, .ref b3, .ref b4, .ref b5, .int (nI nc), .int (nI nt), .int ea])), (b1, .inl (cI, 6, .inl ac)), (b2, .inl (cI, 6, .inl kd)), (b3, .inl (cI, 6, .inl ho)), (b4, .inl (cI, 6, .inl pl)), (b5, .inl (cI, 6, .inl st))] s.heap.size = A at hD ⊢
  have hA : ∀ q : Nat, s.heap.size ≤ q → A q := fun q h => by rw [← hAe]; exact Or.inr h
  have hS : va_S A s.heap s.heap [] := va_S.rf
  have fl_21 := hts (.fieldLink RX0 21 "TableWar$Cloth" "place" "[I") (by decide +kernel)
  have hin_X0 := (show ∀ w ∈ u_ws RX0 TX0 8, w ∈ wsX0_doAct from by decide +kernel)
  have fl_40 := hts (.fieldLink RX0 40 "TableWar$Cloth" "eaten" "I") (by decide +kernel)
  have hl := lv_entry ([.ref b0, .int v1, .int v2]) (n := 3) (Nat.le_of_ble_eq_true rfl)
  rw [lg_entry_eq]
  generalize (lg_sl ([.ref b0, .int v1, .int v2]) ++ List.replicate (3 - (lg_sl ([.ref b0, .int v1, .int v2])).length) Slot.unset).toArray = ls at hl ⊢
  have hl : lv_has ls 3 [(0, .ref b0), (1, .int v1), (2, .int v2)] := hl
  refine lv_iload_n hx hb dX0_doAct_0 rfl (lv_at hl 2 rfl) ?_
  by_cases c_1_0 : v2 = 0
  · refine lv_lookup (tgt := 28) hx hb dX0_doAct_1 (by decide) (by (rw [c_1_0]) <;> rfl) (by decide) ?_
    refine lv_aload_n hx hb dX0_doAct_28 rfl (lv_at hl 0 rfl) ?_
    refine va_get (ci := 0) (v := .ref b4) (C := RX0) (T := TX0) (N := 8) hx hb hts hin_X0 hown hK hP 0 rfl rfl 3 (by decide) fl_21 (fun _ h9 => h9) rfl dX0_doAct_29 ?_
    refine lv_iload_n hx hb dX0_doAct_32 rfl (lv_at hl 1 rfl) ?_
    refine lv_dup2_11 hx hb dX0_doAct_33 rfl rfl ?_
    refine va_iald hx hb hK hP 4 0 rfl rfl (by assumption) dX0_doAct_34 ?_
    refine lv_iconst (v := 1) hx hb dX0_doAct_35 (by decide) ?_
    refine lv_isub hx hb dX0_doAct_36 ?_
    refine va_iast hx hb hK hP hD hS 4 0 rfl rfl (by assumption) dX0_doAct_37 (fun H locs hP hD hS => ?_)
    have hP : va_P D vwCl [(b0, .inr (0, [.ref b1, .ref b2, .ref b3, .ref b4, .ref b5, .int (nI nc), .int (nI nt), .int ea])), (b1, .inl (cI, 6, .inl ac)), (b2, .inl (cI, 6, .inl kd)), (b3, .inl (cI, 6, .inl ho)), (b4, .inl (cI, 6, .inl (upd pl v1.toNatClampNeg ((pl v1.toNatClampNeg) - 1)))), (b5, .inl (cI, 6, .inl st))] H := hP
    have hD : va_D A [(b0, .inr (0, [.ref b1, .ref b2, .ref b3, .ref b4, .ref b5, .int (nI nc), .int (nI nt), .int ea])), (b1, .inl (cI, 6, .inl ac)), (b2, .inl (cI, 6, .inl kd)), (b3, .inl (cI, 6, .inl ho)), (b4, .inl (cI, 6, .inl (upd pl v1.toNatClampNeg ((pl v1.toNatClampNeg) - 1)))), (b5, .inl (cI, 6, .inl st))] := hD
    refine lv_goto (tgt := 66) hx hb dX0_doAct_38 (by decide) ?_
    have hE : (m_X0_doAct pl ea v1 v2) = (upd pl v1.toNatClampNeg ((pl v1.toNatClampNeg) - 1), ea) := Eq.symm (by (unfold m_X0_doAct; rw [if_pos c_1_0]) <;> rfl)
    rw [hE]
    exact W.vret hx hb hr (fun t ht hW => ⟨⟨(), rfl, trivial, by rw [ht]; exact hP, va_K.moved hW.alike hK, hD⟩, hS.F ht⟩) hS.2.2 dX0_doAct_66
  by_cases c_1_1 : v2 = 1
  · refine lv_lookup (tgt := 41) hx hb dX0_doAct_1 (by decide) (by (rw [c_1_1]) <;> rfl) (by decide) ?_
    refine lv_aload_n hx hb dX0_doAct_41 rfl (lv_at hl 0 rfl) ?_
    refine va_get (ci := 0) (v := .ref b4) (C := RX0) (T := TX0) (N := 8) hx hb hts hin_X0 hown hK hP 0 rfl rfl 3 (by decide) fl_21 (fun _ h9 => h9) rfl dX0_doAct_42 ?_
    refine lv_iload_n hx hb dX0_doAct_45 rfl (lv_at hl 1 rfl) ?_
    refine lv_dup2_11 hx hb dX0_doAct_46 rfl rfl ?_
    refine va_iald hx hb hK hP 4 0 rfl rfl (by assumption) dX0_doAct_47 ?_
    refine lv_iconst (v := 1) hx hb dX0_doAct_48 (by decide) ?_
    refine lv_iadd hx hb dX0_doAct_49 ?_
    refine va_iast hx hb hK hP hD hS 4 0 rfl rfl (by assumption) dX0_doAct_50 (fun H locs hP hD hS => ?_)
    have hP : va_P D vwCl [(b0, .inr (0, [.ref b1, .ref b2, .ref b3, .ref b4, .ref b5, .int (nI nc), .int (nI nt), .int ea])), (b1, .inl (cI, 6, .inl ac)), (b2, .inl (cI, 6, .inl kd)), (b3, .inl (cI, 6, .inl ho)), (b4, .inl (cI, 6, .inl (upd pl v1.toNatClampNeg ((pl v1.toNatClampNeg) + 1)))), (b5, .inl (cI, 6, .inl st))] H := hP
    have hD : va_D A [(b0, .inr (0, [.ref b1, .ref b2, .ref b3, .ref b4, .ref b5, .int (nI nc), .int (nI nt), .int ea])), (b1, .inl (cI, 6, .inl ac)), (b2, .inl (cI, 6, .inl kd)), (b3, .inl (cI, 6, .inl ho)), (b4, .inl (cI, 6, .inl (upd pl v1.toNatClampNeg ((pl v1.toNatClampNeg) + 1)))), (b5, .inl (cI, 6, .inl st))] := hD
    refine lv_goto (tgt := 66) hx hb dX0_doAct_51 (by decide) ?_
    have hE : (m_X0_doAct pl ea v1 v2) = (upd pl v1.toNatClampNeg ((pl v1.toNatClampNeg) + 1), ea) := Eq.symm (by (unfold m_X0_doAct; rw [if_neg c_1_0]; rw [if_pos c_1_1]) <;> rfl)
    rw [hE]
    exact W.vret hx hb hr (fun t ht hW => ⟨⟨(), rfl, trivial, by rw [ht]; exact hP, va_K.moved hW.alike hK, hD⟩, hS.F ht⟩) hS.2.2 dX0_doAct_66
  · refine lv_lookup (tgt := 54) hx hb dX0_doAct_1 (by decide) (show Op.lookupswitch.offset [(0, 27), (1, 40)] 53 _ = 53 from by (rw [lv_osw (k := 0) (a := 0) c_1_0 rfl, lv_osw (k := 1) (a := 1) c_1_1 rfl]) <;> rfl) (by decide) ?_
    refine lv_aload_n hx hb dX0_doAct_54 rfl (lv_at hl 0 rfl) ?_
    refine lv_dup hx hb dX0_doAct_55 rfl ?_
    refine va_get (ci := 0) (v := .int ea) (C := RX0) (T := TX0) (N := 8) hx hb hts hin_X0 hown hK hP 0 rfl rfl 7 (by decide) fl_40 (fun _ h9 => h9) rfl dX0_doAct_56 ?_
    refine lv_iconst (v := 1) hx hb dX0_doAct_59 (by decide) ?_
    refine lv_iload_n hx hb dX0_doAct_60 rfl (lv_at hl 1 rfl) ?_
    refine lv_ishl hx hb dX0_doAct_61 ?_
    refine lv_ior hx hb dX0_doAct_62 ?_
    refine va_put (ci := 0) (v := .int (ea ||| (1 <<< (v1 &&& 31)))) (ty := .int) (C := RX0) (T := TX0) (N := 8) hx hb hts hin_X0 tyX0 tyX0_ok nmX0 hown hK hP hD hS 0 rfl rfl 7 (by decide) fl_40 (fun _ h9 => h9) rfl (by decide +kernel) rfl rfl (Nat.le_of_ble_eq_true rfl) dX0_doAct_63 (fun H locs hP hD hS => ?_)
    have hP : va_P D vwCl [(b0, .inr (0, [.ref b1, .ref b2, .ref b3, .ref b4, .ref b5, .int (nI nc), .int (nI nt), .int (ea ||| (1 <<< (v1 &&& 31)))])), (b1, .inl (cI, 6, .inl ac)), (b2, .inl (cI, 6, .inl kd)), (b3, .inl (cI, 6, .inl ho)), (b4, .inl (cI, 6, .inl pl)), (b5, .inl (cI, 6, .inl st))] H := hP
    have hD : va_D A [(b0, .inr (0, [.ref b1, .ref b2, .ref b3, .ref b4, .ref b5, .int (nI nc), .int (nI nt), .int (ea ||| (1 <<< (v1 &&& 31)))])), (b1, .inl (cI, 6, .inl ac)), (b2, .inl (cI, 6, .inl kd)), (b3, .inl (cI, 6, .inl ho)), (b4, .inl (cI, 6, .inl pl)), (b5, .inl (cI, 6, .inl st))] := hD
    have hE : (m_X0_doAct pl ea v1 v2) = (pl, ea ||| (1 <<< (v1 &&& 31))) := Eq.symm (by (unfold m_X0_doAct; rw [if_neg c_1_0]; rw [if_neg c_1_1]) <;> rfl)
    rw [hE]
    exact W.vret hx hb hr (fun t ht hW => ⟨⟨(), rfl, trivial, by rw [ht]; exact hP, va_K.moved hW.alike hK, hD⟩, hS.F ht⟩) hS.2.2 dX0_doAct_66

def m_X0_undoAct (pl : Nat → Int32) (ea : Int32) (v1 : Int32) (v2 : Int32) : (Nat → Int32) × Int32 :=
  if v2 = 0 then
    (upd pl v1.toNatClampNeg ((pl v1.toNatClampNeg) + 1), ea)
  else
    if v2 = 1 then
      (upd pl v1.toNatClampNeg ((pl v1.toNatClampNeg) - 1), ea)
    else
      (pl, ea &&& ((1 <<< (v1 &&& 31)) ^^^ (-1)))
set_option maxHeartbeats 4000000 in
set_option maxRecDepth 100000 in
theorem c_X0_undoAct (l : Launch) (D : va_G) (cI cS : ClassId) (b0 : Nat) (b1 : Nat) (b2 : Nat) (b3 : Nat) (b4 : Nat) (b5 : Nat) (hz : Nat) (ac : Nat → Int32) (kd : Nat → Int32) (ho : Nat → Int32) (pl : Nat → Int32) (st : Nat → Int32) (nc : Nat) (nt : Nat) (ea : Int32) (v1 : Int32) (v2 : Int32) (h1 : vp_in v1 6) : Met l yX0_undoAct wsX0_undoAct ({ frames := 0, cells := 0, slots := 0, locals := 0 }) (tw_W D cI cS [.ref b0, .int v1, .int v2] hz [(b0, .inr (0, [.ref b1, .ref b2, .ref b3, .ref b4, .ref b5, .int (nI nc), .int (nI nt), .int ea])), (b1, .inl (cI, 6, .inl ac)), (b2, .inl (cI, 6, .inl kd)), (b3, .inl (cI, 6, .inl ho)), (b4, .inl (cI, 6, .inl pl)), (b5, .inl (cI, 6, .inl st))]) (va_Qv (fun (_ : Unit) => True) (tw_B D cI cS (va_A [(b0, .inr (0, [.ref b1, .ref b2, .ref b3, .ref b4, .ref b5, .int (nI nc), .int (nI nt), .int ea])), (b1, .inl (cI, 6, .inl ac)), (b2, .inl (cI, 6, .inl kd)), (b3, .inl (cI, 6, .inl ho)), (b4, .inl (cI, 6, .inl pl)), (b5, .inl (cI, 6, .inl st))] hz) [(b0, .inr (0, [.ref b1, .ref b2, .ref b3, .ref b4, .ref b5, .int (nI nc), .int (nI nt), .int ((m_X0_undoAct pl ea v1 v2).2)])), (b1, .inl (cI, 6, .inl ac)), (b2, .inl (cI, 6, .inl kd)), (b3, .inl (cI, 6, .inl ho)), (b4, .inl (cI, 6, .inl ((m_X0_undoAct pl ea v1 v2).1))), (b5, .inl (cI, 6, .inl st))]) (va_A [(b0, .inr (0, [.ref b1, .ref b2, .ref b3, .ref b4, .ref b5, .int (nI nc), .int (nI nt), .int ea])), (b1, .inl (cI, 6, .inl ac)), (b2, .inl (cI, 6, .inl kd)), (b3, .inl (cI, 6, .inl ho)), (b4, .inl (cI, 6, .inl pl)), (b5, .inl (cI, 6, .inl st))] hz)) 0 0 (va_A [(b0, .inr (0, [.ref b1, .ref b2, .ref b3, .ref b4, .ref b5, .int (nI nc), .int (nI nt), .int ea])), (b1, .inl (cI, 6, .inl ac)), (b2, .inl (cI, 6, .inl kd)), (b3, .inl (cI, 6, .inl ho)), (b4, .inl (cI, 6, .inl pl)), (b5, .inl (cI, 6, .inl st))] hz) := by
  refine Met.ofW (cc := cX0_undoAct) (maxL := 3) (ret := none) (by decide) rfl ?_
  intro p e s m args below meth c s₁ B hml hv
  obtain ⟨rfl, hsz, hP, hK, hD0⟩ := hv
  have hx := B.exec
  have hb := B.bytes
  have hr := B.returns
  have hts := atoms_spec (ws := wsX0_undoAct) B.pre
  have hown : s.vm.findClass RX0 = some m.cls := findClass_of_methodNamed B.named
  have hlocks := B.notSynchronized
  subst hsz
  have hD := hD0.self (sz := s.heap.size)
  generalize hAe : va_A [(b0, .inr (0, [.ref b1, .ref b2, .ref b3, .ref b4, .ref b5, .int (nI nc), .int (nI nt), .int ea])), (b1, .inl (cI, 6, .inl ac)), (b2, .inl (cI, 6, .inl kd)), (b3, .inl (cI, 6, .inl ho)), (b4, .inl (cI, 6, .inl pl)), (b5, .inl (cI, 6, .inl st))] s.heap.size = A at hD ⊢
  have hA : ∀ q : Nat, s.heap.size ≤ q → A q := fun q h => by rw [← hAe]; exact Or.inr h
  have hS : va_S A s.heap s.heap [] := va_S.rf
  have fl_21 := hts (.fieldLink RX0 21 "TableWar$Cloth" "place" "[I") (by decide +kernel)
  have hin_X0 := (show ∀ w ∈ u_ws RX0 TX0 8, w ∈ wsX0_undoAct from by decide +kernel)
  have fl_40 := hts (.fieldLink RX0 40 "TableWar$Cloth" "eaten" "I") (by decide +kernel)
  have hl := lv_entry ([.ref b0, .int v1, .int v2]) (n := 3) (Nat.le_of_ble_eq_true rfl)
  rw [lg_entry_eq]
  generalize (lg_sl ([.ref b0, .int v1, .int v2]) ++ List.replicate (3 - (lg_sl ([.ref b0, .int v1, .int v2])).length) Slot.unset).toArray = ls at hl ⊢
  have hl : lv_has ls 3 [(0, .ref b0), (1, .int v1), (2, .int v2)] := hl
  refine lv_iload_n hx hb dX0_undoAct_0 rfl (lv_at hl 2 rfl) ?_
  by_cases c_1_0 : v2 = 0
  · refine lv_lookup (tgt := 28) hx hb dX0_undoAct_1 (by decide) (by (rw [c_1_0]) <;> rfl) (by decide) ?_
    refine lv_aload_n hx hb dX0_undoAct_28 rfl (lv_at hl 0 rfl) ?_
    refine va_get (ci := 0) (v := .ref b4) (C := RX0) (T := TX0) (N := 8) hx hb hts hin_X0 hown hK hP 0 rfl rfl 3 (by decide) fl_21 (fun _ h9 => h9) rfl dX0_undoAct_29 ?_
    refine lv_iload_n hx hb dX0_undoAct_32 rfl (lv_at hl 1 rfl) ?_
    refine lv_dup2_11 hx hb dX0_undoAct_33 rfl rfl ?_
    refine va_iald hx hb hK hP 4 0 rfl rfl (by assumption) dX0_undoAct_34 ?_
    refine lv_iconst (v := 1) hx hb dX0_undoAct_35 (by decide) ?_
    refine lv_iadd hx hb dX0_undoAct_36 ?_
    refine va_iast hx hb hK hP hD hS 4 0 rfl rfl (by assumption) dX0_undoAct_37 (fun H locs hP hD hS => ?_)
    have hP : va_P D vwCl [(b0, .inr (0, [.ref b1, .ref b2, .ref b3, .ref b4, .ref b5, .int (nI nc), .int (nI nt), .int ea])), (b1, .inl (cI, 6, .inl ac)), (b2, .inl (cI, 6, .inl kd)), (b3, .inl (cI, 6, .inl ho)), (b4, .inl (cI, 6, .inl (upd pl v1.toNatClampNeg ((pl v1.toNatClampNeg) + 1)))), (b5, .inl (cI, 6, .inl st))] H := hP
    have hD : va_D A [(b0, .inr (0, [.ref b1, .ref b2, .ref b3, .ref b4, .ref b5, .int (nI nc), .int (nI nt), .int ea])), (b1, .inl (cI, 6, .inl ac)), (b2, .inl (cI, 6, .inl kd)), (b3, .inl (cI, 6, .inl ho)), (b4, .inl (cI, 6, .inl (upd pl v1.toNatClampNeg ((pl v1.toNatClampNeg) + 1)))), (b5, .inl (cI, 6, .inl st))] := hD
    refine lv_goto (tgt := 68) hx hb dX0_undoAct_38 (by decide) ?_
    have hE : (m_X0_undoAct pl ea v1 v2) = (upd pl v1.toNatClampNeg ((pl v1.toNatClampNeg) + 1), ea) := Eq.symm (by (unfold m_X0_undoAct; rw [if_pos c_1_0]) <;> rfl)
    rw [hE]
    exact W.vret hx hb hr (fun t ht hW => ⟨⟨(), rfl, trivial, by rw [ht]; exact hP, va_K.moved hW.alike hK, hD⟩, hS.F ht⟩) hS.2.2 dX0_undoAct_68
  by_cases c_1_1 : v2 = 1
  · refine lv_lookup (tgt := 41) hx hb dX0_undoAct_1 (by decide) (by (rw [c_1_1]) <;> rfl) (by decide) ?_
    refine lv_aload_n hx hb dX0_undoAct_41 rfl (lv_at hl 0 rfl) ?_
    refine va_get (ci := 0) (v := .ref b4) (C := RX0) (T := TX0) (N := 8) hx hb hts hin_X0 hown hK hP 0 rfl rfl 3 (by decide) fl_21 (fun _ h9 => h9) rfl dX0_undoAct_42 ?_
    refine lv_iload_n hx hb dX0_undoAct_45 rfl (lv_at hl 1 rfl) ?_
    refine lv_dup2_11 hx hb dX0_undoAct_46 rfl rfl ?_
    refine va_iald hx hb hK hP 4 0 rfl rfl (by assumption) dX0_undoAct_47 ?_
    refine lv_iconst (v := 1) hx hb dX0_undoAct_48 (by decide) ?_
    refine lv_isub hx hb dX0_undoAct_49 ?_
    refine va_iast hx hb hK hP hD hS 4 0 rfl rfl (by assumption) dX0_undoAct_50 (fun H locs hP hD hS => ?_)
    have hP : va_P D vwCl [(b0, .inr (0, [.ref b1, .ref b2, .ref b3, .ref b4, .ref b5, .int (nI nc), .int (nI nt), .int ea])), (b1, .inl (cI, 6, .inl ac)), (b2, .inl (cI, 6, .inl kd)), (b3, .inl (cI, 6, .inl ho)), (b4, .inl (cI, 6, .inl (upd pl v1.toNatClampNeg ((pl v1.toNatClampNeg) - 1)))), (b5, .inl (cI, 6, .inl st))] H := hP
    have hD : va_D A [(b0, .inr (0, [.ref b1, .ref b2, .ref b3, .ref b4, .ref b5, .int (nI nc), .int (nI nt), .int ea])), (b1, .inl (cI, 6, .inl ac)), (b2, .inl (cI, 6, .inl kd)), (b3, .inl (cI, 6, .inl ho)), (b4, .inl (cI, 6, .inl (upd pl v1.toNatClampNeg ((pl v1.toNatClampNeg) - 1)))), (b5, .inl (cI, 6, .inl st))] := hD
    refine lv_goto (tgt := 68) hx hb dX0_undoAct_51 (by decide) ?_
    have hE : (m_X0_undoAct pl ea v1 v2) = (upd pl v1.toNatClampNeg ((pl v1.toNatClampNeg) - 1), ea) := Eq.symm (by (unfold m_X0_undoAct; rw [if_neg c_1_0]; rw [if_pos c_1_1]) <;> rfl)
    rw [hE]
    exact W.vret hx hb hr (fun t ht hW => ⟨⟨(), rfl, trivial, by rw [ht]; exact hP, va_K.moved hW.alike hK, hD⟩, hS.F ht⟩) hS.2.2 dX0_undoAct_68
  · refine lv_lookup (tgt := 54) hx hb dX0_undoAct_1 (by decide) (show Op.lookupswitch.offset [(0, 27), (1, 40)] 53 _ = 53 from by (rw [lv_osw (k := 0) (a := 0) c_1_0 rfl, lv_osw (k := 1) (a := 1) c_1_1 rfl]) <;> rfl) (by decide) ?_
    refine lv_aload_n hx hb dX0_undoAct_54 rfl (lv_at hl 0 rfl) ?_
    refine lv_dup hx hb dX0_undoAct_55 rfl ?_
    refine va_get (ci := 0) (v := .int ea) (C := RX0) (T := TX0) (N := 8) hx hb hts hin_X0 hown hK hP 0 rfl rfl 7 (by decide) fl_40 (fun _ h9 => h9) rfl dX0_undoAct_56 ?_
    refine lv_iconst (v := 1) hx hb dX0_undoAct_59 (by decide) ?_
    refine lv_iload_n hx hb dX0_undoAct_60 rfl (lv_at hl 1 rfl) ?_
    refine lv_ishl hx hb dX0_undoAct_61 ?_
    refine lv_iconst (v := (-1)) hx hb dX0_undoAct_62 (by decide) ?_
    refine lv_ixor hx hb dX0_undoAct_63 ?_
    refine lv_iand hx hb dX0_undoAct_64 ?_
    refine va_put (ci := 0) (v := .int (ea &&& ((1 <<< (v1 &&& 31)) ^^^ (-1)))) (ty := .int) (C := RX0) (T := TX0) (N := 8) hx hb hts hin_X0 tyX0 tyX0_ok nmX0 hown hK hP hD hS 0 rfl rfl 7 (by decide) fl_40 (fun _ h9 => h9) rfl (by decide +kernel) rfl rfl (Nat.le_of_ble_eq_true rfl) dX0_undoAct_65 (fun H locs hP hD hS => ?_)
    have hP : va_P D vwCl [(b0, .inr (0, [.ref b1, .ref b2, .ref b3, .ref b4, .ref b5, .int (nI nc), .int (nI nt), .int (ea &&& ((1 <<< (v1 &&& 31)) ^^^ (-1)))])), (b1, .inl (cI, 6, .inl ac)), (b2, .inl (cI, 6, .inl kd)), (b3, .inl (cI, 6, .inl ho)), (b4, .inl (cI, 6, .inl pl)), (b5, .inl (cI, 6, .inl st))] H := hP
    have hD : va_D A [(b0, .inr (0, [.ref b1, .ref b2, .ref b3, .ref b4, .ref b5, .int (nI nc), .int (nI nt), .int (ea &&& ((1 <<< (v1 &&& 31)) ^^^ (-1)))])), (b1, .inl (cI, 6, .inl ac)), (b2, .inl (cI, 6, .inl kd)), (b3, .inl (cI, 6, .inl ho)), (b4, .inl (cI, 6, .inl pl)), (b5, .inl (cI, 6, .inl st))] := hD
    have hE : (m_X0_undoAct pl ea v1 v2) = (pl, ea &&& ((1 <<< (v1 &&& 31)) ^^^ (-1))) := Eq.symm (by (unfold m_X0_undoAct; rw [if_neg c_1_0]; rw [if_neg c_1_1]) <;> rfl)
    rw [hE]
    exact W.vret hx hb hr (fun t ht hW => ⟨⟨(), rfl, trivial, by rw [ht]; exact hP, va_K.moved hW.alike hK, hD⟩, hS.F ht⟩) hS.2.2 dX0_undoAct_68

def m_X0_choiceOf (v0 : Int32) (v1 : Int32) : Int32 :=
  (((v0 * 18) + 18) - 1) - v1
set_option maxHeartbeats 4000000 in
set_option maxRecDepth 100000 in
theorem c_X0_choiceOf (l : Launch) (D : va_G) (cI cS : ClassId)  (v0 : Int32) (v1 : Int32)  : Met l yX0_choiceOf wsX0_choiceOf ({ frames := 0, cells := 0, slots := 0, locals := 0 }) (tw_R D cI cS [.int v0, .int v1] []) (vp_Si (fun r => r = (m_X0_choiceOf v0 v1))) 0 0 (fun _ => False) := by
  refine Met.ofW (cc := cX0_choiceOf) (maxL := 2) (ret := (some .int)) (by decide) rfl ?_
  intro p e s m args below meth c s₁ B hml hv
  obtain ⟨rfl, hP, hK⟩ := hv
  have hx := B.exec
  have hb := B.bytes
  have hr := B.returns
  have hts := atoms_spec (ws := wsX0_choiceOf) B.pre
  have hown : s.vm.findClass RX0 = some m.cls := findClass_of_methodNamed B.named
  have hlocks := B.notSynchronized
  have hl := lv_entry ([.int v0, .int v1]) (n := 2) (Nat.le_of_ble_eq_true rfl)
  rw [lg_entry_eq]
  generalize (lg_sl ([.int v0, .int v1]) ++ List.replicate (2 - (lg_sl ([.int v0, .int v1])).length) Slot.unset).toArray = ls at hl ⊢
  have hl : lv_has ls 2 [(0, .int v0), (1, .int v1)] := hl
  refine lv_iload_n hx hb dX0_choiceOf_0 rfl (lv_at hl 0 rfl) ?_
  refine lv_bipush (v := 18) hx hb dX0_choiceOf_1 (by decide) ?_
  refine lv_imul hx hb dX0_choiceOf_3 ?_
  refine lv_bipush (v := 18) hx hb dX0_choiceOf_4 (by decide) ?_
  refine lv_iadd hx hb dX0_choiceOf_6 ?_
  refine lv_iconst (v := 1) hx hb dX0_choiceOf_7 (by decide) ?_
  refine lv_isub hx hb dX0_choiceOf_8 ?_
  refine lv_iload_n hx hb dX0_choiceOf_9 rfl (lv_at hl 1 rfl) ?_
  refine lv_isub hx hb dX0_choiceOf_10 ?_
  exact W.iret hx hb hr (fun t ht _ => ⟨_, rfl, (by (unfold m_X0_choiceOf) <;> rfl), ht⟩) (fun _ h => nomatch h) dX0_choiceOf_11

def m_X0_leadOfChoice (v0 : Int32) : Int32 :=
  v0 / 18
set_option maxHeartbeats 4000000 in
set_option maxRecDepth 100000 in
theorem c_X0_leadOfChoice (l : Launch) (D : va_G) (cI cS : ClassId)  (v0 : Int32)  : Met l yX0_leadOfChoice wsX0_leadOfChoice ({ frames := 0, cells := 0, slots := 0, locals := 0 }) (tw_R D cI cS [.int v0] []) (vp_Si (fun r => r = (m_X0_leadOfChoice v0))) 0 0 (fun _ => False) := by
  refine Met.ofW (cc := cX0_leadOfChoice) (maxL := 1) (ret := (some .int)) (by decide) rfl ?_
  intro p e s m args below meth c s₁ B hml hv
  obtain ⟨rfl, hP, hK⟩ := hv
  have hx := B.exec
  have hb := B.bytes
  have hr := B.returns
  have hts := atoms_spec (ws := wsX0_leadOfChoice) B.pre
  have hown : s.vm.findClass RX0 = some m.cls := findClass_of_methodNamed B.named
  have hlocks := B.notSynchronized
  have hl := lv_entry ([.int v0]) (n := 1) (Nat.le_of_ble_eq_true rfl)
  rw [lg_entry_eq]
  generalize (lg_sl ([.int v0]) ++ List.replicate (1 - (lg_sl ([.int v0])).length) Slot.unset).toArray = ls at hl ⊢
  have hl : lv_has ls 1 [(0, .int v0)] := hl
  refine lv_iload_n hx hb dX0_leadOfChoice_0 rfl (lv_at hl 0 rfl) ?_
  refine lv_bipush (v := 18) hx hb dX0_leadOfChoice_1 (by decide) ?_
  refine lv_idiv hx hb dX0_leadOfChoice_3 (by decide) ?_
  exact W.iret hx hb hr (fun t ht _ => ⟨_, rfl, (by (unfold m_X0_leadOfChoice) <;> rfl), ht⟩) (fun _ h => nomatch h) dX0_leadOfChoice_4

def m_X0_moveOfChoice (v0 : Int32) : Int32 :=
  17 - (v0 - v0 / 18 * 18)
set_option maxHeartbeats 4000000 in
set_option maxRecDepth 100000 in
theorem c_X0_moveOfChoice (l : Launch) (D : va_G) (cI cS : ClassId)  (v0 : Int32)  : Met l yX0_moveOfChoice wsX0_moveOfChoice ({ frames := 0, cells := 0, slots := 0, locals := 0 }) (tw_R D cI cS [.int v0] []) (vp_Si (fun r => r = (m_X0_moveOfChoice v0))) 0 0 (fun _ => False) := by
  refine Met.ofW (cc := cX0_moveOfChoice) (maxL := 1) (ret := (some .int)) (by decide) rfl ?_
  intro p e s m args below meth c s₁ B hml hv
  obtain ⟨rfl, hP, hK⟩ := hv
  have hx := B.exec
  have hb := B.bytes
  have hr := B.returns
  have hts := atoms_spec (ws := wsX0_moveOfChoice) B.pre
  have hown : s.vm.findClass RX0 = some m.cls := findClass_of_methodNamed B.named
  have hlocks := B.notSynchronized
  have hl := lv_entry ([.int v0]) (n := 1) (Nat.le_of_ble_eq_true rfl)
  rw [lg_entry_eq]
  generalize (lg_sl ([.int v0]) ++ List.replicate (1 - (lg_sl ([.int v0])).length) Slot.unset).toArray = ls at hl ⊢
  have hl : lv_has ls 1 [(0, .int v0)] := hl
  refine lv_bipush (v := 17) hx hb dX0_moveOfChoice_0 (by decide) ?_
  refine lv_iload_n hx hb dX0_moveOfChoice_2 rfl (lv_at hl 0 rfl) ?_
  refine lv_bipush (v := 18) hx hb dX0_moveOfChoice_3 (by decide) ?_
  refine lv_irem hx hb dX0_moveOfChoice_5 (by decide) ?_
  refine lv_isub hx hb dX0_moveOfChoice_6 ?_
  exact W.iret hx hb hr (fun t ht _ => ⟨_, rfl, (by (unfold m_X0_moveOfChoice) <;> rfl), ht⟩) (fun _ h => nomatch h) dX0_moveOfChoice_7

def m_X0_isDigit (v0 : Int32) : Int32 :=
  (if v0 < 48 then 0 else (if 57 < v0 then 0 else 1))
set_option maxHeartbeats 4000000 in
set_option maxRecDepth 100000 in
theorem c_X0_isDigit (l : Launch) (D : va_G) (cI cS : ClassId)  (v0 : Int32)  : Met l yX0_isDigit wsX0_isDigit ({ frames := 0, cells := 0, slots := 0, locals := 0 }) (tw_R D cI cS [.int v0] []) (vp_Si (fun r => r = (m_X0_isDigit v0))) 0 0 (fun _ => False) := by
  refine Met.ofW (cc := cX0_isDigit) (maxL := 1) (ret := (some .boolean)) (by decide) rfl ?_
  intro p e s m args below meth c s₁ B hml hv
  obtain ⟨rfl, hP, hK⟩ := hv
  have hx := B.exec
  have hb := B.bytes
  have hr := B.returns
  have hts := atoms_spec (ws := wsX0_isDigit) B.pre
  have hown : s.vm.findClass RX0 = some m.cls := findClass_of_methodNamed B.named
  have hlocks := B.notSynchronized
  have hl := lv_entry ([.int v0]) (n := 1) (Nat.le_of_ble_eq_true rfl)
  rw [lg_entry_eq]
  generalize (lg_sl ([.int v0]) ++ List.replicate (1 - (lg_sl ([.int v0])).length) Slot.unset).toArray = ls at hl ⊢
  have hl : lv_has ls 1 [(0, .int v0)] := hl
  refine lv_iload_n hx hb dX0_isDigit_0 rfl (lv_at hl 0 rfl) ?_
  refine lv_bipush (v := 48) hx hb dX0_isDigit_1 (by decide) ?_
  refine tw_join (fun (y : Int32) => F0 m 17 ls (.int y :: [])) (if v0 < 48 then 0 else (if 57 < v0 then 0 else 1)) ?_ (fun J17_0 => ?_)
  · intro y17 hy17
    exact W.zret (ty := .boolean) hx hb hr (by rw [hy17]; (repeat' split) <;> rfl) (fun t ht _ => ⟨_, rfl, (by (unfold m_X0_isDigit; (try rw [← hy17])) <;> rfl), ht⟩) (fun _ h => nomatch h) dX0_isDigit_17
  · refine lv_icmp_lt (tgt := 16) hx hb dX0_isDigit_3 (by decide) (fun c_3 => ?_) (fun c_3 => ?_)
    · refine lv_iconst (v := 0) hx hb dX0_isDigit_16 (by decide) ?_
      exact J17_0 _ (by (rw [if_pos c_3]) <;> rfl)
    · refine lv_iload_n hx hb dX0_isDigit_6 rfl (lv_at hl 0 rfl) ?_
      refine lv_bipush (v := 57) hx hb dX0_isDigit_7 (by decide) ?_
      refine lv_icmp_gt (tgt := 16) hx hb dX0_isDigit_9 (by decide) (fun c_9 => ?_) (fun c_9 => ?_)
      · refine lv_iconst (v := 0) hx hb dX0_isDigit_16 (by decide) ?_
        exact J17_0 _ (by (rw [if_neg c_3]; rw [if_pos c_9]) <;> rfl)
      · refine lv_iconst (v := 1) hx hb dX0_isDigit_12 (by decide) ?_
        refine lv_goto (tgt := 17) hx hb dX0_isDigit_13 (by decide) ?_
        exact J17_0 _ (by (rw [if_neg c_3]; rw [if_neg c_9]) <;> rfl)

def m_X0_kindOfLetter (v0 : Int32) : Int32 :=
  if v0 = 102 then
    0
  else
    if v0 = 103 then
      2
    else
      if v0 = 115 then
        1
      else
        (-9)
set_option maxHeartbeats 4000000 in
set_option maxRecDepth 100000 in
theorem c_X0_kindOfLetter (l : Launch) (D : va_G) (cI cS : ClassId)  (v0 : Int32)  : Met l yX0_kindOfLetter wsX0_kindOfLetter ({ frames := 0, cells := 0, slots := 0, locals := 0 }) (tw_R D cI cS [.int v0] []) (vp_Si (fun r => r = (m_X0_kindOfLetter v0))) 0 0 (fun _ => False) := by
  refine Met.ofW (cc := cX0_kindOfLetter) (maxL := 1) (ret := (some .int)) (by decide) rfl ?_
  intro p e s m args below meth c s₁ B hml hv
  obtain ⟨rfl, hP, hK⟩ := hv
  have hx := B.exec
  have hb := B.bytes
  have hr := B.returns
  have hts := atoms_spec (ws := wsX0_kindOfLetter) B.pre
  have hown : s.vm.findClass RX0 = some m.cls := findClass_of_methodNamed B.named
  have hlocks := B.notSynchronized
  have hl := lv_entry ([.int v0]) (n := 1) (Nat.le_of_ble_eq_true rfl)
  rw [lg_entry_eq]
  generalize (lg_sl ([.int v0]) ++ List.replicate (1 - (lg_sl ([.int v0])).length) Slot.unset).toArray = ls at hl ⊢
  have hl : lv_has ls 1 [(0, .int v0)] := hl
  refine lv_iload_n hx hb dX0_kindOfLetter_0 rfl (lv_at hl 0 rfl) ?_
  by_cases c_1_0 : v0 = 102
  · refine lv_lookup (tgt := 36) hx hb dX0_kindOfLetter_1 (by decide) (by (rw [c_1_0]) <;> rfl) (by decide) ?_
    refine lv_iconst (v := 0) hx hb dX0_kindOfLetter_36 (by decide) ?_
    exact W.iret hx hb hr (fun t ht _ => ⟨_, rfl, (by (unfold m_X0_kindOfLetter; rw [if_pos c_1_0]) <;> rfl), ht⟩) (fun _ h => nomatch h) dX0_kindOfLetter_37
  by_cases c_1_1 : v0 = 103
  · refine lv_lookup (tgt := 40) hx hb dX0_kindOfLetter_1 (by decide) (by (rw [c_1_1]) <;> rfl) (by decide) ?_
    refine lv_iconst (v := 2) hx hb dX0_kindOfLetter_40 (by decide) ?_
    exact W.iret hx hb hr (fun t ht _ => ⟨_, rfl, (by (unfold m_X0_kindOfLetter; rw [if_neg c_1_0]; rw [if_pos c_1_1]) <;> rfl), ht⟩) (fun _ h => nomatch h) dX0_kindOfLetter_41
  by_cases c_1_2 : v0 = 115
  · refine lv_lookup (tgt := 38) hx hb dX0_kindOfLetter_1 (by decide) (by (rw [c_1_2]) <;> rfl) (by decide) ?_
    refine lv_iconst (v := 1) hx hb dX0_kindOfLetter_38 (by decide) ?_
    exact W.iret hx hb hr (fun t ht _ => ⟨_, rfl, (by (unfold m_X0_kindOfLetter; rw [if_neg c_1_0]; rw [if_neg c_1_1]; rw [if_pos c_1_2]) <;> rfl), ht⟩) (fun _ h => nomatch h) dX0_kindOfLetter_39
  · refine lv_lookup (tgt := 42) hx hb dX0_kindOfLetter_1 (by decide) (show Op.lookupswitch.offset [(102, 35), (103, 39), (115, 37)] 41 _ = 41 from by (rw [lv_osw (k := 102) (a := 102) c_1_0 rfl, lv_osw (k := 103) (a := 103) c_1_1 rfl, lv_osw (k := 115) (a := 115) c_1_2 rfl]) <;> rfl) (by decide) ?_
    refine lv_bipush (v := (-9)) hx hb dX0_kindOfLetter_42 (by decide) ?_
    exact W.iret hx hb hr (fun t ht _ => ⟨_, rfl, (by (unfold m_X0_kindOfLetter; rw [if_neg c_1_0]; rw [if_neg c_1_1]; rw [if_neg c_1_2]) <;> rfl), ht⟩) (fun _ h => nomatch h) dX0_kindOfLetter_44

def m_X0_boundOfPart (nc : Nat) (v1 : Int32) : Int32 :=
  if v1 = 0 then
    3
  else
    if v1 = 1 then
      2
    else
      if v1 = 2 then
        nI nc
      else
        10
set_option maxHeartbeats 4000000 in
set_option maxRecDepth 100000 in
theorem c_X0_boundOfPart (l : Launch) (D : va_G) (cI cS : ClassId) (b0 : Nat) (b1 : Nat) (b2 : Nat) (b3 : Nat) (b4 : Nat) (b5 : Nat) (ac : Nat → Int32) (kd : Nat → Int32) (ho : Nat → Int32) (pl : Nat → Int32) (st : Nat → Int32) (nc : Nat) (nt : Nat) (ea : Int32) (v1 : Int32)  : Met l yX0_boundOfPart wsX0_boundOfPart ({ frames := 0, cells := 0, slots := 0, locals := 0 }) (tw_R D cI cS [.ref b0, .int v1] [(b0, .inr (0, [.ref b1, .ref b2, .ref b3, .ref b4, .ref b5, .int (nI nc), .int (nI nt), .int ea])), (b1, .inl (cI, 6, .inl ac)), (b2, .inl (cI, 6, .inl kd)), (b3, .inl (cI, 6, .inl ho)), (b4, .inl (cI, 6, .inl pl)), (b5, .inl (cI, 6, .inl st))]) (vp_Si (fun r => r = (m_X0_boundOfPart nc v1))) 0 0 (fun _ => False) := by
  refine Met.ofW (cc := cX0_boundOfPart) (maxL := 2) (ret := (some .int)) (by decide) rfl ?_
  intro p e s m args below meth c s₁ B hml hv
  obtain ⟨rfl, hP, hK⟩ := hv
  have hx := B.exec
  have hb := B.bytes
  have hr := B.returns
  have hts := atoms_spec (ws := wsX0_boundOfPart) B.pre
  have hown : s.vm.findClass RX0 = some m.cls := findClass_of_methodNamed B.named
  have hlocks := B.notSynchronized
  have fl_33 := hts (.fieldLink RX0 33 "TableWar$Cloth" "cells" "I") (by decide +kernel)
  have hin_X0 := (show ∀ w ∈ u_ws RX0 TX0 8, w ∈ wsX0_boundOfPart from by decide +kernel)
  have hl := lv_entry ([.ref b0, .int v1]) (n := 2) (Nat.le_of_ble_eq_true rfl)
  rw [lg_entry_eq]
  generalize (lg_sl ([.ref b0, .int v1]) ++ List.replicate (2 - (lg_sl ([.ref b0, .int v1])).length) Slot.unset).toArray = ls at hl ⊢
  have hl : lv_has ls 2 [(0, .ref b0), (1, .int v1)] := hl
  refine lv_iload_n hx hb dX0_boundOfPart_0 rfl (lv_at hl 1 rfl) ?_
  by_cases c_1_0 : v1 = 0
  · refine lv_tableIn (tgt := 28) hx hb dX0_boundOfPart_1 (by (rw [c_1_0]) <;> decide) (by (rw [c_1_0]) <;> decide) (by (rw [c_1_0]) <;> rfl) (by decide) ?_
    refine lv_iconst (v := 3) hx hb dX0_boundOfPart_28 (by decide) ?_
    exact W.iret hx hb hr (fun t ht _ => ⟨_, rfl, (by (unfold m_X0_boundOfPart; rw [if_pos c_1_0]) <;> rfl), ht⟩) (fun _ h => nomatch h) dX0_boundOfPart_29
  by_cases c_1_1 : v1 = 1
  · refine lv_tableIn (tgt := 30) hx hb dX0_boundOfPart_1 (by (rw [c_1_1]) <;> decide) (by (rw [c_1_1]) <;> decide) (by (rw [c_1_1]) <;> rfl) (by decide) ?_
    refine lv_iconst (v := 2) hx hb dX0_boundOfPart_30 (by decide) ?_
    exact W.iret hx hb hr (fun t ht _ => ⟨_, rfl, (by (unfold m_X0_boundOfPart; rw [if_neg c_1_0]; rw [if_pos c_1_1]) <;> rfl), ht⟩) (fun _ h => nomatch h) dX0_boundOfPart_31
  by_cases c_1_2 : v1 = 2
  · refine lv_tableIn (tgt := 32) hx hb dX0_boundOfPart_1 (by (rw [c_1_2]) <;> decide) (by (rw [c_1_2]) <;> decide) (by (rw [c_1_2]) <;> rfl) (by decide) ?_
    refine lv_aload_n hx hb dX0_boundOfPart_32 rfl (lv_at hl 0 rfl) ?_
    refine va_get (ci := 0) (v := .int (nI nc)) (C := RX0) (T := TX0) (N := 8) hx hb hts hin_X0 hown hK hP 0 rfl rfl 5 (by decide) fl_33 (fun _ h9 => h9) rfl dX0_boundOfPart_33 ?_
    exact W.iret hx hb hr (fun t ht _ => ⟨_, rfl, (by (unfold m_X0_boundOfPart; rw [if_neg c_1_0]; rw [if_neg c_1_1]; rw [if_pos c_1_2]) <;> rfl), ht⟩) (fun _ h => nomatch h) dX0_boundOfPart_36
  · have tc_1_0 := lv_neT c_1_0 (a := 0) rfl
    have tc_1_1 := lv_neT c_1_1 (a := 1) rfl
    have tc_1_2 := lv_neT c_1_2 (a := 2) rfl
    refine lv_tableOut (tgt := 37) hx hb dX0_boundOfPart_1 (by omega) (by decide) ?_
    refine lv_bipush (v := 10) hx hb dX0_boundOfPart_37 (by decide) ?_
    exact W.iret hx hb hr (fun t ht _ => ⟨_, rfl, (by (unfold m_X0_boundOfPart; rw [if_neg c_1_0]; rw [if_neg c_1_1]; rw [if_neg c_1_2]) <;> rfl), ht⟩) (fun _ h => nomatch h) dX0_boundOfPart_39

def m_X0_canMove (ho : Nat → Int32) (pl : Nat → Int32) (nc : Nat) (ea : Int32) (v1 : Int32) (mv : Nat) : Int32 :=
  (if (ho (mv / 3)) = v1 then (if (m_X0_canDo pl nc ea (nI (mv / 3)) (nI (mv % 3))) = 0 then 0 else 1) else 0)
set_option maxHeartbeats 4000000 in
set_option maxRecDepth 100000 in
theorem c_X0_canMove (l : Launch) (D : va_G) (cI cS : ClassId) (b0 : Nat) (b1 : Nat) (b2 : Nat) (b3 : Nat) (b4 : Nat) (b5 : Nat) (ac : Nat → Int32) (kd : Nat → Int32) (ho : Nat → Int32) (pl : Nat → Int32) (st : Nat → Int32) (nc : Nat) (nt : Nat) (ea : Int32) (v1 : Int32) (mv : Nat) (hmv : mv < 18) : Met l yX0_canMove wsX0_canMove ({ frames := 2, cells := 0, slots := 0, locals := 43 }) (tw_R D cI cS [.ref b0, .int v1, .int (nI mv)] [(b0, .inr (0, [.ref b1, .ref b2, .ref b3, .ref b4, .ref b5, .int (nI nc), .int (nI nt), .int ea])), (b1, .inl (cI, 6, .inl ac)), (b2, .inl (cI, 6, .inl kd)), (b3, .inl (cI, 6, .inl ho)), (b4, .inl (cI, 6, .inl pl)), (b5, .inl (cI, 6, .inl st))]) (vp_Si (fun r => r = (m_X0_canMove ho pl nc ea v1 mv))) 0 0 (fun _ => False) := by
  refine Met.ofW (cc := cX0_canMove) (maxL := 3) (ret := (some .boolean)) (by decide) rfl ?_
  intro p e s m args below meth c s₁ B hml hv
  obtain ⟨rfl, hP, hK⟩ := hv
  have hx := B.exec
  have hb := B.bytes
  have hr := B.returns
  have hts := atoms_spec (ws := wsX0_canMove) B.pre
  have hown : s.vm.findClass RX0 = some m.cls := findClass_of_methodNamed B.named
  have hlocks := B.notSynchronized
  have fl_18 := hts (.fieldLink RX0 18 "TableWar$Cloth" "house" "[I") (by decide +kernel)
  have hin_X0 := (show ∀ w ∈ u_ws RX0 TX0 8, w ∈ wsX0_canMove from by decide +kernel)
  have hl := lv_entry ([.ref b0, .int v1, .int (nI mv)]) (n := 3) (Nat.le_of_ble_eq_true rfl)
  rw [lg_entry_eq]
  generalize (lg_sl ([.ref b0, .int v1, .int (nI mv)]) ++ List.replicate (3 - (lg_sl ([.ref b0, .int v1, .int (nI mv)])).length) Slot.unset).toArray = ls at hl ⊢
  have hl : lv_has ls 3 [(0, .ref b0), (1, .int v1), (2, .int (nI mv))] := hl
  refine lv_aload_n hx hb dX0_canMove_0 rfl (lv_at hl 0 rfl) ?_
  refine va_get (ci := 0) (v := .ref b3) (C := RX0) (T := TX0) (N := 8) hx hb hts hin_X0 hown hK hP 0 rfl rfl 2 (by decide) fl_18 (fun _ h9 => h9) rfl dX0_canMove_1 ?_
  refine lv_iload_n hx hb dX0_canMove_4 rfl (lv_at hl 2 rfl) ?_
  refine lv_iconst (v := 3) hx hb dX0_canMove_5 (by decide) ?_
  refine lv_idiv hx hb dX0_canMove_6 (by decide) ?_
  refine tw_top (show _ = nI (mv / 3) from tw_d3 (by omega)) ?_
  refine va_iald hx hb hK hP 3 0 rfl rfl (vp_in_nI (show (mv / 3) < 6 by omega) (by decide)) dX0_canMove_7 ?_
  refine tw_top (show _ = ho (mv / 3) from by rw [nI_clamp (by omega)]) ?_
  refine lv_iload_n hx hb dX0_canMove_8 rfl (lv_at hl 1 rfl) ?_
  refine tw_join (fun (y : Int32) => F0 m 30 ls (.int y :: [])) (if (ho (mv / 3)) = v1 then (if (m_X0_canDo pl nc ea (nI (mv / 3)) (nI (mv % 3))) = 0 then 0 else 1) else 0) ?_ (fun J30_0 => ?_)
  · intro y30 hy30
    exact W.zret (ty := .boolean) hx hb hr (by rw [hy30]; (repeat' split) <;> rfl) (fun t ht _ => ⟨_, rfl, (by (unfold m_X0_canMove; (try rw [← hy30])) <;> rfl), ht⟩) (fun _ h => nomatch h) dX0_canMove_30
  · refine lv_icmp_ne (tgt := 29) hx hb dX0_canMove_9 (by decide) (fun c_9 => ?_) (fun c_9 => ?_)
    · refine lv_iconst (v := 0) hx hb dX0_canMove_29 (by decide) ?_
      exact J30_0 _ (by (rw [if_neg c_9]) <;> rfl)
    · refine lv_aload_n hx hb dX0_canMove_12 rfl (lv_at hl 0 rfl) ?_
      refine lv_iload_n hx hb dX0_canMove_13 rfl (lv_at hl 2 rfl) ?_
      refine lv_iconst (v := 3) hx hb dX0_canMove_14 (by decide) ?_
      refine lv_idiv hx hb dX0_canMove_15 (by decide) ?_
      refine tw_top (show _ = nI (mv / 3) from tw_d3 (by omega)) ?_
      refine lv_iload_n hx hb dX0_canMove_16 rfl (lv_at hl 2 rfl) ?_
      refine lv_iconst (v := 3) hx hb dX0_canMove_17 (by decide) ?_
      refine lv_irem hx hb dX0_canMove_18 (by decide) ?_
      refine tw_top (show _ = nI (mv % 3) from tw_r3 (by omega)) ?_
      refine tw_cs (va_runV (As := [.int (nI (mv / 3)), .int (nI (mv % 3))]) (rest := []) ⟨hx, hb, hml, hown, hts⟩ (c_X0_canDo l D cI cS b0 b1 b2 b3 b4 b5 ac kd ho pl st nc nt ea (nI (mv / 3)) (nI (mv % 3)) (by first | assumption | omega | exact hz60 _ | exact vp_in_nI (by omega) (by decide))) (cwV 2 hts gX0_canMove_X0_canDo rfl rfl rfl (by decide +kernel) ⟨Nat.le_of_ble_eq_true rfl, Nat.le_of_ble_eq_true rfl⟩) ⟨tw_Rb, va_recv hK hP (ci := 0) (q0 := 0) rfl rfl, tw_Rp (hP.sub (ws' := [(b0, .inr (0, [.ref b1, .ref b2, .ref b3, .ref b4, .ref b5, .int (nI nc), .int (nI nt), .int ea])), (b1, .inl (cI, 6, .inl ac)), (b2, .inl (cI, 6, .inl kd)), (b3, .inl (cI, 6, .inl ho)), (b4, .inl (cI, 6, .inl pl)), (b5, .inl (cI, 6, .inl st))]) [0, 1, 2, 3, 4, 5] rfl) hK⟩ rfl rfl hl.1 rfl (lv_room (Nat.le_of_ble_eq_true rfl)) dX0_canMove_19 ⟨Nat.zero_le _, Nat.zero_le _⟩) ?_
      refine lv_if_eq (tgt := 29) hx hb dX0_canMove_22 (by decide) (fun c_22 => ?_) (fun c_22 => ?_)
      · refine lv_iconst (v := 0) hx hb dX0_canMove_29 (by decide) ?_
        exact J30_0 _ (by (rw [if_pos c_9]; rw [if_pos c_22]) <;> rfl)
      · refine lv_iconst (v := 1) hx hb dX0_canMove_25 (by decide) ?_
        refine lv_goto (tgt := 30) hx hb dX0_canMove_26 (by decide) ?_
        exact J30_0 _ (by (rw [if_pos c_9]; rw [if_neg c_22]) <;> rfl)
