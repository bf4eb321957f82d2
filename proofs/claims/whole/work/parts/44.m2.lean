def m_X3_mightOf (kd : Nat → Int32) (st : Nat → Int32) (ea : Int32) (v1 : Int32) : Int32 :=
  (if (m_X3_isIn ea v1) = 0 then (if (kd v1.toNatClampNeg) = 0 then st v1.toNatClampNeg else (if (kd v1.toNatClampNeg) = 1 then (st v1.toNatClampNeg) + 1 else 2 * ((st v1.toNatClampNeg) + 1))) else (0 : Int32))
set_option maxHeartbeats 4000000 in
set_option maxRecDepth 100000 in
theorem c_X3_mightOf (l : Launch) (D : va_G) (cI cS : ClassId) (q : Nat → Nat) (fa : Int32) (nc : Nat) (nt : Nat) (kd : Nat → Int32) (st : Nat → Int32) (ea : Int32) (ra : Nat) (rs : Nat) (rt : Nat) (nr : Nat) (tr : Int32) (v1 : Int32) (h1 : vp_in v1 6) : Met l yX3_mightOf wsX3_mightOf ({ frames := 1, cells := 0, slots := 0, locals := 21 }) (tw_R D cI cS [.ref (q 0), .int v1] [((q 0), .inr (3, [.int fa, .int (nI nc), .ref (q 1), .int (nI nt), .ref (q 2), .ref (q 3), .ref (q 4), .ref (q 5), .int ea, .int (nI ra), .int (nI rs), .int (nI rt), .ref (q 6), .ref (q 7), .ref (q 8), .ref (q 9), .ref (q 10), .ref (q 11), .int (nI nr), .ref (q 12), .ref (q 13), .ref (q 14), .ref (q 15), .ref (q 16), .ref (q 17), .int tr])), ((q 2), .inl (cI, 6, .inl kd)), ((q 5), .inl (cI, 6, .inl st))]) (vp_Si (fun r => r = (m_X3_mightOf kd st ea v1))) 0 0 (fun _ => False) := by
  refine Met.ofW (cc := cX3_mightOf) (maxL := 4) (ret := (some .int)) (by decide) rfl ?_
  intro p e s m args below meth c s₁ B hml hv
  obtain ⟨rfl, hP, hK⟩ := hv
  have hx := B.exec
  have hb := B.bytes
  have hr := B.returns
  have hts := atoms_spec (ws := wsX3_mightOf) B.pre
  have hown : s.vm.findClass RX3 = some m.cls := findClass_of_methodNamed B.named
  have hlocks := B.notSynchronized
  have fl_22 := hts (.fieldLink RX3 22 "TableWarModel" "strengthOf" "[I") (by decide +kernel)
  have hin_X3 := (show ∀ w ∈ u_ws RX3 TX3 26, w ∈ wsX3_mightOf from by decide +kernel)
  have fl_13 := hts (.fieldLink RX3 13 "TableWarModel" "kindOf" "[I") (by decide +kernel)
  have fl_129 := hts (.fieldLink RX3 129 "TableWarModel" "eaten" "I") (by decide +kernel)
  have hl := lv_entry ([.ref (q 0), .int v1]) (n := 4) (Nat.le_of_ble_eq_true rfl)
  rw [lg_entry_eq]
  generalize (lg_sl ([.ref (q 0), .int v1]) ++ List.replicate (4 - (lg_sl ([.ref (q 0), .int v1])).length) Slot.unset).toArray = ls at hl ⊢
  have hl : lv_has ls 4 [(0, .ref (q 0)), (1, .int v1)] := hl
  refine lv_aload_n hx hb dX3_mightOf_0 rfl (lv_at hl 0 rfl) ?_
  refine va_get (ci := 3) (v := .ref (q 5)) (C := RX3) (T := TX3) (N := 26) hx hb hts hin_X3 hown hK hP 0 rfl rfl 7 (by decide) fl_22 (fun _ h9 => h9) rfl dX3_mightOf_1 ?_
  refine lv_iload_n hx hb dX3_mightOf_4 rfl (lv_at hl 1 rfl) ?_
  refine va_iald hx hb hK hP 2 0 rfl rfl (by assumption) dX3_mightOf_5 ?_
  refine lv_istore_n (lv' := [(2, .int (st v1.toNatClampNeg)), (0, .ref (q 0)), (1, .int v1)]) hx hb dX3_mightOf_6 rfl hl (by decide) rfl (fun ls hl => ?_)
  refine lv_aload_n hx hb dX3_mightOf_7 rfl (lv_at hl 1 rfl) ?_
  refine va_get (ci := 3) (v := .ref (q 2)) (C := RX3) (T := TX3) (N := 26) hx hb hts hin_X3 hown hK hP 0 rfl rfl 4 (by decide) fl_13 (fun _ h9 => h9) rfl dX3_mightOf_8 ?_
  refine lv_iload_n hx hb dX3_mightOf_11 rfl (lv_at hl 2 rfl) ?_
  refine va_iald hx hb hK hP 1 0 rfl rfl (by assumption) dX3_mightOf_12 ?_
  refine tw_join (fun (y : Int32) => F0 m 41 ls (.int y :: [])) (if (kd v1.toNatClampNeg) = 0 then st v1.toNatClampNeg else (if (kd v1.toNatClampNeg) = 1 then (st v1.toNatClampNeg) + 1 else 2 * ((st v1.toNatClampNeg) + 1))) ?_ (fun J41_0 => ?_)
  · intro y41 hy41
    refine lv_istore_n (lv' := [(3, .int y41), (2, .int (st v1.toNatClampNeg)), (0, .ref (q 0)), (1, .int v1)]) hx hb dX3_mightOf_41 rfl hl (by decide) rfl (fun ls hl => ?_)
    refine lv_aload_n hx hb dX3_mightOf_42 rfl (lv_at hl 2 rfl) ?_
    refine va_get (ci := 3) (v := .int ea) (C := RX3) (T := TX3) (N := 26) hx hb hts hin_X3 hown hK hP 0 rfl rfl 8 (by decide) fl_129 (fun _ h9 => h9) rfl dX3_mightOf_43 ?_
    refine lv_iload_n hx hb dX3_mightOf_46 rfl (lv_at hl 3 rfl) ?_
    refine tw_cs (va_runS (As := [.int ea, .int v1]) (rest := []) ⟨hx, hb, hml, hown, hts⟩ (c_X3_isIn l D cI cS ea v1) (va_cwS 2 hts gX3_mightOf_X3_isIn rfl rfl rfl (by decide +kernel) ⟨Nat.le_of_ble_eq_true rfl, Nat.le_of_ble_eq_true rfl⟩) ⟨tw_Rb, tw_Rp (hP.sub (ws' := []) [] rfl) hK⟩ rfl rfl hl.1 rfl (lv_room (Nat.le_of_ble_eq_true rfl)) dX3_mightOf_47 ⟨Nat.zero_le _, Nat.zero_le _⟩) ?_
    refine tw_join (fun (y : Int32) => F0 m 58 ls (.int y :: [])) (if (m_X3_isIn ea v1) = 0 then y41 else (0 : Int32)) ?_ (fun J58_1 => ?_)
    · intro y58 hy58
      exact W.iret hx hb hr (fun t ht _ => ⟨_, rfl, (by (unfold m_X3_mightOf; (try rw [← hy41]); (try rw [← hy58])) <;> rfl), ht⟩) (fun _ h => nomatch h) dX3_mightOf_58
    · refine lv_if_eq (tgt := 57) hx hb dX3_mightOf_50 (by decide) (fun c_50 => ?_) (fun c_50 => ?_)
      · refine lv_iload_n hx hb dX3_mightOf_57 rfl (lv_at hl 0 rfl) ?_
        exact J58_1 _ (by (rw [if_pos c_50]) <;> rfl)
      · refine lv_iconst (v := 0) hx hb dX3_mightOf_53 (by decide) ?_
        refine lv_goto (tgt := 58) hx hb dX3_mightOf_54 (by decide) ?_
        exact J58_1 _ (by (rw [if_neg c_50]) <;> rfl)
  · refine lv_if_ne (tgt := 20) hx hb dX3_mightOf_13 (by decide) (fun c_13 => ?_) (fun c_13 => ?_)
    · refine lv_aload_n hx hb dX3_mightOf_20 rfl (lv_at hl 1 rfl) ?_
      refine va_get (ci := 3) (v := .ref (q 2)) (C := RX3) (T := TX3) (N := 26) hx hb hts hin_X3 hown hK hP 0 rfl rfl 4 (by decide) fl_13 (fun _ h9 => h9) rfl dX3_mightOf_21 ?_
      refine lv_iload_n hx hb dX3_mightOf_24 rfl (lv_at hl 2 rfl) ?_
      refine va_iald hx hb hK hP 1 0 rfl rfl (by assumption) dX3_mightOf_25 ?_
      refine lv_iconst (v := 1) hx hb dX3_mightOf_26 (by decide) ?_
      refine lv_icmp_ne (tgt := 36) hx hb dX3_mightOf_27 (by decide) (fun c_27 => ?_) (fun c_27 => ?_)
      · refine lv_iconst (v := 2) hx hb dX3_mightOf_36 (by decide) ?_
        refine lv_iload_n hx hb dX3_mightOf_37 rfl (lv_at hl 0 rfl) ?_
        refine lv_iconst (v := 1) hx hb dX3_mightOf_38 (by decide) ?_
        refine lv_iadd hx hb dX3_mightOf_39 ?_
        refine lv_imul hx hb dX3_mightOf_40 ?_
        exact J41_0 _ (by (rw [if_neg c_13]; rw [if_neg c_27]) <;> rfl)
      · refine lv_iload_n hx hb dX3_mightOf_30 rfl (lv_at hl 0 rfl) ?_
        refine lv_iconst (v := 1) hx hb dX3_mightOf_31 (by decide) ?_
        refine lv_iadd hx hb dX3_mightOf_32 ?_
        refine lv_goto (tgt := 41) hx hb dX3_mightOf_33 (by decide) ?_
        exact J41_0 _ (by (rw [if_neg c_13]; rw [if_pos c_27]) <;> rfl)
    · refine lv_iload_n hx hb dX3_mightOf_16 rfl (lv_at hl 0 rfl) ?_
      refine lv_goto (tgt := 41) hx hb dX3_mightOf_17 (by decide) ?_
      exact J41_0 _ (by (rw [if_pos c_13]) <;> rfl)

def m_X3_ofThing (nt : Nat) (kd : Nat → Int32) (ho : Nat → Int32) (pl : Nat → Int32) (st : Nat → Int32) (ea : Int32) (v1 : Int32) (v2 : Int32) : Int32 :=
  if (m_X3_noThing nt v1) = 0 then
    if v2 = 0 then
      kd v1.toNatClampNeg
    else
      if v2 = 1 then
        ho v1.toNatClampNeg
      else
        if v2 = 2 then
          (if (m_X3_isIn ea v1) = 0 then pl v1.toNatClampNeg else (-9 : Int32))
        else
          if v2 = 3 then
            st v1.toNatClampNeg
          else
            if v2 = 4 then
              (m_X3_mightOf kd st ea v1)
            else
              (-2)
  else
    (-1)
set_option maxHeartbeats 4000000 in
set_option maxRecDepth 100000 in
theorem c_X3_ofThing (l : Launch) (D : va_G) (cI cS : ClassId) (q : Nat → Nat) (fa : Int32) (nc : Nat) (nt : Nat) (kd : Nat → Int32) (ho : Nat → Int32) (pl : Nat → Int32) (st : Nat → Int32) (ea : Int32) (ra : Nat) (rs : Nat) (rt : Nat) (nr : Nat) (tr : Int32) (v1 : Int32) (v2 : Int32) (hn : nt ≤ 6) : Met l yX3_ofThing wsX3_ofThing ({ frames := 2, cells := 0, slots := 0, locals := 46 }) (tw_R D cI cS [.ref (q 0), .int v1, .int v2] [((q 0), .inr (3, [.int fa, .int (nI nc), .ref (q 1), .int (nI nt), .ref (q 2), .ref (q 3), .ref (q 4), .ref (q 5), .int ea, .int (nI ra), .int (nI rs), .int (nI rt), .ref (q 6), .ref (q 7), .ref (q 8), .ref (q 9), .ref (q 10), .ref (q 11), .int (nI nr), .ref (q 12), .ref (q 13), .ref (q 14), .ref (q 15), .ref (q 16), .ref (q 17), .int tr])), ((q 2), .inl (cI, 6, .inl kd)), ((q 3), .inl (cI, 6, .inl ho)), ((q 4), .inl (cI, 6, .inl pl)), ((q 5), .inl (cI, 6, .inl st))]) (vp_Si (fun r => r = (m_X3_ofThing nt kd ho pl st ea v1 v2))) 0 0 (fun _ => False) := by
  refine Met.ofW (cc := cX3_ofThing) (maxL := 3) (ret := (some .int)) (by decide) rfl ?_
  intro p e s m args below meth c s₁ B hml hv
  obtain ⟨rfl, hP, hK⟩ := hv
  have hx := B.exec
  have hb := B.bytes
  have hr := B.returns
  have hts := atoms_spec (ws := wsX3_ofThing) B.pre
  have hown : s.vm.findClass RX3 = some m.cls := findClass_of_methodNamed B.named
  have hlocks := B.notSynchronized
  have fl_13 := hts (.fieldLink RX3 13 "TableWarModel" "kindOf" "[I") (by decide +kernel)
  have hin_X3 := (show ∀ w ∈ u_ws RX3 TX3 26, w ∈ wsX3_ofThing from by decide +kernel)
  have fl_16 := hts (.fieldLink RX3 16 "TableWarModel" "houseOf" "[I") (by decide +kernel)
  have fl_129 := hts (.fieldLink RX3 129 "TableWarModel" "eaten" "I") (by decide +kernel)
  have fl_19 := hts (.fieldLink RX3 19 "TableWarModel" "spotOf" "[I") (by decide +kernel)
  have fl_22 := hts (.fieldLink RX3 22 "TableWarModel" "strengthOf" "[I") (by decide +kernel)
  have hl := lv_entry ([.ref (q 0), .int v1, .int v2]) (n := 3) (Nat.le_of_ble_eq_true rfl)
  rw [lg_entry_eq]
  generalize (lg_sl ([.ref (q 0), .int v1, .int v2]) ++ List.replicate (3 - (lg_sl ([.ref (q 0), .int v1, .int v2])).length) Slot.unset).toArray = ls at hl ⊢
  have hl : lv_has ls 3 [(0, .ref (q 0)), (1, .int v1), (2, .int v2)] := hl
  refine lv_aload_n hx hb dX3_ofThing_0 rfl (lv_at hl 0 rfl) ?_
  refine lv_iload_n hx hb dX3_ofThing_1 rfl (lv_at hl 1 rfl) ?_
  refine tw_cs (va_runV (As := [.int v1]) (rest := []) ⟨hx, hb, hml, hown, hts⟩ (c_X3_noThing l D cI cS q fa nc nt ea ra rs rt nr tr v1) (cwV 1 hts gX3_ofThing_X3_noThing rfl rfl rfl (by decide +kernel) ⟨Nat.le_of_ble_eq_true rfl, Nat.le_of_ble_eq_true rfl⟩) ⟨tw_Rb, va_recv hK hP (ci := 3) (q0 := 0) rfl rfl, tw_Rp (hP.sub (ws' := [((q 0), .inr (3, [.int fa, .int (nI nc), .ref (q 1), .int (nI nt), .ref (q 2), .ref (q 3), .ref (q 4), .ref (q 5), .int ea, .int (nI ra), .int (nI rs), .int (nI rt), .ref (q 6), .ref (q 7), .ref (q 8), .ref (q 9), .ref (q 10), .ref (q 11), .int (nI nr), .ref (q 12), .ref (q 13), .ref (q 14), .ref (q 15), .ref (q 16), .ref (q 17), .int tr]))]) [0] rfl) hK⟩ rfl rfl hl.1 rfl (lv_room (Nat.le_of_ble_eq_true rfl)) dX3_ofThing_2 ⟨Nat.zero_le _, Nat.zero_le _⟩) ?_
  refine lv_if_eq (tgt := 10) hx hb dX3_ofThing_5 (by decide) (fun c_5 => ?_) (fun c_5 => ?_)
  · refine lv_iload_n hx hb dX3_ofThing_10 rfl (lv_at hl 2 rfl) ?_
    by_cases c_11_0 : v2 = 0
    · refine lv_tableIn (tgt := 44) hx hb dX3_ofThing_11 (by (rw [c_11_0]) <;> decide) (by (rw [c_11_0]) <;> decide) (by (rw [c_11_0]) <;> rfl) (by decide) ?_
      refine lv_aload_n hx hb dX3_ofThing_44 rfl (lv_at hl 0 rfl) ?_
      refine va_get (ci := 3) (v := .ref (q 2)) (C := RX3) (T := TX3) (N := 26) hx hb hts hin_X3 hown hK hP 0 rfl rfl 4 (by decide) fl_13 (fun _ h9 => h9) rfl dX3_ofThing_45 ?_
      refine lv_iload_n hx hb dX3_ofThing_48 rfl (lv_at hl 1 rfl) ?_
      refine va_iald hx hb hK hP 1 0 rfl rfl (noThing_in hn c_5) dX3_ofThing_49 ?_
      exact W.iret hx hb hr (fun t ht _ => ⟨_, rfl, (by (unfold m_X3_ofThing; rw [if_pos c_5]; rw [if_pos c_11_0]) <;> rfl), ht⟩) (fun _ h => nomatch h) dX3_ofThing_50
    by_cases c_11_1 : v2 = 1
    · refine lv_tableIn (tgt := 51) hx hb dX3_ofThing_11 (by (rw [c_11_1]) <;> decide) (by (rw [c_11_1]) <;> decide) (by (rw [c_11_1]) <;> rfl) (by decide) ?_
      refine lv_aload_n hx hb dX3_ofThing_51 rfl (lv_at hl 0 rfl) ?_
      refine va_get (ci := 3) (v := .ref (q 3)) (C := RX3) (T := TX3) (N := 26) hx hb hts hin_X3 hown hK hP 0 rfl rfl 5 (by decide) fl_16 (fun _ h9 => h9) rfl dX3_ofThing_52 ?_
      refine lv_iload_n hx hb dX3_ofThing_55 rfl (lv_at hl 1 rfl) ?_
      refine va_iald hx hb hK hP 2 0 rfl rfl (noThing_in hn c_5) dX3_ofThing_56 ?_
      exact W.iret hx hb hr (fun t ht _ => ⟨_, rfl, (by (unfold m_X3_ofThing; rw [if_pos c_5]; rw [if_neg c_11_0]; rw [if_pos c_11_1]) <;> rfl), ht⟩) (fun _ h => nomatch h) dX3_ofThing_57
    by_cases c_11_2 : v2 = 2
    · refine lv_tableIn (tgt := 58) hx hb dX3_ofThing_11 (by (rw [c_11_2]) <;> decide) (by (rw [c_11_2]) <;> decide) (by (rw [c_11_2]) <;> rfl) (by decide) ?_
      refine lv_aload_n hx hb dX3_ofThing_58 rfl (lv_at hl 0 rfl) ?_
      refine va_get (ci := 3) (v := .int ea) (C := RX3) (T := TX3) (N := 26) hx hb hts hin_X3 hown hK hP 0 rfl rfl 8 (by decide) fl_129 (fun _ h9 => h9) rfl dX3_ofThing_59 ?_
      refine lv_iload_n hx hb dX3_ofThing_62 rfl (lv_at hl 1 rfl) ?_
      refine tw_cs (va_runS (As := [.int ea, .int v1]) (rest := []) ⟨hx, hb, hml, hown, hts⟩ (c_X3_isIn l D cI cS ea v1) (va_cwS 2 hts gX3_ofThing_X3_isIn rfl rfl rfl (by decide +kernel) ⟨Nat.le_of_ble_eq_true rfl, Nat.le_of_ble_eq_true rfl⟩) ⟨tw_Rb, tw_Rp (hP.sub (ws' := []) [] rfl) hK⟩ rfl rfl hl.1 rfl (lv_room (Nat.le_of_ble_eq_true rfl)) dX3_ofThing_63 ⟨Nat.zero_le _, Nat.zero_le _⟩) ?_
      refine tw_join (fun (y : Int32) => F0 m 80 ls (.int y :: [])) (if (m_X3_isIn ea v1) = 0 then pl v1.toNatClampNeg else (-9 : Int32)) ?_ (fun J80_0 => ?_)
      · intro y80 hy80
        exact W.iret hx hb hr (fun t ht _ => ⟨_, rfl, (by (unfold m_X3_ofThing; rw [if_pos c_5]; rw [if_neg c_11_0]; rw [if_neg c_11_1]; rw [if_pos c_11_2]; (try rw [← hy80])) <;> rfl), ht⟩) (fun _ h => nomatch h) dX3_ofThing_80
      · refine lv_if_eq (tgt := 74) hx hb dX3_ofThing_66 (by decide) (fun c_66 => ?_) (fun c_66 => ?_)
        · refine lv_aload_n hx hb dX3_ofThing_74 rfl (lv_at hl 0 rfl) ?_
          refine va_get (ci := 3) (v := .ref (q 4)) (C := RX3) (T := TX3) (N := 26) hx hb hts hin_X3 hown hK hP 0 rfl rfl 6 (by decide) fl_19 (fun _ h9 => h9) rfl dX3_ofThing_75 ?_
          refine lv_iload_n hx hb dX3_ofThing_78 rfl (lv_at hl 1 rfl) ?_
          refine va_iald hx hb hK hP 3 0 rfl rfl (noThing_in hn c_5) dX3_ofThing_79 ?_
          exact J80_0 _ (by (rw [if_pos c_66]) <;> rfl)
        · refine lv_bipush (v := (-9)) hx hb dX3_ofThing_69 (by decide) ?_
          refine lv_goto (tgt := 80) hx hb dX3_ofThing_71 (by decide) ?_
          exact J80_0 _ (by (rw [if_neg c_66]) <;> rfl)
    by_cases c_11_3 : v2 = 3
    · refine lv_tableIn (tgt := 81) hx hb dX3_ofThing_11 (by (rw [c_11_3]) <;> decide) (by (rw [c_11_3]) <;> decide) (by (rw [c_11_3]) <;> rfl) (by decide) ?_
      refine lv_aload_n hx hb dX3_ofThing_81 rfl (lv_at hl 0 rfl) ?_
      refine va_get (ci := 3) (v := .ref (q 5)) (C := RX3) (T := TX3) (N := 26) hx hb hts hin_X3 hown hK hP 0 rfl rfl 7 (by decide) fl_22 (fun _ h9 => h9) rfl dX3_ofThing_82 ?_
      refine lv_iload_n hx hb dX3_ofThing_85 rfl (lv_at hl 1 rfl) ?_
      refine va_iald hx hb hK hP 4 0 rfl rfl (noThing_in hn c_5) dX3_ofThing_86 ?_
      exact W.iret hx hb hr (fun t ht _ => ⟨_, rfl, (by (unfold m_X3_ofThing; rw [if_pos c_5]; rw [if_neg c_11_0]; rw [if_neg c_11_1]; rw [if_neg c_11_2]; rw [if_pos c_11_3]) <;> rfl), ht⟩) (fun _ h => nomatch h) dX3_ofThing_87
    by_cases c_11_4 : v2 = 4
    · refine lv_tableIn (tgt := 88) hx hb dX3_ofThing_11 (by (rw [c_11_4]) <;> decide) (by (rw [c_11_4]) <;> decide) (by (rw [c_11_4]) <;> rfl) (by decide) ?_
      refine lv_aload_n hx hb dX3_ofThing_88 rfl (lv_at hl 0 rfl) ?_
      refine lv_iload_n hx hb dX3_ofThing_89 rfl (lv_at hl 1 rfl) ?_
      refine tw_cs (va_runV (As := [.int v1]) (rest := []) ⟨hx, hb, hml, hown, hts⟩ (c_X3_mightOf l D cI cS q fa nc nt kd st ea ra rs rt nr tr v1 (noThing_in hn c_5)) (cwV 1 hts gX3_ofThing_X3_mightOf rfl rfl rfl (by decide +kernel) ⟨Nat.le_of_ble_eq_true rfl, Nat.le_of_ble_eq_true rfl⟩) ⟨tw_Rb, va_recv hK hP (ci := 3) (q0 := 0) rfl rfl, tw_Rp (hP.sub (ws' := [((q 0), .inr (3, [.int fa, .int (nI nc), .ref (q 1), .int (nI nt), .ref (q 2), .ref (q 3), .ref (q 4), .ref (q 5), .int ea, .int (nI ra), .int (nI rs), .int (nI rt), .ref (q 6), .ref (q 7), .ref (q 8), .ref (q 9), .ref (q 10), .ref (q 11), .int (nI nr), .ref (q 12), .ref (q 13), .ref (q 14), .ref (q 15), .ref (q 16), .ref (q 17), .int tr])), ((q 2), .inl (cI, 6, .inl kd)), ((q 5), .inl (cI, 6, .inl st))]) [0, 1, 4] rfl) hK⟩ rfl rfl hl.1 rfl (lv_room (Nat.le_of_ble_eq_true rfl)) dX3_ofThing_90 ⟨Nat.zero_le _, Nat.zero_le _⟩) ?_
      exact W.iret hx hb hr (fun t ht _ => ⟨_, rfl, (by (unfold m_X3_ofThing; rw [if_pos c_5]; rw [if_neg c_11_0]; rw [if_neg c_11_1]; rw [if_neg c_11_2]; rw [if_neg c_11_3]; rw [if_pos c_11_4]) <;> rfl), ht⟩) (fun _ h => nomatch h) dX3_ofThing_93
    · have tc_11_0 := lv_neT c_11_0 (a := 0) rfl
      have tc_11_1 := lv_neT c_11_1 (a := 1) rfl
      have tc_11_2 := lv_neT c_11_2 (a := 2) rfl
      have tc_11_3 := lv_neT c_11_3 (a := 3) rfl
      have tc_11_4 := lv_neT c_11_4 (a := 4) rfl
      refine lv_tableOut (tgt := 94) hx hb dX3_ofThing_11 (by omega) (by decide) ?_
      refine lv_bipush (v := (-2)) hx hb dX3_ofThing_94 (by decide) ?_
      exact W.iret hx hb hr (fun t ht _ => ⟨_, rfl, (by (unfold m_X3_ofThing; rw [if_pos c_5]; rw [if_neg c_11_0]; rw [if_neg c_11_1]; rw [if_neg c_11_2]; rw [if_neg c_11_3]; rw [if_neg c_11_4]) <;> rfl), ht⟩) (fun _ h => nomatch h) dX3_ofThing_96
  · refine lv_iconst (v := (-1)) hx hb dX3_ofThing_8 (by decide) ?_
    exact W.iret hx hb hr (fun t ht _ => ⟨_, rfl, (by (unfold m_X3_ofThing; rw [if_neg c_5]) <;> rfl), ht⟩) (fun _ h => nomatch h) dX3_ofThing_9

def m_X3_acres (nc : Nat) (ac : Nat → Int32) (v1 : Int32) : Int32 :=
  (if (m_X3_noSquare nc v1) = 0 then ac v1.toNatClampNeg else (-1 : Int32))
set_option maxHeartbeats 4000000 in
set_option maxRecDepth 100000 in
theorem c_X3_acres (l : Launch) (D : va_G) (cI cS : ClassId) (q : Nat → Nat) (fa : Int32) (nc : Nat) (ac : Nat → Int32) (nt : Nat) (ea : Int32) (ra : Nat) (rs : Nat) (rt : Nat) (nr : Nat) (tr : Int32) (v1 : Int32) (hc : nc ≤ 6) : Met l yX3_acres wsX3_acres ({ frames := 2, cells := 0, slots := 0, locals := 46 }) (tw_R D cI cS [.ref (q 0), .int v1] [((q 0), .inr (3, [.int fa, .int (nI nc), .ref (q 1), .int (nI nt), .ref (q 2), .ref (q 3), .ref (q 4), .ref (q 5), .int ea, .int (nI ra), .int (nI rs), .int (nI rt), .ref (q 6), .ref (q 7), .ref (q 8), .ref (q 9), .ref (q 10), .ref (q 11), .int (nI nr), .ref (q 12), .ref (q 13), .ref (q 14), .ref (q 15), .ref (q 16), .ref (q 17), .int tr])), ((q 1), .inl (cI, 6, .inl ac))]) (vp_Si (fun r => r = (m_X3_acres nc ac v1))) 0 0 (fun _ => False) := by
  refine Met.ofW (cc := cX3_acres) (maxL := 2) (ret := (some .int)) (by decide) rfl ?_
  intro p e s m args below meth c s₁ B hml hv
  obtain ⟨rfl, hP, hK⟩ := hv
  have hx := B.exec
  have hb := B.bytes
  have hr := B.returns
  have hts := atoms_spec (ws := wsX3_acres) B.pre
  have hown : s.vm.findClass RX3 = some m.cls := findClass_of_methodNamed B.named
  have hlocks := B.notSynchronized
  have fl_7 := hts (.fieldLink RX3 7 "TableWarModel" "acresOf" "[I") (by decide +kernel)
  have hin_X3 := (show ∀ w ∈ u_ws RX3 TX3 26, w ∈ wsX3_acres from by decide +kernel)
  have hl := lv_entry ([.ref (q 0), .int v1]) (n := 2) (Nat.le_of_ble_eq_true rfl)
  rw [lg_entry_eq]
  generalize (lg_sl ([.ref (q 0), .int v1]) ++ List.replicate (2 - (lg_sl ([.ref (q 0), .int v1])).length) Slot.unset).toArray = ls at hl ⊢
  have hl : lv_has ls 2 [(0, .ref (q 0)), (1, .int v1)] := hl
  refine lv_aload_n hx hb dX3_acres_0 rfl (lv_at hl 0 rfl) ?_
  refine lv_iload_n hx hb dX3_acres_1 rfl (lv_at hl 1 rfl) ?_
  refine tw_cs (va_runV (As := [.int v1]) (rest := []) ⟨hx, hb, hml, hown, hts⟩ (c_X3_noSquare l D cI cS q fa nc nt ea ra rs rt nr tr v1) (cwV 1 hts gX3_acres_X3_noSquare rfl rfl rfl (by decide +kernel) ⟨Nat.le_of_ble_eq_true rfl, Nat.le_of_ble_eq_true rfl⟩) ⟨tw_Rb, va_recv hK hP (ci := 3) (q0 := 0) rfl rfl, tw_Rp (hP.sub (ws' := [((q 0), .inr (3, [.int fa, .int (nI nc), .ref (q 1), .int (nI nt), .ref (q 2), .ref (q 3), .ref (q 4), .ref (q 5), .int ea, .int (nI ra), .int (nI rs), .int (nI rt), .ref (q 6), .ref (q 7), .ref (q 8), .ref (q 9), .ref (q 10), .ref (q 11), .int (nI nr), .ref (q 12), .ref (q 13), .ref (q 14), .ref (q 15), .ref (q 16), .ref (q 17), .int tr]))]) [0] rfl) hK⟩ rfl rfl hl.1 rfl (lv_room (Nat.le_of_ble_eq_true rfl)) dX3_acres_2 ⟨Nat.zero_le _, Nat.zero_le _⟩) ?_
  refine tw_join (fun (y : Int32) => F0 m 18 ls (.int y :: [])) (if (m_X3_noSquare nc v1) = 0 then ac v1.toNatClampNeg else (-1 : Int32)) ?_ (fun J18_0 => ?_)
  · intro y18 hy18
    exact W.iret hx hb hr (fun t ht _ => ⟨_, rfl, (by (unfold m_X3_acres; (try rw [← hy18])) <;> rfl), ht⟩) (fun _ h => nomatch h) dX3_acres_18
  · refine lv_if_eq (tgt := 12) hx hb dX3_acres_5 (by decide) (fun c_5 => ?_) (fun c_5 => ?_)
    · refine lv_aload_n hx hb dX3_acres_12 rfl (lv_at hl 0 rfl) ?_
      refine va_get (ci := 3) (v := .ref (q 1)) (C := RX3) (T := TX3) (N := 26) hx hb hts hin_X3 hown hK hP 0 rfl rfl 2 (by decide) fl_7 (fun _ h9 => h9) rfl dX3_acres_13 ?_
      refine lv_iload_n hx hb dX3_acres_16 rfl (lv_at hl 1 rfl) ?_
      refine va_iald hx hb hK hP 1 0 rfl rfl (noSquare_in hc c_5) dX3_acres_17 ?_
      exact J18_0 _ (by (rw [if_pos c_5]) <;> rfl)
    · refine lv_iconst (v := (-1)) hx hb dX3_acres_8 (by decide) ?_
      refine lv_goto (tgt := 18) hx hb dX3_acres_9 (by decide) ?_
      exact J18_0 _ (by (rw [if_neg c_5]) <;> rfl)

def m_X3_stain (nc : Nat) (ac : Nat → Int32) (v1 : Int32) (v2 : Int32) : Int32 × (Nat → Int32) :=
  if (m_X3_noSquare nc v1) = 0 then
    if (m_X3_in v2.toInt64 0 9) = 0 then
      ((-2), ac)
    else
      (ac v1.toNatClampNeg, upd ac v1.toNatClampNeg v2)
  else
    ((-1), ac)
set_option maxHeartbeats 4000000 in
set_option maxRecDepth 100000 in
theorem c_X3_stain (l : Launch) (D : va_G) (cI cS : ClassId) (q : Nat → Nat) (hz : Nat) (fa : Int32) (nc : Nat) (ac : Nat → Int32) (nt : Nat) (ea : Int32) (ra : Nat) (rs : Nat) (rt : Nat) (nr : Nat) (tr : Int32) (v1 : Int32) (v2 : Int32) (hc : nc ≤ 6) : Met l yX3_stain wsX3_stain ({ frames := 2, cells := 0, slots := 0, locals := 46 }) (tw_W D cI cS [.ref (q 0), .int v1, .int v2] hz [((q 0), .inr (3, [.int fa, .int (nI nc), .ref (q 1), .int (nI nt), .ref (q 2), .ref (q 3), .ref (q 4), .ref (q 5), .int ea, .int (nI ra), .int (nI rs), .int (nI rt), .ref (q 6), .ref (q 7), .ref (q 8), .ref (q 9), .ref (q 10), .ref (q 11), .int (nI nr), .ref (q 12), .ref (q 13), .ref (q 14), .ref (q 15), .ref (q 16), .ref (q 17), .int tr])), ((q 1), .inl (cI, 6, .inl ac))]) (va_Qi (fun r (_ : Unit) => r = (m_X3_stain nc ac v1 v2).1) (tw_B D cI cS (va_A [((q 0), .inr (3, [.int fa, .int (nI nc), .ref (q 1), .int (nI nt), .ref (q 2), .ref (q 3), .ref (q 4), .ref (q 5), .int ea, .int (nI ra), .int (nI rs), .int (nI rt), .ref (q 6), .ref (q 7), .ref (q 8), .ref (q 9), .ref (q 10), .ref (q 11), .int (nI nr), .ref (q 12), .ref (q 13), .ref (q 14), .ref (q 15), .ref (q 16), .ref (q 17), .int tr])), ((q 1), .inl (cI, 6, .inl ac))] hz) [((q 0), .inr (3, [.int fa, .int (nI nc), .ref (q 1), .int (nI nt), .ref (q 2), .ref (q 3), .ref (q 4), .ref (q 5), .int ea, .int (nI ra), .int (nI rs), .int (nI rt), .ref (q 6), .ref (q 7), .ref (q 8), .ref (q 9), .ref (q 10), .ref (q 11), .int (nI nr), .ref (q 12), .ref (q 13), .ref (q 14), .ref (q 15), .ref (q 16), .ref (q 17), .int tr])), ((q 1), .inl (cI, 6, .inl ((m_X3_stain nc ac v1 v2).2)))]) (va_A [((q 0), .inr (3, [.int fa, .int (nI nc), .ref (q 1), .int (nI nt), .ref (q 2), .ref (q 3), .ref (q 4), .ref (q 5), .int ea, .int (nI ra), .int (nI rs), .int (nI rt), .ref (q 6), .ref (q 7), .ref (q 8), .ref (q 9), .ref (q 10), .ref (q 11), .int (nI nr), .ref (q 12), .ref (q 13), .ref (q 14), .ref (q 15), .ref (q 16), .ref (q 17), .int tr])), ((q 1), .inl (cI, 6, .inl ac))] hz)) 0 0 (va_A [((q 0), .inr (3, [.int fa, .int (nI nc), .ref (q 1), .int (nI nt), .ref (q 2), .ref (q 3), .ref (q 4), .ref (q 5), .int ea, .int (nI ra), .int (nI rs), .int (nI rt), .ref (q 6), .ref (q 7), .ref (q 8), .ref (q 9), .ref (q 10), .ref (q 11), .int (nI nr), .ref (q 12), .ref (q 13), .ref (q 14), .ref (q 15), .ref (q 16), .ref (q 17), .int tr])), ((q 1), .inl (cI, 6, .inl ac))] hz) := by
  refine Met.ofW (cc := cX3_stain) (maxL := 4) (ret := (some .int)) (by decide) rfl ?_
  intro p e s m args below meth c s₁ B hml hv
  obtain ⟨rfl, hsz, hP, hK, hD0⟩ := hv
  have hx := B.exec
  have hb := B.bytes
  have hr := B.returns
  have hts := atoms_spec (ws := wsX3_stain) B.pre
  have hown : s.vm.findClass RX3 = some m.cls := findClass_of_methodNamed B.named
  have hlocks := B.notSynchronized
  subst hsz
  have hD := hD0.self (sz := s.heap.size)
  generalize hAe : va_A [((q 0), .inr (3, [.int fa, .int (nI nc), .ref (q 1), .int (nI nt), .ref (q 2), .ref (q 3), .ref (q 4), .ref (q 5), .int ea, .int (nI ra), .int (nI rs), .int (nI rt), .ref (q 6), .ref (q 7), .ref (q 8), .ref (q 9), .ref (q 10), .ref (q 11), .int (nI nr), .ref (q 12), .ref (q 13), .ref (q 14), .ref (q 15), .ref (q 16), .ref (q 17), .int tr])), ((q 1), .inl (cI, 6, .inl ac))] s.heap.size = A at hD ⊢
  have hA : ∀ q : Nat, s.heap.size ≤ q → A q := fun q h => by rw [← hAe]; exact Or.inr h
  have hS : va_S A s.heap s.heap [] := va_S.rf
  have kl_147 := hts (.constantLong RX3 147 (9)) (by decide +kernel)
  have fl_7 := hts (.fieldLink RX3 7 "TableWarModel" "acresOf" "[I") (by decide +kernel)
  have hin_X3 := (show ∀ w ∈ u_ws RX3 TX3 26, w ∈ wsX3_stain from by decide +kernel)
  have hl := lv_entry ([.ref (q 0), .int v1, .int v2]) (n := 4) (Nat.le_of_ble_eq_true rfl)
  rw [lg_entry_eq]
  generalize (lg_sl ([.ref (q 0), .int v1, .int v2]) ++ List.replicate (4 - (lg_sl ([.ref (q 0), .int v1, .int v2])).length) Slot.unset).toArray = ls at hl ⊢
  have hl : lv_has ls 4 [(0, .ref (q 0)), (1, .int v1), (2, .int v2)] := hl
  refine lv_aload_n hx hb dX3_stain_0 rfl (lv_at hl 0 rfl) ?_
  refine lv_iload_n hx hb dX3_stain_1 rfl (lv_at hl 1 rfl) ?_
  refine tw_cs (va_runV (As := [.int v1]) (rest := []) ⟨hx, hb, hml, hown, hts⟩ (c_X3_noSquare l D cI cS q fa nc nt ea ra rs rt nr tr v1) (cwV 1 hts gX3_stain_X3_noSquare rfl rfl rfl (by decide +kernel) ⟨Nat.le_of_ble_eq_true rfl, Nat.le_of_ble_eq_true rfl⟩) ⟨tw_Rb, va_recv hK hP (ci := 3) (q0 := 0) rfl rfl, tw_Rp (hP.sub (ws' := [((q 0), .inr (3, [.int fa, .int (nI nc), .ref (q 1), .int (nI nt), .ref (q 2), .ref (q 3), .ref (q 4), .ref (q 5), .int ea, .int (nI ra), .int (nI rs), .int (nI rt), .ref (q 6), .ref (q 7), .ref (q 8), .ref (q 9), .ref (q 10), .ref (q 11), .int (nI nr), .ref (q 12), .ref (q 13), .ref (q 14), .ref (q 15), .ref (q 16), .ref (q 17), .int tr]))]) [0] rfl) hK⟩ rfl rfl hl.1 rfl (lv_room (Nat.le_of_ble_eq_true rfl)) dX3_stain_2 ⟨Nat.zero_le _, Nat.zero_le _⟩) ?_
  refine lv_if_eq (tgt := 10) hx hb dX3_stain_5 (by decide) (fun c_5 => ?_) (fun c_5 => ?_)
  · refine lv_iload_n hx hb dX3_stain_10 rfl (lv_at hl 2 rfl) ?_
    refine lv_i2l (v := v2.toInt64) hx hb dX3_stain_11 rfl ?_
    refine lv_lconst (v := 0) hx hb dX3_stain_12 (by decide) ?_
    refine lv_ldc2 (v := 9) hx hb hown kl_147 dX3_stain_13 ?_
    refine tw_cs (va_runS (As := [.long v2.toInt64, .long 0, .long 9]) (rest := []) ⟨hx, hb, hml, hown, hts⟩ (c_X3_in l D cI cS v2.toInt64 0 9) (va_cwS 3 hts gX3_stain_X3_in rfl rfl rfl (by decide +kernel) ⟨Nat.le_of_ble_eq_true rfl, Nat.le_of_ble_eq_true rfl⟩) ⟨tw_Rb, tw_Rp (hP.sub (ws' := []) [] rfl) hK⟩ rfl rfl hl.1 rfl (lv_room (Nat.le_of_ble_eq_true rfl)) dX3_stain_16 ⟨Nat.zero_le _, Nat.zero_le _⟩) ?_
    refine lv_if_ne (tgt := 25) hx hb dX3_stain_19 (by decide) (fun c_19 => ?_) (fun c_19 => ?_)
    · refine lv_aload_n hx hb dX3_stain_25 rfl (lv_at hl 0 rfl) ?_
      refine va_get (ci := 3) (v := .ref (q 1)) (C := RX3) (T := TX3) (N := 26) hx hb hts hin_X3 hown hK hP 0 rfl rfl 2 (by decide) fl_7 (fun _ h9 => h9) rfl dX3_stain_26 ?_
      refine lv_iload_n hx hb dX3_stain_29 rfl (lv_at hl 1 rfl) ?_
      refine va_iald hx hb hK hP 1 0 rfl rfl (noSquare_in hc c_5) dX3_stain_30 ?_
      refine lv_istore_n (lv' := [(3, .int (ac v1.toNatClampNeg)), (0, .ref (q 0)), (1, .int v1), (2, .int v2)]) hx hb dX3_stain_31 rfl hl (by decide) rfl (fun ls hl => ?_)
      refine lv_aload_n hx hb dX3_stain_32 rfl (lv_at hl 1 rfl) ?_
      refine va_get (ci := 3) (v := .ref (q 1)) (C := RX3) (T := TX3) (N := 26) hx hb hts hin_X3 hown hK hP 0 rfl rfl 2 (by decide) fl_7 (fun _ h9 => h9) rfl dX3_stain_33 ?_
      refine lv_iload_n hx hb dX3_stain_36 rfl (lv_at hl 2 rfl) ?_
      refine lv_iload_n hx hb dX3_stain_37 rfl (lv_at hl 3 rfl) ?_
      refine va_iast hx hb hK hP hD hS 1 0 rfl rfl (noSquare_in hc c_5) dX3_stain_38 (fun H locs hP hD hS => ?_)
      have hP : va_P D vwCl [((q 0), .inr (3, [.int fa, .int (nI nc), .ref (q 1), .int (nI nt), .ref (q 2), .ref (q 3), .ref (q 4), .ref (q 5), .int ea, .int (nI ra), .int (nI rs), .int (nI rt), .ref (q 6), .ref (q 7), .ref (q 8), .ref (q 9), .ref (q 10), .ref (q 11), .int (nI nr), .ref (q 12), .ref (q 13), .ref (q 14), .ref (q 15), .ref (q 16), .ref (q 17), .int tr])), ((q 1), .inl (cI, 6, .inl (upd ac v1.toNatClampNeg v2)))] H := hP
      have hD : va_D A [((q 0), .inr (3, [.int fa, .int (nI nc), .ref (q 1), .int (nI nt), .ref (q 2), .ref (q 3), .ref (q 4), .ref (q 5), .int ea, .int (nI ra), .int (nI rs), .int (nI rt), .ref (q 6), .ref (q 7), .ref (q 8), .ref (q 9), .ref (q 10), .ref (q 11), .int (nI nr), .ref (q 12), .ref (q 13), .ref (q 14), .ref (q 15), .ref (q 16), .ref (q 17), .int tr])), ((q 1), .inl (cI, 6, .inl (upd ac v1.toNatClampNeg v2)))] := hD
      refine lv_iload_n hx hb dX3_stain_39 rfl (lv_at hl 0 rfl) ?_
      have hE : (m_X3_stain nc ac v1 v2) = (ac v1.toNatClampNeg, upd ac v1.toNatClampNeg v2) := Eq.symm (by (unfold m_X3_stain; rw [if_pos c_5]; rw [if_neg c_19]) <;> rfl)
      rw [hE]
      exact W.iret hx hb hr (fun t ht hW => ⟨⟨_, (), rfl, rfl, by rw [ht]; exact hP, va_K.moved hW.alike hK, hD⟩, hS.F ht⟩) hS.2.2 dX3_stain_40
    · refine lv_bipush (v := (-2)) hx hb dX3_stain_22 (by decide) ?_
      have hE : (m_X3_stain nc ac v1 v2) = ((-2), ac) := Eq.symm (by (unfold m_X3_stain; rw [if_pos c_5]; rw [if_pos c_19]) <;> rfl)
      rw [hE]
      exact W.iret hx hb hr (fun t ht hW => ⟨⟨_, (), rfl, rfl, by rw [ht]; exact hP, va_K.moved hW.alike hK, hD⟩, hS.F ht⟩) hS.2.2 dX3_stain_24
  · refine lv_iconst (v := (-1)) hx hb dX3_stain_8 (by decide) ?_
    have hE : (m_X3_stain nc ac v1 v2) = ((-1), ac) := Eq.symm (by (unfold m_X3_stain; rw [if_neg c_5]) <;> rfl)
    rw [hE]
    exact W.iret hx hb hr (fun t ht hW => ⟨⟨_, (), rfl, rfl, by rw [ht]; exact hP, va_K.moved hW.alike hK, hD⟩, hS.F ht⟩) hS.2.2 dX3_stain_9

def m_X3_arm (nt : Nat) (st : Nat → Int32) (v1 : Int32) (v2 : Int32) : Int32 × (Nat → Int32) :=
  if (m_X3_noThing nt v1) = 0 then
    if (m_X3_in v2.toInt64 0 9) = 0 then
      ((-2), st)
    else
      (st v1.toNatClampNeg, upd st v1.toNatClampNeg v2)
  else
    ((-1), st)
set_option maxHeartbeats 4000000 in
set_option maxRecDepth 100000 in
theorem c_X3_arm (l : Launch) (D : va_G) (cI cS : ClassId) (q : Nat → Nat) (hz : Nat) (fa : Int32) (nc : Nat) (nt : Nat) (st : Nat → Int32) (ea : Int32) (ra : Nat) (rs : Nat) (rt : Nat) (nr : Nat) (tr : Int32) (v1 : Int32) (v2 : Int32) (hn : nt ≤ 6) : Met l yX3_arm wsX3_arm ({ frames := 2, cells := 0, slots := 0, locals := 46 }) (tw_W D cI cS [.ref (q 0), .int v1, .int v2] hz [((q 0), .inr (3, [.int fa, .int (nI nc), .ref (q 1), .int (nI nt), .ref (q 2), .ref (q 3), .ref (q 4), .ref (q 5), .int ea, .int (nI ra), .int (nI rs), .int (nI rt), .ref (q 6), .ref (q 7), .ref (q 8), .ref (q 9), .ref (q 10), .ref (q 11), .int (nI nr), .ref (q 12), .ref (q 13), .ref (q 14), .ref (q 15), .ref (q 16), .ref (q 17), .int tr])), ((q 5), .inl (cI, 6, .inl st))]) (va_Qi (fun r (_ : Unit) => r = (m_X3_arm nt st v1 v2).1) (tw_B D cI cS (va_A [((q 0), .inr (3, [.int fa, .int (nI nc), .ref (q 1), .int (nI nt), .ref (q 2), .ref (q 3), .ref (q 4), .ref (q 5), .int ea, .int (nI ra), .int (nI rs), .int (nI rt), .ref (q 6), .ref (q 7), .ref (q 8), .ref (q 9), .ref (q 10), .ref (q 11), .int (nI nr), .ref (q 12), .ref (q 13), .ref (q 14), .ref (q 15), .ref (q 16), .ref (q 17), .int tr])), ((q 5), .inl (cI, 6, .inl st))] hz) [((q 0), .inr (3, [.int fa, .int (nI nc), .ref (q 1), .int (nI nt), .ref (q 2), .ref (q 3), .ref (q 4), .ref (q 5), .int ea, .int (nI ra), .int (nI rs), .int (nI rt), .ref (q 6), .ref (q 7), .ref (q 8), .ref (q 9), .ref (q 10), .ref (q 11), .int (nI nr), .ref (q 12), .ref (q 13), .ref (q 14), .ref (q 15), .ref (q 16), .ref (q 17), .int tr])), ((q 5), .inl (cI, 6, .inl ((m_X3_arm nt st v1 v2).2)))]) (va_A [((q 0), .inr (3, [.int fa, .int (nI nc), .ref (q 1), .int (nI nt), .ref (q 2), .ref (q 3), .ref (q 4), .ref (q 5), .int ea, .int (nI ra), .int (nI rs), .int (nI rt), .ref (q 6), .ref (q 7), .ref (q 8), .ref (q 9), .ref (q 10), .ref (q 11), .int (nI nr), .ref (q 12), .ref (q 13), .ref (q 14), .ref (q 15), .ref (q 16), .ref (q 17), .int tr])), ((q 5), .inl (cI, 6, .inl st))] hz)) 0 0 (va_A [((q 0), .inr (3, [.int fa, .int (nI nc), .ref (q 1), .int (nI nt), .ref (q 2), .ref (q 3), .ref (q 4), .ref (q 5), .int ea, .int (nI ra), .int (nI rs), .int (nI rt), .ref (q 6), .ref (q 7), .ref (q 8), .ref (q 9), .ref (q 10), .ref (q 11), .int (nI nr), .ref (q 12), .ref (q 13), .ref (q 14), .ref (q 15), .ref (q 16), .ref (q 17), .int tr])), ((q 5), .inl (cI, 6, .inl st))] hz) := by
  refine Met.ofW (cc := cX3_arm) (maxL := 4) (ret := (some .int)) (by decide) rfl ?_
  intro p e s m args below meth c s₁ B hml hv
  obtain ⟨rfl, hsz, hP, hK, hD0⟩ := hv
  have hx := B.exec
  have hb := B.bytes
  have hr := B.returns
  have hts := atoms_spec (ws := wsX3_arm) B.pre
  have hown : s.vm.findClass RX3 = some m.cls := findClass_of_methodNamed B.named
  have hlocks := B.notSynchronized
  subst hsz
  have hD := hD0.self (sz := s.heap.size)
  generalize hAe : va_A [((q 0), .inr (3, [.int fa, .int (nI nc), .ref (q 1), .int (nI nt), .ref (q 2), .ref (q 3), .ref (q 4), .ref (q 5), .int ea, .int (nI ra), .int (nI rs), .int (nI rt), .ref (q 6), .ref (q 7), .ref (q 8), .ref (q 9), .ref (q 10), .ref (q 11), .int (nI nr), .ref (q 12), .ref (q 13), .ref (q 14), .ref (q 15), .ref (q 16), .ref (q 17), .int tr])), ((q 5), .inl (cI, 6, .inl st))] s.heap.size = A at hD ⊢
  have hA : ∀ q : Nat, s.heap.size ≤ q → A q := fun q h => by rw [← hAe]; exact Or.inr h
  have hS : va_S A s.heap s.heap [] := va_S.rf
  have kl_147 := hts (.constantLong RX3 147 (9)) (by decide +kernel)
  have fl_22 := hts (.fieldLink RX3 22 "TableWarModel" "strengthOf" "[I") (by decide +kernel)
  have hin_X3 := (show ∀ w ∈ u_ws RX3 TX3 26, w ∈ wsX3_arm from by decide +kernel)
  have hl := lv_entry ([.ref (q 0), .int v1, .int v2]) (n := 4) (Nat.le_of_ble_eq_true rfl)
  rw [lg_entry_eq]
  generalize (lg_sl ([.ref (q 0), .int v1, .int v2]) ++ List.replicate (4 - (lg_sl ([.ref (q 0), .int v1, .int v2])).length) Slot.unset).toArray = ls at hl ⊢
  have hl : lv_has ls 4 [(0, .ref (q 0)), (1, .int v1), (2, .int v2)] := hl
  refine lv_aload_n hx hb dX3_arm_0 rfl (lv_at hl 0 rfl) ?_
  refine lv_iload_n hx hb dX3_arm_1 rfl (lv_at hl 1 rfl) ?_
  refine tw_cs (va_runV (As := [.int v1]) (rest := []) ⟨hx, hb, hml, hown, hts⟩ (c_X3_noThing l D cI cS q fa nc nt ea ra rs rt nr tr v1) (cwV 1 hts gX3_arm_X3_noThing rfl rfl rfl (by decide +kernel) ⟨Nat.le_of_ble_eq_true rfl, Nat.le_of_ble_eq_true rfl⟩) ⟨tw_Rb, va_recv hK hP (ci := 3) (q0 := 0) rfl rfl, tw_Rp (hP.sub (ws' := [((q 0), .inr (3, [.int fa, .int (nI nc), .ref (q 1), .int (nI nt), .ref (q 2), .ref (q 3), .ref (q 4), .ref (q 5), .int ea, .int (nI ra), .int (nI rs), .int (nI rt), .ref (q 6), .ref (q 7), .ref (q 8), .ref (q 9), .ref (q 10), .ref (q 11), .int (nI nr), .ref (q 12), .ref (q 13), .ref (q 14), .ref (q 15), .ref (q 16), .ref (q 17), .int tr]))]) [0] rfl) hK⟩ rfl rfl hl.1 rfl (lv_room (Nat.le_of_ble_eq_true rfl)) dX3_arm_2 ⟨Nat.zero_le _, Nat.zero_le _⟩) ?_
  refine lv_if_eq (tgt := 10) hx hb dX3_arm_5 (by decide) (fun c_5 => ?_) (fun c_5 => ?_)
  · refine lv_iload_n hx hb dX3_arm_10 rfl (lv_at hl 2 rfl) ?_
    refine lv_i2l (v := v2.toInt64) hx hb dX3_arm_11 rfl ?_
    refine lv_lconst (v := 0) hx hb dX3_arm_12 (by decide) ?_
    refine lv_ldc2 (v := 9) hx hb hown kl_147 dX3_arm_13 ?_
    refine tw_cs (va_runS (As := [.long v2.toInt64, .long 0, .long 9]) (rest := []) ⟨hx, hb, hml, hown, hts⟩ (c_X3_in l D cI cS v2.toInt64 0 9) (va_cwS 3 hts gX3_arm_X3_in rfl rfl rfl (by decide +kernel) ⟨Nat.le_of_ble_eq_true rfl, Nat.le_of_ble_eq_true rfl⟩) ⟨tw_Rb, tw_Rp (hP.sub (ws' := []) [] rfl) hK⟩ rfl rfl hl.1 rfl (lv_room (Nat.le_of_ble_eq_true rfl)) dX3_arm_16 ⟨Nat.zero_le _, Nat.zero_le _⟩) ?_
    refine lv_if_ne (tgt := 25) hx hb dX3_arm_19 (by decide) (fun c_19 => ?_) (fun c_19 => ?_)
    · refine lv_aload_n hx hb dX3_arm_25 rfl (lv_at hl 0 rfl) ?_
      refine va_get (ci := 3) (v := .ref (q 5)) (C := RX3) (T := TX3) (N := 26) hx hb hts hin_X3 hown hK hP 0 rfl rfl 7 (by decide) fl_22 (fun _ h9 => h9) rfl dX3_arm_26 ?_
      refine lv_iload_n hx hb dX3_arm_29 rfl (lv_at hl 1 rfl) ?_
      refine va_iald hx hb hK hP 1 0 rfl rfl (noThing_in hn c_5) dX3_arm_30 ?_
      refine lv_istore_n (lv' := [(3, .int (st v1.toNatClampNeg)), (0, .ref (q 0)), (1, .int v1), (2, .int v2)]) hx hb dX3_arm_31 rfl hl (by decide) rfl (fun ls hl => ?_)
      refine lv_aload_n hx hb dX3_arm_32 rfl (lv_at hl 1 rfl) ?_
      refine va_get (ci := 3) (v := .ref (q 5)) (C := RX3) (T := TX3) (N := 26) hx hb hts hin_X3 hown hK hP 0 rfl rfl 7 (by decide) fl_22 (fun _ h9 => h9) rfl dX3_arm_33 ?_
      refine lv_iload_n hx hb dX3_arm_36 rfl (lv_at hl 2 rfl) ?_
      refine lv_iload_n hx hb dX3_arm_37 rfl (lv_at hl 3 rfl) ?_
      refine va_iast hx hb hK hP hD hS 1 0 rfl rfl (noThing_in hn c_5) dX3_arm_38 (fun H locs hP hD hS => ?_)
      have hP : va_P D vwCl [((q 0), .inr (3, [.int fa, .int (nI nc), .ref (q 1), .int (nI nt), .ref (q 2), .ref (q 3), .ref (q 4), .ref (q 5), .int ea, .int (nI ra), .int (nI rs), .int (nI rt), .ref (q 6), .ref (q 7), .ref (q 8), .ref (q 9), .ref (q 10), .ref (q 11), .int (nI nr), .ref (q 12), .ref (q 13), .ref (q 14), .ref (q 15), .ref (q 16), .ref (q 17), .int tr])), ((q 5), .inl (cI, 6, .inl (upd st v1.toNatClampNeg v2)))] H := hP
      have hD : va_D A [((q 0), .inr (3, [.int fa, .int (nI nc), .ref (q 1), .int (nI nt), .ref (q 2), .ref (q 3), .ref (q 4), .ref (q 5), .int ea, .int (nI ra), .int (nI rs), .int (nI rt), .ref (q 6), .ref (q 7), .ref (q 8), .ref (q 9), .ref (q 10), .ref (q 11), .int (nI nr), .ref (q 12), .ref (q 13), .ref (q 14), .ref (q 15), .ref (q 16), .ref (q 17), .int tr])), ((q 5), .inl (cI, 6, .inl (upd st v1.toNatClampNeg v2)))] := hD
      refine lv_iload_n hx hb dX3_arm_39 rfl (lv_at hl 0 rfl) ?_
      have hE : (m_X3_arm nt st v1 v2) = (st v1.toNatClampNeg, upd st v1.toNatClampNeg v2) := Eq.symm (by (unfold m_X3_arm; rw [if_pos c_5]; rw [if_neg c_19]) <;> rfl)
      rw [hE]
      exact W.iret hx hb hr (fun t ht hW => ⟨⟨_, (), rfl, rfl, by rw [ht]; exact hP, va_K.moved hW.alike hK, hD⟩, hS.F ht⟩) hS.2.2 dX3_arm_40
    · refine lv_bipush (v := (-2)) hx hb dX3_arm_22 (by decide) ?_
      have hE : (m_X3_arm nt st v1 v2) = ((-2), st) := Eq.symm (by (unfold m_X3_arm; rw [if_pos c_5]; rw [if_pos c_19]) <;> rfl)
      rw [hE]
      exact W.iret hx hb hr (fun t ht hW => ⟨⟨_, (), rfl, rfl, by rw [ht]; exact hP, va_K.moved hW.alike hK, hD⟩, hS.F ht⟩) hS.2.2 dX3_arm_24
  · refine lv_iconst (v := (-1)) hx hb dX3_arm_8 (by decide) ?_
    have hE : (m_X3_arm nt st v1 v2) = ((-1), st) := Eq.symm (by (unfold m_X3_arm; rw [if_neg c_5]) <;> rfl)
    rw [hE]
    exact W.iret hx hb hr (fun t ht hW => ⟨⟨_, (), rfl, rfl, by rw [ht]; exact hP, va_K.moved hW.alike hK, hD⟩, hS.F ht⟩) hS.2.2 dX3_arm_9

def m_X3_mightIn_L5 (kd : Nat → Int32) (ho : Nat → Int32) (pl : Nat → Int32) (st : Nat → Int32) (ea : Int32) (v1 : Int32) (v2 : Int32) : Nat → Nat → Int32 → Int32
  | 0, i5, u3_5 =>
    u3_5
  | k5 + 1, i5, u3_5 =>
    m_X3_mightIn_L5 kd ho pl st ea v1 v2 k5 (i5 + 1) (u3_5 + (if (ho i5) = v1 then (if (pl i5) = v2 then (m_X3_mightOf kd st ea (nI i5)) else (0 : Int32)) else (0 : Int32)))
theorem m_X3_mightIn_L5_0 (kd : Nat → Int32) (ho : Nat → Int32) (pl : Nat → Int32) (st : Nat → Int32) (ea : Int32) (v1 : Int32) (v2 : Int32) (i5 : Nat) (u3_5 : Int32) : m_X3_mightIn_L5 kd ho pl st ea v1 v2 0 i5 u3_5 = 
    u3_5 := rfl
theorem m_X3_mightIn_L5_s (kd : Nat → Int32) (ho : Nat → Int32) (pl : Nat → Int32) (st : Nat → Int32) (ea : Int32) (v1 : Int32) (v2 : Int32) (i5 : Nat) (u3_5 : Int32) (k5 : Nat) : m_X3_mightIn_L5 kd ho pl st ea v1 v2 (k5 + 1) i5 u3_5 = 
    m_X3_mightIn_L5 kd ho pl st ea v1 v2 k5 (i5 + 1) (u3_5 + (if (ho i5) = v1 then (if (pl i5) = v2 then (m_X3_mightOf kd st ea (nI i5)) else (0 : Int32)) else (0 : Int32))) := rfl
def m_X3_mightIn (nt : Nat) (kd : Nat → Int32) (ho : Nat → Int32) (pl : Nat → Int32) (st : Nat → Int32) (ea : Int32) (v1 : Int32) (v2 : Int32) : Int32 :=
  (m_X3_mightIn_L5 kd ho pl st ea v1 v2 nt 0 0)
set_option maxHeartbeats 4000000 in
set_option maxRecDepth 100000 in
theorem c_X3_mightIn (l : Launch) (D : va_G) (cI cS : ClassId) (q : Nat → Nat) (fa : Int32) (nc : Nat) (nt : Nat) (kd : Nat → Int32) (ho : Nat → Int32) (pl : Nat → Int32) (st : Nat → Int32) (ea : Int32) (ra : Nat) (rs : Nat) (rt : Nat) (nr : Nat) (tr : Int32) (v1 : Int32) (v2 : Int32) (hn : nt ≤ 6) : Met l yX3_mightIn wsX3_mightIn ({ frames := 2, cells := 0, slots := 0, locals := 44 }) (tw_R D cI cS [.ref (q 0), .int v1, .int v2] [((q 0), .inr (3, [.int fa, .int (nI nc), .ref (q 1), .int (nI nt), .ref (q 2), .ref (q 3), .ref (q 4), .ref (q 5), .int ea, .int (nI ra), .int (nI rs), .int (nI rt), .ref (q 6), .ref (q 7), .ref (q 8), .ref (q 9), .ref (q 10), .ref (q 11), .int (nI nr), .ref (q 12), .ref (q 13), .ref (q 14), .ref (q 15), .ref (q 16), .ref (q 17), .int tr])), ((q 2), .inl (cI, 6, .inl kd)), ((q 3), .inl (cI, 6, .inl ho)), ((q 4), .inl (cI, 6, .inl pl)), ((q 5), .inl (cI, 6, .inl st))]) (vp_Si (fun r => r = (m_X3_mightIn nt kd ho pl st ea v1 v2))) 0 0 (fun _ => False) := by
  refine Met.ofW (cc := cX3_mightIn) (maxL := 5) (ret := (some .int)) (by decide) rfl ?_
  intro p e s m args below meth c s₁ B hml hv
  obtain ⟨rfl, hP, hK⟩ := hv
  have hx := B.exec
  have hb := B.bytes
  have hr := B.returns
  have hts := atoms_spec (ws := wsX3_mightIn) B.pre
  have hown : s.vm.findClass RX3 = some m.cls := findClass_of_methodNamed B.named
  have hlocks := B.notSynchronized
  have fl_78 := hts (.fieldLink RX3 78 "TableWarModel" "things" "I") (by decide +kernel)
  have hin_X3 := (show ∀ w ∈ u_ws RX3 TX3 26, w ∈ wsX3_mightIn from by decide +kernel)
  have fl_16 := hts (.fieldLink RX3 16 "TableWarModel" "houseOf" "[I") (by decide +kernel)
  have fl_19 := hts (.fieldLink RX3 19 "TableWarModel" "spotOf" "[I") (by decide +kernel)
  have hl := lv_entry ([.ref (q 0), .int v1, .int v2]) (n := 5) (Nat.le_of_ble_eq_true rfl)
  rw [lg_entry_eq]
  generalize (lg_sl ([.ref (q 0), .int v1, .int v2]) ++ List.replicate (5 - (lg_sl ([.ref (q 0), .int v1, .int v2])).length) Slot.unset).toArray = ls at hl ⊢
  have hl : lv_has ls 5 [(0, .ref (q 0)), (1, .int v1), (2, .int v2)] := hl
  refine lv_iconst (v := 0) hx hb dX3_mightIn_0 (by decide) ?_
  refine lv_istore_n (lv' := [(3, .int 0), (0, .ref (q 0)), (1, .int v1), (2, .int v2)]) hx hb dX3_mightIn_1 rfl hl (by decide) rfl (fun ls hl => ?_)
  refine lv_iconst (v := 0) hx hb dX3_mightIn_2 (by decide) ?_
  refine lv_istore (lv' := [(4, .int 0), (3, .int 0), (0, .ref (q 0)), (1, .int v1), (2, .int v2)]) hx hb dX3_mightIn_3 hl (by decide) rfl (fun ls hl => ?_)
  refine tw_loopR (σ := Int32) (fun k i z ls => i + k = nt ∧ m_X3_mightIn_L5 kd ho pl st ea v1 v2 k i z = m_X3_mightIn_L5 kd ho pl st ea v1 v2 nt 0 0 ∧ lv_has ls 5 [(4, .int (nI i)), (3, .int z), (0, .ref (q 0)), (1, .int v1), (2, .int v2)]) nt 0 0 ⟨Nat.zero_add _, rfl, lv_sub hl [0, 1, 2, 3, 4] rfl⟩ ?_ ?_
  · intro i5 u3_5 ls hI
    obtain ⟨hk5, hm5, hl⟩ := hI
    have hm5 : m_X3_mightIn_L5 kd ho pl st ea v1 v2 0 i5 u3_5 = m_X3_mightIn_L5 kd ho pl st ea v1 v2 nt 0 0 := hm5
    have hl : lv_has ls 5 [(4, .int (nI i5)), (3, .int u3_5), (0, .ref (q 0)), (1, .int v1), (2, .int v2)] := hl
    have hm5 : u3_5 = m_X3_mightIn_L5 kd ho pl st ea v1 v2 nt 0 0 := hm5
    refine lv_iload hx hb dX3_mightIn_5 (lv_at hl 0 rfl) ?_
    refine lv_aload_n hx hb dX3_mightIn_7 rfl (lv_at hl 2 rfl) ?_
    refine va_get (ci := 3) (v := .int (nI nt)) (C := RX3) (T := TX3) (N := 26) hx hb hts hin_X3 hown hK hP 0 rfl rfl 3 (by decide) fl_78 (fun _ h9 => h9) rfl dX3_mightIn_8 ?_
    refine lv_icmp_ge (tgt := 55) hx hb dX3_mightIn_11 (by decide) (fun c_11 => ?_) (fun c_11 => absurd (tw_tge rfl (show nt ≤ i5 by omega) (show i5 < 2 ^ 31 by omega)) c_11)
    refine lv_iload_n hx hb dX3_mightIn_55 rfl (lv_at hl 1 rfl) ?_
    exact W.iret hx hb hr (fun t ht _ => ⟨_, rfl, (by (unfold m_X3_mightIn; rw [← hm5]) <;> rfl), ht⟩) (fun _ h => nomatch h) dX3_mightIn_56
  · intro k5 i5 u3_5 ls ih5 hI
    obtain ⟨hk5, hm5, hl⟩ := hI
    have hm5 : m_X3_mightIn_L5 kd ho pl st ea v1 v2 (k5 + 1) i5 u3_5 = m_X3_mightIn_L5 kd ho pl st ea v1 v2 nt 0 0 := hm5
    have hl : lv_has ls 5 [(4, .int (nI i5)), (3, .int u3_5), (0, .ref (q 0)), (1, .int v1), (2, .int v2)] := hl
    refine lv_iload hx hb dX3_mightIn_5 (lv_at hl 0 rfl) ?_
    refine lv_aload_n hx hb dX3_mightIn_7 rfl (lv_at hl 2 rfl) ?_
    refine va_get (ci := 3) (v := .int (nI nt)) (C := RX3) (T := TX3) (N := 26) hx hb hts hin_X3 hown hK hP 0 rfl rfl 3 (by decide) fl_78 (fun _ h9 => h9) rfl dX3_mightIn_8 ?_
    refine lv_icmp_ge (tgt := 55) hx hb dX3_mightIn_11 (by decide) (fun c_11 => absurd c_11 (tw_tlt rfl (show i5 < nt by omega) (show nt < 2 ^ 31 by omega))) (fun c_11 => ?_)
    refine lv_iload_n hx hb dX3_mightIn_14 rfl (lv_at hl 1 rfl) ?_
    refine lv_aload_n hx hb dX3_mightIn_15 rfl (lv_at hl 2 rfl) ?_
    refine va_get (ci := 3) (v := .ref (q 3)) (C := RX3) (T := TX3) (N := 26) hx hb hts hin_X3 hown hK hP 0 rfl rfl 5 (by decide) fl_16 (fun _ h9 => h9) rfl dX3_mightIn_16 ?_
    refine lv_iload hx hb dX3_mightIn_19 (lv_at hl 0 rfl) ?_
    refine va_iald hx hb hK hP 2 0 rfl rfl (vp_in_nI (show i5 < 6 by omega) (by decide)) dX3_mightIn_21 ?_
    refine tw_top (show _ = ho i5 from by rw [nI_clamp (by omega)]) ?_
    refine lv_iload_n hx hb dX3_mightIn_22 rfl (lv_at hl 3 rfl) ?_
    refine tw_join (fun (y : Int32) => F0 m 47 ls (.int y :: .int u3_5 :: [])) (if (ho i5) = v1 then (if (pl i5) = v2 then (m_X3_mightOf kd st ea (nI i5)) else (0 : Int32)) else (0 : Int32)) ?_ (fun J47_0 => ?_)
    · intro y47 hy47
      refine lv_iadd hx hb dX3_mightIn_47 ?_
      refine lv_istore_n (lv' := [(3, .int (u3_5 + y47)), (4, .int (nI i5)), (0, .ref (q 0)), (1, .int v1), (2, .int v2)]) hx hb dX3_mightIn_48 rfl hl (by decide) rfl (fun ls hl => ?_)
      refine lv_iinc (v := nI (i5 + 1)) (lv' := [(4, .int (nI (i5 + 1))), (3, .int (u3_5 + y47)), (0, .ref (q 0)), (1, .int v1), (2, .int v2)]) hx hb dX3_mightIn_49 hl (k := 1) rfl (nI_1 _) (by decide) rfl (fun ls hl => ?_)
      refine lv_goto (tgt := 5) hx hb dX3_mightIn_52 (by decide) ?_
      exact ih5 (u3_5 + y47) ls ⟨by omega, (by (rw [← hm5, m_X3_mightIn_L5_s]; (try rw [← hy47])) <;> rfl), lv_sub hl [0, 1, 2, 3, 4] rfl⟩
    · refine lv_icmp_ne (tgt := 46) hx hb dX3_mightIn_23 (by decide) (fun c_23 => ?_) (fun c_23 => ?_)
      · refine lv_iconst (v := 0) hx hb dX3_mightIn_46 (by decide) ?_
        exact J47_0 _ (by (rw [if_neg c_23]) <;> rfl)
      · refine lv_aload_n hx hb dX3_mightIn_26 rfl (lv_at hl 2 rfl) ?_
        refine va_get (ci := 3) (v := .ref (q 4)) (C := RX3) (T := TX3) (N := 26) hx hb hts hin_X3 hown hK hP 0 rfl rfl 6 (by decide) fl_19 (fun _ h9 => h9) rfl dX3_mightIn_27 ?_
        refine lv_iload hx hb dX3_mightIn_30 (lv_at hl 0 rfl) ?_
        refine va_iald hx hb hK hP 3 0 rfl rfl (vp_in_nI (show i5 < 6 by omega) (by decide)) dX3_mightIn_32 ?_
        refine tw_top (show _ = pl i5 from by rw [nI_clamp (by omega)]) ?_
        refine lv_iload_n hx hb dX3_mightIn_33 rfl (lv_at hl 4 rfl) ?_
        refine lv_icmp_ne (tgt := 46) hx hb dX3_mightIn_34 (by decide) (fun c_34 => ?_) (fun c_34 => ?_)
        · refine lv_iconst (v := 0) hx hb dX3_mightIn_46 (by decide) ?_
          exact J47_0 _ (by (rw [if_pos c_23]; rw [if_neg c_34]) <;> rfl)
        · refine lv_aload_n hx hb dX3_mightIn_37 rfl (lv_at hl 2 rfl) ?_
          refine lv_iload hx hb dX3_mightIn_38 (lv_at hl 0 rfl) ?_
          refine tw_cs (va_runV (As := [.int (nI i5)]) (rest := [.int u3_5]) ⟨hx, hb, hml, hown, hts⟩ (c_X3_mightOf l D cI cS q fa nc nt kd st ea ra rs rt nr tr (nI i5) (by first | assumption | omega | exact hz60 _ | exact vp_in_nI (by omega) (by decide))) (cwV 1 hts gX3_mightIn_X3_mightOf rfl rfl rfl (by decide +kernel) ⟨Nat.le_of_ble_eq_true rfl, Nat.le_of_ble_eq_true rfl⟩) ⟨tw_Rb, va_recv hK hP (ci := 3) (q0 := 0) rfl rfl, tw_Rp (hP.sub (ws' := [((q 0), .inr (3, [.int fa, .int (nI nc), .ref (q 1), .int (nI nt), .ref (q 2), .ref (q 3), .ref (q 4), .ref (q 5), .int ea, .int (nI ra), .int (nI rs), .int (nI rt), .ref (q 6), .ref (q 7), .ref (q 8), .ref (q 9), .ref (q 10), .ref (q 11), .int (nI nr), .ref (q 12), .ref (q 13), .ref (q 14), .ref (q 15), .ref (q 16), .ref (q 17), .int tr])), ((q 2), .inl (cI, 6, .inl kd)), ((q 5), .inl (cI, 6, .inl st))]) [0, 1, 4] rfl) hK⟩ rfl rfl hl.1 rfl (lv_room (Nat.le_of_ble_eq_true rfl)) dX3_mightIn_40 ⟨Nat.zero_le _, Nat.zero_le _⟩) ?_
          refine lv_goto (tgt := 47) hx hb dX3_mightIn_43 (by decide) ?_
          exact J47_0 _ (by (rw [if_pos c_23]; rw [if_pos c_34]) <;> rfl)

def m_X3_holder (nt : Nat) (kd : Nat → Int32) (ho : Nat → Int32) (pl : Nat → Int32) (st : Nat → Int32) (ea : Int32) (v1 : Int32) : Int32 :=
  (if (m_X3_mightIn nt kd ho pl st ea 0 v1) ≤ (m_X3_mightIn nt kd ho pl st ea 1 v1) then (if (m_X3_mightIn nt kd ho pl st ea 1 v1) ≤ (m_X3_mightIn nt kd ho pl st ea 0 v1) then (-9) else 1) else 0)
set_option maxHeartbeats 4000000 in
set_option maxRecDepth 100000 in
theorem c_X3_holder (l : Launch) (D : va_G) (cI cS : ClassId) (q : Nat → Nat) (fa : Int32) (nc : Nat) (nt : Nat) (kd : Nat → Int32) (ho : Nat → Int32) (pl : Nat → Int32) (st : Nat → Int32) (ea : Int32) (ra : Nat) (rs : Nat) (rt : Nat) (nr : Nat) (tr : Int32) (v1 : Int32) (hn : nt ≤ 6) : Met l yX3_holder wsX3_holder ({ frames := 3, cells := 0, slots := 0, locals := 68 }) (tw_R D cI cS [.ref (q 0), .int v1] [((q 0), .inr (3, [.int fa, .int (nI nc), .ref (q 1), .int (nI nt), .ref (q 2), .ref (q 3), .ref (q 4), .ref (q 5), .int ea, .int (nI ra), .int (nI rs), .int (nI rt), .ref (q 6), .ref (q 7), .ref (q 8), .ref (q 9), .ref (q 10), .ref (q 11), .int (nI nr), .ref (q 12), .ref (q 13), .ref (q 14), .ref (q 15), .ref (q 16), .ref (q 17), .int tr])), ((q 2), .inl (cI, 6, .inl kd)), ((q 3), .inl (cI, 6, .inl ho)), ((q 4), .inl (cI, 6, .inl pl)), ((q 5), .inl (cI, 6, .inl st))]) (vp_Si (fun r => r = (m_X3_holder nt kd ho pl st ea v1))) 0 0 (fun _ => False) := by
  refine Met.ofW (cc := cX3_holder) (maxL := 4) (ret := (some .int)) (by decide) rfl ?_
  intro p e s m args below meth c s₁ B hml hv
  obtain ⟨rfl, hP, hK⟩ := hv
  have hx := B.exec
  have hb := B.bytes
  have hr := B.returns
  have hts := atoms_spec (ws := wsX3_holder) B.pre
  have hown : s.vm.findClass RX3 = some m.cls := findClass_of_methodNamed B.named
  have hlocks := B.notSynchronized
  have hl := lv_entry ([.ref (q 0), .int v1]) (n := 4) (Nat.le_of_ble_eq_true rfl)
  rw [lg_entry_eq]
  generalize (lg_sl ([.ref (q 0), .int v1]) ++ List.replicate (4 - (lg_sl ([.ref (q 0), .int v1])).length) Slot.unset).toArray = ls at hl ⊢
  have hl : lv_has ls 4 [(0, .ref (q 0)), (1, .int v1)] := hl
  refine lv_aload_n hx hb dX3_holder_0 rfl (lv_at hl 0 rfl) ?_
  refine lv_iconst (v := 0) hx hb dX3_holder_1 (by decide) ?_
  refine lv_iload_n hx hb dX3_holder_2 rfl (lv_at hl 1 rfl) ?_
  refine tw_cs (va_runV (As := [.int 0, .int v1]) (rest := []) ⟨hx, hb, hml, hown, hts⟩ (c_X3_mightIn l D cI cS q fa nc nt kd ho pl st ea ra rs rt nr tr 0 v1 (by first | assumption | omega | exact hz60 _ | exact vp_in_nI (by omega) (by decide))) (cwV 2 hts gX3_holder_X3_mightIn rfl rfl rfl (by decide +kernel) ⟨Nat.le_of_ble_eq_true rfl, Nat.le_of_ble_eq_true rfl⟩) ⟨tw_Rb, va_recv hK hP (ci := 3) (q0 := 0) rfl rfl, tw_Rp (hP.sub (ws' := [((q 0), .inr (3, [.int fa, .int (nI nc), .ref (q 1), .int (nI nt), .ref (q 2), .ref (q 3), .ref (q 4), .ref (q 5), .int ea, .int (nI ra), .int (nI rs), .int (nI rt), .ref (q 6), .ref (q 7), .ref (q 8), .ref (q 9), .ref (q 10), .ref (q 11), .int (nI nr), .ref (q 12), .ref (q 13), .ref (q 14), .ref (q 15), .ref (q 16), .ref (q 17), .int tr])), ((q 2), .inl (cI, 6, .inl kd)), ((q 3), .inl (cI, 6, .inl ho)), ((q 4), .inl (cI, 6, .inl pl)), ((q 5), .inl (cI, 6, .inl st))]) [0, 1, 2, 3, 4] rfl) hK⟩ rfl rfl hl.1 rfl (lv_room (Nat.le_of_ble_eq_true rfl)) dX3_holder_3 ⟨Nat.zero_le _, Nat.zero_le _⟩) ?_
  refine lv_istore_n (lv' := [(2, .int (m_X3_mightIn nt kd ho pl st ea 0 v1)), (0, .ref (q 0)), (1, .int v1)]) hx hb dX3_holder_6 rfl hl (by decide) rfl (fun ls hl => ?_)
  refine lv_aload_n hx hb dX3_holder_7 rfl (lv_at hl 1 rfl) ?_
  refine lv_iconst (v := 1) hx hb dX3_holder_8 (by decide) ?_
  refine lv_iload_n hx hb dX3_holder_9 rfl (lv_at hl 2 rfl) ?_
  refine tw_cs (va_runV (As := [.int 1, .int v1]) (rest := []) ⟨hx, hb, hml, hown, hts⟩ (c_X3_mightIn l D cI cS q fa nc nt kd ho pl st ea ra rs rt nr tr 1 v1 (by first | assumption | omega | exact hz60 _ | exact vp_in_nI (by omega) (by decide))) (cwV 2 hts gX3_holder_X3_mightIn rfl rfl rfl (by decide +kernel) ⟨Nat.le_of_ble_eq_true rfl, Nat.le_of_ble_eq_true rfl⟩) ⟨tw_Rb, va_recv hK hP (ci := 3) (q0 := 0) rfl rfl, tw_Rp (hP.sub (ws' := [((q 0), .inr (3, [.int fa, .int (nI nc), .ref (q 1), .int (nI nt), .ref (q 2), .ref (q 3), .ref (q 4), .ref (q 5), .int ea, .int (nI ra), .int (nI rs), .int (nI rt), .ref (q 6), .ref (q 7), .ref (q 8), .ref (q 9), .ref (q 10), .ref (q 11), .int (nI nr), .ref (q 12), .ref (q 13), .ref (q 14), .ref (q 15), .ref (q 16), .ref (q 17), .int tr])), ((q 2), .inl (cI, 6, .inl kd)), ((q 3), .inl (cI, 6, .inl ho)), ((q 4), .inl (cI, 6, .inl pl)), ((q 5), .inl (cI, 6, .inl st))]) [0, 1, 2, 3, 4] rfl) hK⟩ rfl rfl hl.1 rfl (lv_room (Nat.le_of_ble_eq_true rfl)) dX3_holder_10 ⟨Nat.zero_le _, Nat.zero_le _⟩) ?_
  refine lv_istore_n (lv' := [(3, .int (m_X3_mightIn nt kd ho pl st ea 1 v1)), (2, .int (m_X3_mightIn nt kd ho pl st ea 0 v1)), (0, .ref (q 0)), (1, .int v1)]) hx hb dX3_holder_13 rfl hl (by decide) rfl (fun ls hl => ?_)
  refine lv_iload_n hx hb dX3_holder_14 rfl (lv_at hl 1 rfl) ?_
  refine lv_iload_n hx hb dX3_holder_15 rfl (lv_at hl 0 rfl) ?_
  refine tw_join (fun (y : Int32) => F0 m 34 ls (.int y :: [])) (if (m_X3_mightIn nt kd ho pl st ea 0 v1) ≤ (m_X3_mightIn nt kd ho pl st ea 1 v1) then (if (m_X3_mightIn nt kd ho pl st ea 1 v1) ≤ (m_X3_mightIn nt kd ho pl st ea 0 v1) then (-9) else 1) else 0) ?_ (fun J34_0 => ?_)
  · intro y34 hy34
    exact W.iret hx hb hr (fun t ht _ => ⟨_, rfl, (by (unfold m_X3_holder; (try rw [← hy34])) <;> rfl), ht⟩) (fun _ h => nomatch h) dX3_holder_34
  · refine lv_icmp_le (tgt := 23) hx hb dX3_holder_16 (by decide) (fun c_16 => ?_) (fun c_16 => ?_)
    · refine lv_iload_n hx hb dX3_holder_23 rfl (lv_at hl 0 rfl) ?_
      refine lv_iload_n hx hb dX3_holder_24 rfl (lv_at hl 1 rfl) ?_
      refine lv_icmp_le (tgt := 32) hx hb dX3_holder_25 (by decide) (fun c_25 => ?_) (fun c_25 => ?_)
      · refine lv_bipush (v := (-9)) hx hb dX3_holder_32 (by decide) ?_
        exact J34_0 _ (by (rw [if_pos c_16]; rw [if_pos c_25]) <;> rfl)
      · refine lv_iconst (v := 1) hx hb dX3_holder_28 (by decide) ?_
        refine lv_goto (tgt := 34) hx hb dX3_holder_29 (by decide) ?_
        exact J34_0 _ (by (rw [if_pos c_16]; rw [if_neg c_25]) <;> rfl)
    · refine lv_iconst (v := 0) hx hb dX3_holder_19 (by decide) ?_
      refine lv_goto (tgt := 34) hx hb dX3_holder_20 (by decide) ?_
      exact J34_0 _ (by (rw [if_neg c_16]) <;> rfl)

def m_X3_landOf_L4 (ac : Nat → Int32) (nt : Nat) (kd : Nat → Int32) (ho : Nat → Int32) (pl : Nat → Int32) (st : Nat → Int32) (ea : Int32) (v1 : Int32) : Nat → Nat → Int32 → Int32
  | 0, i4, u2_4 =>
    u2_4
  | k4 + 1, i4, u2_4 =>
    m_X3_landOf_L4 ac nt kd ho pl st ea v1 k4 (i4 + 1) (u2_4 + (if (m_X3_holder nt kd ho pl st ea (nI i4)) = v1 then ac i4 else (0 : Int32)))
theorem m_X3_landOf_L4_0 (ac : Nat → Int32) (nt : Nat) (kd : Nat → Int32) (ho : Nat → Int32) (pl : Nat → Int32) (st : Nat → Int32) (ea : Int32) (v1 : Int32) (i4 : Nat) (u2_4 : Int32) : m_X3_landOf_L4 ac nt kd ho pl st ea v1 0 i4 u2_4 = 
    u2_4 := rfl
theorem m_X3_landOf_L4_s (ac : Nat → Int32) (nt : Nat) (kd : Nat → Int32) (ho : Nat → Int32) (pl : Nat → Int32) (st : Nat → Int32) (ea : Int32) (v1 : Int32) (i4 : Nat) (u2_4 : Int32) (k4 : Nat) : m_X3_landOf_L4 ac nt kd ho pl st ea v1 (k4 + 1) i4 u2_4 = 
    m_X3_landOf_L4 ac nt kd ho pl st ea v1 k4 (i4 + 1) (u2_4 + (if (m_X3_holder nt kd ho pl st ea (nI i4)) = v1 then ac i4 else (0 : Int32))) := rfl
def m_X3_landOf (nc : Nat) (ac : Nat → Int32) (nt : Nat) (kd : Nat → Int32) (ho : Nat → Int32) (pl : Nat → Int32) (st : Nat → Int32) (ea : Int32) (v1 : Int32) : Int32 :=
  (m_X3_landOf_L4 ac nt kd ho pl st ea v1 nc 0 0)
set_option maxHeartbeats 4000000 in
set_option maxRecDepth 100000 in
theorem c_X3_landOf (l : Launch) (D : va_G) (cI cS : ClassId) (q : Nat → Nat) (fa : Int32) (nc : Nat) (ac : Nat → Int32) (nt : Nat) (kd : Nat → Int32) (ho : Nat → Int32) (pl : Nat → Int32) (st : Nat → Int32) (ea : Int32) (ra : Nat) (rs : Nat) (rt : Nat) (nr : Nat) (tr : Int32) (v1 : Int32) (hn : nt ≤ 6) (hc : nc ≤ 6) : Met l yX3_landOf wsX3_landOf ({ frames := 4, cells := 0, slots := 0, locals := 91 }) (tw_R D cI cS [.ref (q 0), .int v1] [((q 0), .inr (3, [.int fa, .int (nI nc), .ref (q 1), .int (nI nt), .ref (q 2), .ref (q 3), .ref (q 4), .ref (q 5), .int ea, .int (nI ra), .int (nI rs), .int (nI rt), .ref (q 6), .ref (q 7), .ref (q 8), .ref (q 9), .ref (q 10), .ref (q 11), .int (nI nr), .ref (q 12), .ref (q 13), .ref (q 14), .ref (q 15), .ref (q 16), .ref (q 17), .int tr])), ((q 1), .inl (cI, 6, .inl ac)), ((q 2), .inl (cI, 6, .inl kd)), ((q 3), .inl (cI, 6, .inl ho)), ((q 4), .inl (cI, 6, .inl pl)), ((q 5), .inl (cI, 6, .inl st))]) (vp_Si (fun r => r = (m_X3_landOf nc ac nt kd ho pl st ea v1))) 0 0 (fun _ => False) := by
  refine Met.ofW (cc := cX3_landOf) (maxL := 4) (ret := (some .int)) (by decide) rfl ?_
  intro p e s m args below meth c s₁ B hml hv
  obtain ⟨rfl, hP, hK⟩ := hv
  have hx := B.exec
  have hb := B.bytes
  have hr := B.returns
  have hts := atoms_spec (ws := wsX3_landOf) B.pre
  have hown : s.vm.findClass RX3 = some m.cls := findClass_of_methodNamed B.named
  have hlocks := B.notSynchronized
  have fl_75 := hts (.fieldLink RX3 75 "TableWarModel" "squares" "I") (by decide +kernel)
  have hin_X3 := (show ∀ w ∈ u_ws RX3 TX3 26, w ∈ wsX3_landOf from by decide +kernel)
  have fl_7 := hts (.fieldLink RX3 7 "TableWarModel" "acresOf" "[I") (by decide +kernel)
  have hl := lv_entry ([.ref (q 0), .int v1]) (n := 4) (Nat.le_of_ble_eq_true rfl)
  rw [lg_entry_eq]
  generalize (lg_sl ([.ref (q 0), .int v1]) ++ List.replicate (4 - (lg_sl ([.ref (q 0), .int v1])).length) Slot.unset).toArray = ls at hl ⊢
  have hl : lv_has ls 4 [(0, .ref (q 0)), (1, .int v1)] := hl
  refine lv_iconst (v := 0) hx hb dX3_landOf_0 (by decide) ?_
  refine lv_istore_n (lv' := [(2, .int 0), (0, .ref (q 0)), (1, .int v1)]) hx hb dX3_landOf_1 rfl hl (by decide) rfl (fun ls hl => ?_)
  refine lv_iconst (v := 0) hx hb dX3_landOf_2 (by decide) ?_
  refine lv_istore_n (lv' := [(3, .int 0), (2, .int 0), (0, .ref (q 0)), (1, .int v1)]) hx hb dX3_landOf_3 rfl hl (by decide) rfl (fun ls hl => ?_)
  refine tw_loopR (σ := Int32) (fun k i z ls => i + k = nc ∧ m_X3_landOf_L4 ac nt kd ho pl st ea v1 k i z = m_X3_landOf_L4 ac nt kd ho pl st ea v1 nc 0 0 ∧ lv_has ls 4 [(3, .int (nI i)), (2, .int z), (0, .ref (q 0)), (1, .int v1)]) nc 0 0 ⟨Nat.zero_add _, rfl, lv_sub hl [0, 1, 2, 3] rfl⟩ ?_ ?_
  · intro i4 u2_4 ls hI
    obtain ⟨hk4, hm4, hl⟩ := hI
    have hm4 : m_X3_landOf_L4 ac nt kd ho pl st ea v1 0 i4 u2_4 = m_X3_landOf_L4 ac nt kd ho pl st ea v1 nc 0 0 := hm4
    have hl : lv_has ls 4 [(3, .int (nI i4)), (2, .int u2_4), (0, .ref (q 0)), (1, .int v1)] := hl
    have hm4 : u2_4 = m_X3_landOf_L4 ac nt kd ho pl st ea v1 nc 0 0 := hm4
    refine lv_iload_n hx hb dX3_landOf_4 rfl (lv_at hl 0 rfl) ?_
    refine lv_aload_n hx hb dX3_landOf_5 rfl (lv_at hl 2 rfl) ?_
    refine va_get (ci := 3) (v := .int (nI nc)) (C := RX3) (T := TX3) (N := 26) hx hb hts hin_X3 hown hK hP 0 rfl rfl 1 (by decide) fl_75 (fun _ h9 => h9) rfl dX3_landOf_6 ?_
    refine lv_icmp_ge (tgt := 40) hx hb dX3_landOf_9 (by decide) (fun c_9 => ?_) (fun c_9 => absurd (tw_tge rfl (show nc ≤ i4 by omega) (show i4 < 2 ^ 31 by omega)) c_9)
    refine lv_iload_n hx hb dX3_landOf_40 rfl (lv_at hl 1 rfl) ?_
    exact W.iret hx hb hr (fun t ht _ => ⟨_, rfl, (by (unfold m_X3_landOf; rw [← hm4]) <;> rfl), ht⟩) (fun _ h => nomatch h) dX3_landOf_41
  · intro k4 i4 u2_4 ls ih4 hI
    obtain ⟨hk4, hm4, hl⟩ := hI
    have hm4 : m_X3_landOf_L4 ac nt kd ho pl st ea v1 (k4 + 1) i4 u2_4 = m_X3_landOf_L4 ac nt kd ho pl st ea v1 nc 0 0 := hm4
    have hl : lv_has ls 4 [(3, .int (nI i4)), (2, .int u2_4), (0, .ref (q 0)), (1, .int v1)] := hl
    refine lv_iload_n hx hb dX3_landOf_4 rfl (lv_at hl 0 rfl) ?_
    refine lv_aload_n hx hb dX3_landOf_5 rfl (lv_at hl 2 rfl) ?_
    refine va_get (ci := 3) (v := .int (nI nc)) (C := RX3) (T := TX3) (N := 26) hx hb hts hin_X3 hown hK hP 0 rfl rfl 1 (by decide) fl_75 (fun _ h9 => h9) rfl dX3_landOf_6 ?_
    refine lv_icmp_ge (tgt := 40) hx hb dX3_landOf_9 (by decide) (fun c_9 => absurd c_9 (tw_tlt rfl (show i4 < nc by omega) (show nc < 2 ^ 31 by omega))) (fun c_9 => ?_)
    refine lv_iload_n hx hb dX3_landOf_12 rfl (lv_at hl 1 rfl) ?_
    refine lv_aload_n hx hb dX3_landOf_13 rfl (lv_at hl 2 rfl) ?_
    refine lv_iload_n hx hb dX3_landOf_14 rfl (lv_at hl 0 rfl) ?_
    refine tw_cs (va_runV (As := [.int (nI i4)]) (rest := [.int u2_4]) ⟨hx, hb, hml, hown, hts⟩ (c_X3_holder l D cI cS q fa nc nt kd ho pl st ea ra rs rt nr tr (nI i4) (by first | assumption | omega | exact hz60 _ | exact vp_in_nI (by omega) (by decide))) (cwV 1 hts gX3_landOf_X3_holder rfl rfl rfl (by decide +kernel) ⟨Nat.le_of_ble_eq_true rfl, Nat.le_of_ble_eq_true rfl⟩) ⟨tw_Rb, va_recv hK hP (ci := 3) (q0 := 0) rfl rfl, tw_Rp (hP.sub (ws' := [((q 0), .inr (3, [.int fa, .int (nI nc), .ref (q 1), .int (nI nt), .ref (q 2), .ref (q 3), .ref (q 4), .ref (q 5), .int ea, .int (nI ra), .int (nI rs), .int (nI rt), .ref (q 6), .ref (q 7), .ref (q 8), .ref (q 9), .ref (q 10), .ref (q 11), .int (nI nr), .ref (q 12), .ref (q 13), .ref (q 14), .ref (q 15), .ref (q 16), .ref (q 17), .int tr])), ((q 2), .inl (cI, 6, .inl kd)), ((q 3), .inl (cI, 6, .inl ho)), ((q 4), .inl (cI, 6, .inl pl)), ((q 5), .inl (cI, 6, .inl st))]) [0, 2, 3, 4, 5] rfl) hK⟩ rfl rfl hl.1 rfl (lv_room (Nat.le_of_ble_eq_true rfl)) dX3_landOf_15 ⟨Nat.zero_le _, Nat.zero_le _⟩) ?_
    refine lv_iload_n hx hb dX3_landOf_18 rfl (lv_at hl 3 rfl) ?_
    refine tw_join (fun (y : Int32) => F0 m 32 ls (.int y :: .int u2_4 :: [])) (if (m_X3_holder nt kd ho pl st ea (nI i4)) = v1 then ac i4 else (0 : Int32)) ?_ (fun J32_0 => ?_)
    · intro y32 hy32
      refine lv_iadd hx hb dX3_landOf_32 ?_
      refine lv_istore_n (lv' := [(2, .int (u2_4 + y32)), (3, .int (nI i4)), (0, .ref (q 0)), (1, .int v1)]) hx hb dX3_landOf_33 rfl hl (by decide) rfl (fun ls hl => ?_)
      refine lv_iinc (v := nI (i4 + 1)) (lv' := [(3, .int (nI (i4 + 1))), (2, .int (u2_4 + y32)), (0, .ref (q 0)), (1, .int v1)]) hx hb dX3_landOf_34 hl (k := 1) rfl (nI_1 _) (by decide) rfl (fun ls hl => ?_)
      refine lv_goto (tgt := 4) hx hb dX3_landOf_37 (by decide) ?_
      exact ih4 (u2_4 + y32) ls ⟨by omega, (by (rw [← hm4, m_X3_landOf_L4_s]; (try rw [← hy32])) <;> rfl), lv_sub hl [0, 1, 2, 3] rfl⟩
    · refine lv_icmp_ne (tgt := 31) hx hb dX3_landOf_19 (by decide) (fun c_19 => ?_) (fun c_19 => ?_)
      · refine lv_iconst (v := 0) hx hb dX3_landOf_31 (by decide) ?_
        exact J32_0 _ (by (rw [if_neg c_19]) <;> rfl)
      · refine lv_aload_n hx hb dX3_landOf_22 rfl (lv_at hl 2 rfl) ?_
        refine va_get (ci := 3) (v := .ref (q 1)) (C := RX3) (T := TX3) (N := 26) hx hb hts hin_X3 hown hK hP 0 rfl rfl 2 (by decide) fl_7 (fun _ h9 => h9) rfl dX3_landOf_23 ?_
        refine lv_iload_n hx hb dX3_landOf_26 rfl (lv_at hl 0 rfl) ?_
        refine va_iald hx hb hK hP 1 0 rfl rfl (vp_in_nI (show i4 < 6 by omega) (by decide)) dX3_landOf_27 ?_
        refine tw_top (show _ = ac i4 from by rw [nI_clamp (by omega)]) ?_
        refine lv_goto (tgt := 32) hx hb dX3_landOf_28 (by decide) ?_
        exact J32_0 _ (by (rw [if_pos c_19]) <;> rfl)

def m_X3_might (nc : Nat) (nt : Nat) (kd : Nat → Int32) (ho : Nat → Int32) (pl : Nat → Int32) (st : Nat → Int32) (ea : Int32) (v1 : Int32) (v2 : Int32) : Int32 :=
  (if (m_X3_noHouse v1) = 0 then (if (m_X3_noSquare nc v2) = 0 then (m_X3_mightIn nt kd ho pl st ea v1 v2) else (-1 : Int32)) else (-1 : Int32))
set_option maxHeartbeats 4000000 in
set_option maxRecDepth 100000 in
theorem c_X3_might (l : Launch) (D : va_G) (cI cS : ClassId) (q : Nat → Nat) (fa : Int32) (nc : Nat) (nt : Nat) (kd : Nat → Int32) (ho : Nat → Int32) (pl : Nat → Int32) (st : Nat → Int32) (ea : Int32) (ra : Nat) (rs : Nat) (rt : Nat) (nr : Nat) (tr : Int32) (v1 : Int32) (v2 : Int32) (hn : nt ≤ 6) : Met l yX3_might wsX3_might ({ frames := 3, cells := 0, slots := 0, locals := 68 }) (tw_R D cI cS [.ref (q 0), .int v1, .int v2] [((q 0), .inr (3, [.int fa, .int (nI nc), .ref (q 1), .int (nI nt), .ref (q 2), .ref (q 3), .ref (q 4), .ref (q 5), .int ea, .int (nI ra), .int (nI rs), .int (nI rt), .ref (q 6), .ref (q 7), .ref (q 8), .ref (q 9), .ref (q 10), .ref (q 11), .int (nI nr), .ref (q 12), .ref (q 13), .ref (q 14), .ref (q 15), .ref (q 16), .ref (q 17), .int tr])), ((q 2), .inl (cI, 6, .inl kd)), ((q 3), .inl (cI, 6, .inl ho)), ((q 4), .inl (cI, 6, .inl pl)), ((q 5), .inl (cI, 6, .inl st))]) (vp_Si (fun r => r = (m_X3_might nc nt kd ho pl st ea v1 v2))) 0 0 (fun _ => False) := by
  refine Met.ofW (cc := cX3_might) (maxL := 3) (ret := (some .int)) (by decide) rfl ?_
  intro p e s m args below meth c s₁ B hml hv
  obtain ⟨rfl, hP, hK⟩ := hv
  have hx := B.exec
  have hb := B.bytes
  have hr := B.returns
  have hts := atoms_spec (ws := wsX3_might) B.pre
  have hown : s.vm.findClass RX3 = some m.cls := findClass_of_methodNamed B.named
  have hlocks := B.notSynchronized
  have hl := lv_entry ([.ref (q 0), .int v1, .int v2]) (n := 3) (Nat.le_of_ble_eq_true rfl)
  rw [lg_entry_eq]
  generalize (lg_sl ([.ref (q 0), .int v1, .int v2]) ++ List.replicate (3 - (lg_sl ([.ref (q 0), .int v1, .int v2])).length) Slot.unset).toArray = ls at hl ⊢
  have hl : lv_has ls 3 [(0, .ref (q 0)), (1, .int v1), (2, .int v2)] := hl
  refine lv_iload_n hx hb dX3_might_0 rfl (lv_at hl 1 rfl) ?_
  refine tw_cs (va_runS (As := [.int v1]) (rest := []) ⟨hx, hb, hml, hown, hts⟩ (c_X3_noHouse l D cI cS v1) (va_cwS 1 hts gX3_might_X3_noHouse rfl rfl rfl (by decide +kernel) ⟨Nat.le_of_ble_eq_true rfl, Nat.le_of_ble_eq_true rfl⟩) ⟨tw_Rb, tw_Rp (hP.sub (ws' := []) [] rfl) hK⟩ rfl rfl hl.1 rfl (lv_room (Nat.le_of_ble_eq_true rfl)) dX3_might_1 ⟨Nat.zero_le _, Nat.zero_le _⟩) ?_
  refine tw_join (fun (y : Int32) => F0 m 25 ls (.int y :: [])) (if (m_X3_noHouse v1) = 0 then (if (m_X3_noSquare nc v2) = 0 then (m_X3_mightIn nt kd ho pl st ea v1 v2) else (-1 : Int32)) else (-1 : Int32)) ?_ (fun J25_0 => ?_)
  · intro y25 hy25
    exact W.iret hx hb hr (fun t ht _ => ⟨_, rfl, (by (unfold m_X3_might; (try rw [← hy25])) <;> rfl), ht⟩) (fun _ h => nomatch h) dX3_might_25
  · refine lv_if_ne (tgt := 15) hx hb dX3_might_4 (by decide) (fun c_4 => ?_) (fun c_4 => ?_)
    · refine lv_iconst (v := (-1)) hx hb dX3_might_15 (by decide) ?_
      refine lv_goto (tgt := 25) hx hb dX3_might_16 (by decide) ?_
      exact J25_0 _ (by (rw [if_neg c_4]) <;> rfl)
    · refine lv_aload_n hx hb dX3_might_7 rfl (lv_at hl 0 rfl) ?_
      refine lv_iload_n hx hb dX3_might_8 rfl (lv_at hl 2 rfl) ?_
      refine tw_cs (va_runV (As := [.int v2]) (rest := []) ⟨hx, hb, hml, hown, hts⟩ (c_X3_noSquare l D cI cS q fa nc nt ea ra rs rt nr tr v2) (cwV 1 hts gX3_might_X3_noSquare rfl rfl rfl (by decide +kernel) ⟨Nat.le_of_ble_eq_true rfl, Nat.le_of_ble_eq_true rfl⟩) ⟨tw_Rb, va_recv hK hP (ci := 3) (q0 := 0) rfl rfl, tw_Rp (hP.sub (ws' := [((q 0), .inr (3, [.int fa, .int (nI nc), .ref (q 1), .int (nI nt), .ref (q 2), .ref (q 3), .ref (q 4), .ref (q 5), .int ea, .int (nI ra), .int (nI rs), .int (nI rt), .ref (q 6), .ref (q 7), .ref (q 8), .ref (q 9), .ref (q 10), .ref (q 11), .int (nI nr), .ref (q 12), .ref (q 13), .ref (q 14), .ref (q 15), .ref (q 16), .ref (q 17), .int tr]))]) [0] rfl) hK⟩ rfl rfl hl.1 rfl (lv_room (Nat.le_of_ble_eq_true rfl)) dX3_might_9 ⟨Nat.zero_le _, Nat.zero_le _⟩) ?_
      refine lv_if_eq (tgt := 19) hx hb dX3_might_12 (by decide) (fun c_12 => ?_) (fun c_12 => ?_)
      · refine lv_aload_n hx hb dX3_might_19 rfl (lv_at hl 0 rfl) ?_
        refine lv_iload_n hx hb dX3_might_20 rfl (lv_at hl 1 rfl) ?_
        refine lv_iload_n hx hb dX3_might_21 rfl (lv_at hl 2 rfl) ?_
        refine tw_cs (va_runV (As := [.int v1, .int v2]) (rest := []) ⟨hx, hb, hml, hown, hts⟩ (c_X3_mightIn l D cI cS q fa nc nt kd ho pl st ea ra rs rt nr tr v1 v2 (by first | assumption | omega | exact hz60 _ | exact vp_in_nI (by omega) (by decide))) (cwV 2 hts gX3_might_X3_mightIn rfl rfl rfl (by decide +kernel) ⟨Nat.le_of_ble_eq_true rfl, Nat.le_of_ble_eq_true rfl⟩) ⟨tw_Rb, va_recv hK hP (ci := 3) (q0 := 0) rfl rfl, tw_Rp (hP.sub (ws' := [((q 0), .inr (3, [.int fa, .int (nI nc), .ref (q 1), .int (nI nt), .ref (q 2), .ref (q 3), .ref (q 4), .ref (q 5), .int ea, .int (nI ra), .int (nI rs), .int (nI rt), .ref (q 6), .ref (q 7), .ref (q 8), .ref (q 9), .ref (q 10), .ref (q 11), .int (nI nr), .ref (q 12), .ref (q 13), .ref (q 14), .ref (q 15), .ref (q 16), .ref (q 17), .int tr])), ((q 2), .inl (cI, 6, .inl kd)), ((q 3), .inl (cI, 6, .inl ho)), ((q 4), .inl (cI, 6, .inl pl)), ((q 5), .inl (cI, 6, .inl st))]) [0, 1, 2, 3, 4] rfl) hK⟩ rfl rfl hl.1 rfl (lv_room (Nat.le_of_ble_eq_true rfl)) dX3_might_22 ⟨Nat.zero_le _, Nat.zero_le _⟩) ?_
        exact J25_0 _ (by (rw [if_pos c_4]; rw [if_pos c_12]) <;> rfl)
      · refine lv_iconst (v := (-1)) hx hb dX3_might_15 (by decide) ?_
        refine lv_goto (tgt := 25) hx hb dX3_might_16 (by decide) ?_
        exact J25_0 _ (by (rw [if_pos c_4]; rw [if_neg c_12]) <;> rfl)

def m_X3_holds (nc : Nat) (nt : Nat) (kd : Nat → Int32) (ho : Nat → Int32) (pl : Nat → Int32) (st : Nat → Int32) (ea : Int32) (v1 : Int32) : Int32 :=
  (if (m_X3_noSquare nc v1) = 0 then (m_X3_holder nt kd ho pl st ea v1) else (-1 : Int32))
set_option maxHeartbeats 4000000 in
set_option maxRecDepth 100000 in
theorem c_X3_holds (l : Launch) (D : va_G) (cI cS : ClassId) (q : Nat → Nat) (fa : Int32) (nc : Nat) (nt : Nat) (kd : Nat → Int32) (ho : Nat → Int32) (pl : Nat → Int32) (st : Nat → Int32) (ea : Int32) (ra : Nat) (rs : Nat) (rt : Nat) (nr : Nat) (tr : Int32) (v1 : Int32) (hn : nt ≤ 6) : Met l yX3_holds wsX3_holds ({ frames := 4, cells := 0, slots := 0, locals := 91 }) (tw_R D cI cS [.ref (q 0), .int v1] [((q 0), .inr (3, [.int fa, .int (nI nc), .ref (q 1), .int (nI nt), .ref (q 2), .ref (q 3), .ref (q 4), .ref (q 5), .int ea, .int (nI ra), .int (nI rs), .int (nI rt), .ref (q 6), .ref (q 7), .ref (q 8), .ref (q 9), .ref (q 10), .ref (q 11), .int (nI nr), .ref (q 12), .ref (q 13), .ref (q 14), .ref (q 15), .ref (q 16), .ref (q 17), .int tr])), ((q 2), .inl (cI, 6, .inl kd)), ((q 3), .inl (cI, 6, .inl ho)), ((q 4), .inl (cI, 6, .inl pl)), ((q 5), .inl (cI, 6, .inl st))]) (vp_Si (fun r => r = (m_X3_holds nc nt kd ho pl st ea v1))) 0 0 (fun _ => False) := by
  refine Met.ofW (cc := cX3_holds) (maxL := 2) (ret := (some .int)) (by decide) rfl ?_
  intro p e s m args below meth c s₁ B hml hv
  obtain ⟨rfl, hP, hK⟩ := hv
  have hx := B.exec
  have hb := B.bytes
  have hr := B.returns
  have hts := atoms_spec (ws := wsX3_holds) B.pre
  have hown : s.vm.findClass RX3 = some m.cls := findClass_of_methodNamed B.named
  have hlocks := B.notSynchronized
  have hl := lv_entry ([.ref (q 0), .int v1]) (n := 2) (Nat.le_of_ble_eq_true rfl)
  rw [lg_entry_eq]
  generalize (lg_sl ([.ref (q 0), .int v1]) ++ List.replicate (2 - (lg_sl ([.ref (q 0), .int v1])).length) Slot.unset).toArray = ls at hl ⊢
  have hl : lv_has ls 2 [(0, .ref (q 0)), (1, .int v1)] := hl
  refine lv_aload_n hx hb dX3_holds_0 rfl (lv_at hl 0 rfl) ?_
  refine lv_iload_n hx hb dX3_holds_1 rfl (lv_at hl 1 rfl) ?_
  refine tw_cs (va_runV (As := [.int v1]) (rest := []) ⟨hx, hb, hml, hown, hts⟩ (c_X3_noSquare l D cI cS q fa nc nt ea ra rs rt nr tr v1) (cwV 1 hts gX3_holds_X3_noSquare rfl rfl rfl (by decide +kernel) ⟨Nat.le_of_ble_eq_true rfl, Nat.le_of_ble_eq_true rfl⟩) ⟨tw_Rb, va_recv hK hP (ci := 3) (q0 := 0) rfl rfl, tw_Rp (hP.sub (ws' := [((q 0), .inr (3, [.int fa, .int (nI nc), .ref (q 1), .int (nI nt), .ref (q 2), .ref (q 3), .ref (q 4), .ref (q 5), .int ea, .int (nI ra), .int (nI rs), .int (nI rt), .ref (q 6), .ref (q 7), .ref (q 8), .ref (q 9), .ref (q 10), .ref (q 11), .int (nI nr), .ref (q 12), .ref (q 13), .ref (q 14), .ref (q 15), .ref (q 16), .ref (q 17), .int tr]))]) [0] rfl) hK⟩ rfl rfl hl.1 rfl (lv_room (Nat.le_of_ble_eq_true rfl)) dX3_holds_2 ⟨Nat.zero_le _, Nat.zero_le _⟩) ?_
  refine tw_join (fun (y : Int32) => F0 m 17 ls (.int y :: [])) (if (m_X3_noSquare nc v1) = 0 then (m_X3_holder nt kd ho pl st ea v1) else (-1 : Int32)) ?_ (fun J17_0 => ?_)
  · intro y17 hy17
    exact W.iret hx hb hr (fun t ht _ => ⟨_, rfl, (by (unfold m_X3_holds; (try rw [← hy17])) <;> rfl), ht⟩) (fun _ h => nomatch h) dX3_holds_17
  · refine lv_if_eq (tgt := 12) hx hb dX3_holds_5 (by decide) (fun c_5 => ?_) (fun c_5 => ?_)
    · refine lv_aload_n hx hb dX3_holds_12 rfl (lv_at hl 0 rfl) ?_
      refine lv_iload_n hx hb dX3_holds_13 rfl (lv_at hl 1 rfl) ?_
      refine tw_cs (va_runV (As := [.int v1]) (rest := []) ⟨hx, hb, hml, hown, hts⟩ (c_X3_holder l D cI cS q fa nc nt kd ho pl st ea ra rs rt nr tr v1 (by first | assumption | omega | exact hz60 _ | exact vp_in_nI (by omega) (by decide))) (cwV 1 hts gX3_holds_X3_holder rfl rfl rfl (by decide +kernel) ⟨Nat.le_of_ble_eq_true rfl, Nat.le_of_ble_eq_true rfl⟩) ⟨tw_Rb, va_recv hK hP (ci := 3) (q0 := 0) rfl rfl, tw_Rp (hP.sub (ws' := [((q 0), .inr (3, [.int fa, .int (nI nc), .ref (q 1), .int (nI nt), .ref (q 2), .ref (q 3), .ref (q 4), .ref (q 5), .int ea, .int (nI ra), .int (nI rs), .int (nI rt), .ref (q 6), .ref (q 7), .ref (q 8), .ref (q 9), .ref (q 10), .ref (q 11), .int (nI nr), .ref (q 12), .ref (q 13), .ref (q 14), .ref (q 15), .ref (q 16), .ref (q 17), .int tr])), ((q 2), .inl (cI, 6, .inl kd)), ((q 3), .inl (cI, 6, .inl ho)), ((q 4), .inl (cI, 6, .inl pl)), ((q 5), .inl (cI, 6, .inl st))]) [0, 1, 2, 3, 4] rfl) hK⟩ rfl rfl hl.1 rfl (lv_room (Nat.le_of_ble_eq_true rfl)) dX3_holds_14 ⟨Nat.zero_le _, Nat.zero_le _⟩) ?_
      exact J17_0 _ (by (rw [if_pos c_5]) <;> rfl)
    · refine lv_iconst (v := (-1)) hx hb dX3_holds_8 (by decide) ?_
      refine lv_goto (tgt := 17) hx hb dX3_holds_9 (by decide) ?_
      exact J17_0 _ (by (rw [if_neg c_5]) <;> rfl)

def m_X3_land (nc : Nat) (ac : Nat → Int32) (nt : Nat) (kd : Nat → Int32) (ho : Nat → Int32) (pl : Nat → Int32) (st : Nat → Int32) (ea : Int32) (v1 : Int32) : Int32 :=
  if (m_X3_noHouse v1) = 0 then
    (if (nI nt) = 0 then (-3 : Int32) else (m_X3_landOf nc ac nt kd ho pl st ea v1))
  else
    (-1)
set_option maxHeartbeats 4000000 in
set_option maxRecDepth 100000 in
theorem c_X3_land (l : Launch) (D : va_G) (cI cS : ClassId) (q : Nat → Nat) (fa : Int32) (nc : Nat) (ac : Nat → Int32) (nt : Nat) (kd : Nat → Int32) (ho : Nat → Int32) (pl : Nat → Int32) (st : Nat → Int32) (ea : Int32) (ra : Nat) (rs : Nat) (rt : Nat) (nr : Nat) (tr : Int32) (v1 : Int32) (hn : nt ≤ 6) (hc : nc ≤ 6) : Met l yX3_land wsX3_land ({ frames := 5, cells := 0, slots := 0, locals := 114 }) (tw_R D cI cS [.ref (q 0), .int v1] [((q 0), .inr (3, [.int fa, .int (nI nc), .ref (q 1), .int (nI nt), .ref (q 2), .ref (q 3), .ref (q 4), .ref (q 5), .int ea, .int (nI ra), .int (nI rs), .int (nI rt), .ref (q 6), .ref (q 7), .ref (q 8), .ref (q 9), .ref (q 10), .ref (q 11), .int (nI nr), .ref (q 12), .ref (q 13), .ref (q 14), .ref (q 15), .ref (q 16), .ref (q 17), .int tr])), ((q 1), .inl (cI, 6, .inl ac)), ((q 2), .inl (cI, 6, .inl kd)), ((q 3), .inl (cI, 6, .inl ho)), ((q 4), .inl (cI, 6, .inl pl)), ((q 5), .inl (cI, 6, .inl st))]) (vp_Si (fun r => r = (m_X3_land nc ac nt kd ho pl st ea v1))) 0 0 (fun _ => False) := by
  refine Met.ofW (cc := cX3_land) (maxL := 2) (ret := (some .int)) (by decide) rfl ?_
  intro p e s m args below meth c s₁ B hml hv
  obtain ⟨rfl, hP, hK⟩ := hv
  have hx := B.exec
  have hb := B.bytes
  have hr := B.returns
  have hts := atoms_spec (ws := wsX3_land) B.pre
  have hown : s.vm.findClass RX3 = some m.cls := findClass_of_methodNamed B.named
  have hlocks := B.notSynchronized
  have fl_78 := hts (.fieldLink RX3 78 "TableWarModel" "things" "I") (by decide +kernel)
  have hin_X3 := (show ∀ w ∈ u_ws RX3 TX3 26, w ∈ wsX3_land from by decide +kernel)
  have hl := lv_entry ([.ref (q 0), .int v1]) (n := 2) (Nat.le_of_ble_eq_true rfl)
  rw [lg_entry_eq]
  generalize (lg_sl ([.ref (q 0), .int v1]) ++ List.replicate (2 - (lg_sl ([.ref (q 0), .int v1])).length) Slot.unset).toArray = ls at hl ⊢
  have hl : lv_has ls 2 [(0, .ref (q 0)), (1, .int v1)] := hl
  refine lv_iload_n hx hb dX3_land_0 rfl (lv_at hl 1 rfl) ?_
  refine tw_cs (va_runS (As := [.int v1]) (rest := []) ⟨hx, hb, hml, hown, hts⟩ (c_X3_noHouse l D cI cS v1) (va_cwS 1 hts gX3_land_X3_noHouse rfl rfl rfl (by decide +kernel) ⟨Nat.le_of_ble_eq_true rfl, Nat.le_of_ble_eq_true rfl⟩) ⟨tw_Rb, tw_Rp (hP.sub (ws' := []) [] rfl) hK⟩ rfl rfl hl.1 rfl (lv_room (Nat.le_of_ble_eq_true rfl)) dX3_land_1 ⟨Nat.zero_le _, Nat.zero_le _⟩) ?_
  refine lv_if_eq (tgt := 9) hx hb dX3_land_4 (by decide) (fun c_4 => ?_) (fun c_4 => ?_)
  · refine lv_aload_n hx hb dX3_land_9 rfl (lv_at hl 0 rfl) ?_
    refine va_get (ci := 3) (v := .int (nI nt)) (C := RX3) (T := TX3) (N := 26) hx hb hts hin_X3 hown hK hP 0 rfl rfl 3 (by decide) fl_78 (fun _ h9 => h9) rfl dX3_land_10 ?_
    refine tw_join (fun (y : Int32) => F0 m 26 ls (.int y :: [])) (if (nI nt) = 0 then (-3 : Int32) else (m_X3_landOf nc ac nt kd ho pl st ea v1)) ?_ (fun J26_0 => ?_)
    · intro y26 hy26
      exact W.iret hx hb hr (fun t ht _ => ⟨_, rfl, (by (unfold m_X3_land; rw [if_pos c_4]; (try rw [← hy26])) <;> rfl), ht⟩) (fun _ h => nomatch h) dX3_land_26
    · refine lv_if_ne (tgt := 21) hx hb dX3_land_13 (by decide) (fun c_13 => ?_) (fun c_13 => ?_)
      · refine lv_aload_n hx hb dX3_land_21 rfl (lv_at hl 0 rfl) ?_
        refine lv_iload_n hx hb dX3_land_22 rfl (lv_at hl 1 rfl) ?_
        refine tw_cs (va_runV (As := [.int v1]) (rest := []) ⟨hx, hb, hml, hown, hts⟩ (c_X3_landOf l D cI cS q fa nc ac nt kd ho pl st ea ra rs rt nr tr v1 (by first | assumption | omega | exact hz60 _ | exact vp_in_nI (by omega) (by decide)) (by first | assumption | omega | exact hz60 _ | exact vp_in_nI (by omega) (by decide))) (cwV 1 hts gX3_land_X3_landOf rfl rfl rfl (by decide +kernel) ⟨Nat.le_of_ble_eq_true rfl, Nat.le_of_ble_eq_true rfl⟩) ⟨tw_Rb, va_recv hK hP (ci := 3) (q0 := 0) rfl rfl, tw_Rp (hP.sub (ws' := [((q 0), .inr (3, [.int fa, .int (nI nc), .ref (q 1), .int (nI nt), .ref (q 2), .ref (q 3), .ref (q 4), .ref (q 5), .int ea, .int (nI ra), .int (nI rs), .int (nI rt), .ref (q 6), .ref (q 7), .ref (q 8), .ref (q 9), .ref (q 10), .ref (q 11), .int (nI nr), .ref (q 12), .ref (q 13), .ref (q 14), .ref (q 15), .ref (q 16), .ref (q 17), .int tr])), ((q 1), .inl (cI, 6, .inl ac)), ((q 2), .inl (cI, 6, .inl kd)), ((q 3), .inl (cI, 6, .inl ho)), ((q 4), .inl (cI, 6, .inl pl)), ((q 5), .inl (cI, 6, .inl st))]) [0, 1, 2, 3, 4, 5] rfl) hK⟩ rfl rfl hl.1 rfl (lv_room (Nat.le_of_ble_eq_true rfl)) dX3_land_23 ⟨Nat.zero_le _, Nat.zero_le _⟩) ?_
        exact J26_0 _ (by (rw [if_neg c_13]) <;> rfl)
      · refine lv_bipush (v := (-3)) hx hb dX3_land_16 (by decide) ?_
        refine lv_goto (tgt := 26) hx hb dX3_land_18 (by decide) ?_
        exact J26_0 _ (by (rw [if_pos c_13]) <;> rfl)
  · refine lv_iconst (v := (-1)) hx hb dX3_land_7 (by decide) ?_
    exact W.iret hx hb hr (fun t ht _ => ⟨_, rfl, (by (unfold m_X3_land; rw [if_neg c_4]) <;> rfl), ht⟩) (fun _ h => nomatch h) dX3_land_8

def m_X3_mayAct (nc : Nat) (pl : Nat → Int32) (ea : Int32) (v1 : Int32) (v2 : Int32) : Int32 :=
  if (m_X3_isIn ea v1) = 0 then
    (if v2 = 0 then (if (pl v1.toNatClampNeg) ≤ 0 then 0 else 1) else (if v2 = 2 then 1 else (if ((nI nc) - 1) ≤ (pl v1.toNatClampNeg) then 0 else 1)))
  else
    0
set_option maxHeartbeats 4000000 in
set_option maxRecDepth 100000 in
theorem c_X3_mayAct (l : Launch) (D : va_G) (cI cS : ClassId) (q : Nat → Nat) (fa : Int32) (nc : Nat) (nt : Nat) (pl : Nat → Int32) (ea : Int32) (ra : Nat) (rs : Nat) (rt : Nat) (nr : Nat) (tr : Int32) (v1 : Int32) (v2 : Int32) (h1 : vp_in v1 6) : Met l yX3_mayAct wsX3_mayAct ({ frames := 1, cells := 0, slots := 0, locals := 21 }) (tw_R D cI cS [.ref (q 0), .int v1, .int v2] [((q 0), .inr (3, [.int fa, .int (nI nc), .ref (q 1), .int (nI nt), .ref (q 2), .ref (q 3), .ref (q 4), .ref (q 5), .int ea, .int (nI ra), .int (nI rs), .int (nI rt), .ref (q 6), .ref (q 7), .ref (q 8), .ref (q 9), .ref (q 10), .ref (q 11), .int (nI nr), .ref (q 12), .ref (q 13), .ref (q 14), .ref (q 15), .ref (q 16), .ref (q 17), .int tr])), ((q 4), .inl (cI, 6, .inl pl))]) (vp_Si (fun r => r = (m_X3_mayAct nc pl ea v1 v2))) 0 0 (fun _ => False) := by
  refine Met.ofW (cc := cX3_mayAct) (maxL := 3) (ret := (some .boolean)) (by decide) rfl ?_
  intro p e s m args below meth c s₁ B hml hv
  obtain ⟨rfl, hP, hK⟩ := hv
  have hx := B.exec
  have hb := B.bytes
  have hr := B.returns
  have hts := atoms_spec (ws := wsX3_mayAct) B.pre
  have hown : s.vm.findClass RX3 = some m.cls := findClass_of_methodNamed B.named
  have hlocks := B.notSynchronized
  have fl_129 := hts (.fieldLink RX3 129 "TableWarModel" "eaten" "I") (by decide +kernel)
  have hin_X3 := (show ∀ w ∈ u_ws RX3 TX3 26, w ∈ wsX3_mayAct from by decide +kernel)
  have fl_19 := hts (.fieldLink RX3 19 "TableWarModel" "spotOf" "[I") (by decide +kernel)
  have fl_75 := hts (.fieldLink RX3 75 "TableWarModel" "squares" "I") (by decide +kernel)
  have hl := lv_entry ([.ref (q 0), .int v1, .int v2]) (n := 3) (Nat.le_of_ble_eq_true rfl)
  rw [lg_entry_eq]
  generalize (lg_sl ([.ref (q 0), .int v1, .int v2]) ++ List.replicate (3 - (lg_sl ([.ref (q 0), .int v1, .int v2])).length) Slot.unset).toArray = ls at hl ⊢
  have hl : lv_has ls 3 [(0, .ref (q 0)), (1, .int v1), (2, .int v2)] := hl
  refine lv_aload_n hx hb dX3_mayAct_0 rfl (lv_at hl 0 rfl) ?_
  refine va_get (ci := 3) (v := .int ea) (C := RX3) (T := TX3) (N := 26) hx hb hts hin_X3 hown hK hP 0 rfl rfl 8 (by decide) fl_129 (fun _ h9 => h9) rfl dX3_mayAct_1 ?_
  refine lv_iload_n hx hb dX3_mayAct_4 rfl (lv_at hl 1 rfl) ?_
  refine tw_cs (va_runS (As := [.int ea, .int v1]) (rest := []) ⟨hx, hb, hml, hown, hts⟩ (c_X3_isIn l D cI cS ea v1) (va_cwS 2 hts gX3_mayAct_X3_isIn rfl rfl rfl (by decide +kernel) ⟨Nat.le_of_ble_eq_true rfl, Nat.le_of_ble_eq_true rfl⟩) ⟨tw_Rb, tw_Rp (hP.sub (ws' := []) [] rfl) hK⟩ rfl rfl hl.1 rfl (lv_room (Nat.le_of_ble_eq_true rfl)) dX3_mayAct_5 ⟨Nat.zero_le _, Nat.zero_le _⟩) ?_
  refine lv_if_eq (tgt := 13) hx hb dX3_mayAct_8 (by decide) (fun c_8 => ?_) (fun c_8 => ?_)
  · refine lv_iload_n hx hb dX3_mayAct_13 rfl (lv_at hl 2 rfl) ?_
    refine tw_join (fun (y : Int32) => F0 m 59 ls (.int y :: [])) (if v2 = 0 then (if (pl v1.toNatClampNeg) ≤ 0 then 0 else 1) else (if v2 = 2 then 1 else (if ((nI nc) - 1) ≤ (pl v1.toNatClampNeg) then 0 else 1))) ?_ (fun J59_0 => ?_)
    · intro y59 hy59
      exact W.zret (ty := .boolean) hx hb hr (by rw [hy59]; (repeat' split) <;> rfl) (fun t ht _ => ⟨_, rfl, (by (unfold m_X3_mayAct; rw [if_pos c_8]; (try rw [← hy59])) <;> rfl), ht⟩) (fun _ h => nomatch h) dX3_mayAct_59
    · refine lv_if_ne (tgt := 34) hx hb dX3_mayAct_14 (by decide) (fun c_14 => ?_) (fun c_14 => ?_)
      · refine lv_iload_n hx hb dX3_mayAct_34 rfl (lv_at hl 2 rfl) ?_
        refine lv_iconst (v := 2) hx hb dX3_mayAct_35 (by decide) ?_
        refine lv_icmp_eq (tgt := 54) hx hb dX3_mayAct_36 (by decide) (fun c_36 => ?_) (fun c_36 => ?_)
        · refine lv_iconst (v := 1) hx hb dX3_mayAct_54 (by decide) ?_
          refine lv_goto (tgt := 59) hx hb dX3_mayAct_55 (by decide) ?_
          exact J59_0 _ (by (rw [if_neg c_14]; rw [if_pos c_36]) <;> rfl)
        · refine lv_aload_n hx hb dX3_mayAct_39 rfl (lv_at hl 0 rfl) ?_
          refine va_get (ci := 3) (v := .ref (q 4)) (C := RX3) (T := TX3) (N := 26) hx hb hts hin_X3 hown hK hP 0 rfl rfl 6 (by decide) fl_19 (fun _ h9 => h9) rfl dX3_mayAct_40 ?_
          refine lv_iload_n hx hb dX3_mayAct_43 rfl (lv_at hl 1 rfl) ?_
          refine va_iald hx hb hK hP 1 0 rfl rfl (by assumption) dX3_mayAct_44 ?_
          refine lv_aload_n hx hb dX3_mayAct_45 rfl (lv_at hl 0 rfl) ?_
          refine va_get (ci := 3) (v := .int (nI nc)) (C := RX3) (T := TX3) (N := 26) hx hb hts hin_X3 hown hK hP 0 rfl rfl 1 (by decide) fl_75 (fun _ h9 => h9) rfl dX3_mayAct_46 ?_
          refine lv_iconst (v := 1) hx hb dX3_mayAct_49 (by decide) ?_
          refine lv_isub hx hb dX3_mayAct_50 ?_
          refine lv_icmp_ge (tgt := 58) hx hb dX3_mayAct_51 (by decide) (fun c_51 => ?_) (fun c_51 => ?_)
          · refine lv_iconst (v := 0) hx hb dX3_mayAct_58 (by decide) ?_
            exact J59_0 _ (by (rw [if_neg c_14]; rw [if_neg c_36]; rw [if_pos c_51]) <;> rfl)
          · refine lv_iconst (v := 1) hx hb dX3_mayAct_54 (by decide) ?_
            refine lv_goto (tgt := 59) hx hb dX3_mayAct_55 (by decide) ?_
            exact J59_0 _ (by (rw [if_neg c_14]; rw [if_neg c_36]; rw [if_neg c_51]) <;> rfl)
      · refine lv_aload_n hx hb dX3_mayAct_17 rfl (lv_at hl 0 rfl) ?_
        refine va_get (ci := 3) (v := .ref (q 4)) (C := RX3) (T := TX3) (N := 26) hx hb hts hin_X3 hown hK hP 0 rfl rfl 6 (by decide) fl_19 (fun _ h9 => h9) rfl dX3_mayAct_18 ?_
        refine lv_iload_n hx hb dX3_mayAct_21 rfl (lv_at hl 1 rfl) ?_
        refine va_iald hx hb hK hP 1 0 rfl rfl (by assumption) dX3_mayAct_22 ?_
        refine lv_if_le (tgt := 30) hx hb dX3_mayAct_23 (by decide) (fun c_23 => ?_) (fun c_23 => ?_)
        · refine lv_iconst (v := 0) hx hb dX3_mayAct_30 (by decide) ?_
          refine lv_goto (tgt := 59) hx hb dX3_mayAct_31 (by decide) ?_
          exact J59_0 _ (by (rw [if_pos c_14]; rw [if_pos c_23]) <;> rfl)
        · refine lv_iconst (v := 1) hx hb dX3_mayAct_26 (by decide) ?_
          refine lv_goto (tgt := 59) hx hb dX3_mayAct_27 (by decide) ?_
          exact J59_0 _ (by (rw [if_pos c_14]; rw [if_neg c_23]) <;> rfl)
  · refine lv_iconst (v := 0) hx hb dX3_mayAct_11 (by decide) ?_
    exact W.zret (ty := .boolean) hx hb hr rfl (fun t ht _ => ⟨_, rfl, (by (unfold m_X3_mayAct; rw [if_neg c_8]) <;> rfl), ht⟩) (fun _ h => nomatch h) dX3_mayAct_12

def m_X3_doAct (pl : Nat → Int32) (ea : Int32) (v1 : Int32) (v2 : Int32) : (Nat → Int32) × Int32 :=
  (upd pl v1.toNatClampNeg ((pl v1.toNatClampNeg) + (if v2 = 0 then (-1) else (if v2 = 1 then 1 else 0))), ea ||| (if v2 = 2 then 1 <<< (v1 &&& 31) else (0 : Int32)))
set_option maxHeartbeats 4000000 in
set_option maxRecDepth 100000 in
theorem c_X3_doAct (l : Launch) (D : va_G) (cI cS : ClassId) (q : Nat → Nat) (hz : Nat) (fa : Int32) (nc : Nat) (nt : Nat) (pl : Nat → Int32) (ea : Int32) (ra : Nat) (rs : Nat) (rt : Nat) (nr : Nat) (tr : Int32) (v1 : Int32) (v2 : Int32) (h1 : vp_in v1 6) : Met l yX3_doAct wsX3_doAct ({ frames := 0, cells := 0, slots := 0, locals := 0 }) (tw_W D cI cS [.ref (q 0), .int v1, .int v2] hz [((q 0), .inr (3, [.int fa, .int (nI nc), .ref (q 1), .int (nI nt), .ref (q 2), .ref (q 3), .ref (q 4), .ref (q 5), .int ea, .int (nI ra), .int (nI rs), .int (nI rt), .ref (q 6), .ref (q 7), .ref (q 8), .ref (q 9), .ref (q 10), .ref (q 11), .int (nI nr), .ref (q 12), .ref (q 13), .ref (q 14), .ref (q 15), .ref (q 16), .ref (q 17), .int tr])), ((q 4), .inl (cI, 6, .inl pl))]) (va_Qv (fun (_ : Unit) => True) (tw_B D cI cS (va_A [((q 0), .inr (3, [.int fa, .int (nI nc), .ref (q 1), .int (nI nt), .ref (q 2), .ref (q 3), .ref (q 4), .ref (q 5), .int ea, .int (nI ra), .int (nI rs), .int (nI rt), .ref (q 6), .ref (q 7), .ref (q 8), .ref (q 9), .ref (q 10), .ref (q 11), .int (nI nr), .ref (q 12), .ref (q 13), .ref (q 14), .ref (q 15), .ref (q 16), .ref (q 17), .int tr])), ((q 4), .inl (cI, 6, .inl pl))] hz) [((q 0), .inr (3, [.int fa, .int (nI nc), .ref (q 1), .int (nI nt), .ref (q 2), .ref (q 3), .ref (q 4), .ref (q 5), .int ((m_X3_doAct pl ea v1 v2).2), .int (nI ra), .int (nI rs), .int (nI rt), .ref (q 6), .ref (q 7), .ref (q 8), .ref (q 9), .ref (q 10), .ref (q 11), .int (nI nr), .ref (q 12), .ref (q 13), .ref (q 14), .ref (q 15), .ref (q 16), .ref (q 17), .int tr])), ((q 4), .inl (cI, 6, .inl ((m_X3_doAct pl ea v1 v2).1)))]) (va_A [((q 0), .inr (3, [.int fa, .int (nI nc), .ref (q 1), .int (nI nt), .ref (q 2), .ref (q 3), .ref (q 4), .ref (q 5), .int ea, .int (nI ra), .int (nI rs), .int (nI rt), .ref (q 6), .ref (q 7), .ref (q 8), .ref (q 9), .ref (q 10), .ref (q 11), .int (nI nr), .ref (q 12), .ref (q 13), .ref (q 14), .ref (q 15), .ref (q 16), .ref (q 17), .int tr])), ((q 4), .inl (cI, 6, .inl pl))] hz)) 0 0 (va_A [((q 0), .inr (3, [.int fa, .int (nI nc), .ref (q 1), .int (nI nt), .ref (q 2), .ref (q 3), .ref (q 4), .ref (q 5), .int ea, .int (nI ra), .int (nI rs), .int (nI rt), .ref (q 6), .ref (q 7), .ref (q 8), .ref (q 9), .ref (q 10), .ref (q 11), .int (nI nr), .ref (q 12), .ref (q 13), .ref (q 14), .ref (q 15), .ref (q 16), .ref (q 17), .int tr])), ((q 4), .inl (cI, 6, .inl pl))] hz) := by
  refine Met.ofW (cc := cX3_doAct) (maxL := 3) (ret := none) (by decide) rfl ?_
  intro p e s m args below meth c s₁ B hml hv
  obtain ⟨rfl, hsz, hP, hK, hD0⟩ := hv
  have hx := B.exec
  have hb := B.bytes
  have hr := B.returns
  have hts := atoms_spec (ws := wsX3_doAct) B.pre
  have hown : s.vm.findClass RX3 = some m.cls := findClass_of_methodNamed B.named
  have hlocks := B.notSynchronized
  subst hsz
  have hD := hD0.self (sz := s.heap.size)
  generalize hAe : va_A [((q 0), .inr (3, [.int fa, .int (nI nc), .ref (q 1), .int (nI nt), .ref (q 2), .ref (q 3), .ref (q 4), .ref (q 5), .int ea, .int (nI ra), .int (nI rs), .int (nI rt), .ref (q 6), .ref (q 7), .ref (q 8), .ref (q 9), .ref (q 10), .ref (q 11), .int (nI nr), .ref (q 12), .ref (q 13), .ref (q 14), .ref (q 15), .ref (q 16), .ref (q 17), .int tr])), ((q 4), .inl (cI, 6, .inl pl))] s.heap.size = A at hD ⊢
  have hA : ∀ q : Nat, s.heap.size ≤ q → A q := fun q h => by rw [← hAe]; exact Or.inr h
  have hS : va_S A s.heap s.heap [] := va_S.rf
  have fl_19 := hts (.fieldLink RX3 19 "TableWarModel" "spotOf" "[I") (by decide +kernel)
  have hin_X3 := (show ∀ w ∈ u_ws RX3 TX3 26, w ∈ wsX3_doAct from by decide +kernel)
  have fl_129 := hts (.fieldLink RX3 129 "TableWarModel" "eaten" "I") (by decide +kernel)
  have hl := lv_entry ([.ref (q 0), .int v1, .int v2]) (n := 3) (Nat.le_of_ble_eq_true rfl)
  rw [lg_entry_eq]
  generalize (lg_sl ([.ref (q 0), .int v1, .int v2]) ++ List.replicate (3 - (lg_sl ([.ref (q 0), .int v1, .int v2])).length) Slot.unset).toArray = ls at hl ⊢
  have hl : lv_has ls 3 [(0, .ref (q 0)), (1, .int v1), (2, .int v2)] := hl
  refine lv_aload_n hx hb dX3_doAct_0 rfl (lv_at hl 0 rfl) ?_
  refine va_get (ci := 3) (v := .ref (q 4)) (C := RX3) (T := TX3) (N := 26) hx hb hts hin_X3 hown hK hP 0 rfl rfl 6 (by decide) fl_19 (fun _ h9 => h9) rfl dX3_doAct_1 ?_
  refine lv_iload_n hx hb dX3_doAct_4 rfl (lv_at hl 1 rfl) ?_
  refine lv_dup2_11 hx hb dX3_doAct_5 rfl rfl ?_
  refine va_iald hx hb hK hP 1 0 rfl rfl (by assumption) dX3_doAct_6 ?_
  refine lv_iload_n hx hb dX3_doAct_7 rfl (lv_at hl 2 rfl) ?_
  refine tw_join (fun (y : Int32) => F0 m 25 ls (.int y :: .int (pl v1.toNatClampNeg) :: .int v1 :: .ref (q 4) :: [])) (if v2 = 0 then (-1) else (if v2 = 1 then 1 else 0)) ?_ (fun J25_0 => ?_)
  · intro y25 hy25
    refine lv_iadd hx hb dX3_doAct_25 ?_
    refine va_iast hx hb hK hP hD hS 1 0 rfl rfl (by assumption) dX3_doAct_26 (fun H locs hP hD hS => ?_)
    have hP : va_P D vwCl [((q 0), .inr (3, [.int fa, .int (nI nc), .ref (q 1), .int (nI nt), .ref (q 2), .ref (q 3), .ref (q 4), .ref (q 5), .int ea, .int (nI ra), .int (nI rs), .int (nI rt), .ref (q 6), .ref (q 7), .ref (q 8), .ref (q 9), .ref (q 10), .ref (q 11), .int (nI nr), .ref (q 12), .ref (q 13), .ref (q 14), .ref (q 15), .ref (q 16), .ref (q 17), .int tr])), ((q 4), .inl (cI, 6, .inl (upd pl v1.toNatClampNeg ((pl v1.toNatClampNeg) + y25))))] H := hP
    have hD : va_D A [((q 0), .inr (3, [.int fa, .int (nI nc), .ref (q 1), .int (nI nt), .ref (q 2), .ref (q 3), .ref (q 4), .ref (q 5), .int ea, .int (nI ra), .int (nI rs), .int (nI rt), .ref (q 6), .ref (q 7), .ref (q 8), .ref (q 9), .ref (q 10), .ref (q 11), .int (nI nr), .ref (q 12), .ref (q 13), .ref (q 14), .ref (q 15), .ref (q 16), .ref (q 17), .int tr])), ((q 4), .inl (cI, 6, .inl (upd pl v1.toNatClampNeg ((pl v1.toNatClampNeg) + y25))))] := hD
    refine lv_aload_n hx hb dX3_doAct_27 rfl (lv_at hl 0 rfl) ?_
    refine lv_dup hx hb dX3_doAct_28 rfl ?_
    refine va_get (ci := 3) (v := .int ea) (C := RX3) (T := TX3) (N := 26) hx hb hts hin_X3 hown hK hP 0 rfl rfl 8 (by decide) fl_129 (fun _ h9 => h9) rfl dX3_doAct_29 ?_
    refine lv_iload_n hx hb dX3_doAct_32 rfl (lv_at hl 2 rfl) ?_
    refine lv_iconst (v := 2) hx hb dX3_doAct_33 (by decide) ?_
    refine tw_join (fun (y : Int32) => F0 m 44 ls (.int y :: .int ea :: .ref (q 0) :: [])) (if v2 = 2 then 1 <<< (v1 &&& 31) else (0 : Int32)) ?_ (fun J44_1 => ?_)
    · intro y44 hy44
      refine lv_ior hx hb dX3_doAct_44 ?_
      refine va_put (ci := 3) (v := .int (ea ||| y44)) (ty := .int) (C := RX3) (T := TX3) (N := 26) hx hb hts hin_X3 tyX3 tyX3_ok nmX3 hown hK hP hD hS 0 rfl rfl 8 (by decide) fl_129 (fun _ h9 => h9) rfl (by decide +kernel) rfl rfl (Nat.le_of_ble_eq_true rfl) dX3_doAct_45 (fun H locs hP hD hS => ?_)
      have hP : va_P D vwCl [((q 0), .inr (3, [.int fa, .int (nI nc), .ref (q 1), .int (nI nt), .ref (q 2), .ref (q 3), .ref (q 4), .ref (q 5), .int (ea ||| y44), .int (nI ra), .int (nI rs), .int (nI rt), .ref (q 6), .ref (q 7), .ref (q 8), .ref (q 9), .ref (q 10), .ref (q 11), .int (nI nr), .ref (q 12), .ref (q 13), .ref (q 14), .ref (q 15), .ref (q 16), .ref (q 17), .int tr])), ((q 4), .inl (cI, 6, .inl (upd pl v1.toNatClampNeg ((pl v1.toNatClampNeg) + y25))))] H := hP
      have hD : va_D A [((q 0), .inr (3, [.int fa, .int (nI nc), .ref (q 1), .int (nI nt), .ref (q 2), .ref (q 3), .ref (q 4), .ref (q 5), .int (ea ||| y44), .int (nI ra), .int (nI rs), .int (nI rt), .ref (q 6), .ref (q 7), .ref (q 8), .ref (q 9), .ref (q 10), .ref (q 11), .int (nI nr), .ref (q 12), .ref (q 13), .ref (q 14), .ref (q 15), .ref (q 16), .ref (q 17), .int tr])), ((q 4), .inl (cI, 6, .inl (upd pl v1.toNatClampNeg ((pl v1.toNatClampNeg) + y25))))] := hD
      have hE : (m_X3_doAct pl ea v1 v2) = (upd pl v1.toNatClampNeg ((pl v1.toNatClampNeg) + y25), ea ||| y44) := Eq.symm (by (unfold m_X3_doAct; (try rw [← hy25]); (try rw [← hy44])) <;> rfl)
      rw [hE]
      exact W.vret hx hb hr (fun t ht hW => ⟨⟨(), rfl, trivial, by rw [ht]; exact hP, va_K.moved hW.alike hK, hD⟩, hS.F ht⟩) hS.2.2 dX3_doAct_48
    · refine lv_icmp_ne (tgt := 43) hx hb dX3_doAct_34 (by decide) (fun c_34 => ?_) (fun c_34 => ?_)
      · refine lv_iconst (v := 0) hx hb dX3_doAct_43 (by decide) ?_
        exact J44_1 _ (by (rw [if_neg c_34]) <;> rfl)
      · refine lv_iconst (v := 1) hx hb dX3_doAct_37 (by decide) ?_
        refine lv_iload_n hx hb dX3_doAct_38 rfl (lv_at hl 1 rfl) ?_
        refine lv_ishl hx hb dX3_doAct_39 ?_
        refine lv_goto (tgt := 44) hx hb dX3_doAct_40 (by decide) ?_
        exact J44_1 _ (by (rw [if_pos c_34]) <;> rfl)
  · refine lv_if_ne (tgt := 15) hx hb dX3_doAct_8 (by decide) (fun c_8 => ?_) (fun c_8 => ?_)
    · refine lv_iload_n hx hb dX3_doAct_15 rfl (lv_at hl 2 rfl) ?_
      refine lv_iconst (v := 1) hx hb dX3_doAct_16 (by decide) ?_
      refine lv_icmp_ne (tgt := 24) hx hb dX3_doAct_17 (by decide) (fun c_17 => ?_) (fun c_17 => ?_)
      · refine lv_iconst (v := 0) hx hb dX3_doAct_24 (by decide) ?_
        exact J25_0 _ (by (rw [if_neg c_8]; rw [if_neg c_17]) <;> rfl)
      · refine lv_iconst (v := 1) hx hb dX3_doAct_20 (by decide) ?_
        refine lv_goto (tgt := 25) hx hb dX3_doAct_21 (by decide) ?_
        exact J25_0 _ (by (rw [if_neg c_8]; rw [if_pos c_17]) <;> rfl)
    · refine lv_iconst (v := (-1)) hx hb dX3_doAct_11 (by decide) ?_
      refine lv_goto (tgt := 25) hx hb dX3_doAct_12 (by decide) ?_
      exact J25_0 _ (by (rw [if_pos c_8]) <;> rfl)

def m_X3_undoAct (pl : Nat → Int32) (ea : Int32) (v1 : Int32) (v2 : Int32) : (Nat → Int32) × Int32 :=
  (upd pl v1.toNatClampNeg ((pl v1.toNatClampNeg) + (if v2 = 0 then 1 else (if v2 = 1 then (-1) else 0))), ea &&& (if v2 = 2 then (1 <<< (v1 &&& 31)) ^^^ (-1) else (-1 : Int32)))
set_option maxHeartbeats 4000000 in
set_option maxRecDepth 100000 in
theorem c_X3_undoAct (l : Launch) (D : va_G) (cI cS : ClassId) (q : Nat → Nat) (hz : Nat) (fa : Int32) (nc : Nat) (nt : Nat) (pl : Nat → Int32) (ea : Int32) (ra : Nat) (rs : Nat) (rt : Nat) (nr : Nat) (tr : Int32) (v1 : Int32) (v2 : Int32) (h1 : vp_in v1 6) : Met l yX3_undoAct wsX3_undoAct ({ frames := 0, cells := 0, slots := 0, locals := 0 }) (tw_W D cI cS [.ref (q 0), .int v1, .int v2] hz [((q 0), .inr (3, [.int fa, .int (nI nc), .ref (q 1), .int (nI nt), .ref (q 2), .ref (q 3), .ref (q 4), .ref (q 5), .int ea, .int (nI ra), .int (nI rs), .int (nI rt), .ref (q 6), .ref (q 7), .ref (q 8), .ref (q 9), .ref (q 10), .ref (q 11), .int (nI nr), .ref (q 12), .ref (q 13), .ref (q 14), .ref (q 15), .ref (q 16), .ref (q 17), .int tr])), ((q 4), .inl (cI, 6, .inl pl))]) (va_Qv (fun (_ : Unit) => True) (tw_B D cI cS (va_A [((q 0), .inr (3, [.int fa, .int (nI nc), .ref (q 1), .int (nI nt), .ref (q 2), .ref (q 3), .ref (q 4), .ref (q 5), .int ea, .int (nI ra), .int (nI rs), .int (nI rt), .ref (q 6), .ref (q 7), .ref (q 8), .ref (q 9), .ref (q 10), .ref (q 11), .int (nI nr), .ref (q 12), .ref (q 13), .ref (q 14), .ref (q 15), .ref (q 16), .ref (q 17), .int tr])), ((q 4), .inl (cI, 6, .inl pl))] hz) [((q 0), .inr (3, [.int fa, .int (nI nc), .ref (q 1), .int (nI nt), .ref (q 2), .ref (q 3), .ref (q 4), .ref (q 5), .int ((m_X3_undoAct pl ea v1 v2).2), .int (nI ra), .int (nI rs), .int (nI rt), .ref (q 6), .ref (q 7), .ref (q 8), .ref (q 9), .ref (q 10), .ref (q 11), .int (nI nr), .ref (q 12), .ref (q 13), .ref (q 14), .ref (q 15), .ref (q 16), .ref (q 17), .int tr])), ((q 4), .inl (cI, 6, .inl ((m_X3_undoAct pl ea v1 v2).1)))]) (va_A [((q 0), .inr (3, [.int fa, .int (nI nc), .ref (q 1), .int (nI nt), .ref (q 2), .ref (q 3), .ref (q 4), .ref (q 5), .int ea, .int (nI ra), .int (nI rs), .int (nI rt), .ref (q 6), .ref (q 7), .ref (q 8), .ref (q 9), .ref (q 10), .ref (q 11), .int (nI nr), .ref (q 12), .ref (q 13), .ref (q 14), .ref (q 15), .ref (q 16), .ref (q 17), .int tr])), ((q 4), .inl (cI, 6, .inl pl))] hz)) 0 0 (va_A [((q 0), .inr (3, [.int fa, .int (nI nc), .ref (q 1), .int (nI nt), .ref (q 2), .ref (q 3), .ref (q 4), .ref (q 5), .int ea, .int (nI ra), .int (nI rs), .int (nI rt), .ref (q 6), .ref (q 7), .ref (q 8), .ref (q 9), .ref (q 10), .ref (q 11), .int (nI nr), .ref (q 12), .ref (q 13), .ref (q 14), .ref (q 15), .ref (q 16), .ref (q 17), .int tr])), ((q 4), .inl (cI, 6, .inl pl))] hz) := by
  refine Met.ofW (cc := cX3_undoAct) (maxL := 3) (ret := none) (by decide) rfl ?_
  intro p e s m args below meth c s₁ B hml hv
  obtain ⟨rfl, hsz, hP, hK, hD0⟩ := hv
  have hx := B.exec
  have hb := B.bytes
  have hr := B.returns
  have hts := atoms_spec (ws := wsX3_undoAct) B.pre
  have hown : s.vm.findClass RX3 = some m.cls := findClass_of_methodNamed B.named
  have hlocks := B.notSynchronized
  subst hsz
  have hD := hD0.self (sz := s.heap.size)
  generalize hAe : va_A [((q 0), .inr (3, [.int fa, .int (nI nc), .ref (q 1), .int (nI nt), .ref (q 2), .ref (q 3), .ref (q 4), .ref (q 5), .int ea, .int (nI ra), .int (nI rs), .int (nI rt), .ref (q 6), .ref (q 7), .ref (q 8), .ref (q 9), .ref (q 10), .ref (q 11), .int (nI nr), .ref (q 12), .ref (q 13), .ref (q 14), .ref (q 15), .ref (q 16), .ref (q 17), .int tr])), ((q 4), .inl (cI, 6, .inl pl))] s.heap.size = A at hD ⊢
  have hA : ∀ q : Nat, s.heap.size ≤ q → A q := fun q h => by rw [← hAe]; exact Or.inr h
  have hS : va_S A s.heap s.heap [] := va_S.rf
  have fl_19 := hts (.fieldLink RX3 19 "TableWarModel" "spotOf" "[I") (by decide +kernel)
  have hin_X3 := (show ∀ w ∈ u_ws RX3 TX3 26, w ∈ wsX3_undoAct from by decide +kernel)
  have fl_129 := hts (.fieldLink RX3 129 "TableWarModel" "eaten" "I") (by decide +kernel)
  have hl := lv_entry ([.ref (q 0), .int v1, .int v2]) (n := 3) (Nat.le_of_ble_eq_true rfl)
  rw [lg_entry_eq]
  generalize (lg_sl ([.ref (q 0), .int v1, .int v2]) ++ List.replicate (3 - (lg_sl ([.ref (q 0), .int v1, .int v2])).length) Slot.unset).toArray = ls at hl ⊢
  have hl : lv_has ls 3 [(0, .ref (q 0)), (1, .int v1), (2, .int v2)] := hl
  refine lv_aload_n hx hb dX3_undoAct_0 rfl (lv_at hl 0 rfl) ?_
  refine va_get (ci := 3) (v := .ref (q 4)) (C := RX3) (T := TX3) (N := 26) hx hb hts hin_X3 hown hK hP 0 rfl rfl 6 (by decide) fl_19 (fun _ h9 => h9) rfl dX3_undoAct_1 ?_
  refine lv_iload_n hx hb dX3_undoAct_4 rfl (lv_at hl 1 rfl) ?_
  refine lv_dup2_11 hx hb dX3_undoAct_5 rfl rfl ?_
  refine va_iald hx hb hK hP 1 0 rfl rfl (by assumption) dX3_undoAct_6 ?_
  refine lv_iload_n hx hb dX3_undoAct_7 rfl (lv_at hl 2 rfl) ?_
  refine tw_join (fun (y : Int32) => F0 m 25 ls (.int y :: .int (pl v1.toNatClampNeg) :: .int v1 :: .ref (q 4) :: [])) (if v2 = 0 then 1 else (if v2 = 1 then (-1) else 0)) ?_ (fun J25_0 => ?_)
  · intro y25 hy25
    refine lv_iadd hx hb dX3_undoAct_25 ?_
    refine va_iast hx hb hK hP hD hS 1 0 rfl rfl (by assumption) dX3_undoAct_26 (fun H locs hP hD hS => ?_)
    have hP : va_P D vwCl [((q 0), .inr (3, [.int fa, .int (nI nc), .ref (q 1), .int (nI nt), .ref (q 2), .ref (q 3), .ref (q 4), .ref (q 5), .int ea, .int (nI ra), .int (nI rs), .int (nI rt), .ref (q 6), .ref (q 7), .ref (q 8), .ref (q 9), .ref (q 10), .ref (q 11), .int (nI nr), .ref (q 12), .ref (q 13), .ref (q 14), .ref (q 15), .ref (q 16), .ref (q 17), .int tr])), ((q 4), .inl (cI, 6, .inl (upd pl v1.toNatClampNeg ((pl v1.toNatClampNeg) + y25))))] H := hP
    have hD : va_D A [((q 0), .inr (3, [.int fa, .int (nI nc), .ref (q 1), .int (nI nt), .ref (q 2), .ref (q 3), .ref (q 4), .ref (q 5), .int ea, .int (nI ra), .int (nI rs), .int (nI rt), .ref (q 6), .ref (q 7), .ref (q 8), .ref (q 9), .ref (q 10), .ref (q 11), .int (nI nr), .ref (q 12), .ref (q 13), .ref (q 14), .ref (q 15), .ref (q 16), .ref (q 17), .int tr])), ((q 4), .inl (cI, 6, .inl (upd pl v1.toNatClampNeg ((pl v1.toNatClampNeg) + y25))))] := hD
    refine lv_aload_n hx hb dX3_undoAct_27 rfl (lv_at hl 0 rfl) ?_
    refine lv_dup hx hb dX3_undoAct_28 rfl ?_
    refine va_get (ci := 3) (v := .int ea) (C := RX3) (T := TX3) (N := 26) hx hb hts hin_X3 hown hK hP 0 rfl rfl 8 (by decide) fl_129 (fun _ h9 => h9) rfl dX3_undoAct_29 ?_
    refine lv_iload_n hx hb dX3_undoAct_32 rfl (lv_at hl 2 rfl) ?_
    refine lv_iconst (v := 2) hx hb dX3_undoAct_33 (by decide) ?_
    refine tw_join (fun (y : Int32) => F0 m 46 ls (.int y :: .int ea :: .ref (q 0) :: [])) (if v2 = 2 then (1 <<< (v1 &&& 31)) ^^^ (-1) else (-1 : Int32)) ?_ (fun J46_1 => ?_)
    · intro y46 hy46
      refine lv_iand hx hb dX3_undoAct_46 ?_
      refine va_put (ci := 3) (v := .int (ea &&& y46)) (ty := .int) (C := RX3) (T := TX3) (N := 26) hx hb hts hin_X3 tyX3 tyX3_ok nmX3 hown hK hP hD hS 0 rfl rfl 8 (by decide) fl_129 (fun _ h9 => h9) rfl (by decide +kernel) rfl rfl (Nat.le_of_ble_eq_true rfl) dX3_undoAct_47 (fun H locs hP hD hS => ?_)
      have hP : va_P D vwCl [((q 0), .inr (3, [.int fa, .int (nI nc), .ref (q 1), .int (nI nt), .ref (q 2), .ref (q 3), .ref (q 4), .ref (q 5), .int (ea &&& y46), .int (nI ra), .int (nI rs), .int (nI rt), .ref (q 6), .ref (q 7), .ref (q 8), .ref (q 9), .ref (q 10), .ref (q 11), .int (nI nr), .ref (q 12), .ref (q 13), .ref (q 14), .ref (q 15), .ref (q 16), .ref (q 17), .int tr])), ((q 4), .inl (cI, 6, .inl (upd pl v1.toNatClampNeg ((pl v1.toNatClampNeg) + y25))))] H := hP
      have hD : va_D A [((q 0), .inr (3, [.int fa, .int (nI nc), .ref (q 1), .int (nI nt), .ref (q 2), .ref (q 3), .ref (q 4), .ref (q 5), .int (ea &&& y46), .int (nI ra), .int (nI rs), .int (nI rt), .ref (q 6), .ref (q 7), .ref (q 8), .ref (q 9), .ref (q 10), .ref (q 11), .int (nI nr), .ref (q 12), .ref (q 13), .ref (q 14), .ref (q 15), .ref (q 16), .ref (q 17), .int tr])), ((q 4), .inl (cI, 6, .inl (upd pl v1.toNatClampNeg ((pl v1.toNatClampNeg) + y25))))] := hD
      have hE : (m_X3_undoAct pl ea v1 v2) = (upd pl v1.toNatClampNeg ((pl v1.toNatClampNeg) + y25), ea &&& y46) := Eq.symm (by (unfold m_X3_undoAct; (try rw [← hy25]); (try rw [← hy46])) <;> rfl)
      rw [hE]
      exact W.vret hx hb hr (fun t ht hW => ⟨⟨(), rfl, trivial, by rw [ht]; exact hP, va_K.moved hW.alike hK, hD⟩, hS.F ht⟩) hS.2.2 dX3_undoAct_50
    · refine lv_icmp_ne (tgt := 45) hx hb dX3_undoAct_34 (by decide) (fun c_34 => ?_) (fun c_34 => ?_)
      · refine lv_iconst (v := (-1)) hx hb dX3_undoAct_45 (by decide) ?_
        exact J46_1 _ (by (rw [if_neg c_34]) <;> rfl)
      · refine lv_iconst (v := 1) hx hb dX3_undoAct_37 (by decide) ?_
        refine lv_iload_n hx hb dX3_undoAct_38 rfl (lv_at hl 1 rfl) ?_
        refine lv_ishl hx hb dX3_undoAct_39 ?_
        refine lv_iconst (v := (-1)) hx hb dX3_undoAct_40 (by decide) ?_
        refine lv_ixor hx hb dX3_undoAct_41 ?_
        refine lv_goto (tgt := 46) hx hb dX3_undoAct_42 (by decide) ?_
        exact J46_1 _ (by (rw [if_pos c_34]) <;> rfl)
  · refine lv_if_ne (tgt := 15) hx hb dX3_undoAct_8 (by decide) (fun c_8 => ?_) (fun c_8 => ?_)
    · refine lv_iload_n hx hb dX3_undoAct_15 rfl (lv_at hl 2 rfl) ?_
      refine lv_iconst (v := 1) hx hb dX3_undoAct_16 (by decide) ?_
      refine lv_icmp_ne (tgt := 24) hx hb dX3_undoAct_17 (by decide) (fun c_17 => ?_) (fun c_17 => ?_)
      · refine lv_iconst (v := 0) hx hb dX3_undoAct_24 (by decide) ?_
        exact J25_0 _ (by (rw [if_neg c_8]; rw [if_neg c_17]) <;> rfl)
      · refine lv_iconst (v := (-1)) hx hb dX3_undoAct_20 (by decide) ?_
        refine lv_goto (tgt := 25) hx hb dX3_undoAct_21 (by decide) ?_
        exact J25_0 _ (by (rw [if_neg c_8]; rw [if_pos c_17]) <;> rfl)
    · refine lv_iconst (v := 1) hx hb dX3_undoAct_11 (by decide) ?_
      refine lv_goto (tgt := 25) hx hb dX3_undoAct_12 (by decide) ?_
      exact J25_0 _ (by (rw [if_pos c_8]) <;> rfl)

def m_X3_act (nc : Nat) (nt : Nat) (pl : Nat → Int32) (ea : Int32) (v1 : Int32) (v2 : Int32) : Int32 × (Nat → Int32) × Int32 :=
  if (m_X3_noThing nt v1) = 0 then
    if (m_X3_in v2.toInt64 0 2) = 0 then
      ((-2), pl, ea)
    else
      if (m_X3_mayAct nc pl ea v1 v2) = 0 then
        ((-3), pl, ea)
      else
        ((if v2 = 2 then (-9 : Int32) else ((m_X3_doAct pl ea v1 v2).1) v1.toNatClampNeg), (m_X3_doAct pl ea v1 v2).1, (m_X3_doAct pl ea v1 v2).2)
  else
    ((-1), pl, ea)
set_option maxHeartbeats 4000000 in
set_option maxRecDepth 100000 in
theorem c_X3_act (l : Launch) (D : va_G) (cI cS : ClassId) (q : Nat → Nat) (hz : Nat) (fa : Int32) (nc : Nat) (nt : Nat) (pl : Nat → Int32) (ea : Int32) (ra : Nat) (rs : Nat) (rt : Nat) (nr : Nat) (tr : Int32) (v1 : Int32) (v2 : Int32) (hn : nt ≤ 6) : Met l yX3_act wsX3_act ({ frames := 2, cells := 0, slots := 0, locals := 46 }) (tw_W D cI cS [.ref (q 0), .int v1, .int v2] hz [((q 0), .inr (3, [.int fa, .int (nI nc), .ref (q 1), .int (nI nt), .ref (q 2), .ref (q 3), .ref (q 4), .ref (q 5), .int ea, .int (nI ra), .int (nI rs), .int (nI rt), .ref (q 6), .ref (q 7), .ref (q 8), .ref (q 9), .ref (q 10), .ref (q 11), .int (nI nr), .ref (q 12), .ref (q 13), .ref (q 14), .ref (q 15), .ref (q 16), .ref (q 17), .int tr])), ((q 4), .inl (cI, 6, .inl pl))]) (va_Qi (fun r (_ : Unit) => r = (m_X3_act nc nt pl ea v1 v2).1) (tw_B D cI cS (va_A [((q 0), .inr (3, [.int fa, .int (nI nc), .ref (q 1), .int (nI nt), .ref (q 2), .ref (q 3), .ref (q 4), .ref (q 5), .int ea, .int (nI ra), .int (nI rs), .int (nI rt), .ref (q 6), .ref (q 7), .ref (q 8), .ref (q 9), .ref (q 10), .ref (q 11), .int (nI nr), .ref (q 12), .ref (q 13), .ref (q 14), .ref (q 15), .ref (q 16), .ref (q 17), .int tr])), ((q 4), .inl (cI, 6, .inl pl))] hz) [((q 0), .inr (3, [.int fa, .int (nI nc), .ref (q 1), .int (nI nt), .ref (q 2), .ref (q 3), .ref (q 4), .ref (q 5), .int ((m_X3_act nc nt pl ea v1 v2).2.2), .int (nI ra), .int (nI rs), .int (nI rt), .ref (q 6), .ref (q 7), .ref (q 8), .ref (q 9), .ref (q 10), .ref (q 11), .int (nI nr), .ref (q 12), .ref (q 13), .ref (q 14), .ref (q 15), .ref (q 16), .ref (q 17), .int tr])), ((q 4), .inl (cI, 6, .inl ((m_X3_act nc nt pl ea v1 v2).2.1)))]) (va_A [((q 0), .inr (3, [.int fa, .int (nI nc), .ref (q 1), .int (nI nt), .ref (q 2), .ref (q 3), .ref (q 4), .ref (q 5), .int ea, .int (nI ra), .int (nI rs), .int (nI rt), .ref (q 6), .ref (q 7), .ref (q 8), .ref (q 9), .ref (q 10), .ref (q 11), .int (nI nr), .ref (q 12), .ref (q 13), .ref (q 14), .ref (q 15), .ref (q 16), .ref (q 17), .int tr])), ((q 4), .inl (cI, 6, .inl pl))] hz)) 0 0 (va_A [((q 0), .inr (3, [.int fa, .int (nI nc), .ref (q 1), .int (nI nt), .ref (q 2), .ref (q 3), .ref (q 4), .ref (q 5), .int ea, .int (nI ra), .int (nI rs), .int (nI rt), .ref (q 6), .ref (q 7), .ref (q 8), .ref (q 9), .ref (q 10), .ref (q 11), .int (nI nr), .ref (q 12), .ref (q 13), .ref (q 14), .ref (q 15), .ref (q 16), .ref (q 17), .int tr])), ((q 4), .inl (cI, 6, .inl pl))] hz) := by
  refine Met.ofW (cc := cX3_act) (maxL := 3) (ret := (some .int)) (by decide) rfl ?_
  intro p e s m args below meth c s₁ B hml hv
  obtain ⟨rfl, hsz, hP, hK, hD0⟩ := hv
  have hx := B.exec
  have hb := B.bytes
  have hr := B.returns
  have hts := atoms_spec (ws := wsX3_act) B.pre
  have hown : s.vm.findClass RX3 = some m.cls := findClass_of_methodNamed B.named
  have hlocks := B.notSynchronized
  subst hsz
  have hD := hD0.self (sz := s.heap.size)
  generalize hAe : va_A [((q 0), .inr (3, [.int fa, .int (nI nc), .ref (q 1), .int (nI nt), .ref (q 2), .ref (q 3), .ref (q 4), .ref (q 5), .int ea, .int (nI ra), .int (nI rs), .int (nI rt), .ref (q 6), .ref (q 7), .ref (q 8), .ref (q 9), .ref (q 10), .ref (q 11), .int (nI nr), .ref (q 12), .ref (q 13), .ref (q 14), .ref (q 15), .ref (q 16), .ref (q 17), .int tr])), ((q 4), .inl (cI, 6, .inl pl))] s.heap.size = A at hD ⊢
  have hA : ∀ q : Nat, s.heap.size ≤ q → A q := fun q h => by rw [← hAe]; exact Or.inr h
  have hS : va_S A s.heap s.heap [] := va_S.rf
  have kl_120 := hts (.constantLong RX3 120 (2)) (by decide +kernel)
  have fl_19 := hts (.fieldLink RX3 19 "TableWarModel" "spotOf" "[I") (by decide +kernel)
  have hin_X3 := (show ∀ w ∈ u_ws RX3 TX3 26, w ∈ wsX3_act from by decide +kernel)
  have hl := lv_entry ([.ref (q 0), .int v1, .int v2]) (n := 3) (Nat.le_of_ble_eq_true rfl)
  rw [lg_entry_eq]
  generalize (lg_sl ([.ref (q 0), .int v1, .int v2]) ++ List.replicate (3 - (lg_sl ([.ref (q 0), .int v1, .int v2])).length) Slot.unset).toArray = ls at hl ⊢
  have hl : lv_has ls 3 [(0, .ref (q 0)), (1, .int v1), (2, .int v2)] := hl
  refine lv_aload_n hx hb dX3_act_0 rfl (lv_at hl 0 rfl) ?_
  refine lv_iload_n hx hb dX3_act_1 rfl (lv_at hl 1 rfl) ?_
  refine tw_cs (va_runV (As := [.int v1]) (rest := []) ⟨hx, hb, hml, hown, hts⟩ (c_X3_noThing l D cI cS q fa nc nt ea ra rs rt nr tr v1) (cwV 1 hts gX3_act_X3_noThing rfl rfl rfl (by decide +kernel) ⟨Nat.le_of_ble_eq_true rfl, Nat.le_of_ble_eq_true rfl⟩) ⟨tw_Rb, va_recv hK hP (ci := 3) (q0 := 0) rfl rfl, tw_Rp (hP.sub (ws' := [((q 0), .inr (3, [.int fa, .int (nI nc), .ref (q 1), .int (nI nt), .ref (q 2), .ref (q 3), .ref (q 4), .ref (q 5), .int ea, .int (nI ra), .int (nI rs), .int (nI rt), .ref (q 6), .ref (q 7), .ref (q 8), .ref (q 9), .ref (q 10), .ref (q 11), .int (nI nr), .ref (q 12), .ref (q 13), .ref (q 14), .ref (q 15), .ref (q 16), .ref (q 17), .int tr]))]) [0] rfl) hK⟩ rfl rfl hl.1 rfl (lv_room (Nat.le_of_ble_eq_true rfl)) dX3_act_2 ⟨Nat.zero_le _, Nat.zero_le _⟩) ?_
  refine lv_if_eq (tgt := 10) hx hb dX3_act_5 (by decide) (fun c_5 => ?_) (fun c_5 => ?_)
  · refine lv_iload_n hx hb dX3_act_10 rfl (lv_at hl 2 rfl) ?_
    refine lv_i2l (v := v2.toInt64) hx hb dX3_act_11 rfl ?_
    refine lv_lconst (v := 0) hx hb dX3_act_12 (by decide) ?_
    refine lv_ldc2 (v := 2) hx hb hown kl_120 dX3_act_13 ?_
    refine tw_cs (va_runS (As := [.long v2.toInt64, .long 0, .long 2]) (rest := []) ⟨hx, hb, hml, hown, hts⟩ (c_X3_in l D cI cS v2.toInt64 0 2) (va_cwS 3 hts gX3_act_X3_in rfl rfl rfl (by decide +kernel) ⟨Nat.le_of_ble_eq_true rfl, Nat.le_of_ble_eq_true rfl⟩) ⟨tw_Rb, tw_Rp (hP.sub (ws' := []) [] rfl) hK⟩ rfl rfl hl.1 rfl (lv_room (Nat.le_of_ble_eq_true rfl)) dX3_act_16 ⟨Nat.zero_le _, Nat.zero_le _⟩) ?_
    refine lv_if_ne (tgt := 25) hx hb dX3_act_19 (by decide) (fun c_19 => ?_) (fun c_19 => ?_)
    · refine lv_aload_n hx hb dX3_act_25 rfl (lv_at hl 0 rfl) ?_
      refine lv_iload_n hx hb dX3_act_26 rfl (lv_at hl 1 rfl) ?_
      refine lv_iload_n hx hb dX3_act_27 rfl (lv_at hl 2 rfl) ?_
      refine tw_cs (va_runV (As := [.int v1, .int v2]) (rest := []) ⟨hx, hb, hml, hown, hts⟩ (c_X3_mayAct l D cI cS q fa nc nt pl ea ra rs rt nr tr v1 v2 (noThing_in hn c_5)) (cwV 2 hts gX3_act_X3_mayAct rfl rfl rfl (by decide +kernel) ⟨Nat.le_of_ble_eq_true rfl, Nat.le_of_ble_eq_true rfl⟩) ⟨tw_Rb, va_recv hK hP (ci := 3) (q0 := 0) rfl rfl, tw_Rp (hP.sub (ws' := [((q 0), .inr (3, [.int fa, .int (nI nc), .ref (q 1), .int (nI nt), .ref (q 2), .ref (q 3), .ref (q 4), .ref (q 5), .int ea, .int (nI ra), .int (nI rs), .int (nI rt), .ref (q 6), .ref (q 7), .ref (q 8), .ref (q 9), .ref (q 10), .ref (q 11), .int (nI nr), .ref (q 12), .ref (q 13), .ref (q 14), .ref (q 15), .ref (q 16), .ref (q 17), .int tr])), ((q 4), .inl (cI, 6, .inl pl))]) [0, 1] rfl) hK⟩ rfl rfl hl.1 rfl (lv_room (Nat.le_of_ble_eq_true rfl)) dX3_act_28 ⟨Nat.zero_le _, Nat.zero_le _⟩) ?_
      refine lv_if_ne (tgt := 37) hx hb dX3_act_31 (by decide) (fun c_31 => ?_) (fun c_31 => ?_)
      · refine lv_aload_n hx hb dX3_act_37 rfl (lv_at hl 0 rfl) ?_
        refine lv_iload_n hx hb dX3_act_38 rfl (lv_at hl 1 rfl) ?_
        refine lv_iload_n hx hb dX3_act_39 rfl (lv_at hl 2 rfl) ?_
        refine tw_wv (ws := [((q 0), .inr (3, [.int fa, .int (nI nc), .ref (q 1), .int (nI nt), .ref (q 2), .ref (q 3), .ref (q 4), .ref (q 5), .int ea, .int (nI ra), .int (nI rs), .int (nI rt), .ref (q 6), .ref (q 7), .ref (q 8), .ref (q 9), .ref (q 10), .ref (q 11), .int (nI nr), .ref (q 12), .ref (q 13), .ref (q 14), .ref (q 15), .ref (q 16), .ref (q 17), .int tr])), ((q 4), .inl (cI, 6, .inl pl))]) (wc := [((q 0), .inr (3, [.int fa, .int (nI nc), .ref (q 1), .int (nI nt), .ref (q 2), .ref (q 3), .ref (q 4), .ref (q 5), .int ea, .int (nI ra), .int (nI rs), .int (nI rt), .ref (q 6), .ref (q 7), .ref (q 8), .ref (q 9), .ref (q 10), .ref (q 11), .int (nI nr), .ref (q 12), .ref (q 13), .ref (q 14), .ref (q 15), .ref (q 16), .ref (q 17), .int tr])), ((q 4), .inl (cI, 6, .inl pl))]) (wr := []) (w1 := [((q 0), .inr (3, [.int fa, .int (nI nc), .ref (q 1), .int (nI nt), .ref (q 2), .ref (q 3), .ref (q 4), .ref (q 5), .int ((m_X3_doAct pl ea v1 v2).2), .int (nI ra), .int (nI rs), .int (nI rt), .ref (q 6), .ref (q 7), .ref (q 8), .ref (q 9), .ref (q 10), .ref (q 11), .int (nI nr), .ref (q 12), .ref (q 13), .ref (q 14), .ref (q 15), .ref (q 16), .ref (q 17), .int tr])), ((q 4), .inl (cI, 6, .inl ((m_X3_doAct pl ea v1 v2).1)))]) (ws' := [((q 0), .inr (3, [.int fa, .int (nI nc), .ref (q 1), .int (nI nt), .ref (q 2), .ref (q 3), .ref (q 4), .ref (q 5), .int ((m_X3_doAct pl ea v1 v2).2), .int (nI ra), .int (nI rs), .int (nI rt), .ref (q 6), .ref (q 7), .ref (q 8), .ref (q 9), .ref (q 10), .ref (q 11), .int (nI nr), .ref (q 12), .ref (q 13), .ref (q 14), .ref (q 15), .ref (q 16), .ref (q 17), .int tr])), ((q 4), .inl (cI, 6, .inl ((m_X3_doAct pl ea v1 v2).1)))]) (va_runV (As := [.int v1, .int v2]) (rest := []) ⟨hx, hb, hml, hown, hts⟩ (c_X3_doAct l D cI cS q _ fa nc nt pl ea ra rs rt nr tr v1 v2 (noThing_in hn c_5)) (cwV 2 hts gX3_act_X3_doAct rfl rfl rfl (by decide +kernel) ⟨Nat.le_of_ble_eq_true rfl, Nat.le_of_ble_eq_true rfl⟩) ⟨tw_Wb, va_recv hK hP (ci := 3) (q0 := 0) rfl rfl, tw_Wp (hP.sub (ws' := [((q 0), .inr (3, [.int fa, .int (nI nc), .ref (q 1), .int (nI nt), .ref (q 2), .ref (q 3), .ref (q 4), .ref (q 5), .int ea, .int (nI ra), .int (nI rs), .int (nI rt), .ref (q 6), .ref (q 7), .ref (q 8), .ref (q 9), .ref (q 10), .ref (q 11), .int (nI nr), .ref (q 12), .ref (q 13), .ref (q 14), .ref (q 15), .ref (q 16), .ref (q 17), .int tr])), ((q 4), .inl (cI, 6, .inl pl))]) [0, 1] rfl) hK (hD.sub (ws' := [((q 0), .inr (3, [.int fa, .int (nI nc), .ref (q 1), .int (nI nt), .ref (q 2), .ref (q 3), .ref (q 4), .ref (q 5), .int ea, .int (nI ra), .int (nI rs), .int (nI rt), .ref (q 6), .ref (q 7), .ref (q 8), .ref (q 9), .ref (q 10), .ref (q 11), .int (nI nr), .ref (q 12), .ref (q 13), .ref (q 14), .ref (q 15), .ref (q 16), .ref (q 17), .int tr])), ((q 4), .inl (cI, 6, .inl pl))]) [0, 1] (by decide) rfl)⟩ rfl rfl hl.1 rfl (lv_room (Nat.le_of_ble_eq_true rfl)) dX3_act_40 ⟨Nat.zero_le _, Nat.zero_le _⟩) hP hD hS hA [0, 1] [] [0, 1] rfl rfl (by decide) (by decide) rfl (by decide) (fun H locs hP hD hS => ?_)
        refine lv_iload_n hx hb dX3_act_43 rfl (lv_at hl 2 rfl) ?_
        refine lv_iconst (v := 2) hx hb dX3_act_44 (by decide) ?_
        refine tw_join (fun (y : Int32) => F0 m 59 ls (.int y :: [])) (if v2 = 2 then (-9 : Int32) else ((m_X3_doAct pl ea v1 v2).1) v1.toNatClampNeg) ?_ (fun J59_0 => ?_)
        · intro y59 hy59
          have hE : (m_X3_act nc nt pl ea v1 v2) = (y59, (m_X3_doAct pl ea v1 v2).1, (m_X3_doAct pl ea v1 v2).2) := Eq.symm (by (unfold m_X3_act; rw [if_pos c_5]; rw [if_neg c_19]; rw [if_neg c_31]; (try rw [← hy59])) <;> rfl)
          rw [hE]
          exact W.iret hx hb hr (fun t ht hW => ⟨⟨_, (), rfl, rfl, by rw [ht]; exact hP, va_K.moved hW.alike hK, hD⟩, hS.F ht⟩) hS.2.2 dX3_act_59
        · refine lv_icmp_ne (tgt := 53) hx hb dX3_act_45 (by decide) (fun c_45 => ?_) (fun c_45 => ?_)
          · refine lv_aload_n hx hb dX3_act_53 rfl (lv_at hl 0 rfl) ?_
            refine va_get (ci := 3) (v := .ref (q 4)) (C := RX3) (T := TX3) (N := 26) hx hb hts hin_X3 hown hK hP 0 rfl rfl 6 (by decide) fl_19 (fun _ h9 => h9) rfl dX3_act_54 ?_
            refine lv_iload_n hx hb dX3_act_57 rfl (lv_at hl 1 rfl) ?_
            refine va_iald hx hb hK hP 1 0 rfl rfl (noThing_in hn c_5) dX3_act_58 ?_
            exact J59_0 _ (by (rw [if_neg c_45]) <;> rfl)
          · refine lv_bipush (v := (-9)) hx hb dX3_act_48 (by decide) ?_
            refine lv_goto (tgt := 59) hx hb dX3_act_50 (by decide) ?_
            exact J59_0 _ (by (rw [if_pos c_45]) <;> rfl)
      · refine lv_bipush (v := (-3)) hx hb dX3_act_34 (by decide) ?_
        have hE : (m_X3_act nc nt pl ea v1 v2) = ((-3), pl, ea) := Eq.symm (by (unfold m_X3_act; rw [if_pos c_5]; rw [if_neg c_19]; rw [if_pos c_31]) <;> rfl)
        rw [hE]
        exact W.iret hx hb hr (fun t ht hW => ⟨⟨_, (), rfl, rfl, by rw [ht]; exact hP, va_K.moved hW.alike hK, hD⟩, hS.F ht⟩) hS.2.2 dX3_act_36
    · refine lv_bipush (v := (-2)) hx hb dX3_act_22 (by decide) ?_
      have hE : (m_X3_act nc nt pl ea v1 v2) = ((-2), pl, ea) := Eq.symm (by (unfold m_X3_act; rw [if_pos c_5]; rw [if_pos c_19]) <;> rfl)
      rw [hE]
      exact W.iret hx hb hr (fun t ht hW => ⟨⟨_, (), rfl, rfl, by rw [ht]; exact hP, va_K.moved hW.alike hK, hD⟩, hS.F ht⟩) hS.2.2 dX3_act_24
  · refine lv_iconst (v := (-1)) hx hb dX3_act_8 (by decide) ?_
    have hE : (m_X3_act nc nt pl ea v1 v2) = ((-1), pl, ea) := Eq.symm (by (unfold m_X3_act; rw [if_neg c_5]) <;> rfl)
    rw [hE]
    exact W.iret hx hb hr (fun t ht hW => ⟨⟨_, (), rfl, rfl, by rw [ht]; exact hP, va_K.moved hW.alike hK, hD⟩, hS.F ht⟩) hS.2.2 dX3_act_9

def m_X3_leadOf (nc : Nat) (ac : Nat → Int32) (nt : Nat) (kd : Nat → Int32) (ho : Nat → Int32) (pl : Nat → Int32) (st : Nat → Int32) (ea : Int32) (v1 : Int32) : Int32 :=
  (100 + (m_X3_landOf nc ac nt kd ho pl st ea v1)) - (m_X3_landOf nc ac nt kd ho pl st ea (1 - v1))
set_option maxHeartbeats 4000000 in
set_option maxRecDepth 100000 in
theorem c_X3_leadOf (l : Launch) (D : va_G) (cI cS : ClassId) (q : Nat → Nat) (fa : Int32) (nc : Nat) (ac : Nat → Int32) (nt : Nat) (kd : Nat → Int32) (ho : Nat → Int32) (pl : Nat → Int32) (st : Nat → Int32) (ea : Int32) (ra : Nat) (rs : Nat) (rt : Nat) (nr : Nat) (tr : Int32) (v1 : Int32) (hn : nt ≤ 6) (hc : nc ≤ 6) : Met l yX3_leadOf wsX3_leadOf ({ frames := 5, cells := 0, slots := 0, locals := 114 }) (tw_R D cI cS [.ref (q 0), .int v1] [((q 0), .inr (3, [.int fa, .int (nI nc), .ref (q 1), .int (nI nt), .ref (q 2), .ref (q 3), .ref (q 4), .ref (q 5), .int ea, .int (nI ra), .int (nI rs), .int (nI rt), .ref (q 6), .ref (q 7), .ref (q 8), .ref (q 9), .ref (q 10), .ref (q 11), .int (nI nr), .ref (q 12), .ref (q 13), .ref (q 14), .ref (q 15), .ref (q 16), .ref (q 17), .int tr])), ((q 1), .inl (cI, 6, .inl ac)), ((q 2), .inl (cI, 6, .inl kd)), ((q 3), .inl (cI, 6, .inl ho)), ((q 4), .inl (cI, 6, .inl pl)), ((q 5), .inl (cI, 6, .inl st))]) (vp_Si (fun r => r = (m_X3_leadOf nc ac nt kd ho pl st ea v1))) 0 0 (fun _ => False) := by
  refine Met.ofW (cc := cX3_leadOf) (maxL := 2) (ret := (some .int)) (by decide) rfl ?_
  intro p e s m args below meth c s₁ B hml hv
  obtain ⟨rfl, hP, hK⟩ := hv
  have hx := B.exec
  have hb := B.bytes
  have hr := B.returns
  have hts := atoms_spec (ws := wsX3_leadOf) B.pre
  have hown : s.vm.findClass RX3 = some m.cls := findClass_of_methodNamed B.named
  have hlocks := B.notSynchronized
  have hl := lv_entry ([.ref (q 0), .int v1]) (n := 2) (Nat.le_of_ble_eq_true rfl)
  rw [lg_entry_eq]
  generalize (lg_sl ([.ref (q 0), .int v1]) ++ List.replicate (2 - (lg_sl ([.ref (q 0), .int v1])).length) Slot.unset).toArray = ls at hl ⊢
  have hl : lv_has ls 2 [(0, .ref (q 0)), (1, .int v1)] := hl
  refine lv_bipush (v := 100) hx hb dX3_leadOf_0 (by decide) ?_
  refine lv_aload_n hx hb dX3_leadOf_2 rfl (lv_at hl 0 rfl) ?_
  refine lv_iload_n hx hb dX3_leadOf_3 rfl (lv_at hl 1 rfl) ?_
  refine tw_cs (va_runV (As := [.int v1]) (rest := [.int 100]) ⟨hx, hb, hml, hown, hts⟩ (c_X3_landOf l D cI cS q fa nc ac nt kd ho pl st ea ra rs rt nr tr v1 (by first | assumption | omega | exact hz60 _ | exact vp_in_nI (by omega) (by decide)) (by first | assumption | omega | exact hz60 _ | exact vp_in_nI (by omega) (by decide))) (cwV 1 hts gX3_leadOf_X3_landOf rfl rfl rfl (by decide +kernel) ⟨Nat.le_of_ble_eq_true rfl, Nat.le_of_ble_eq_true rfl⟩) ⟨tw_Rb, va_recv hK hP (ci := 3) (q0 := 0) rfl rfl, tw_Rp (hP.sub (ws' := [((q 0), .inr (3, [.int fa, .int (nI nc), .ref (q 1), .int (nI nt), .ref (q 2), .ref (q 3), .ref (q 4), .ref (q 5), .int ea, .int (nI ra), .int (nI rs), .int (nI rt), .ref (q 6), .ref (q 7), .ref (q 8), .ref (q 9), .ref (q 10), .ref (q 11), .int (nI nr), .ref (q 12), .ref (q 13), .ref (q 14), .ref (q 15), .ref (q 16), .ref (q 17), .int tr])), ((q 1), .inl (cI, 6, .inl ac)), ((q 2), .inl (cI, 6, .inl kd)), ((q 3), .inl (cI, 6, .inl ho)), ((q 4), .inl (cI, 6, .inl pl)), ((q 5), .inl (cI, 6, .inl st))]) [0, 1, 2, 3, 4, 5] rfl) hK⟩ rfl rfl hl.1 rfl (lv_room (Nat.le_of_ble_eq_true rfl)) dX3_leadOf_4 ⟨Nat.zero_le _, Nat.zero_le _⟩) ?_
  refine lv_iadd hx hb dX3_leadOf_7 ?_
  refine lv_aload_n hx hb dX3_leadOf_8 rfl (lv_at hl 0 rfl) ?_
  refine lv_iconst (v := 1) hx hb dX3_leadOf_9 (by decide) ?_
  refine lv_iload_n hx hb dX3_leadOf_10 rfl (lv_at hl 1 rfl) ?_
  refine lv_isub hx hb dX3_leadOf_11 ?_
  refine tw_cs (va_runV (As := [.int (1 - v1)]) (rest := [.int (100 + (m_X3_landOf nc ac nt kd ho pl st ea v1))]) ⟨hx, hb, hml, hown, hts⟩ (c_X3_landOf l D cI cS q fa nc ac nt kd ho pl st ea ra rs rt nr tr (1 - v1) (by first | assumption | omega | exact hz60 _ | exact vp_in_nI (by omega) (by decide)) (by first | assumption | omega | exact hz60 _ | exact vp_in_nI (by omega) (by decide))) (cwV 1 hts gX3_leadOf_X3_landOf rfl rfl rfl (by decide +kernel) ⟨Nat.le_of_ble_eq_true rfl, Nat.le_of_ble_eq_true rfl⟩) ⟨tw_Rb, va_recv hK hP (ci := 3) (q0 := 0) rfl rfl, tw_Rp (hP.sub (ws' := [((q 0), .inr (3, [.int fa, .int (nI nc), .ref (q 1), .int (nI nt), .ref (q 2), .ref (q 3), .ref (q 4), .ref (q 5), .int ea, .int (nI ra), .int (nI rs), .int (nI rt), .ref (q 6), .ref (q 7), .ref (q 8), .ref (q 9), .ref (q 10), .ref (q 11), .int (nI nr), .ref (q 12), .ref (q 13), .ref (q 14), .ref (q 15), .ref (q 16), .ref (q 17), .int tr])), ((q 1), .inl (cI, 6, .inl ac)), ((q 2), .inl (cI, 6, .inl kd)), ((q 3), .inl (cI, 6, .inl ho)), ((q 4), .inl (cI, 6, .inl pl)), ((q 5), .inl (cI, 6, .inl st))]) [0, 1, 2, 3, 4, 5] rfl) hK⟩ rfl rfl hl.1 rfl (lv_room (Nat.le_of_ble_eq_true rfl)) dX3_leadOf_12 ⟨Nat.zero_le _, Nat.zero_le _⟩) ?_
  refine lv_isub hx hb dX3_leadOf_15 ?_
  exact W.iret hx hb hr (fun t ht _ => ⟨_, rfl, (by (unfold m_X3_leadOf) <;> rfl), ht⟩) (fun _ h => nomatch h) dX3_leadOf_16

def m_X3_mayMove (nc : Nat) (ho : Nat → Int32) (pl : Nat → Int32) (ea : Int32) (v1 : Int32) (mv : Nat) : Int32 :=
  (if (ho (mv / 3)) = v1 then (if (m_X3_mayAct nc pl ea (nI (mv / 3)) (nI (mv % 3))) = 0 then 0 else 1) else 0)
set_option maxHeartbeats 4000000 in
set_option maxRecDepth 100000 in
theorem c_X3_mayMove (l : Launch) (D : va_G) (cI cS : ClassId) (q : Nat → Nat) (fa : Int32) (nc : Nat) (nt : Nat) (ho : Nat → Int32) (pl : Nat → Int32) (ea : Int32) (ra : Nat) (rs : Nat) (rt : Nat) (nr : Nat) (tr : Int32) (v1 : Int32) (mv : Nat) (hmv : mv < 18) : Met l yX3_mayMove wsX3_mayMove ({ frames := 2, cells := 0, slots := 0, locals := 43 }) (tw_R D cI cS [.ref (q 0), .int v1, .int (nI mv)] [((q 0), .inr (3, [.int fa, .int (nI nc), .ref (q 1), .int (nI nt), .ref (q 2), .ref (q 3), .ref (q 4), .ref (q 5), .int ea, .int (nI ra), .int (nI rs), .int (nI rt), .ref (q 6), .ref (q 7), .ref (q 8), .ref (q 9), .ref (q 10), .ref (q 11), .int (nI nr), .ref (q 12), .ref (q 13), .ref (q 14), .ref (q 15), .ref (q 16), .ref (q 17), .int tr])), ((q 3), .inl (cI, 6, .inl ho)), ((q 4), .inl (cI, 6, .inl pl))]) (vp_Si (fun r => r = (m_X3_mayMove nc ho pl ea v1 mv))) 0 0 (fun _ => False) := by
  refine Met.ofW (cc := cX3_mayMove) (maxL := 3) (ret := (some .boolean)) (by decide) rfl ?_
  intro p e s m args below meth c s₁ B hml hv
  obtain ⟨rfl, hP, hK⟩ := hv
  have hx := B.exec
  have hb := B.bytes
  have hr := B.returns
  have hts := atoms_spec (ws := wsX3_mayMove) B.pre
  have hown : s.vm.findClass RX3 = some m.cls := findClass_of_methodNamed B.named
  have hlocks := B.notSynchronized
  have fl_16 := hts (.fieldLink RX3 16 "TableWarModel" "houseOf" "[I") (by decide +kernel)
  have hin_X3 := (show ∀ w ∈ u_ws RX3 TX3 26, w ∈ wsX3_mayMove from by decide +kernel)
  have hl := lv_entry ([.ref (q 0), .int v1, .int (nI mv)]) (n := 3) (Nat.le_of_ble_eq_true rfl)
  rw [lg_entry_eq]
  generalize (lg_sl ([.ref (q 0), .int v1, .int (nI mv)]) ++ List.replicate (3 - (lg_sl ([.ref (q 0), .int v1, .int (nI mv)])).length) Slot.unset).toArray = ls at hl ⊢
  have hl : lv_has ls 3 [(0, .ref (q 0)), (1, .int v1), (2, .int (nI mv))] := hl
  refine lv_aload_n hx hb dX3_mayMove_0 rfl (lv_at hl 0 rfl) ?_
  refine va_get (ci := 3) (v := .ref (q 3)) (C := RX3) (T := TX3) (N := 26) hx hb hts hin_X3 hown hK hP 0 rfl rfl 5 (by decide) fl_16 (fun _ h9 => h9) rfl dX3_mayMove_1 ?_
  refine lv_iload_n hx hb dX3_mayMove_4 rfl (lv_at hl 2 rfl) ?_
  refine lv_iconst (v := 3) hx hb dX3_mayMove_5 (by decide) ?_
  refine lv_idiv hx hb dX3_mayMove_6 (by decide) ?_
  refine tw_top (show _ = nI (mv / 3) from tw_d3 (by omega)) ?_
  refine va_iald hx hb hK hP 1 0 rfl rfl (vp_in_nI (show (mv / 3) < 6 by omega) (by decide)) dX3_mayMove_7 ?_
  refine tw_top (show _ = ho (mv / 3) from by rw [nI_clamp (by omega)]) ?_
  refine lv_iload_n hx hb dX3_mayMove_8 rfl (lv_at hl 1 rfl) ?_
  refine tw_join (fun (y : Int32) => F0 m 30 ls (.int y :: [])) (if (ho (mv / 3)) = v1 then (if (m_X3_mayAct nc pl ea (nI (mv / 3)) (nI (mv % 3))) = 0 then 0 else 1) else 0) ?_ (fun J30_0 => ?_)
  · intro y30 hy30
    exact W.zret (ty := .boolean) hx hb hr (by rw [hy30]; (repeat' split) <;> rfl) (fun t ht _ => ⟨_, rfl, (by (unfold m_X3_mayMove; (try rw [← hy30])) <;> rfl), ht⟩) (fun _ h => nomatch h) dX3_mayMove_30
  · refine lv_icmp_ne (tgt := 29) hx hb dX3_mayMove_9 (by decide) (fun c_9 => ?_) (fun c_9 => ?_)
    · refine lv_iconst (v := 0) hx hb dX3_mayMove_29 (by decide) ?_
      exact J30_0 _ (by (rw [if_neg c_9]) <;> rfl)
    · refine lv_aload_n hx hb dX3_mayMove_12 rfl (lv_at hl 0 rfl) ?_
      refine lv_iload_n hx hb dX3_mayMove_13 rfl (lv_at hl 2 rfl) ?_
      refine lv_iconst (v := 3) hx hb dX3_mayMove_14 (by decide) ?_
      refine lv_idiv hx hb dX3_mayMove_15 (by decide) ?_
      refine tw_top (show _ = nI (mv / 3) from tw_d3 (by omega)) ?_
      refine lv_iload_n hx hb dX3_mayMove_16 rfl (lv_at hl 2 rfl) ?_
      refine lv_iconst (v := 3) hx hb dX3_mayMove_17 (by decide) ?_
      refine lv_irem hx hb dX3_mayMove_18 (by decide) ?_
      refine tw_top (show _ = nI (mv % 3) from tw_r3 (by omega)) ?_
      refine tw_cs (va_runV (As := [.int (nI (mv / 3)), .int (nI (mv % 3))]) (rest := []) ⟨hx, hb, hml, hown, hts⟩ (c_X3_mayAct l D cI cS q fa nc nt pl ea ra rs rt nr tr (nI (mv / 3)) (nI (mv % 3)) (by first | assumption | omega | exact hz60 _ | exact vp_in_nI (by omega) (by decide))) (cwV 2 hts gX3_mayMove_X3_mayAct rfl rfl rfl (by decide +kernel) ⟨Nat.le_of_ble_eq_true rfl, Nat.le_of_ble_eq_true rfl⟩) ⟨tw_Rb, va_recv hK hP (ci := 3) (q0 := 0) rfl rfl, tw_Rp (hP.sub (ws' := [((q 0), .inr (3, [.int fa, .int (nI nc), .ref (q 1), .int (nI nt), .ref (q 2), .ref (q 3), .ref (q 4), .ref (q 5), .int ea, .int (nI ra), .int (nI rs), .int (nI rt), .ref (q 6), .ref (q 7), .ref (q 8), .ref (q 9), .ref (q 10), .ref (q 11), .int (nI nr), .ref (q 12), .ref (q 13), .ref (q 14), .ref (q 15), .ref (q 16), .ref (q 17), .int tr])), ((q 4), .inl (cI, 6, .inl pl))]) [0, 2] rfl) hK⟩ rfl rfl hl.1 rfl (lv_room (Nat.le_of_ble_eq_true rfl)) dX3_mayMove_19 ⟨Nat.zero_le _, Nat.zero_le _⟩) ?_
      refine lv_if_eq (tgt := 29) hx hb dX3_mayMove_22 (by decide) (fun c_22 => ?_) (fun c_22 => ?_)
      · refine lv_iconst (v := 0) hx hb dX3_mayMove_29 (by decide) ?_
        exact J30_0 _ (by (rw [if_pos c_9]; rw [if_pos c_22]) <;> rfl)
      · refine lv_iconst (v := 1) hx hb dX3_mayMove_25 (by decide) ?_
        refine lv_goto (tgt := 30) hx hb dX3_mayMove_26 (by decide) ?_
        exact J30_0 _ (by (rw [if_pos c_9]; rw [if_neg c_22]) <;> rfl)

def m_X3_need_L51 (kd : Nat → Int32) (ho : Nat → Int32) (pl : Nat → Int32) (st : Nat → Int32) (ea : Int32) (v1 : Int32) (v2 : Int32) (i23 : Nat) : Nat → Nat → Int32 → Int32 → Int32 → Int32 × Int32 × Int32
  | 0, i51, u7_51, u6_51, u5_51 =>
    (u7_51, u6_51, u5_51)
  | k51 + 1, i51, u7_51, u6_51, u5_51 =>
    m_X3_need_L51 kd ho pl st ea v1 v2 i23 k51 (i51 + 1) (if u7_51 = 0 then 0 else (if (m_X3_isIn (nI i23) (nI i51)) = 0 then 1 else (if (ho i51) = v1 then (if (pl i51) = v2 then 0 else (if (m_X3_isIn ea (nI i51)) = 0 then 1 else 0)) else 0))) (u6_51 + (if (m_X3_isIn (nI i23) (nI i51)) = 0 then (0 : Int32) else (if v2 ≤ (pl i51) then (pl i51) - v2 else v2 - (pl i51)))) (u5_51 + (if (m_X3_isIn (nI i23) (nI i51)) = 0 then (0 : Int32) else (m_X3_mightOf kd st ea (nI i51))))
theorem m_X3_need_L51_0 (kd : Nat → Int32) (ho : Nat → Int32) (pl : Nat → Int32) (st : Nat → Int32) (ea : Int32) (v1 : Int32) (v2 : Int32) (i23 : Nat) (i51 : Nat) (u7_51 : Int32) (u6_51 : Int32) (u5_51 : Int32) : m_X3_need_L51 kd ho pl st ea v1 v2 i23 0 i51 u7_51 u6_51 u5_51 = 
    (u7_51, u6_51, u5_51) := rfl
theorem m_X3_need_L51_s (kd : Nat → Int32) (ho : Nat → Int32) (pl : Nat → Int32) (st : Nat → Int32) (ea : Int32) (v1 : Int32) (v2 : Int32) (i23 : Nat) (i51 : Nat) (u7_51 : Int32) (u6_51 : Int32) (u5_51 : Int32) (k51 : Nat) : m_X3_need_L51 kd ho pl st ea v1 v2 i23 (k51 + 1) i51 u7_51 u6_51 u5_51 = 
    m_X3_need_L51 kd ho pl st ea v1 v2 i23 k51 (i51 + 1) (if u7_51 = 0 then 0 else (if (m_X3_isIn (nI i23) (nI i51)) = 0 then 1 else (if (ho i51) = v1 then (if (pl i51) = v2 then 0 else (if (m_X3_isIn ea (nI i51)) = 0 then 1 else 0)) else 0))) (u6_51 + (if (m_X3_isIn (nI i23) (nI i51)) = 0 then (0 : Int32) else (if v2 ≤ (pl i51) then (pl i51) - v2 else v2 - (pl i51)))) (u5_51 + (if (m_X3_isIn (nI i23) (nI i51)) = 0 then (0 : Int32) else (m_X3_mightOf kd st ea (nI i51)))) := rfl
def m_X3_need_L23 (nt : Nat) (kd : Nat → Int32) (ho : Nat → Int32) (pl : Nat → Int32) (st : Nat → Int32) (ea : Int32) (v1 : Int32) (v2 : Int32) : Nat → Nat → Int32 → Int32
  | 0, i23, u3_23 =>
    u3_23
  | k23 + 1, i23, u3_23 =>
    m_X3_need_L23 nt kd ho pl st ea v1 v2 k23 (i23 + 1) (if ((m_X3_need_L51 kd ho pl st ea v1 v2 i23 nt 0 1 0 (m_X3_mightIn nt kd ho pl st ea v1 v2)).1) = 0 then u3_23 else (if ((m_X3_need_L51 kd ho pl st ea v1 v2 i23 nt 0 1 0 (m_X3_mightIn nt kd ho pl st ea v1 v2)).2.2) ≤ (m_X3_mightIn nt kd ho pl st ea (1 - v1) v2) then u3_23 else (if u3_23 < 0 then ((m_X3_need_L51 kd ho pl st ea v1 v2 i23 nt 0 1 0 (m_X3_mightIn nt kd ho pl st ea v1 v2)).2.1) else (if u3_23 ≤ ((m_X3_need_L51 kd ho pl st ea v1 v2 i23 nt 0 1 0 (m_X3_mightIn nt kd ho pl st ea v1 v2)).2.1) then u3_23 else ((m_X3_need_L51 kd ho pl st ea v1 v2 i23 nt 0 1 0 (m_X3_mightIn nt kd ho pl st ea v1 v2)).2.1)))))
theorem m_X3_need_L23_0 (nt : Nat) (kd : Nat → Int32) (ho : Nat → Int32) (pl : Nat → Int32) (st : Nat → Int32) (ea : Int32) (v1 : Int32) (v2 : Int32) (i23 : Nat) (u3_23 : Int32) : m_X3_need_L23 nt kd ho pl st ea v1 v2 0 i23 u3_23 = 
    u3_23 := rfl
theorem m_X3_need_L23_s (nt : Nat) (kd : Nat → Int32) (ho : Nat → Int32) (pl : Nat → Int32) (st : Nat → Int32) (ea : Int32) (v1 : Int32) (v2 : Int32) (i23 : Nat) (u3_23 : Int32) (k23 : Nat) : m_X3_need_L23 nt kd ho pl st ea v1 v2 (k23 + 1) i23 u3_23 = 
    m_X3_need_L23 nt kd ho pl st ea v1 v2 k23 (i23 + 1) (if ((m_X3_need_L51 kd ho pl st ea v1 v2 i23 nt 0 1 0 (m_X3_mightIn nt kd ho pl st ea v1 v2)).1) = 0 then u3_23 else (if ((m_X3_need_L51 kd ho pl st ea v1 v2 i23 nt 0 1 0 (m_X3_mightIn nt kd ho pl st ea v1 v2)).2.2) ≤ (m_X3_mightIn nt kd ho pl st ea (1 - v1) v2) then u3_23 else (if u3_23 < 0 then ((m_X3_need_L51 kd ho pl st ea v1 v2 i23 nt 0 1 0 (m_X3_mightIn nt kd ho pl st ea v1 v2)).2.1) else (if u3_23 ≤ ((m_X3_need_L51 kd ho pl st ea v1 v2 i23 nt 0 1 0 (m_X3_mightIn nt kd ho pl st ea v1 v2)).2.1) then u3_23 else ((m_X3_need_L51 kd ho pl st ea v1 v2 i23 nt 0 1 0 (m_X3_mightIn nt kd ho pl st ea v1 v2)).2.1))))) := rfl
def m_X3_need (nc : Nat) (nt : Nat) (kd : Nat → Int32) (ho : Nat → Int32) (pl : Nat → Int32) (st : Nat → Int32) (ea : Int32) (v1 : Int32) (v2 : Int32) : Int32 :=
  if (m_X3_noHouse v1) = 0 then
    if (m_X3_noSquare nc v2) = 0 then
      (m_X3_need_L23 nt kd ho pl st ea v1 v2 (2 ^ nt) 0 (-9))
    else
      (-1)
  else
    (-1)
set_option maxHeartbeats 4000000 in
set_option maxRecDepth 100000 in
theorem c_X3_need (l : Launch) (D : va_G) (cI cS : ClassId) (q : Nat → Nat) (fa : Int32) (nc : Nat) (nt : Nat) (kd : Nat → Int32) (ho : Nat → Int32) (pl : Nat → Int32) (st : Nat → Int32) (ea : Int32) (ra : Nat) (rs : Nat) (rt : Nat) (nr : Nat) (tr : Int32) (v1 : Int32) (v2 : Int32) (hn : nt ≤ 6) : Met l yX3_need wsX3_need ({ frames := 3, cells := 0, slots := 0, locals := 68 }) (tw_R D cI cS [.ref (q 0), .int v1, .int v2] [((q 0), .inr (3, [.int fa, .int (nI nc), .ref (q 1), .int (nI nt), .ref (q 2), .ref (q 3), .ref (q 4), .ref (q 5), .int ea, .int (nI ra), .int (nI rs), .int (nI rt), .ref (q 6), .ref (q 7), .ref (q 8), .ref (q 9), .ref (q 10), .ref (q 11), .int (nI nr), .ref (q 12), .ref (q 13), .ref (q 14), .ref (q 15), .ref (q 16), .ref (q 17), .int tr])), ((q 2), .inl (cI, 6, .inl kd)), ((q 3), .inl (cI, 6, .inl ho)), ((q 4), .inl (cI, 6, .inl pl)), ((q 5), .inl (cI, 6, .inl st))]) (vp_Si (fun r => r = (m_X3_need nc nt kd ho pl st ea v1 v2))) 0 0 (fun _ => False) := by
  refine Met.ofW (cc := cX3_need) (maxL := 10) (ret := (some .int)) (by decide) rfl ?_
  intro p e s m args below meth c s₁ B hml hv
  obtain ⟨rfl, hP, hK⟩ := hv
  have hx := B.exec
  have hb := B.bytes
  have hr := B.returns
  have hts := atoms_spec (ws := wsX3_need) B.pre
  have hown : s.vm.findClass RX3 = some m.cls := findClass_of_methodNamed B.named
  have hlocks := B.notSynchronized
  have fl_78 := hts (.fieldLink RX3 78 "TableWarModel" "things" "I") (by decide +kernel)
  have hin_X3 := (show ∀ w ∈ u_ws RX3 TX3 26, w ∈ wsX3_need from by decide +kernel)
  have fl_16 := hts (.fieldLink RX3 16 "TableWarModel" "houseOf" "[I") (by decide +kernel)
  have fl_19 := hts (.fieldLink RX3 19 "TableWarModel" "spotOf" "[I") (by decide +kernel)
  have fl_129 := hts (.fieldLink RX3 129 "TableWarModel" "eaten" "I") (by decide +kernel)
  have hpw := tw_p64 hn
  have hl := lv_entry ([.ref (q 0), .int v1, .int v2]) (n := 10) (Nat.le_of_ble_eq_true rfl)
  rw [lg_entry_eq]
  generalize (lg_sl ([.ref (q 0), .int v1, .int v2]) ++ List.replicate (10 - (lg_sl ([.ref (q 0), .int v1, .int v2])).length) Slot.unset).toArray = ls at hl ⊢
  have hl : lv_has ls 10 [(0, .ref (q 0)), (1, .int v1), (2, .int v2)] := hl
  refine lv_iload_n hx hb dX3_need_0 rfl (lv_at hl 1 rfl) ?_
  refine tw_cs (va_runS (As := [.int v1]) (rest := []) ⟨hx, hb, hml, hown, hts⟩ (c_X3_noHouse l D cI cS v1) (va_cwS 1 hts gX3_need_X3_noHouse rfl rfl rfl (by decide +kernel) ⟨Nat.le_of_ble_eq_true rfl, Nat.le_of_ble_eq_true rfl⟩) ⟨tw_Rb, tw_Rp (hP.sub (ws' := []) [] rfl) hK⟩ rfl rfl hl.1 rfl (lv_room (Nat.le_of_ble_eq_true rfl)) dX3_need_1 ⟨Nat.zero_le _, Nat.zero_le _⟩) ?_
  refine lv_if_ne (tgt := 15) hx hb dX3_need_4 (by decide) (fun c_4 => ?_) (fun c_4 => ?_)
  · refine lv_iconst (v := (-1)) hx hb dX3_need_15 (by decide) ?_
    exact W.iret hx hb hr (fun t ht _ => ⟨_, rfl, (by (unfold m_X3_need; rw [if_neg c_4]) <;> rfl), ht⟩) (fun _ h => nomatch h) dX3_need_16
  · refine lv_aload_n hx hb dX3_need_7 rfl (lv_at hl 0 rfl) ?_
    refine lv_iload_n hx hb dX3_need_8 rfl (lv_at hl 2 rfl) ?_
    refine tw_cs (va_runV (As := [.int v2]) (rest := []) ⟨hx, hb, hml, hown, hts⟩ (c_X3_noSquare l D cI cS q fa nc nt ea ra rs rt nr tr v2) (cwV 1 hts gX3_need_X3_noSquare rfl rfl rfl (by decide +kernel) ⟨Nat.le_of_ble_eq_true rfl, Nat.le_of_ble_eq_true rfl⟩) ⟨tw_Rb, va_recv hK hP (ci := 3) (q0 := 0) rfl rfl, tw_Rp (hP.sub (ws' := [((q 0), .inr (3, [.int fa, .int (nI nc), .ref (q 1), .int (nI nt), .ref (q 2), .ref (q 3), .ref (q 4), .ref (q 5), .int ea, .int (nI ra), .int (nI rs), .int (nI rt), .ref (q 6), .ref (q 7), .ref (q 8), .ref (q 9), .ref (q 10), .ref (q 11), .int (nI nr), .ref (q 12), .ref (q 13), .ref (q 14), .ref (q 15), .ref (q 16), .ref (q 17), .int tr]))]) [0] rfl) hK⟩ rfl rfl hl.1 rfl (lv_room (Nat.le_of_ble_eq_true rfl)) dX3_need_9 ⟨Nat.zero_le _, Nat.zero_le _⟩) ?_
    refine lv_if_eq (tgt := 17) hx hb dX3_need_12 (by decide) (fun c_12 => ?_) (fun c_12 => ?_)
    · refine lv_bipush (v := (-9)) hx hb dX3_need_17 (by decide) ?_
      refine lv_istore_n (lv' := [(3, .int (-9)), (0, .ref (q 0)), (1, .int v1), (2, .int v2)]) hx hb dX3_need_19 rfl hl (by decide) rfl (fun ls hl => ?_)
      refine lv_iconst (v := 0) hx hb dX3_need_20 (by decide) ?_
      refine lv_istore (lv' := [(4, .int 0), (3, .int (-9)), (0, .ref (q 0)), (1, .int v1), (2, .int v2)]) hx hb dX3_need_21 hl (by decide) rfl (fun ls hl => ?_)
      refine tw_loopR (σ := Int32) (fun k i z ls => i + k = 2 ^ nt ∧ m_X3_need_L23 nt kd ho pl st ea v1 v2 k i z = m_X3_need_L23 nt kd ho pl st ea v1 v2 (2 ^ nt) 0 (-9) ∧ lv_has ls 10 [(4, .int (nI i)), (3, .int z), (0, .ref (q 0)), (1, .int v1), (2, .int v2)]) (2 ^ nt) 0 (-9) ⟨Nat.zero_add _, rfl, lv_sub hl [0, 1, 2, 3, 4] rfl⟩ ?_ ?_
      · intro i23 u3_23 ls hI
        obtain ⟨hk23, hm23, hl⟩ := hI
        have hm23 : m_X3_need_L23 nt kd ho pl st ea v1 v2 0 i23 u3_23 = m_X3_need_L23 nt kd ho pl st ea v1 v2 (2 ^ nt) 0 (-9) := hm23
        have hl : lv_has ls 10 [(4, .int (nI i23)), (3, .int u3_23), (0, .ref (q 0)), (1, .int v1), (2, .int v2)] := hl
        have hm23 : u3_23 = m_X3_need_L23 nt kd ho pl st ea v1 v2 (2 ^ nt) 0 (-9) := hm23
        refine lv_iload hx hb dX3_need_23 (lv_at hl 0 rfl) ?_
        refine lv_iconst (v := 1) hx hb dX3_need_25 (by decide) ?_
        refine lv_aload_n hx hb dX3_need_26 rfl (lv_at hl 2 rfl) ?_
        refine va_get (ci := 3) (v := .int (nI nt)) (C := RX3) (T := TX3) (N := 26) hx hb hts hin_X3 hown hK hP 0 rfl rfl 3 (by decide) fl_78 (fun _ h9 => h9) rfl dX3_need_27 ?_
        refine lv_ishl hx hb dX3_need_30 ?_
        refine lv_icmp_ge (tgt := 233) hx hb dX3_need_31 (by decide) (fun c_31 => ?_) (fun c_31 => absurd (tw_tge (tw_pow nt hn) (show 2 ^ nt ≤ i23 by omega) (show i23 < 2 ^ 31 by omega)) c_31)
        refine lv_iload_n hx hb dX3_need_233 rfl (lv_at hl 1 rfl) ?_
        exact W.iret hx hb hr (fun t ht _ => ⟨_, rfl, (by (unfold m_X3_need; rw [if_pos c_4]; rw [if_pos c_12]; rw [← hm23]) <;> rfl), ht⟩) (fun _ h => nomatch h) dX3_need_234
      · intro k23 i23 u3_23 ls ih23 hI
        obtain ⟨hk23, hm23, hl⟩ := hI
        have hm23 : m_X3_need_L23 nt kd ho pl st ea v1 v2 (k23 + 1) i23 u3_23 = m_X3_need_L23 nt kd ho pl st ea v1 v2 (2 ^ nt) 0 (-9) := hm23
        have hl : lv_has ls 10 [(4, .int (nI i23)), (3, .int u3_23), (0, .ref (q 0)), (1, .int v1), (2, .int v2)] := hl
        refine lv_iload hx hb dX3_need_23 (lv_at hl 0 rfl) ?_
        refine lv_iconst (v := 1) hx hb dX3_need_25 (by decide) ?_
        refine lv_aload_n hx hb dX3_need_26 rfl (lv_at hl 2 rfl) ?_
        refine va_get (ci := 3) (v := .int (nI nt)) (C := RX3) (T := TX3) (N := 26) hx hb hts hin_X3 hown hK hP 0 rfl rfl 3 (by decide) fl_78 (fun _ h9 => h9) rfl dX3_need_27 ?_
        refine lv_ishl hx hb dX3_need_30 ?_
        refine lv_icmp_ge (tgt := 233) hx hb dX3_need_31 (by decide) (fun c_31 => absurd c_31 (tw_tlt (tw_pow nt hn) (show i23 < 2 ^ nt by omega) (show 2 ^ nt < 2 ^ 31 by omega))) (fun c_31 => ?_)
        refine lv_aload_n hx hb dX3_need_34 rfl (lv_at hl 2 rfl) ?_
        refine lv_iload_n hx hb dX3_need_35 rfl (lv_at hl 3 rfl) ?_
        refine lv_iload_n hx hb dX3_need_36 rfl (lv_at hl 4 rfl) ?_
        refine tw_cs (va_runV (As := [.int v1, .int v2]) (rest := []) ⟨hx, hb, hml, hown, hts⟩ (c_X3_mightIn l D cI cS q fa nc nt kd ho pl st ea ra rs rt nr tr v1 v2 (by first | assumption | omega | exact hz60 _ | exact vp_in_nI (by omega) (by decide))) (cwV 2 hts gX3_need_X3_mightIn rfl rfl rfl (by decide +kernel) ⟨Nat.le_of_ble_eq_true rfl, Nat.le_of_ble_eq_true rfl⟩) ⟨tw_Rb, va_recv hK hP (ci := 3) (q0 := 0) rfl rfl, tw_Rp (hP.sub (ws' := [((q 0), .inr (3, [.int fa, .int (nI nc), .ref (q 1), .int (nI nt), .ref (q 2), .ref (q 3), .ref (q 4), .ref (q 5), .int ea, .int (nI ra), .int (nI rs), .int (nI rt), .ref (q 6), .ref (q 7), .ref (q 8), .ref (q 9), .ref (q 10), .ref (q 11), .int (nI nr), .ref (q 12), .ref (q 13), .ref (q 14), .ref (q 15), .ref (q 16), .ref (q 17), .int tr])), ((q 2), .inl (cI, 6, .inl kd)), ((q 3), .inl (cI, 6, .inl ho)), ((q 4), .inl (cI, 6, .inl pl)), ((q 5), .inl (cI, 6, .inl st))]) [0, 1, 2, 3, 4] rfl) hK⟩ rfl rfl hl.1 rfl (lv_room (Nat.le_of_ble_eq_true rfl)) dX3_need_37 ⟨Nat.zero_le _, Nat.zero_le _⟩) ?_
        refine lv_istore (lv' := [(5, .int (m_X3_mightIn nt kd ho pl st ea v1 v2)), (4, .int (nI i23)), (3, .int u3_23), (0, .ref (q 0)), (1, .int v1), (2, .int v2)]) hx hb dX3_need_40 hl (by decide) rfl (fun ls hl => ?_)
        refine lv_iconst (v := 0) hx hb dX3_need_42 (by decide) ?_
        refine lv_istore (lv' := [(6, .int 0), (5, .int (m_X3_mightIn nt kd ho pl st ea v1 v2)), (4, .int (nI i23)), (3, .int u3_23), (0, .ref (q 0)), (1, .int v1), (2, .int v2)]) hx hb dX3_need_43 hl (by decide) rfl (fun ls hl => ?_)
        refine lv_iconst (v := 1) hx hb dX3_need_45 (by decide) ?_
        refine lv_istore (lv' := [(7, .int 1), (6, .int 0), (5, .int (m_X3_mightIn nt kd ho pl st ea v1 v2)), (4, .int (nI i23)), (3, .int u3_23), (0, .ref (q 0)), (1, .int v1), (2, .int v2)]) hx hb dX3_need_46 hl (by decide) rfl (fun ls hl => ?_)
        refine lv_iconst (v := 0) hx hb dX3_need_48 (by decide) ?_
        refine lv_istore (lv' := [(8, .int 0), (7, .int 1), (6, .int 0), (5, .int (m_X3_mightIn nt kd ho pl st ea v1 v2)), (4, .int (nI i23)), (3, .int u3_23), (0, .ref (q 0)), (1, .int v1), (2, .int v2)]) hx hb dX3_need_49 hl (by decide) rfl (fun ls hl => ?_)
        refine tw_loopR (σ := Int32 × Int32 × Int32) (fun k i z ls => i + k = nt ∧ m_X3_need_L51 kd ho pl st ea v1 v2 i23 k i z.1 z.2.1 z.2.2 = m_X3_need_L51 kd ho pl st ea v1 v2 i23 nt 0 1 0 (m_X3_mightIn nt kd ho pl st ea v1 v2) ∧ lv_has ls 10 [(8, .int (nI i)), (7, .int z.1), (6, .int z.2.1), (5, .int z.2.2), (4, .int (nI i23)), (3, .int u3_23), (0, .ref (q 0)), (1, .int v1), (2, .int v2)]) nt 0 (1, 0, (m_X3_mightIn nt kd ho pl st ea v1 v2)) ⟨Nat.zero_add _, rfl, lv_sub hl [0, 1, 2, 3, 4, 5, 6, 7, 8] rfl⟩ ?_ ?_
        · intro i51 z ls hI
          obtain ⟨u7_51, u6_51, u5_51⟩ := z
          obtain ⟨hk51, hm51, hl⟩ := hI
          have hm51 : m_X3_need_L51 kd ho pl st ea v1 v2 i23 0 i51 u7_51 u6_51 u5_51 = m_X3_need_L51 kd ho pl st ea v1 v2 i23 nt 0 1 0 (m_X3_mightIn nt kd ho pl st ea v1 v2) := hm51
          have hl : lv_has ls 10 [(8, .int (nI i51)), (7, .int u7_51), (6, .int u6_51), (5, .int u5_51), (4, .int (nI i23)), (3, .int u3_23), (0, .ref (q 0)), (1, .int v1), (2, .int v2)] := hl
          have hm51 : (u7_51, u6_51, u5_51) = m_X3_need_L51 kd ho pl st ea v1 v2 i23 nt 0 1 0 (m_X3_mightIn nt kd ho pl st ea v1 v2) := hm51
          refine lv_iload hx hb dX3_need_51 (lv_at hl 0 rfl) ?_
          refine lv_aload_n hx hb dX3_need_53 rfl (lv_at hl 6 rfl) ?_
          refine va_get (ci := 3) (v := .int (nI nt)) (C := RX3) (T := TX3) (N := 26) hx hb hts hin_X3 hown hK hP 0 rfl rfl 3 (by decide) fl_78 (fun _ h9 => h9) rfl dX3_need_54 ?_
          refine lv_icmp_ge (tgt := 192) hx hb dX3_need_57 (by decide) (fun c_57 => ?_) (fun c_57 => absurd (tw_tge rfl (show nt ≤ i51 by omega) (show i51 < 2 ^ 31 by omega)) c_57)
          refine lv_iload hx hb dX3_need_192 (lv_at hl 1 rfl) ?_
          refine tw_join (fun (y : Int32) => F0 m 226 ls (.int y :: [])) (if u7_51 = 0 then u3_23 else (if u5_51 ≤ (m_X3_mightIn nt kd ho pl st ea (1 - v1) v2) then u3_23 else (if u3_23 < 0 then u6_51 else (if u3_23 ≤ u6_51 then u3_23 else u6_51)))) ?_ (fun J226_3 => ?_)
          · intro y226 hy226
            refine lv_istore_n (lv' := [(3, .int y226), (8, .int (nI i51)), (7, .int u7_51), (6, .int u6_51), (5, .int u5_51), (4, .int (nI i23)), (0, .ref (q 0)), (1, .int v1), (2, .int v2)]) hx hb dX3_need_226 rfl hl (by decide) rfl (fun ls hl => ?_)
            refine lv_iinc (v := nI (i23 + 1)) (lv' := [(4, .int (nI (i23 + 1))), (3, .int y226), (8, .int (nI i51)), (7, .int u7_51), (6, .int u6_51), (5, .int u5_51), (0, .ref (q 0)), (1, .int v1), (2, .int v2)]) hx hb dX3_need_227 hl (k := 5) rfl (nI_1 _) (by decide) rfl (fun ls hl => ?_)
            refine lv_goto (tgt := 23) hx hb dX3_need_230 (by decide) ?_
            exact ih23 y226 ls ⟨by omega, (by (rw [← hm23, m_X3_need_L23_s]; rw [← hm51]; (try dsimp only); (try rw [← hy226])) <;> rfl), lv_sub hl [0, 1, 6, 7, 8] rfl⟩
          · refine lv_if_eq (tgt := 225) hx hb dX3_need_194 (by decide) (fun c_194 => ?_) (fun c_194 => ?_)
            · refine lv_iload_n hx hb dX3_need_225 rfl (lv_at hl 5 rfl) ?_
              exact J226_3 _ (by (rw [if_pos c_194]) <;> rfl)
            · refine lv_iload hx hb dX3_need_197 (lv_at hl 3 rfl) ?_
              refine lv_aload_n hx hb dX3_need_199 rfl (lv_at hl 6 rfl) ?_
              refine lv_iconst (v := 1) hx hb dX3_need_200 (by decide) ?_
              refine lv_iload_n hx hb dX3_need_201 rfl (lv_at hl 7 rfl) ?_
              refine lv_isub hx hb dX3_need_202 ?_
              refine lv_iload_n hx hb dX3_need_203 rfl (lv_at hl 8 rfl) ?_
              refine tw_cs (va_runV (As := [.int (1 - v1), .int v2]) (rest := [.int u5_51]) ⟨hx, hb, hml, hown, hts⟩ (c_X3_mightIn l D cI cS q fa nc nt kd ho pl st ea ra rs rt nr tr (1 - v1) v2 (by first | assumption | omega | exact hz60 _ | exact vp_in_nI (by omega) (by decide))) (cwV 2 hts gX3_need_X3_mightIn rfl rfl rfl (by decide +kernel) ⟨Nat.le_of_ble_eq_true rfl, Nat.le_of_ble_eq_true rfl⟩) ⟨tw_Rb, va_recv hK hP (ci := 3) (q0 := 0) rfl rfl, tw_Rp (hP.sub (ws' := [((q 0), .inr (3, [.int fa, .int (nI nc), .ref (q 1), .int (nI nt), .ref (q 2), .ref (q 3), .ref (q 4), .ref (q 5), .int ea, .int (nI ra), .int (nI rs), .int (nI rt), .ref (q 6), .ref (q 7), .ref (q 8), .ref (q 9), .ref (q 10), .ref (q 11), .int (nI nr), .ref (q 12), .ref (q 13), .ref (q 14), .ref (q 15), .ref (q 16), .ref (q 17), .int tr])), ((q 2), .inl (cI, 6, .inl kd)), ((q 3), .inl (cI, 6, .inl ho)), ((q 4), .inl (cI, 6, .inl pl)), ((q 5), .inl (cI, 6, .inl st))]) [0, 1, 2, 3, 4] rfl) hK⟩ rfl rfl hl.1 rfl (lv_room (Nat.le_of_ble_eq_true rfl)) dX3_need_204 ⟨Nat.zero_le _, Nat.zero_le _⟩) ?_
              refine lv_icmp_le (tgt := 225) hx hb dX3_need_207 (by decide) (fun c_207 => ?_) (fun c_207 => ?_)
              · refine lv_iload_n hx hb dX3_need_225 rfl (lv_at hl 5 rfl) ?_
                exact J226_3 _ (by (rw [if_neg c_194]; rw [if_pos c_207]) <;> rfl)
              · refine lv_iload_n hx hb dX3_need_210 rfl (lv_at hl 5 rfl) ?_
                refine lv_if_lt (tgt := 220) hx hb dX3_need_211 (by decide) (fun c_211 => ?_) (fun c_211 => ?_)
                · refine lv_iload hx hb dX3_need_220 (lv_at hl 2 rfl) ?_
                  refine lv_goto (tgt := 226) hx hb dX3_need_222 (by decide) ?_
                  exact J226_3 _ (by (rw [if_neg c_194]; rw [if_neg c_207]; rw [if_pos c_211]) <;> rfl)
                · refine lv_iload hx hb dX3_need_214 (lv_at hl 2 rfl) ?_
                  refine lv_iload_n hx hb dX3_need_216 rfl (lv_at hl 5 rfl) ?_
                  refine lv_icmp_ge (tgt := 225) hx hb dX3_need_217 (by decide) (fun c_217 => ?_) (fun c_217 => ?_)
                  · refine lv_iload_n hx hb dX3_need_225 rfl (lv_at hl 5 rfl) ?_
                    exact J226_3 _ (by (rw [if_neg c_194]; rw [if_neg c_207]; rw [if_neg c_211]; rw [if_pos c_217]) <;> rfl)
                  · refine lv_iload hx hb dX3_need_220 (lv_at hl 2 rfl) ?_
                    refine lv_goto (tgt := 226) hx hb dX3_need_222 (by decide) ?_
                    exact J226_3 _ (by (rw [if_neg c_194]; rw [if_neg c_207]; rw [if_neg c_211]; rw [if_neg c_217]) <;> rfl)
        · intro k51 i51 z ls ih51 hI
          obtain ⟨u7_51, u6_51, u5_51⟩ := z
          obtain ⟨hk51, hm51, hl⟩ := hI
          have hm51 : m_X3_need_L51 kd ho pl st ea v1 v2 i23 (k51 + 1) i51 u7_51 u6_51 u5_51 = m_X3_need_L51 kd ho pl st ea v1 v2 i23 nt 0 1 0 (m_X3_mightIn nt kd ho pl st ea v1 v2) := hm51
          have hl : lv_has ls 10 [(8, .int (nI i51)), (7, .int u7_51), (6, .int u6_51), (5, .int u5_51), (4, .int (nI i23)), (3, .int u3_23), (0, .ref (q 0)), (1, .int v1), (2, .int v2)] := hl
          refine lv_iload hx hb dX3_need_51 (lv_at hl 0 rfl) ?_
          refine lv_aload_n hx hb dX3_need_53 rfl (lv_at hl 6 rfl) ?_
          refine va_get (ci := 3) (v := .int (nI nt)) (C := RX3) (T := TX3) (N := 26) hx hb hts hin_X3 hown hK hP 0 rfl rfl 3 (by decide) fl_78 (fun _ h9 => h9) rfl dX3_need_54 ?_
          refine lv_icmp_ge (tgt := 192) hx hb dX3_need_57 (by decide) (fun c_57 => absurd c_57 (tw_tlt rfl (show i51 < nt by omega) (show nt < 2 ^ 31 by omega))) (fun c_57 => ?_)
          refine lv_iload hx hb dX3_need_60 (lv_at hl 4 rfl) ?_
          refine lv_iload hx hb dX3_need_62 (lv_at hl 0 rfl) ?_
          refine tw_cs (va_runS (As := [.int (nI i23), .int (nI i51)]) (rest := []) ⟨hx, hb, hml, hown, hts⟩ (c_X3_isIn l D cI cS (nI i23) (nI i51)) (va_cwS 2 hts gX3_need_X3_isIn rfl rfl rfl (by decide +kernel) ⟨Nat.le_of_ble_eq_true rfl, Nat.le_of_ble_eq_true rfl⟩) ⟨tw_Rb, tw_Rp (hP.sub (ws' := []) [] rfl) hK⟩ rfl rfl hl.1 rfl (lv_room (Nat.le_of_ble_eq_true rfl)) dX3_need_64 ⟨Nat.zero_le _, Nat.zero_le _⟩) ?_
          refine lv_istore (lv' := [(9, .int (m_X3_isIn (nI i23) (nI i51))), (8, .int (nI i51)), (7, .int u7_51), (6, .int u6_51), (5, .int u5_51), (4, .int (nI i23)), (3, .int u3_23), (0, .ref (q 0)), (1, .int v1), (2, .int v2)]) hx hb dX3_need_67 hl (by decide) rfl (fun ls hl => ?_)
          refine lv_iload hx hb dX3_need_69 (lv_at hl 2 rfl) ?_
          refine tw_join (fun (y : Int32) => F0 m 118 ls (.int y :: [])) (if u7_51 = 0 then 0 else (if (m_X3_isIn (nI i23) (nI i51)) = 0 then 1 else (if (ho i51) = v1 then (if (pl i51) = v2 then 0 else (if (m_X3_isIn ea (nI i51)) = 0 then 1 else 0)) else 0))) ?_ (fun J118_0 => ?_)
          · intro y118 hy118
            refine lv_istore (lv' := [(7, .int y118), (9, .int (m_X3_isIn (nI i23) (nI i51))), (8, .int (nI i51)), (6, .int u6_51), (5, .int u5_51), (4, .int (nI i23)), (3, .int u3_23), (0, .ref (q 0)), (1, .int v1), (2, .int v2)]) hx hb dX3_need_118 hl (by decide) rfl (fun ls hl => ?_)
            refine lv_iload hx hb dX3_need_120 (lv_at hl 4 rfl) ?_
            refine lv_iload hx hb dX3_need_122 (lv_at hl 1 rfl) ?_
            refine tw_join (fun (y : Int32) => F0 m 137 ls (.int y :: .int u5_51 :: [])) (if (m_X3_isIn (nI i23) (nI i51)) = 0 then (0 : Int32) else (m_X3_mightOf kd st ea (nI i51))) ?_ (fun J137_1 => ?_)
            · intro y137 hy137
              refine lv_iadd hx hb dX3_need_137 ?_
              refine lv_istore (lv' := [(5, .int (u5_51 + y137)), (7, .int y118), (9, .int (m_X3_isIn (nI i23) (nI i51))), (8, .int (nI i51)), (6, .int u6_51), (4, .int (nI i23)), (3, .int u3_23), (0, .ref (q 0)), (1, .int v1), (2, .int v2)]) hx hb dX3_need_138 hl (by decide) rfl (fun ls hl => ?_)
              refine lv_iload hx hb dX3_need_140 (lv_at hl 4 rfl) ?_
              refine lv_iload hx hb dX3_need_142 (lv_at hl 2 rfl) ?_
              refine tw_join (fun (y : Int32) => F0 m 183 ls (.int y :: .int u6_51 :: [])) (if (m_X3_isIn (nI i23) (nI i51)) = 0 then (0 : Int32) else (if v2 ≤ (pl i51) then (pl i51) - v2 else v2 - (pl i51))) ?_ (fun J183_2 => ?_)
              · intro y183 hy183
                refine lv_iadd hx hb dX3_need_183 ?_
                refine lv_istore (lv' := [(6, .int (u6_51 + y183)), (5, .int (u5_51 + y137)), (7, .int y118), (9, .int (m_X3_isIn (nI i23) (nI i51))), (8, .int (nI i51)), (4, .int (nI i23)), (3, .int u3_23), (0, .ref (q 0)), (1, .int v1), (2, .int v2)]) hx hb dX3_need_184 hl (by decide) rfl (fun ls hl => ?_)
                refine lv_iinc (v := nI (i51 + 1)) (lv' := [(8, .int (nI (i51 + 1))), (6, .int (u6_51 + y183)), (5, .int (u5_51 + y137)), (7, .int y118), (9, .int (m_X3_isIn (nI i23) (nI i51))), (4, .int (nI i23)), (3, .int u3_23), (0, .ref (q 0)), (1, .int v1), (2, .int v2)]) hx hb dX3_need_186 hl (k := 4) rfl (nI_1 _) (by decide) rfl (fun ls hl => ?_)
                refine lv_goto (tgt := 51) hx hb dX3_need_189 (by decide) ?_
                exact ih51 (y118, u6_51 + y183, u5_51 + y137) ls ⟨by omega, (by (rw [← hm51, m_X3_need_L51_s]; (try rw [← hy118]); (try rw [← hy137]); (try rw [← hy183])) <;> rfl), lv_sub hl [0, 3, 1, 2, 5, 6, 7, 8, 9] rfl⟩
              · refine lv_if_eq (tgt := 182) hx hb dX3_need_144 (by decide) (fun c_144 => ?_) (fun c_144 => ?_)
                · refine lv_iconst (v := 0) hx hb dX3_need_182 (by decide) ?_
                  exact J183_2 _ (by (rw [if_pos c_144]) <;> rfl)
                · refine lv_aload_n hx hb dX3_need_147 rfl (lv_at hl 7 rfl) ?_
                  refine va_get (ci := 3) (v := .ref (q 4)) (C := RX3) (T := TX3) (N := 26) hx hb hts hin_X3 hown hK hP 0 rfl rfl 6 (by decide) fl_19 (fun _ h9 => h9) rfl dX3_need_148 ?_
                  refine lv_iload hx hb dX3_need_151 (lv_at hl 3 rfl) ?_
                  refine va_iald hx hb hK hP 3 0 rfl rfl (vp_in_nI (show i51 < 6 by omega) (by decide)) dX3_need_153 ?_
                  refine tw_top (show _ = pl i51 from by rw [nI_clamp (by omega)]) ?_
                  refine lv_iload_n hx hb dX3_need_154 rfl (lv_at hl 9 rfl) ?_
                  refine lv_icmp_ge (tgt := 170) hx hb dX3_need_155 (by decide) (fun c_155 => ?_) (fun c_155 => ?_)
                  · refine lv_aload_n hx hb dX3_need_170 rfl (lv_at hl 7 rfl) ?_
                    refine va_get (ci := 3) (v := .ref (q 4)) (C := RX3) (T := TX3) (N := 26) hx hb hts hin_X3 hown hK hP 0 rfl rfl 6 (by decide) fl_19 (fun _ h9 => h9) rfl dX3_need_171 ?_
                    refine lv_iload hx hb dX3_need_174 (lv_at hl 3 rfl) ?_
                    refine va_iald hx hb hK hP 3 0 rfl rfl (vp_in_nI (show i51 < 6 by omega) (by decide)) dX3_need_176 ?_
                    refine tw_top (show _ = pl i51 from by rw [nI_clamp (by omega)]) ?_
                    refine lv_iload_n hx hb dX3_need_177 rfl (lv_at hl 9 rfl) ?_
                    refine lv_isub hx hb dX3_need_178 ?_
                    refine lv_goto (tgt := 183) hx hb dX3_need_179 (by decide) ?_
                    exact J183_2 _ (by (rw [if_neg c_144]; rw [if_pos c_155]) <;> rfl)
                  · refine lv_iload_n hx hb dX3_need_158 rfl (lv_at hl 9 rfl) ?_
                    refine lv_aload_n hx hb dX3_need_159 rfl (lv_at hl 7 rfl) ?_
                    refine va_get (ci := 3) (v := .ref (q 4)) (C := RX3) (T := TX3) (N := 26) hx hb hts hin_X3 hown hK hP 0 rfl rfl 6 (by decide) fl_19 (fun _ h9 => h9) rfl dX3_need_160 ?_
                    refine lv_iload hx hb dX3_need_163 (lv_at hl 3 rfl) ?_
                    refine va_iald hx hb hK hP 3 0 rfl rfl (vp_in_nI (show i51 < 6 by omega) (by decide)) dX3_need_165 ?_
                    refine tw_top (show _ = pl i51 from by rw [nI_clamp (by omega)]) ?_
                    refine lv_isub hx hb dX3_need_166 ?_
                    refine lv_goto (tgt := 183) hx hb dX3_need_167 (by decide) ?_
                    exact J183_2 _ (by (rw [if_neg c_144]; rw [if_neg c_155]) <;> rfl)
            · refine lv_if_eq (tgt := 136) hx hb dX3_need_124 (by decide) (fun c_124 => ?_) (fun c_124 => ?_)
              · refine lv_iconst (v := 0) hx hb dX3_need_136 (by decide) ?_
                exact J137_1 _ (by (rw [if_pos c_124]) <;> rfl)
              · refine lv_aload_n hx hb dX3_need_127 rfl (lv_at hl 7 rfl) ?_
                refine lv_iload hx hb dX3_need_128 (lv_at hl 2 rfl) ?_
                refine tw_cs (va_runV (As := [.int (nI i51)]) (rest := [.int u5_51]) ⟨hx, hb, hml, hown, hts⟩ (c_X3_mightOf l D cI cS q fa nc nt kd st ea ra rs rt nr tr (nI i51) (by first | assumption | omega | exact hz60 _ | exact vp_in_nI (by omega) (by decide))) (cwV 1 hts gX3_need_X3_mightOf rfl rfl rfl (by decide +kernel) ⟨Nat.le_of_ble_eq_true rfl, Nat.le_of_ble_eq_true rfl⟩) ⟨tw_Rb, va_recv hK hP (ci := 3) (q0 := 0) rfl rfl, tw_Rp (hP.sub (ws' := [((q 0), .inr (3, [.int fa, .int (nI nc), .ref (q 1), .int (nI nt), .ref (q 2), .ref (q 3), .ref (q 4), .ref (q 5), .int ea, .int (nI ra), .int (nI rs), .int (nI rt), .ref (q 6), .ref (q 7), .ref (q 8), .ref (q 9), .ref (q 10), .ref (q 11), .int (nI nr), .ref (q 12), .ref (q 13), .ref (q 14), .ref (q 15), .ref (q 16), .ref (q 17), .int tr])), ((q 2), .inl (cI, 6, .inl kd)), ((q 5), .inl (cI, 6, .inl st))]) [0, 1, 4] rfl) hK⟩ rfl rfl hl.1 rfl (lv_room (Nat.le_of_ble_eq_true rfl)) dX3_need_130 ⟨Nat.zero_le _, Nat.zero_le _⟩) ?_
                refine lv_goto (tgt := 137) hx hb dX3_need_133 (by decide) ?_
                exact J137_1 _ (by (rw [if_neg c_124]) <;> rfl)
          · refine lv_if_eq (tgt := 117) hx hb dX3_need_71 (by decide) (fun c_71 => ?_) (fun c_71 => ?_)
            · refine lv_iconst (v := 0) hx hb dX3_need_117 (by decide) ?_
              exact J118_0 _ (by (rw [if_pos c_71]) <;> rfl)
            · refine lv_iload hx hb dX3_need_74 (lv_at hl 0 rfl) ?_
              refine lv_if_eq (tgt := 113) hx hb dX3_need_76 (by decide) (fun c_76 => ?_) (fun c_76 => ?_)
              · refine lv_iconst (v := 1) hx hb dX3_need_113 (by decide) ?_
                refine lv_goto (tgt := 118) hx hb dX3_need_114 (by decide) ?_
                exact J118_0 _ (by (rw [if_neg c_71]; rw [if_pos c_76]) <;> rfl)
              · refine lv_aload_n hx hb dX3_need_79 rfl (lv_at hl 7 rfl) ?_
                refine va_get (ci := 3) (v := .ref (q 3)) (C := RX3) (T := TX3) (N := 26) hx hb hts hin_X3 hown hK hP 0 rfl rfl 5 (by decide) fl_16 (fun _ h9 => h9) rfl dX3_need_80 ?_
                refine lv_iload hx hb dX3_need_83 (lv_at hl 1 rfl) ?_
                refine va_iald hx hb hK hP 2 0 rfl rfl (vp_in_nI (show i51 < 6 by omega) (by decide)) dX3_need_85 ?_
                refine tw_top (show _ = ho i51 from by rw [nI_clamp (by omega)]) ?_
                refine lv_iload_n hx hb dX3_need_86 rfl (lv_at hl 8 rfl) ?_
                refine lv_icmp_ne (tgt := 117) hx hb dX3_need_87 (by decide) (fun c_87 => ?_) (fun c_87 => ?_)
                · refine lv_iconst (v := 0) hx hb dX3_need_117 (by decide) ?_
                  exact J118_0 _ (by (rw [if_neg c_71]; rw [if_neg c_76]; rw [if_neg c_87]) <;> rfl)
                · refine lv_aload_n hx hb dX3_need_90 rfl (lv_at hl 7 rfl) ?_
                  refine va_get (ci := 3) (v := .ref (q 4)) (C := RX3) (T := TX3) (N := 26) hx hb hts hin_X3 hown hK hP 0 rfl rfl 6 (by decide) fl_19 (fun _ h9 => h9) rfl dX3_need_91 ?_
                  refine lv_iload hx hb dX3_need_94 (lv_at hl 1 rfl) ?_
                  refine va_iald hx hb hK hP 3 0 rfl rfl (vp_in_nI (show i51 < 6 by omega) (by decide)) dX3_need_96 ?_
                  refine tw_top (show _ = pl i51 from by rw [nI_clamp (by omega)]) ?_
                  refine lv_iload_n hx hb dX3_need_97 rfl (lv_at hl 9 rfl) ?_
                  refine lv_icmp_eq (tgt := 117) hx hb dX3_need_98 (by decide) (fun c_98 => ?_) (fun c_98 => ?_)
                  · refine lv_iconst (v := 0) hx hb dX3_need_117 (by decide) ?_
                    exact J118_0 _ (by (rw [if_neg c_71]; rw [if_neg c_76]; rw [if_pos c_87]; rw [if_pos c_98]) <;> rfl)
                  · refine lv_aload_n hx hb dX3_need_101 rfl (lv_at hl 7 rfl) ?_
                    refine va_get (ci := 3) (v := .int ea) (C := RX3) (T := TX3) (N := 26) hx hb hts hin_X3 hown hK hP 0 rfl rfl 8 (by decide) fl_129 (fun _ h9 => h9) rfl dX3_need_102 ?_
                    refine lv_iload hx hb dX3_need_105 (lv_at hl 1 rfl) ?_
                    refine tw_cs (va_runS (As := [.int ea, .int (nI i51)]) (rest := []) ⟨hx, hb, hml, hown, hts⟩ (c_X3_isIn l D cI cS ea (nI i51)) (va_cwS 2 hts gX3_need_X3_isIn rfl rfl rfl (by decide +kernel) ⟨Nat.le_of_ble_eq_true rfl, Nat.le_of_ble_eq_true rfl⟩) ⟨tw_Rb, tw_Rp (hP.sub (ws' := []) [] rfl) hK⟩ rfl rfl hl.1 rfl (lv_room (Nat.le_of_ble_eq_true rfl)) dX3_need_107 ⟨Nat.zero_le _, Nat.zero_le _⟩) ?_
                    refine lv_if_ne (tgt := 117) hx hb dX3_need_110 (by decide) (fun c_110 => ?_) (fun c_110 => ?_)
                    · refine lv_iconst (v := 0) hx hb dX3_need_117 (by decide) ?_
                      exact J118_0 _ (by (rw [if_neg c_71]; rw [if_neg c_76]; rw [if_pos c_87]; rw [if_neg c_98]; rw [if_neg c_110]) <;> rfl)
                    · refine lv_iconst (v := 1) hx hb dX3_need_113 (by decide) ?_
                      refine lv_goto (tgt := 118) hx hb dX3_need_114 (by decide) ?_
                      exact J118_0 _ (by (rw [if_neg c_71]; rw [if_neg c_76]; rw [if_pos c_87]; rw [if_neg c_98]; rw [if_pos c_110]) <;> rfl)
    · refine lv_iconst (v := (-1)) hx hb dX3_need_15 (by decide) ?_
      exact W.iret hx hb hr (fun t ht _ => ⟨_, rfl, (by (unfold m_X3_need; rw [if_pos c_4]; rw [if_neg c_12]) <;> rfl), ht⟩) (fun _ h => nomatch h) dX3_need_16

def m_X3_reading (nc : Nat) (nr : Nat) (rc : Nat → Int32) (rh : Nat → Int32) (v1 : Int32) (v2 : Int32) : Int32 × (Nat → Int32) × (Nat → Int32) × Nat :=
  if (m_X3_noSquare nc v1) = 0 then
    if v2 = (-9) then
      if (nI nr) = 8 then
        ((-4), rc, rh, nr)
      else
        ((nI (nr + 1)) - 1, upd rc nr v1, upd rh nr v2, (nr + 1))
    else
      if (m_X3_noHouse v2) = 0 then
        if (nI nr) = 8 then
          ((-4), rc, rh, nr)
        else
          ((nI (nr + 1)) - 1, upd rc nr v1, upd rh nr v2, (nr + 1))
      else
        ((-1), rc, rh, nr)
  else
    ((-1), rc, rh, nr)
set_option maxHeartbeats 4000000 in
set_option maxRecDepth 100000 in
theorem c_X3_reading (l : Launch) (D : va_G) (cI cS : ClassId) (q : Nat → Nat) (hz : Nat) (fa : Int32) (nc : Nat) (nt : Nat) (ea : Int32) (ra : Nat) (rs : Nat) (rt : Nat) (nr : Nat) (rc : Nat → Int32) (rh : Nat → Int32) (tr : Int32) (v1 : Int32) (v2 : Int32) (hr8 : nr ≤ 8) : Met l yX3_reading wsX3_reading ({ frames := 2, cells := 0, slots := 0, locals := 46 }) (tw_W D cI cS [.ref (q 0), .int v1, .int v2] hz [((q 0), .inr (3, [.int fa, .int (nI nc), .ref (q 1), .int (nI nt), .ref (q 2), .ref (q 3), .ref (q 4), .ref (q 5), .int ea, .int (nI ra), .int (nI rs), .int (nI rt), .ref (q 6), .ref (q 7), .ref (q 8), .ref (q 9), .ref (q 10), .ref (q 11), .int (nI nr), .ref (q 12), .ref (q 13), .ref (q 14), .ref (q 15), .ref (q 16), .ref (q 17), .int tr])), ((q 12), .inl (cI, 8, .inl rc)), ((q 13), .inl (cI, 8, .inl rh))]) (va_Qi (fun r (_ : Unit) => r = (m_X3_reading nc nr rc rh v1 v2).1) (tw_B D cI cS (va_A [((q 0), .inr (3, [.int fa, .int (nI nc), .ref (q 1), .int (nI nt), .ref (q 2), .ref (q 3), .ref (q 4), .ref (q 5), .int ea, .int (nI ra), .int (nI rs), .int (nI rt), .ref (q 6), .ref (q 7), .ref (q 8), .ref (q 9), .ref (q 10), .ref (q 11), .int (nI nr), .ref (q 12), .ref (q 13), .ref (q 14), .ref (q 15), .ref (q 16), .ref (q 17), .int tr])), ((q 12), .inl (cI, 8, .inl rc)), ((q 13), .inl (cI, 8, .inl rh))] hz) [((q 0), .inr (3, [.int fa, .int (nI nc), .ref (q 1), .int (nI nt), .ref (q 2), .ref (q 3), .ref (q 4), .ref (q 5), .int ea, .int (nI ra), .int (nI rs), .int (nI rt), .ref (q 6), .ref (q 7), .ref (q 8), .ref (q 9), .ref (q 10), .ref (q 11), .int (nI ((m_X3_reading nc nr rc rh v1 v2).2.2.2)), .ref (q 12), .ref (q 13), .ref (q 14), .ref (q 15), .ref (q 16), .ref (q 17), .int tr])), ((q 12), .inl (cI, 8, .inl ((m_X3_reading nc nr rc rh v1 v2).2.1))), ((q 13), .inl (cI, 8, .inl ((m_X3_reading nc nr rc rh v1 v2).2.2.1)))]) (va_A [((q 0), .inr (3, [.int fa, .int (nI nc), .ref (q 1), .int (nI nt), .ref (q 2), .ref (q 3), .ref (q 4), .ref (q 5), .int ea, .int (nI ra), .int (nI rs), .int (nI rt), .ref (q 6), .ref (q 7), .ref (q 8), .ref (q 9), .ref (q 10), .ref (q 11), .int (nI nr), .ref (q 12), .ref (q 13), .ref (q 14), .ref (q 15), .ref (q 16), .ref (q 17), .int tr])), ((q 12), .inl (cI, 8, .inl rc)), ((q 13), .inl (cI, 8, .inl rh))] hz)) 0 0 (va_A [((q 0), .inr (3, [.int fa, .int (nI nc), .ref (q 1), .int (nI nt), .ref (q 2), .ref (q 3), .ref (q 4), .ref (q 5), .int ea, .int (nI ra), .int (nI rs), .int (nI rt), .ref (q 6), .ref (q 7), .ref (q 8), .ref (q 9), .ref (q 10), .ref (q 11), .int (nI nr), .ref (q 12), .ref (q 13), .ref (q 14), .ref (q 15), .ref (q 16), .ref (q 17), .int tr])), ((q 12), .inl (cI, 8, .inl rc)), ((q 13), .inl (cI, 8, .inl rh))] hz) := by
  refine Met.ofW (cc := cX3_reading) (maxL := 3) (ret := (some .int)) (by decide) rfl ?_
  intro p e s m args below meth c s₁ B hml hv
  obtain ⟨rfl, hsz, hP, hK, hD0⟩ := hv
  have hx := B.exec
  have hb := B.bytes
  have hr := B.returns
  have hts := atoms_spec (ws := wsX3_reading) B.pre
  have hown : s.vm.findClass RX3 = some m.cls := findClass_of_methodNamed B.named
  have hlocks := B.notSynchronized
  subst hsz
  have hD := hD0.self (sz := s.heap.size)
  generalize hAe : va_A [((q 0), .inr (3, [.int fa, .int (nI nc), .ref (q 1), .int (nI nt), .ref (q 2), .ref (q 3), .ref (q 4), .ref (q 5), .int ea, .int (nI ra), .int (nI rs), .int (nI rt), .ref (q 6), .ref (q 7), .ref (q 8), .ref (q 9), .ref (q 10), .ref (q 11), .int (nI nr), .ref (q 12), .ref (q 13), .ref (q 14), .ref (q 15), .ref (q 16), .ref (q 17), .int tr])), ((q 12), .inl (cI, 8, .inl rc)), ((q 13), .inl (cI, 8, .inl rh))] s.heap.size = A at hD ⊢
  have hA : ∀ q : Nat, s.heap.size ≤ q → A q := fun q h => by rw [← hAe]; exact Or.inr h
  have hS : va_S A s.heap s.heap [] := va_S.rf
  have fl_132 := hts (.fieldLink RX3 132 "TableWarModel" "readings" "I") (by decide +kernel)
  have hin_X3 := (show ∀ w ∈ u_ws RX3 TX3 26, w ∈ wsX3_reading from by decide +kernel)
  have fl_43 := hts (.fieldLink RX3 43 "TableWarModel" "readingOf" "[I") (by decide +kernel)
  have fl_46 := hts (.fieldLink RX3 46 "TableWarModel" "readingBy" "[I") (by decide +kernel)
  have hl := lv_entry ([.ref (q 0), .int v1, .int v2]) (n := 3) (Nat.le_of_ble_eq_true rfl)
  rw [lg_entry_eq]
  generalize (lg_sl ([.ref (q 0), .int v1, .int v2]) ++ List.replicate (3 - (lg_sl ([.ref (q 0), .int v1, .int v2])).length) Slot.unset).toArray = ls at hl ⊢
  have hl : lv_has ls 3 [(0, .ref (q 0)), (1, .int v1), (2, .int v2)] := hl
  refine lv_aload_n hx hb dX3_reading_0 rfl (lv_at hl 0 rfl) ?_
  refine lv_iload_n hx hb dX3_reading_1 rfl (lv_at hl 1 rfl) ?_
  refine tw_cs (va_runV (As := [.int v1]) (rest := []) ⟨hx, hb, hml, hown, hts⟩ (c_X3_noSquare l D cI cS q fa nc nt ea ra rs rt nr tr v1) (cwV 1 hts gX3_reading_X3_noSquare rfl rfl rfl (by decide +kernel) ⟨Nat.le_of_ble_eq_true rfl, Nat.le_of_ble_eq_true rfl⟩) ⟨tw_Rb, va_recv hK hP (ci := 3) (q0 := 0) rfl rfl, tw_Rp (hP.sub (ws' := [((q 0), .inr (3, [.int fa, .int (nI nc), .ref (q 1), .int (nI nt), .ref (q 2), .ref (q 3), .ref (q 4), .ref (q 5), .int ea, .int (nI ra), .int (nI rs), .int (nI rt), .ref (q 6), .ref (q 7), .ref (q 8), .ref (q 9), .ref (q 10), .ref (q 11), .int (nI nr), .ref (q 12), .ref (q 13), .ref (q 14), .ref (q 15), .ref (q 16), .ref (q 17), .int tr]))]) [0] rfl) hK⟩ rfl rfl hl.1 rfl (lv_room (Nat.le_of_ble_eq_true rfl)) dX3_reading_2 ⟨Nat.zero_le _, Nat.zero_le _⟩) ?_
  refine lv_if_ne (tgt := 21) hx hb dX3_reading_5 (by decide) (fun c_5 => ?_) (fun c_5 => ?_)
  · refine lv_iconst (v := (-1)) hx hb dX3_reading_21 (by decide) ?_
    have hE : (m_X3_reading nc nr rc rh v1 v2) = ((-1), rc, rh, nr) := Eq.symm (by (unfold m_X3_reading; rw [if_neg c_5]) <;> rfl)
    rw [hE]
    exact W.iret hx hb hr (fun t ht hW => ⟨⟨_, (), rfl, rfl, by rw [ht]; exact hP, va_K.moved hW.alike hK, hD⟩, hS.F ht⟩) hS.2.2 dX3_reading_22
  · refine lv_iload_n hx hb dX3_reading_8 rfl (lv_at hl 2 rfl) ?_
    refine lv_bipush (v := (-9)) hx hb dX3_reading_9 (by decide) ?_
    refine lv_icmp_eq (tgt := 23) hx hb dX3_reading_11 (by decide) (fun c_11 => ?_) (fun c_11 => ?_)
    · refine lv_aload_n hx hb dX3_reading_23 rfl (lv_at hl 0 rfl) ?_
      refine va_get (ci := 3) (v := .int (nI nr)) (C := RX3) (T := TX3) (N := 26) hx hb hts hin_X3 hown hK hP 0 rfl rfl 18 (by decide) fl_132 (fun _ h9 => h9) rfl dX3_reading_24 ?_
      refine lv_bipush (v := 8) hx hb dX3_reading_27 (by decide) ?_
      refine lv_icmp_ne (tgt := 35) hx hb dX3_reading_29 (by decide) (fun c_29 => ?_) (fun c_29 => ?_)
      · have hlt : nr < 8 := by rcases Nat.lt_or_eq_of_le hr8 with q | q; exact q; exact absurd (by rw [q]; rfl) c_29
        refine lv_aload_n hx hb dX3_reading_35 rfl (lv_at hl 0 rfl) ?_
        refine va_get (ci := 3) (v := .ref (q 12)) (C := RX3) (T := TX3) (N := 26) hx hb hts hin_X3 hown hK hP 0 rfl rfl 19 (by decide) fl_43 (fun _ h9 => h9) rfl dX3_reading_36 ?_
        refine lv_aload_n hx hb dX3_reading_39 rfl (lv_at hl 0 rfl) ?_
        refine va_get (ci := 3) (v := .int (nI nr)) (C := RX3) (T := TX3) (N := 26) hx hb hts hin_X3 hown hK hP 0 rfl rfl 18 (by decide) fl_132 (fun _ h9 => h9) rfl dX3_reading_40 ?_
        refine lv_iload_n hx hb dX3_reading_43 rfl (lv_at hl 1 rfl) ?_
        refine va_iast hx hb hK hP hD hS 1 0 rfl rfl (vp_in_nI (show nr < 8 by omega) (by decide)) dX3_reading_44 (fun H locs hP hD hS => ?_)
        rw [nI_clamp (show nr < 2 ^ 31 by omega)] at hP hD
        have hP : va_P D vwCl [((q 0), .inr (3, [.int fa, .int (nI nc), .ref (q 1), .int (nI nt), .ref (q 2), .ref (q 3), .ref (q 4), .ref (q 5), .int ea, .int (nI ra), .int (nI rs), .int (nI rt), .ref (q 6), .ref (q 7), .ref (q 8), .ref (q 9), .ref (q 10), .ref (q 11), .int (nI nr), .ref (q 12), .ref (q 13), .ref (q 14), .ref (q 15), .ref (q 16), .ref (q 17), .int tr])), ((q 12), .inl (cI, 8, .inl (upd rc nr v1))), ((q 13), .inl (cI, 8, .inl rh))] H := hP
        have hD : va_D A [((q 0), .inr (3, [.int fa, .int (nI nc), .ref (q 1), .int (nI nt), .ref (q 2), .ref (q 3), .ref (q 4), .ref (q 5), .int ea, .int (nI ra), .int (nI rs), .int (nI rt), .ref (q 6), .ref (q 7), .ref (q 8), .ref (q 9), .ref (q 10), .ref (q 11), .int (nI nr), .ref (q 12), .ref (q 13), .ref (q 14), .ref (q 15), .ref (q 16), .ref (q 17), .int tr])), ((q 12), .inl (cI, 8, .inl (upd rc nr v1))), ((q 13), .inl (cI, 8, .inl rh))] := hD
        refine lv_aload_n hx hb dX3_reading_45 rfl (lv_at hl 0 rfl) ?_
        refine va_get (ci := 3) (v := .ref (q 13)) (C := RX3) (T := TX3) (N := 26) hx hb hts hin_X3 hown hK hP 0 rfl rfl 20 (by decide) fl_46 (fun _ h9 => h9) rfl dX3_reading_46 ?_
        refine lv_aload_n hx hb dX3_reading_49 rfl (lv_at hl 0 rfl) ?_
        refine va_get (ci := 3) (v := .int (nI nr)) (C := RX3) (T := TX3) (N := 26) hx hb hts hin_X3 hown hK hP 0 rfl rfl 18 (by decide) fl_132 (fun _ h9 => h9) rfl dX3_reading_50 ?_
        refine lv_iload_n hx hb dX3_reading_53 rfl (lv_at hl 2 rfl) ?_
        refine va_iast hx hb hK hP hD hS 2 0 rfl rfl (vp_in_nI (show nr < 8 by omega) (by decide)) dX3_reading_54 (fun H locs hP hD hS => ?_)
        rw [nI_clamp (show nr < 2 ^ 31 by omega)] at hP hD
        have hP : va_P D vwCl [((q 0), .inr (3, [.int fa, .int (nI nc), .ref (q 1), .int (nI nt), .ref (q 2), .ref (q 3), .ref (q 4), .ref (q 5), .int ea, .int (nI ra), .int (nI rs), .int (nI rt), .ref (q 6), .ref (q 7), .ref (q 8), .ref (q 9), .ref (q 10), .ref (q 11), .int (nI nr), .ref (q 12), .ref (q 13), .ref (q 14), .ref (q 15), .ref (q 16), .ref (q 17), .int tr])), ((q 12), .inl (cI, 8, .inl (upd rc nr v1))), ((q 13), .inl (cI, 8, .inl (upd rh nr v2)))] H := hP
        have hD : va_D A [((q 0), .inr (3, [.int fa, .int (nI nc), .ref (q 1), .int (nI nt), .ref (q 2), .ref (q 3), .ref (q 4), .ref (q 5), .int ea, .int (nI ra), .int (nI rs), .int (nI rt), .ref (q 6), .ref (q 7), .ref (q 8), .ref (q 9), .ref (q 10), .ref (q 11), .int (nI nr), .ref (q 12), .ref (q 13), .ref (q 14), .ref (q 15), .ref (q 16), .ref (q 17), .int tr])), ((q 12), .inl (cI, 8, .inl (upd rc nr v1))), ((q 13), .inl (cI, 8, .inl (upd rh nr v2)))] := hD
        refine lv_aload_n hx hb dX3_reading_55 rfl (lv_at hl 0 rfl) ?_
        refine lv_dup hx hb dX3_reading_56 rfl ?_
        refine va_get (ci := 3) (v := .int (nI nr)) (C := RX3) (T := TX3) (N := 26) hx hb hts hin_X3 hown hK hP 0 rfl rfl 18 (by decide) fl_132 (fun _ h9 => h9) rfl dX3_reading_57 ?_
        refine lv_iconst (v := 1) hx hb dX3_reading_60 (by decide) ?_
        refine lv_iadd hx hb dX3_reading_61 ?_
        refine tw_top (nI_1 nr) ?_
        refine va_put (ci := 3) (v := .int (nI (nr + 1))) (ty := .int) (C := RX3) (T := TX3) (N := 26) hx hb hts hin_X3 tyX3 tyX3_ok nmX3 hown hK hP hD hS 0 rfl rfl 18 (by decide) fl_132 (fun _ h9 => h9) rfl (by decide +kernel) rfl rfl (Nat.le_of_ble_eq_true rfl) dX3_reading_62 (fun H locs hP hD hS => ?_)
        have hP : va_P D vwCl [((q 0), .inr (3, [.int fa, .int (nI nc), .ref (q 1), .int (nI nt), .ref (q 2), .ref (q 3), .ref (q 4), .ref (q 5), .int ea, .int (nI ra), .int (nI rs), .int (nI rt), .ref (q 6), .ref (q 7), .ref (q 8), .ref (q 9), .ref (q 10), .ref (q 11), .int (nI (nr + 1)), .ref (q 12), .ref (q 13), .ref (q 14), .ref (q 15), .ref (q 16), .ref (q 17), .int tr])), ((q 12), .inl (cI, 8, .inl (upd rc nr v1))), ((q 13), .inl (cI, 8, .inl (upd rh nr v2)))] H := hP
        have hD : va_D A [((q 0), .inr (3, [.int fa, .int (nI nc), .ref (q 1), .int (nI nt), .ref (q 2), .ref (q 3), .ref (q 4), .ref (q 5), .int ea, .int (nI ra), .int (nI rs), .int (nI rt), .ref (q 6), .ref (q 7), .ref (q 8), .ref (q 9), .ref (q 10), .ref (q 11), .int (nI (nr + 1)), .ref (q 12), .ref (q 13), .ref (q 14), .ref (q 15), .ref (q 16), .ref (q 17), .int tr])), ((q 12), .inl (cI, 8, .inl (upd rc nr v1))), ((q 13), .inl (cI, 8, .inl (upd rh nr v2)))] := hD
        refine lv_aload_n hx hb dX3_reading_65 rfl (lv_at hl 0 rfl) ?_
        refine va_get (ci := 3) (v := .int (nI (nr + 1))) (C := RX3) (T := TX3) (N := 26) hx hb hts hin_X3 hown hK hP 0 rfl rfl 18 (by decide) fl_132 (fun _ h9 => h9) rfl dX3_reading_66 ?_
        refine lv_iconst (v := 1) hx hb dX3_reading_69 (by decide) ?_
        refine lv_isub hx hb dX3_reading_70 ?_
        have hE : (m_X3_reading nc nr rc rh v1 v2) = ((nI (nr + 1)) - 1, upd rc nr v1, upd rh nr v2, (nr + 1)) := Eq.symm (by (unfold m_X3_reading; rw [if_pos c_5]; rw [if_pos c_11]; rw [if_neg c_29]) <;> rfl)
        rw [hE]
        exact W.iret hx hb hr (fun t ht hW => ⟨⟨_, (), rfl, rfl, by rw [ht]; exact hP, va_K.moved hW.alike hK, hD⟩, hS.F ht⟩) hS.2.2 dX3_reading_71
      · refine lv_bipush (v := (-4)) hx hb dX3_reading_32 (by decide) ?_
        have hE : (m_X3_reading nc nr rc rh v1 v2) = ((-4), rc, rh, nr) := Eq.symm (by (unfold m_X3_reading; rw [if_pos c_5]; rw [if_pos c_11]; rw [if_pos c_29]) <;> rfl)
        rw [hE]
        exact W.iret hx hb hr (fun t ht hW => ⟨⟨_, (), rfl, rfl, by rw [ht]; exact hP, va_K.moved hW.alike hK, hD⟩, hS.F ht⟩) hS.2.2 dX3_reading_34
    · refine lv_iload_n hx hb dX3_reading_14 rfl (lv_at hl 2 rfl) ?_
      refine tw_cs (va_runS (As := [.int v2]) (rest := []) ⟨hx, hb, hml, hown, hts⟩ (c_X3_noHouse l D cI cS v2) (va_cwS 1 hts gX3_reading_X3_noHouse rfl rfl rfl (by decide +kernel) ⟨Nat.le_of_ble_eq_true rfl, Nat.le_of_ble_eq_true rfl⟩) ⟨tw_Rb, tw_Rp (hP.sub (ws' := []) [] rfl) hK⟩ rfl rfl hl.1 rfl (lv_room (Nat.le_of_ble_eq_true rfl)) dX3_reading_15 ⟨Nat.zero_le _, Nat.zero_le _⟩) ?_
      refine lv_if_eq (tgt := 23) hx hb dX3_reading_18 (by decide) (fun c_18 => ?_) (fun c_18 => ?_)
      · refine lv_aload_n hx hb dX3_reading_23 rfl (lv_at hl 0 rfl) ?_
        refine va_get (ci := 3) (v := .int (nI nr)) (C := RX3) (T := TX3) (N := 26) hx hb hts hin_X3 hown hK hP 0 rfl rfl 18 (by decide) fl_132 (fun _ h9 => h9) rfl dX3_reading_24 ?_
        refine lv_bipush (v := 8) hx hb dX3_reading_27 (by decide) ?_
        refine lv_icmp_ne (tgt := 35) hx hb dX3_reading_29 (by decide) (fun c_29 => ?_) (fun c_29 => ?_)
        · have hlt : nr < 8 := by rcases Nat.lt_or_eq_of_le hr8 with q | q; exact q; exact absurd (by rw [q]; rfl) c_29
          refine lv_aload_n hx hb dX3_reading_35 rfl (lv_at hl 0 rfl) ?_
          refine va_get (ci := 3) (v := .ref (q 12)) (C := RX3) (T := TX3) (N := 26) hx hb hts hin_X3 hown hK hP 0 rfl rfl 19 (by decide) fl_43 (fun _ h9 => h9) rfl dX3_reading_36 ?_
          refine lv_aload_n hx hb dX3_reading_39 rfl (lv_at hl 0 rfl) ?_
          refine va_get (ci := 3) (v := .int (nI nr)) (C := RX3) (T := TX3) (N := 26) hx hb hts hin_X3 hown hK hP 0 rfl rfl 18 (by decide) fl_132 (fun _ h9 => h9) rfl dX3_reading_40 ?_
          refine lv_iload_n hx hb dX3_reading_43 rfl (lv_at hl 1 rfl) ?_
          refine va_iast hx hb hK hP hD hS 1 0 rfl rfl (vp_in_nI (show nr < 8 by omega) (by decide)) dX3_reading_44 (fun H locs hP hD hS => ?_)
          rw [nI_clamp (show nr < 2 ^ 31 by omega)] at hP hD
          have hP : va_P D vwCl [((q 0), .inr (3, [.int fa, .int (nI nc), .ref (q 1), .int (nI nt), .ref (q 2), .ref (q 3), .ref (q 4), .ref (q 5), .int ea, .int (nI ra), .int (nI rs), .int (nI rt), .ref (q 6), .ref (q 7), .ref (q 8), .ref (q 9), .ref (q 10), .ref (q 11), .int (nI nr), .ref (q 12), .ref (q 13), .ref (q 14), .ref (q 15), .ref (q 16), .ref (q 17), .int tr])), ((q 12), .inl (cI, 8, .inl (upd rc nr v1))), ((q 13), .inl (cI, 8, .inl rh))] H := hP
          have hD : va_D A [((q 0), .inr (3, [.int fa, .int (nI nc), .ref (q 1), .int (nI nt), .ref (q 2), .ref (q 3), .ref (q 4), .ref (q 5), .int ea, .int (nI ra), .int (nI rs), .int (nI rt), .ref (q 6), .ref (q 7), .ref (q 8), .ref (q 9), .ref (q 10), .ref (q 11), .int (nI nr), .ref (q 12), .ref (q 13), .ref (q 14), .ref (q 15), .ref (q 16), .ref (q 17), .int tr])), ((q 12), .inl (cI, 8, .inl (upd rc nr v1))), ((q 13), .inl (cI, 8, .inl rh))] := hD
          refine lv_aload_n hx hb dX3_reading_45 rfl (lv_at hl 0 rfl) ?_
          refine va_get (ci := 3) (v := .ref (q 13)) (C := RX3) (T := TX3) (N := 26) hx hb hts hin_X3 hown hK hP 0 rfl rfl 20 (by decide) fl_46 (fun _ h9 => h9) rfl dX3_reading_46 ?_
          refine lv_aload_n hx hb dX3_reading_49 rfl (lv_at hl 0 rfl) ?_
          refine va_get (ci := 3) (v := .int (nI nr)) (C := RX3) (T := TX3) (N := 26) hx hb hts hin_X3 hown hK hP 0 rfl rfl 18 (by decide) fl_132 (fun _ h9 => h9) rfl dX3_reading_50 ?_
          refine lv_iload_n hx hb dX3_reading_53 rfl (lv_at hl 2 rfl) ?_
          refine va_iast hx hb hK hP hD hS 2 0 rfl rfl (vp_in_nI (show nr < 8 by omega) (by decide)) dX3_reading_54 (fun H locs hP hD hS => ?_)
          rw [nI_clamp (show nr < 2 ^ 31 by omega)] at hP hD
          have hP : va_P D vwCl [((q 0), .inr (3, [.int fa, .int (nI nc), .ref (q 1), .int (nI nt), .ref (q 2), .ref (q 3), .ref (q 4), .ref (q 5), .int ea, .int (nI ra), .int (nI rs), .int (nI rt), .ref (q 6), .ref (q 7), .ref (q 8), .ref (q 9), .ref (q 10), .ref (q 11), .int (nI nr), .ref (q 12), .ref (q 13), .ref (q 14), .ref (q 15), .ref (q 16), .ref (q 17), .int tr])), ((q 12), .inl (cI, 8, .inl (upd rc nr v1))), ((q 13), .inl (cI, 8, .inl (upd rh nr v2)))] H := hP
          have hD : va_D A [((q 0), .inr (3, [.int fa, .int (nI nc), .ref (q 1), .int (nI nt), .ref (q 2), .ref (q 3), .ref (q 4), .ref (q 5), .int ea, .int (nI ra), .int (nI rs), .int (nI rt), .ref (q 6), .ref (q 7), .ref (q 8), .ref (q 9), .ref (q 10), .ref (q 11), .int (nI nr), .ref (q 12), .ref (q 13), .ref (q 14), .ref (q 15), .ref (q 16), .ref (q 17), .int tr])), ((q 12), .inl (cI, 8, .inl (upd rc nr v1))), ((q 13), .inl (cI, 8, .inl (upd rh nr v2)))] := hD
          refine lv_aload_n hx hb dX3_reading_55 rfl (lv_at hl 0 rfl) ?_
          refine lv_dup hx hb dX3_reading_56 rfl ?_
          refine va_get (ci := 3) (v := .int (nI nr)) (C := RX3) (T := TX3) (N := 26) hx hb hts hin_X3 hown hK hP 0 rfl rfl 18 (by decide) fl_132 (fun _ h9 => h9) rfl dX3_reading_57 ?_
          refine lv_iconst (v := 1) hx hb dX3_reading_60 (by decide) ?_
          refine lv_iadd hx hb dX3_reading_61 ?_
          refine tw_top (nI_1 nr) ?_
          refine va_put (ci := 3) (v := .int (nI (nr + 1))) (ty := .int) (C := RX3) (T := TX3) (N := 26) hx hb hts hin_X3 tyX3 tyX3_ok nmX3 hown hK hP hD hS 0 rfl rfl 18 (by decide) fl_132 (fun _ h9 => h9) rfl (by decide +kernel) rfl rfl (Nat.le_of_ble_eq_true rfl) dX3_reading_62 (fun H locs hP hD hS => ?_)
          have hP : va_P D vwCl [((q 0), .inr (3, [.int fa, .int (nI nc), .ref (q 1), .int (nI nt), .ref (q 2), .ref (q 3), .ref (q 4), .ref (q 5), .int ea, .int (nI ra), .int (nI rs), .int (nI rt), .ref (q 6), .ref (q 7), .ref (q 8), .ref (q 9), .ref (q 10), .ref (q 11), .int (nI (nr + 1)), .ref (q 12), .ref (q 13), .ref (q 14), .ref (q 15), .ref (q 16), .ref (q 17), .int tr])), ((q 12), .inl (cI, 8, .inl (upd rc nr v1))), ((q 13), .inl (cI, 8, .inl (upd rh nr v2)))] H := hP
          have hD : va_D A [((q 0), .inr (3, [.int fa, .int (nI nc), .ref (q 1), .int (nI nt), .ref (q 2), .ref (q 3), .ref (q 4), .ref (q 5), .int ea, .int (nI ra), .int (nI rs), .int (nI rt), .ref (q 6), .ref (q 7), .ref (q 8), .ref (q 9), .ref (q 10), .ref (q 11), .int (nI (nr + 1)), .ref (q 12), .ref (q 13), .ref (q 14), .ref (q 15), .ref (q 16), .ref (q 17), .int tr])), ((q 12), .inl (cI, 8, .inl (upd rc nr v1))), ((q 13), .inl (cI, 8, .inl (upd rh nr v2)))] := hD
          refine lv_aload_n hx hb dX3_reading_65 rfl (lv_at hl 0 rfl) ?_
          refine va_get (ci := 3) (v := .int (nI (nr + 1))) (C := RX3) (T := TX3) (N := 26) hx hb hts hin_X3 hown hK hP 0 rfl rfl 18 (by decide) fl_132 (fun _ h9 => h9) rfl dX3_reading_66 ?_
          refine lv_iconst (v := 1) hx hb dX3_reading_69 (by decide) ?_
          refine lv_isub hx hb dX3_reading_70 ?_
          have hE : (m_X3_reading nc nr rc rh v1 v2) = ((nI (nr + 1)) - 1, upd rc nr v1, upd rh nr v2, (nr + 1)) := Eq.symm (by (unfold m_X3_reading; rw [if_pos c_5]; rw [if_neg c_11]; rw [if_pos c_18]; rw [if_neg c_29]) <;> rfl)
          rw [hE]
          exact W.iret hx hb hr (fun t ht hW => ⟨⟨_, (), rfl, rfl, by rw [ht]; exact hP, va_K.moved hW.alike hK, hD⟩, hS.F ht⟩) hS.2.2 dX3_reading_71
        · refine lv_bipush (v := (-4)) hx hb dX3_reading_32 (by decide) ?_
          have hE : (m_X3_reading nc nr rc rh v1 v2) = ((-4), rc, rh, nr) := Eq.symm (by (unfold m_X3_reading; rw [if_pos c_5]; rw [if_neg c_11]; rw [if_pos c_18]; rw [if_pos c_29]) <;> rfl)
          rw [hE]
          exact W.iret hx hb hr (fun t ht hW => ⟨⟨_, (), rfl, rfl, by rw [ht]; exact hP, va_K.moved hW.alike hK, hD⟩, hS.F ht⟩) hS.2.2 dX3_reading_34
      · refine lv_iconst (v := (-1)) hx hb dX3_reading_21 (by decide) ?_
        have hE : (m_X3_reading nc nr rc rh v1 v2) = ((-1), rc, rh, nr) := Eq.symm (by (unfold m_X3_reading; rw [if_pos c_5]; rw [if_neg c_11]; rw [if_neg c_18]) <;> rfl)
        rw [hE]
        exact W.iret hx hb hr (fun t ht hW => ⟨⟨_, (), rfl, rfl, by rw [ht]; exact hP, va_K.moved hW.alike hK, hD⟩, hS.F ht⟩) hS.2.2 dX3_reading_22

def m_X3_back (nr : Nat) (v1 : Int32) : Int32 × Nat :=
  if (m_X3_in v1.toInt64 0 ((nI nr).toInt64)) = 0 then
    ((-2), nr)
  else
    (nI (nr - v1.toNatClampNeg), (nr - v1.toNatClampNeg))
set_option maxHeartbeats 4000000 in
set_option maxRecDepth 100000 in
theorem c_X3_back (l : Launch) (D : va_G) (cI cS : ClassId) (q : Nat → Nat) (hz : Nat) (fa : Int32) (nc : Nat) (nt : Nat) (ea : Int32) (ra : Nat) (rs : Nat) (rt : Nat) (nr : Nat) (tr : Int32) (v1 : Int32) (hr8 : nr ≤ 8) : Met l yX3_back wsX3_back ({ frames := 1, cells := 0, slots := 0, locals := 25 }) (tw_W D cI cS [.ref (q 0), .int v1] hz [((q 0), .inr (3, [.int fa, .int (nI nc), .ref (q 1), .int (nI nt), .ref (q 2), .ref (q 3), .ref (q 4), .ref (q 5), .int ea, .int (nI ra), .int (nI rs), .int (nI rt), .ref (q 6), .ref (q 7), .ref (q 8), .ref (q 9), .ref (q 10), .ref (q 11), .int (nI nr), .ref (q 12), .ref (q 13), .ref (q 14), .ref (q 15), .ref (q 16), .ref (q 17), .int tr]))]) (va_Qi (fun r (_ : Unit) => r = (m_X3_back nr v1).1) (tw_B D cI cS (va_A [((q 0), .inr (3, [.int fa, .int (nI nc), .ref (q 1), .int (nI nt), .ref (q 2), .ref (q 3), .ref (q 4), .ref (q 5), .int ea, .int (nI ra), .int (nI rs), .int (nI rt), .ref (q 6), .ref (q 7), .ref (q 8), .ref (q 9), .ref (q 10), .ref (q 11), .int (nI nr), .ref (q 12), .ref (q 13), .ref (q 14), .ref (q 15), .ref (q 16), .ref (q 17), .int tr]))] hz) [((q 0), .inr (3, [.int fa, .int (nI nc), .ref (q 1), .int (nI nt), .ref (q 2), .ref (q 3), .ref (q 4), .ref (q 5), .int ea, .int (nI ra), .int (nI rs), .int (nI rt), .ref (q 6), .ref (q 7), .ref (q 8), .ref (q 9), .ref (q 10), .ref (q 11), .int (nI ((m_X3_back nr v1).2)), .ref (q 12), .ref (q 13), .ref (q 14), .ref (q 15), .ref (q 16), .ref (q 17), .int tr]))]) (va_A [((q 0), .inr (3, [.int fa, .int (nI nc), .ref (q 1), .int (nI nt), .ref (q 2), .ref (q 3), .ref (q 4), .ref (q 5), .int ea, .int (nI ra), .int (nI rs), .int (nI rt), .ref (q 6), .ref (q 7), .ref (q 8), .ref (q 9), .ref (q 10), .ref (q 11), .int (nI nr), .ref (q 12), .ref (q 13), .ref (q 14), .ref (q 15), .ref (q 16), .ref (q 17), .int tr]))] hz)) 0 0 (va_A [((q 0), .inr (3, [.int fa, .int (nI nc), .ref (q 1), .int (nI nt), .ref (q 2), .ref (q 3), .ref (q 4), .ref (q 5), .int ea, .int (nI ra), .int (nI rs), .int (nI rt), .ref (q 6), .ref (q 7), .ref (q 8), .ref (q 9), .ref (q 10), .ref (q 11), .int (nI nr), .ref (q 12), .ref (q 13), .ref (q 14), .ref (q 15), .ref (q 16), .ref (q 17), .int tr]))] hz) := by
  refine Met.ofW (cc := cX3_back) (maxL := 2) (ret := (some .int)) (by decide) rfl ?_
  intro p e s m args below meth c s₁ B hml hv
  obtain ⟨rfl, hsz, hP, hK, hD0⟩ := hv
  have hx := B.exec
  have hb := B.bytes
  have hr := B.returns
  have hts := atoms_spec (ws := wsX3_back) B.pre
  have hown : s.vm.findClass RX3 = some m.cls := findClass_of_methodNamed B.named
  have hlocks := B.notSynchronized
  subst hsz
  have hD := hD0.self (sz := s.heap.size)
  generalize hAe : va_A [((q 0), .inr (3, [.int fa, .int (nI nc), .ref (q 1), .int (nI nt), .ref (q 2), .ref (q 3), .ref (q 4), .ref (q 5), .int ea, .int (nI ra), .int (nI rs), .int (nI rt), .ref (q 6), .ref (q 7), .ref (q 8), .ref (q 9), .ref (q 10), .ref (q 11), .int (nI nr), .ref (q 12), .ref (q 13), .ref (q 14), .ref (q 15), .ref (q 16), .ref (q 17), .int tr]))] s.heap.size = A at hD ⊢
  have hA : ∀ q : Nat, s.heap.size ≤ q → A q := fun q h => by rw [← hAe]; exact Or.inr h
  have hS : va_S A s.heap s.heap [] := va_S.rf
  have fl_132 := hts (.fieldLink RX3 132 "TableWarModel" "readings" "I") (by decide +kernel)
  have hin_X3 := (show ∀ w ∈ u_ws RX3 TX3 26, w ∈ wsX3_back from by decide +kernel)
  have hl := lv_entry ([.ref (q 0), .int v1]) (n := 2) (Nat.le_of_ble_eq_true rfl)
  rw [lg_entry_eq]
  generalize (lg_sl ([.ref (q 0), .int v1]) ++ List.replicate (2 - (lg_sl ([.ref (q 0), .int v1])).length) Slot.unset).toArray = ls at hl ⊢
  have hl : lv_has ls 2 [(0, .ref (q 0)), (1, .int v1)] := hl
  refine lv_iload_n hx hb dX3_back_0 rfl (lv_at hl 1 rfl) ?_
  refine lv_i2l (v := v1.toInt64) hx hb dX3_back_1 rfl ?_
  refine lv_lconst (v := 0) hx hb dX3_back_2 (by decide) ?_
  refine lv_aload_n hx hb dX3_back_3 rfl (lv_at hl 0 rfl) ?_
  refine va_get (ci := 3) (v := .int (nI nr)) (C := RX3) (T := TX3) (N := 26) hx hb hts hin_X3 hown hK hP 0 rfl rfl 18 (by decide) fl_132 (fun _ h9 => h9) rfl dX3_back_4 ?_
  refine lv_i2l (v := (nI nr).toInt64) hx hb dX3_back_7 rfl ?_
  refine tw_cs (va_runS (As := [.long v1.toInt64, .long 0, .long ((nI nr).toInt64)]) (rest := []) ⟨hx, hb, hml, hown, hts⟩ (c_X3_in l D cI cS v1.toInt64 0 ((nI nr).toInt64)) (va_cwS 3 hts gX3_back_X3_in rfl rfl rfl (by decide +kernel) ⟨Nat.le_of_ble_eq_true rfl, Nat.le_of_ble_eq_true rfl⟩) ⟨tw_Rb, tw_Rp (hP.sub (ws' := []) [] rfl) hK⟩ rfl rfl hl.1 rfl (lv_room (Nat.le_of_ble_eq_true rfl)) dX3_back_8 ⟨Nat.zero_le _, Nat.zero_le _⟩) ?_
  refine lv_if_ne (tgt := 17) hx hb dX3_back_11 (by decide) (fun c_11 => ?_) (fun c_11 => ?_)
  · refine lv_aload_n hx hb dX3_back_17 rfl (lv_at hl 0 rfl) ?_
    refine lv_dup hx hb dX3_back_18 rfl ?_
    refine va_get (ci := 3) (v := .int (nI nr)) (C := RX3) (T := TX3) (N := 26) hx hb hts hin_X3 hown hK hP 0 rfl rfl 18 (by decide) fl_132 (fun _ h9 => h9) rfl dX3_back_19 ?_
    refine lv_iload_n hx hb dX3_back_22 rfl (lv_at hl 1 rfl) ?_
    refine lv_isub hx hb dX3_back_23 ?_
    refine tw_top (show _ = nI (nr - v1.toNatClampNeg) from tw_backM c_11 hr8) ?_
    refine va_put (ci := 3) (v := .int (nI (nr - v1.toNatClampNeg))) (ty := .int) (C := RX3) (T := TX3) (N := 26) hx hb hts hin_X3 tyX3 tyX3_ok nmX3 hown hK hP hD hS 0 rfl rfl 18 (by decide) fl_132 (fun _ h9 => h9) rfl (by decide +kernel) rfl rfl (Nat.le_of_ble_eq_true rfl) dX3_back_24 (fun H locs hP hD hS => ?_)
    have hP : va_P D vwCl [((q 0), .inr (3, [.int fa, .int (nI nc), .ref (q 1), .int (nI nt), .ref (q 2), .ref (q 3), .ref (q 4), .ref (q 5), .int ea, .int (nI ra), .int (nI rs), .int (nI rt), .ref (q 6), .ref (q 7), .ref (q 8), .ref (q 9), .ref (q 10), .ref (q 11), .int (nI (nr - v1.toNatClampNeg)), .ref (q 12), .ref (q 13), .ref (q 14), .ref (q 15), .ref (q 16), .ref (q 17), .int tr]))] H := hP
    have hD : va_D A [((q 0), .inr (3, [.int fa, .int (nI nc), .ref (q 1), .int (nI nt), .ref (q 2), .ref (q 3), .ref (q 4), .ref (q 5), .int ea, .int (nI ra), .int (nI rs), .int (nI rt), .ref (q 6), .ref (q 7), .ref (q 8), .ref (q 9), .ref (q 10), .ref (q 11), .int (nI (nr - v1.toNatClampNeg)), .ref (q 12), .ref (q 13), .ref (q 14), .ref (q 15), .ref (q 16), .ref (q 17), .int tr]))] := hD
    refine lv_aload_n hx hb dX3_back_27 rfl (lv_at hl 0 rfl) ?_
    refine va_get (ci := 3) (v := .int (nI (nr - v1.toNatClampNeg))) (C := RX3) (T := TX3) (N := 26) hx hb hts hin_X3 hown hK hP 0 rfl rfl 18 (by decide) fl_132 (fun _ h9 => h9) rfl dX3_back_28 ?_
    have hE : (m_X3_back nr v1) = (nI (nr - v1.toNatClampNeg), (nr - v1.toNatClampNeg)) := Eq.symm (by (unfold m_X3_back; rw [if_neg c_11]) <;> rfl)
    rw [hE]
    exact W.iret hx hb hr (fun t ht hW => ⟨⟨_, (), rfl, rfl, by rw [ht]; exact hP, va_K.moved hW.alike hK, hD⟩, hS.F ht⟩) hS.2.2 dX3_back_31
  · refine lv_bipush (v := (-2)) hx hb dX3_back_14 (by decide) ?_
    have hE : (m_X3_back nr v1) = ((-2), nr) := Eq.symm (by (unfold m_X3_back; rw [if_pos c_11]) <;> rfl)
    rw [hE]
    exact W.iret hx hb hr (fun t ht hW => ⟨⟨_, (), rfl, rfl, by rw [ht]; exact hP, va_K.moved hW.alike hK, hD⟩, hS.F ht⟩) hS.2.2 dX3_back_16

def m_X3_areSo_L4 (nt : Nat) (kd : Nat → Int32) (ho : Nat → Int32) (pl : Nat → Int32) (st : Nat → Int32) (ea : Int32) (rc : Nat → Int32) (rh : Nat → Int32) : Nat → Nat → Int32 → Int32
  | 0, i4, u1_4 =>
    u1_4
  | k4 + 1, i4, u1_4 =>
    m_X3_areSo_L4 nt kd ho pl st ea rc rh k4 (i4 + 1) (if u1_4 = 0 then 0 else (if (m_X3_holder nt kd ho pl st ea (rc i4)) = (rh i4) then 1 else 0))
theorem m_X3_areSo_L4_0 (nt : Nat) (kd : Nat → Int32) (ho : Nat → Int32) (pl : Nat → Int32) (st : Nat → Int32) (ea : Int32) (rc : Nat → Int32) (rh : Nat → Int32) (i4 : Nat) (u1_4 : Int32) : m_X3_areSo_L4 nt kd ho pl st ea rc rh 0 i4 u1_4 = 
    u1_4 := rfl
theorem m_X3_areSo_L4_s (nt : Nat) (kd : Nat → Int32) (ho : Nat → Int32) (pl : Nat → Int32) (st : Nat → Int32) (ea : Int32) (rc : Nat → Int32) (rh : Nat → Int32) (i4 : Nat) (u1_4 : Int32) (k4 : Nat) : m_X3_areSo_L4 nt kd ho pl st ea rc rh (k4 + 1) i4 u1_4 = 
    m_X3_areSo_L4 nt kd ho pl st ea rc rh k4 (i4 + 1) (if u1_4 = 0 then 0 else (if (m_X3_holder nt kd ho pl st ea (rc i4)) = (rh i4) then 1 else 0)) := rfl
def m_X3_areSo (nt : Nat) (kd : Nat → Int32) (ho : Nat → Int32) (pl : Nat → Int32) (st : Nat → Int32) (ea : Int32) (nr : Nat) (rc : Nat → Int32) (rh : Nat → Int32) : Int32 :=
  (m_X3_areSo_L4 nt kd ho pl st ea rc rh nr 0 1)
set_option maxHeartbeats 4000000 in
set_option maxRecDepth 100000 in
theorem c_X3_areSo (l : Launch) (D : va_G) (cI cS : ClassId) (q : Nat → Nat) (fa : Int32) (nc : Nat) (nt : Nat) (kd : Nat → Int32) (ho : Nat → Int32) (pl : Nat → Int32) (st : Nat → Int32) (ea : Int32) (ra : Nat) (rs : Nat) (rt : Nat) (nr : Nat) (rc : Nat → Int32) (rh : Nat → Int32) (tr : Int32) (hn : nt ≤ 6) (hr8 : nr ≤ 8) : Met l yX3_areSo wsX3_areSo ({ frames := 4, cells := 0, slots := 0, locals := 91 }) (tw_R D cI cS [.ref (q 0)] [((q 0), .inr (3, [.int fa, .int (nI nc), .ref (q 1), .int (nI nt), .ref (q 2), .ref (q 3), .ref (q 4), .ref (q 5), .int ea, .int (nI ra), .int (nI rs), .int (nI rt), .ref (q 6), .ref (q 7), .ref (q 8), .ref (q 9), .ref (q 10), .ref (q 11), .int (nI nr), .ref (q 12), .ref (q 13), .ref (q 14), .ref (q 15), .ref (q 16), .ref (q 17), .int tr])), ((q 2), .inl (cI, 6, .inl kd)), ((q 3), .inl (cI, 6, .inl ho)), ((q 4), .inl (cI, 6, .inl pl)), ((q 5), .inl (cI, 6, .inl st)), ((q 12), .inl (cI, 8, .inl rc)), ((q 13), .inl (cI, 8, .inl rh))]) (vp_Si (fun r => r = (m_X3_areSo nt kd ho pl st ea nr rc rh))) 0 0 (fun _ => False) := by
  refine Met.ofW (cc := cX3_areSo) (maxL := 3) (ret := (some .boolean)) (by decide) rfl ?_
  intro p e s m args below meth c s₁ B hml hv
  obtain ⟨rfl, hP, hK⟩ := hv
  have hx := B.exec
  have hb := B.bytes
  have hr := B.returns
  have hts := atoms_spec (ws := wsX3_areSo) B.pre
  have hown : s.vm.findClass RX3 = some m.cls := findClass_of_methodNamed B.named
  have hlocks := B.notSynchronized
  have fl_132 := hts (.fieldLink RX3 132 "TableWarModel" "readings" "I") (by decide +kernel)
  have hin_X3 := (show ∀ w ∈ u_ws RX3 TX3 26, w ∈ wsX3_areSo from by decide +kernel)
  have fl_43 := hts (.fieldLink RX3 43 "TableWarModel" "readingOf" "[I") (by decide +kernel)
  have fl_46 := hts (.fieldLink RX3 46 "TableWarModel" "readingBy" "[I") (by decide +kernel)
  have hl := lv_entry ([.ref (q 0)]) (n := 3) (Nat.le_of_ble_eq_true rfl)
  rw [lg_entry_eq]
  generalize (lg_sl ([.ref (q 0)]) ++ List.replicate (3 - (lg_sl ([.ref (q 0)])).length) Slot.unset).toArray = ls at hl ⊢
  have hl : lv_has ls 3 [(0, .ref (q 0))] := hl
  refine lv_iconst (v := 1) hx hb dX3_areSo_0 (by decide) ?_
  refine lv_istore_n (lv' := [(1, .int 1), (0, .ref (q 0))]) hx hb dX3_areSo_1 rfl hl (by decide) rfl (fun ls hl => ?_)
  refine lv_iconst (v := 0) hx hb dX3_areSo_2 (by decide) ?_
  refine lv_istore_n (lv' := [(2, .int 0), (1, .int 1), (0, .ref (q 0))]) hx hb dX3_areSo_3 rfl hl (by decide) rfl (fun ls hl => ?_)
  refine tw_loopR (σ := Int32) (fun k i z ls => i + k = nr ∧ (z = 0 ∨ z = 1) ∧ m_X3_areSo_L4 nt kd ho pl st ea rc rh k i z = m_X3_areSo_L4 nt kd ho pl st ea rc rh nr 0 1 ∧ lv_has ls 3 [(2, .int (nI i)), (1, .int z), (0, .ref (q 0))]) nr 0 1 ⟨Nat.zero_add _, (show 1 = 0 ∨ 1 = 1 from (Or.inr rfl)), rfl, lv_sub hl [0, 1, 2] rfl⟩ ?_ ?_
  · intro i4 u1_4 ls hI
    obtain ⟨hk4, hb1, hm4, hl⟩ := hI
    have hm4 : m_X3_areSo_L4 nt kd ho pl st ea rc rh 0 i4 u1_4 = m_X3_areSo_L4 nt kd ho pl st ea rc rh nr 0 1 := hm4
    have hb1 : u1_4 = 0 ∨ u1_4 = 1 := hb1
    have hl : lv_has ls 3 [(2, .int (nI i4)), (1, .int u1_4), (0, .ref (q 0))] := hl
    have hm4 : u1_4 = m_X3_areSo_L4 nt kd ho pl st ea rc rh nr 0 1 := hm4
    refine lv_iload_n hx hb dX3_areSo_4 rfl (lv_at hl 0 rfl) ?_
    refine lv_aload_n hx hb dX3_areSo_5 rfl (lv_at hl 2 rfl) ?_
    refine va_get (ci := 3) (v := .int (nI nr)) (C := RX3) (T := TX3) (N := 26) hx hb hts hin_X3 hown hK hP 0 rfl rfl 18 (by decide) fl_132 (fun _ h9 => h9) rfl dX3_areSo_6 ?_
    refine lv_icmp_ge (tgt := 47) hx hb dX3_areSo_9 (by decide) (fun c_9 => ?_) (fun c_9 => absurd (tw_tge rfl (show nr ≤ i4 by omega) (show i4 < 2 ^ 31 by omega)) c_9)
    refine lv_iload_n hx hb dX3_areSo_47 rfl (lv_at hl 1 rfl) ?_
    exact W.zret (ty := .boolean) hx hb hr (by rcases hb1 with q | q <;> rw [q] <;> rfl) (fun t ht _ => ⟨_, rfl, (by (unfold m_X3_areSo; rw [← hm4]) <;> rfl), ht⟩) (fun _ h => nomatch h) dX3_areSo_48
  · intro k4 i4 u1_4 ls ih4 hI
    obtain ⟨hk4, hb1, hm4, hl⟩ := hI
    have hm4 : m_X3_areSo_L4 nt kd ho pl st ea rc rh (k4 + 1) i4 u1_4 = m_X3_areSo_L4 nt kd ho pl st ea rc rh nr 0 1 := hm4
    have hb1 : u1_4 = 0 ∨ u1_4 = 1 := hb1
    have hl : lv_has ls 3 [(2, .int (nI i4)), (1, .int u1_4), (0, .ref (q 0))] := hl
    refine lv_iload_n hx hb dX3_areSo_4 rfl (lv_at hl 0 rfl) ?_
    refine lv_aload_n hx hb dX3_areSo_5 rfl (lv_at hl 2 rfl) ?_
    refine va_get (ci := 3) (v := .int (nI nr)) (C := RX3) (T := TX3) (N := 26) hx hb hts hin_X3 hown hK hP 0 rfl rfl 18 (by decide) fl_132 (fun _ h9 => h9) rfl dX3_areSo_6 ?_
    refine lv_icmp_ge (tgt := 47) hx hb dX3_areSo_9 (by decide) (fun c_9 => absurd c_9 (tw_tlt rfl (show i4 < nr by omega) (show nr < 2 ^ 31 by omega))) (fun c_9 => ?_)
    refine lv_iload_n hx hb dX3_areSo_12 rfl (lv_at hl 1 rfl) ?_
    refine tw_join (fun (y : Int32) => F0 m 40 ls (.int y :: [])) (if u1_4 = 0 then 0 else (if (m_X3_holder nt kd ho pl st ea (rc i4)) = (rh i4) then 1 else 0)) ?_ (fun J40_0 => ?_)
    · intro y40 hy40
      refine lv_istore_n (lv' := [(1, .int y40), (2, .int (nI i4)), (0, .ref (q 0))]) hx hb dX3_areSo_40 rfl hl (by decide) rfl (fun ls hl => ?_)
      refine lv_iinc (v := nI (i4 + 1)) (lv' := [(2, .int (nI (i4 + 1))), (1, .int y40), (0, .ref (q 0))]) hx hb dX3_areSo_41 hl (k := 1) rfl (nI_1 _) (by decide) rfl (fun ls hl => ?_)
      refine lv_goto (tgt := 4) hx hb dX3_areSo_44 (by decide) ?_
      exact ih4 y40 ls ⟨by omega, (show y40 = 0 ∨ y40 = 1 from (by rw [hy40]; (repeat' split) <;> simp)), (by (rw [← hm4, m_X3_areSo_L4_s]; (try rw [← hy40])) <;> rfl), lv_sub hl [0, 1, 2] rfl⟩
    · refine lv_if_eq (tgt := 39) hx hb dX3_areSo_13 (by decide) (fun c_13 => ?_) (fun c_13 => ?_)
      · refine lv_iconst (v := 0) hx hb dX3_areSo_39 (by decide) ?_
        exact J40_0 _ (by (rw [if_pos c_13]) <;> rfl)
      · refine lv_aload_n hx hb dX3_areSo_16 rfl (lv_at hl 2 rfl) ?_
        refine lv_aload_n hx hb dX3_areSo_17 rfl (lv_at hl 2 rfl) ?_
        refine va_get (ci := 3) (v := .ref (q 12)) (C := RX3) (T := TX3) (N := 26) hx hb hts hin_X3 hown hK hP 0 rfl rfl 19 (by decide) fl_43 (fun _ h9 => h9) rfl dX3_areSo_18 ?_
        refine lv_iload_n hx hb dX3_areSo_21 rfl (lv_at hl 0 rfl) ?_
        refine va_iald hx hb hK hP 5 0 rfl rfl (vp_in_nI (show i4 < 8 by omega) (by decide)) dX3_areSo_22 ?_
        refine tw_top (show _ = rc i4 from by rw [nI_clamp (by omega)]) ?_
        refine tw_cs (va_runV (As := [.int (rc i4)]) (rest := []) ⟨hx, hb, hml, hown, hts⟩ (c_X3_holder l D cI cS q fa nc nt kd ho pl st ea ra rs rt nr tr (rc i4) (by first | assumption | omega | exact hz60 _ | exact vp_in_nI (by omega) (by decide))) (cwV 1 hts gX3_areSo_X3_holder rfl rfl rfl (by decide +kernel) ⟨Nat.le_of_ble_eq_true rfl, Nat.le_of_ble_eq_true rfl⟩) ⟨tw_Rb, va_recv hK hP (ci := 3) (q0 := 0) rfl rfl, tw_Rp (hP.sub (ws' := [((q 0), .inr (3, [.int fa, .int (nI nc), .ref (q 1), .int (nI nt), .ref (q 2), .ref (q 3), .ref (q 4), .ref (q 5), .int ea, .int (nI ra), .int (nI rs), .int (nI rt), .ref (q 6), .ref (q 7), .ref (q 8), .ref (q 9), .ref (q 10), .ref (q 11), .int (nI nr), .ref (q 12), .ref (q 13), .ref (q 14), .ref (q 15), .ref (q 16), .ref (q 17), .int tr])), ((q 2), .inl (cI, 6, .inl kd)), ((q 3), .inl (cI, 6, .inl ho)), ((q 4), .inl (cI, 6, .inl pl)), ((q 5), .inl (cI, 6, .inl st))]) [0, 1, 2, 3, 4] rfl) hK⟩ rfl rfl hl.1 rfl (lv_room (Nat.le_of_ble_eq_true rfl)) dX3_areSo_23 ⟨Nat.zero_le _, Nat.zero_le _⟩) ?_
        refine lv_aload_n hx hb dX3_areSo_26 rfl (lv_at hl 2 rfl) ?_
        refine va_get (ci := 3) (v := .ref (q 13)) (C := RX3) (T := TX3) (N := 26) hx hb hts hin_X3 hown hK hP 0 rfl rfl 20 (by decide) fl_46 (fun _ h9 => h9) rfl dX3_areSo_27 ?_
        refine lv_iload_n hx hb dX3_areSo_30 rfl (lv_at hl 0 rfl) ?_
        refine va_iald hx hb hK hP 6 0 rfl rfl (vp_in_nI (show i4 < 8 by omega) (by decide)) dX3_areSo_31 ?_
        refine tw_top (show _ = rh i4 from by rw [nI_clamp (by omega)]) ?_
        refine lv_icmp_ne (tgt := 39) hx hb dX3_areSo_32 (by decide) (fun c_32 => ?_) (fun c_32 => ?_)
        · refine lv_iconst (v := 0) hx hb dX3_areSo_39 (by decide) ?_
          exact J40_0 _ (by (rw [if_neg c_13]; rw [if_neg c_32]) <;> rfl)
        · refine lv_iconst (v := 1) hx hb dX3_areSo_35 (by decide) ?_
          refine lv_goto (tgt := 40) hx hb dX3_areSo_36 (by decide) ?_
          exact J40_0 _ (by (rw [if_neg c_13]; rw [if_pos c_32]) <;> rfl)

def m_X3_strengths_L22 (nt : Nat) (kd : Nat → Int32) (ho : Nat → Int32) (pl : Nat → Int32) (ea : Int32) (nr : Nat) (rc : Nat → Int32) (rh : Nat → Int32) (v1 : Int32) : Nat → Nat → Int32 → (Nat → Int32) → (Int32 × (Nat → Int32))
  | 0, i22, u3_22, wst_22 =>
    (u3_22, wst_22)
  | k22 + 1, i22, u3_22, wst_22 =>
    m_X3_strengths_L22 nt kd ho pl ea nr rc rh v1 k22 (i22 + 1) (u3_22 ||| (if (m_X3_areSo nt kd ho pl (upd wst_22 v1.toNatClampNeg (nI i22)) ea nr rc rh) = 0 then (0 : Int32) else 1 <<< ((nI i22) &&& 31))) (upd wst_22 v1.toNatClampNeg (nI i22))
theorem m_X3_strengths_L22_0 (nt : Nat) (kd : Nat → Int32) (ho : Nat → Int32) (pl : Nat → Int32) (ea : Int32) (nr : Nat) (rc : Nat → Int32) (rh : Nat → Int32) (v1 : Int32) (i22 : Nat) (u3_22 : Int32) (wst_22 : Nat → Int32) : m_X3_strengths_L22 nt kd ho pl ea nr rc rh v1 0 i22 u3_22 wst_22 = 
    (u3_22, wst_22) := rfl
theorem m_X3_strengths_L22_s (nt : Nat) (kd : Nat → Int32) (ho : Nat → Int32) (pl : Nat → Int32) (ea : Int32) (nr : Nat) (rc : Nat → Int32) (rh : Nat → Int32) (v1 : Int32) (i22 : Nat) (u3_22 : Int32) (wst_22 : Nat → Int32) (k22 : Nat) : m_X3_strengths_L22 nt kd ho pl ea nr rc rh v1 (k22 + 1) i22 u3_22 wst_22 = 
    m_X3_strengths_L22 nt kd ho pl ea nr rc rh v1 k22 (i22 + 1) (u3_22 ||| (if (m_X3_areSo nt kd ho pl (upd wst_22 v1.toNatClampNeg (nI i22)) ea nr rc rh) = 0 then (0 : Int32) else 1 <<< ((nI i22) &&& 31))) (upd wst_22 v1.toNatClampNeg (nI i22)) := rfl
def m_X3_strengths (nt : Nat) (kd : Nat → Int32) (ho : Nat → Int32) (pl : Nat → Int32) (st : Nat → Int32) (ea : Int32) (nr : Nat) (rc : Nat → Int32) (rh : Nat → Int32) (v1 : Int32) : Int32 :=
  if (m_X3_noThing nt v1) = 0 then
    ((m_X3_strengths_L22 nt kd ho pl ea nr rc rh v1 10 0 0 st).1)
  else
    (-1)
set_option maxHeartbeats 4000000 in
set_option maxRecDepth 100000 in
theorem c_X3_strengths (l : Launch) (D : va_G) (cI cS : ClassId) (q : Nat → Nat) (hz : Nat) (fa : Int32) (nc : Nat) (nt : Nat) (kd : Nat → Int32) (ho : Nat → Int32) (pl : Nat → Int32) (st : Nat → Int32) (ea : Int32) (ra : Nat) (rs : Nat) (rt : Nat) (nr : Nat) (rc : Nat → Int32) (rh : Nat → Int32) (tr : Int32) (v1 : Int32) (hn : nt ≤ 6) (hr8 : nr ≤ 8) : Met l yX3_strengths wsX3_strengths ({ frames := 5, cells := 0, slots := 0, locals := 113 }) (tw_W D cI cS [.ref (q 0), .int v1] hz [((q 0), .inr (3, [.int fa, .int (nI nc), .ref (q 1), .int (nI nt), .ref (q 2), .ref (q 3), .ref (q 4), .ref (q 5), .int ea, .int (nI ra), .int (nI rs), .int (nI rt), .ref (q 6), .ref (q 7), .ref (q 8), .ref (q 9), .ref (q 10), .ref (q 11), .int (nI nr), .ref (q 12), .ref (q 13), .ref (q 14), .ref (q 15), .ref (q 16), .ref (q 17), .int tr])), ((q 2), .inl (cI, 6, .inl kd)), ((q 3), .inl (cI, 6, .inl ho)), ((q 4), .inl (cI, 6, .inl pl)), ((q 5), .inl (cI, 6, .inl st)), ((q 12), .inl (cI, 8, .inl rc)), ((q 13), .inl (cI, 8, .inl rh))]) (va_Qi (fun r (_ : Unit) => r = (m_X3_strengths nt kd ho pl st ea nr rc rh v1)) (tw_B D cI cS (va_A [((q 0), .inr (3, [.int fa, .int (nI nc), .ref (q 1), .int (nI nt), .ref (q 2), .ref (q 3), .ref (q 4), .ref (q 5), .int ea, .int (nI ra), .int (nI rs), .int (nI rt), .ref (q 6), .ref (q 7), .ref (q 8), .ref (q 9), .ref (q 10), .ref (q 11), .int (nI nr), .ref (q 12), .ref (q 13), .ref (q 14), .ref (q 15), .ref (q 16), .ref (q 17), .int tr])), ((q 2), .inl (cI, 6, .inl kd)), ((q 3), .inl (cI, 6, .inl ho)), ((q 4), .inl (cI, 6, .inl pl)), ((q 5), .inl (cI, 6, .inl st)), ((q 12), .inl (cI, 8, .inl rc)), ((q 13), .inl (cI, 8, .inl rh))] hz) [((q 0), .inr (3, [.int fa, .int (nI nc), .ref (q 1), .int (nI nt), .ref (q 2), .ref (q 3), .ref (q 4), .ref (q 5), .int ea, .int (nI ra), .int (nI rs), .int (nI rt), .ref (q 6), .ref (q 7), .ref (q 8), .ref (q 9), .ref (q 10), .ref (q 11), .int (nI nr), .ref (q 12), .ref (q 13), .ref (q 14), .ref (q 15), .ref (q 16), .ref (q 17), .int tr])), ((q 2), .inl (cI, 6, .inl kd)), ((q 3), .inl (cI, 6, .inl ho)), ((q 4), .inl (cI, 6, .inl pl)), ((q 5), .inl (cI, 6, .inl st)), ((q 12), .inl (cI, 8, .inl rc)), ((q 13), .inl (cI, 8, .inl rh))]) (va_A [((q 0), .inr (3, [.int fa, .int (nI nc), .ref (q 1), .int (nI nt), .ref (q 2), .ref (q 3), .ref (q 4), .ref (q 5), .int ea, .int (nI ra), .int (nI rs), .int (nI rt), .ref (q 6), .ref (q 7), .ref (q 8), .ref (q 9), .ref (q 10), .ref (q 11), .int (nI nr), .ref (q 12), .ref (q 13), .ref (q 14), .ref (q 15), .ref (q 16), .ref (q 17), .int tr])), ((q 2), .inl (cI, 6, .inl kd)), ((q 3), .inl (cI, 6, .inl ho)), ((q 4), .inl (cI, 6, .inl pl)), ((q 5), .inl (cI, 6, .inl st)), ((q 12), .inl (cI, 8, .inl rc)), ((q 13), .inl (cI, 8, .inl rh))] hz)) 0 0 (va_A [((q 0), .inr (3, [.int fa, .int (nI nc), .ref (q 1), .int (nI nt), .ref (q 2), .ref (q 3), .ref (q 4), .ref (q 5), .int ea, .int (nI ra), .int (nI rs), .int (nI rt), .ref (q 6), .ref (q 7), .ref (q 8), .ref (q 9), .ref (q 10), .ref (q 11), .int (nI nr), .ref (q 12), .ref (q 13), .ref (q 14), .ref (q 15), .ref (q 16), .ref (q 17), .int tr])), ((q 2), .inl (cI, 6, .inl kd)), ((q 3), .inl (cI, 6, .inl ho)), ((q 4), .inl (cI, 6, .inl pl)), ((q 5), .inl (cI, 6, .inl st)), ((q 12), .inl (cI, 8, .inl rc)), ((q 13), .inl (cI, 8, .inl rh))] hz) := by
  refine Met.ofW (cc := cX3_strengths) (maxL := 5) (ret := (some .int)) (by decide) rfl ?_
  intro p e s m args below meth c s₁ B hml hv
  obtain ⟨rfl, hsz, hP, hK, hD0⟩ := hv
  have hx := B.exec
  have hb := B.bytes
  have hr := B.returns
  have hts := atoms_spec (ws := wsX3_strengths) B.pre
  have hown : s.vm.findClass RX3 = some m.cls := findClass_of_methodNamed B.named
  have hlocks := B.notSynchronized
  subst hsz
  have hD := hD0.self (sz := s.heap.size)
  generalize hAe : va_A [((q 0), .inr (3, [.int fa, .int (nI nc), .ref (q 1), .int (nI nt), .ref (q 2), .ref (q 3), .ref (q 4), .ref (q 5), .int ea, .int (nI ra), .int (nI rs), .int (nI rt), .ref (q 6), .ref (q 7), .ref (q 8), .ref (q 9), .ref (q 10), .ref (q 11), .int (nI nr), .ref (q 12), .ref (q 13), .ref (q 14), .ref (q 15), .ref (q 16), .ref (q 17), .int tr])), ((q 2), .inl (cI, 6, .inl kd)), ((q 3), .inl (cI, 6, .inl ho)), ((q 4), .inl (cI, 6, .inl pl)), ((q 5), .inl (cI, 6, .inl st)), ((q 12), .inl (cI, 8, .inl rc)), ((q 13), .inl (cI, 8, .inl rh))] s.heap.size = A at hD ⊢
  have hA : ∀ q : Nat, s.heap.size ≤ q → A q := fun q h => by rw [← hAe]; exact Or.inr h
  have hS : va_S A s.heap s.heap [] := va_S.rf
  have fl_22 := hts (.fieldLink RX3 22 "TableWarModel" "strengthOf" "[I") (by decide +kernel)
  have hin_X3 := (show ∀ w ∈ u_ws RX3 TX3 26, w ∈ wsX3_strengths from by decide +kernel)
  have hl := lv_entry ([.ref (q 0), .int v1]) (n := 5) (Nat.le_of_ble_eq_true rfl)
  rw [lg_entry_eq]
  generalize (lg_sl ([.ref (q 0), .int v1]) ++ List.replicate (5 - (lg_sl ([.ref (q 0), .int v1])).length) Slot.unset).toArray = ls at hl ⊢
  have hl : lv_has ls 5 [(0, .ref (q 0)), (1, .int v1)] := hl
  refine lv_aload_n hx hb dX3_strengths_0 rfl (lv_at hl 0 rfl) ?_
  refine lv_iload_n hx hb dX3_strengths_1 rfl (lv_at hl 1 rfl) ?_
  refine tw_cs (va_runV (As := [.int v1]) (rest := []) ⟨hx, hb, hml, hown, hts⟩ (c_X3_noThing l D cI cS q fa nc nt ea ra rs rt nr tr v1) (cwV 1 hts gX3_strengths_X3_noThing rfl rfl rfl (by decide +kernel) ⟨Nat.le_of_ble_eq_true rfl, Nat.le_of_ble_eq_true rfl⟩) ⟨tw_Rb, va_recv hK hP (ci := 3) (q0 := 0) rfl rfl, tw_Rp (hP.sub (ws' := [((q 0), .inr (3, [.int fa, .int (nI nc), .ref (q 1), .int (nI nt), .ref (q 2), .ref (q 3), .ref (q 4), .ref (q 5), .int ea, .int (nI ra), .int (nI rs), .int (nI rt), .ref (q 6), .ref (q 7), .ref (q 8), .ref (q 9), .ref (q 10), .ref (q 11), .int (nI nr), .ref (q 12), .ref (q 13), .ref (q 14), .ref (q 15), .ref (q 16), .ref (q 17), .int tr]))]) [0] rfl) hK⟩ rfl rfl hl.1 rfl (lv_room (Nat.le_of_ble_eq_true rfl)) dX3_strengths_2 ⟨Nat.zero_le _, Nat.zero_le _⟩) ?_
  refine lv_if_eq (tgt := 10) hx hb dX3_strengths_5 (by decide) (fun c_5 => ?_) (fun c_5 => ?_)
  · refine lv_aload_n hx hb dX3_strengths_10 rfl (lv_at hl 0 rfl) ?_
    refine va_get (ci := 3) (v := .ref (q 5)) (C := RX3) (T := TX3) (N := 26) hx hb hts hin_X3 hown hK hP 0 rfl rfl 7 (by decide) fl_22 (fun _ h9 => h9) rfl dX3_strengths_11 ?_
    refine lv_iload_n hx hb dX3_strengths_14 rfl (lv_at hl 1 rfl) ?_
    refine va_iald hx hb hK hP 4 0 rfl rfl (noThing_in hn c_5) dX3_strengths_15 ?_
    refine lv_istore_n (lv' := [(2, .int (st v1.toNatClampNeg)), (0, .ref (q 0)), (1, .int v1)]) hx hb dX3_strengths_16 rfl hl (by decide) rfl (fun ls hl => ?_)
    refine lv_iconst (v := 0) hx hb dX3_strengths_17 (by decide) ?_
    refine lv_istore_n (lv' := [(3, .int 0), (2, .int (st v1.toNatClampNeg)), (0, .ref (q 0)), (1, .int v1)]) hx hb dX3_strengths_18 rfl hl (by decide) rfl (fun ls hl => ?_)
    refine lv_iconst (v := 0) hx hb dX3_strengths_19 (by decide) ?_
    refine lv_istore (lv' := [(4, .int 0), (3, .int 0), (2, .int (st v1.toNatClampNeg)), (0, .ref (q 0)), (1, .int v1)]) hx hb dX3_strengths_20 hl (by decide) rfl (fun ls hl => ?_)
    refine tw_loopW (σ := Int32 × (Nat → Int32)) (fun k i z ls H locs => i + k = 10 ∧ upd z.2 v1.toNatClampNeg (st v1.toNatClampNeg) = st ∧ m_X3_strengths_L22 nt kd ho pl ea nr rc rh v1 k i z.1 z.2 = m_X3_strengths_L22 nt kd ho pl ea nr rc rh v1 10 0 0 st ∧ va_P D vwCl [((q 0), .inr (3, [.int fa, .int (nI nc), .ref (q 1), .int (nI nt), .ref (q 2), .ref (q 3), .ref (q 4), .ref (q 5), .int ea, .int (nI ra), .int (nI rs), .int (nI rt), .ref (q 6), .ref (q 7), .ref (q 8), .ref (q 9), .ref (q 10), .ref (q 11), .int (nI nr), .ref (q 12), .ref (q 13), .ref (q 14), .ref (q 15), .ref (q 16), .ref (q 17), .int tr])), ((q 2), .inl (cI, 6, .inl kd)), ((q 3), .inl (cI, 6, .inl ho)), ((q 4), .inl (cI, 6, .inl pl)), ((q 5), .inl (cI, 6, .inl z.2)), ((q 12), .inl (cI, 8, .inl rc)), ((q 13), .inl (cI, 8, .inl rh))] H ∧ va_D A [((q 0), .inr (3, [.int fa, .int (nI nc), .ref (q 1), .int (nI nt), .ref (q 2), .ref (q 3), .ref (q 4), .ref (q 5), .int ea, .int (nI ra), .int (nI rs), .int (nI rt), .ref (q 6), .ref (q 7), .ref (q 8), .ref (q 9), .ref (q 10), .ref (q 11), .int (nI nr), .ref (q 12), .ref (q 13), .ref (q 14), .ref (q 15), .ref (q 16), .ref (q 17), .int tr])), ((q 2), .inl (cI, 6, .inl kd)), ((q 3), .inl (cI, 6, .inl ho)), ((q 4), .inl (cI, 6, .inl pl)), ((q 5), .inl (cI, 6, .inl z.2)), ((q 12), .inl (cI, 8, .inl rc)), ((q 13), .inl (cI, 8, .inl rh))] ∧ va_S A s.heap H locs ∧ lv_has ls 5 [(4, .int (nI i)), (3, .int z.1), (2, .int (st v1.toNatClampNeg)), (0, .ref (q 0)), (1, .int v1)]) 10 0 (0, st) ⟨Nat.zero_add _, (show upd st v1.toNatClampNeg (st v1.toNatClampNeg) = st from upd_id _ _), rfl, hP, hD, hS, lv_sub hl [0, 1, 2, 3, 4] rfl⟩ ?_ ?_
    · intro i22 z ls H locs hI
      obtain ⟨u3_22, wst_22⟩ := z
      obtain ⟨hk22, hw, hm22, hP, hD, hS, hl⟩ := hI
      have hm22 : m_X3_strengths_L22 nt kd ho pl ea nr rc rh v1 0 i22 u3_22 wst_22 = m_X3_strengths_L22 nt kd ho pl ea nr rc rh v1 10 0 0 st := hm22
      have hw : upd wst_22 v1.toNatClampNeg (st v1.toNatClampNeg) = st := hw
      have hP : va_P D vwCl [((q 0), .inr (3, [.int fa, .int (nI nc), .ref (q 1), .int (nI nt), .ref (q 2), .ref (q 3), .ref (q 4), .ref (q 5), .int ea, .int (nI ra), .int (nI rs), .int (nI rt), .ref (q 6), .ref (q 7), .ref (q 8), .ref (q 9), .ref (q 10), .ref (q 11), .int (nI nr), .ref (q 12), .ref (q 13), .ref (q 14), .ref (q 15), .ref (q 16), .ref (q 17), .int tr])), ((q 2), .inl (cI, 6, .inl kd)), ((q 3), .inl (cI, 6, .inl ho)), ((q 4), .inl (cI, 6, .inl pl)), ((q 5), .inl (cI, 6, .inl wst_22)), ((q 12), .inl (cI, 8, .inl rc)), ((q 13), .inl (cI, 8, .inl rh))] H := hP
      have hD : va_D A [((q 0), .inr (3, [.int fa, .int (nI nc), .ref (q 1), .int (nI nt), .ref (q 2), .ref (q 3), .ref (q 4), .ref (q 5), .int ea, .int (nI ra), .int (nI rs), .int (nI rt), .ref (q 6), .ref (q 7), .ref (q 8), .ref (q 9), .ref (q 10), .ref (q 11), .int (nI nr), .ref (q 12), .ref (q 13), .ref (q 14), .ref (q 15), .ref (q 16), .ref (q 17), .int tr])), ((q 2), .inl (cI, 6, .inl kd)), ((q 3), .inl (cI, 6, .inl ho)), ((q 4), .inl (cI, 6, .inl pl)), ((q 5), .inl (cI, 6, .inl wst_22)), ((q 12), .inl (cI, 8, .inl rc)), ((q 13), .inl (cI, 8, .inl rh))] := hD
      have hl : lv_has ls 5 [(4, .int (nI i22)), (3, .int u3_22), (2, .int (st v1.toNatClampNeg)), (0, .ref (q 0)), (1, .int v1)] := hl
      have hm22 : (u3_22, wst_22) = m_X3_strengths_L22 nt kd ho pl ea nr rc rh v1 10 0 0 st := hm22
      refine lv_iload hx hb dX3_strengths_22 (lv_at hl 0 rfl) ?_
      refine lv_bipush (v := 10) hx hb dX3_strengths_24 (by decide) ?_
      refine lv_icmp_ge (tgt := 61) hx hb dX3_strengths_26 (by decide) (fun c_26 => ?_) (fun c_26 => absurd (tw_tge rfl (show 10 ≤ i22 by omega) (show i22 < 2 ^ 31 by omega)) c_26)
      refine lv_aload_n hx hb dX3_strengths_61 rfl (lv_at hl 3 rfl) ?_
      refine va_get (ci := 3) (v := .ref (q 5)) (C := RX3) (T := TX3) (N := 26) hx hb hts hin_X3 hown hK hP 0 rfl rfl 7 (by decide) fl_22 (fun _ h9 => h9) rfl dX3_strengths_62 ?_
      refine lv_iload_n hx hb dX3_strengths_65 rfl (lv_at hl 4 rfl) ?_
      refine lv_iload_n hx hb dX3_strengths_66 rfl (lv_at hl 2 rfl) ?_
      refine va_iast hx hb hK hP hD hS 4 0 rfl rfl (noThing_in hn c_5) dX3_strengths_67 (fun H locs hP hD hS => ?_)
      have hP : va_P D vwCl [((q 0), .inr (3, [.int fa, .int (nI nc), .ref (q 1), .int (nI nt), .ref (q 2), .ref (q 3), .ref (q 4), .ref (q 5), .int ea, .int (nI ra), .int (nI rs), .int (nI rt), .ref (q 6), .ref (q 7), .ref (q 8), .ref (q 9), .ref (q 10), .ref (q 11), .int (nI nr), .ref (q 12), .ref (q 13), .ref (q 14), .ref (q 15), .ref (q 16), .ref (q 17), .int tr])), ((q 2), .inl (cI, 6, .inl kd)), ((q 3), .inl (cI, 6, .inl ho)), ((q 4), .inl (cI, 6, .inl pl)), ((q 5), .inl (cI, 6, .inl (upd wst_22 v1.toNatClampNeg (st v1.toNatClampNeg)))), ((q 12), .inl (cI, 8, .inl rc)), ((q 13), .inl (cI, 8, .inl rh))] H := hP
      have hD : va_D A [((q 0), .inr (3, [.int fa, .int (nI nc), .ref (q 1), .int (nI nt), .ref (q 2), .ref (q 3), .ref (q 4), .ref (q 5), .int ea, .int (nI ra), .int (nI rs), .int (nI rt), .ref (q 6), .ref (q 7), .ref (q 8), .ref (q 9), .ref (q 10), .ref (q 11), .int (nI nr), .ref (q 12), .ref (q 13), .ref (q 14), .ref (q 15), .ref (q 16), .ref (q 17), .int tr])), ((q 2), .inl (cI, 6, .inl kd)), ((q 3), .inl (cI, 6, .inl ho)), ((q 4), .inl (cI, 6, .inl pl)), ((q 5), .inl (cI, 6, .inl (upd wst_22 v1.toNatClampNeg (st v1.toNatClampNeg)))), ((q 12), .inl (cI, 8, .inl rc)), ((q 13), .inl (cI, 8, .inl rh))] := hD
      have hP : va_P D vwCl [((q 0), .inr (3, [.int fa, .int (nI nc), .ref (q 1), .int (nI nt), .ref (q 2), .ref (q 3), .ref (q 4), .ref (q 5), .int ea, .int (nI ra), .int (nI rs), .int (nI rt), .ref (q 6), .ref (q 7), .ref (q 8), .ref (q 9), .ref (q 10), .ref (q 11), .int (nI nr), .ref (q 12), .ref (q 13), .ref (q 14), .ref (q 15), .ref (q 16), .ref (q 17), .int tr])), ((q 2), .inl (cI, 6, .inl kd)), ((q 3), .inl (cI, 6, .inl ho)), ((q 4), .inl (cI, 6, .inl pl)), ((q 5), .inl (cI, 6, .inl st)), ((q 12), .inl (cI, 8, .inl rc)), ((q 13), .inl (cI, 8, .inl rh))] H := (by rw [hw] at hP; exact hP)
      have hD : va_D A [((q 0), .inr (3, [.int fa, .int (nI nc), .ref (q 1), .int (nI nt), .ref (q 2), .ref (q 3), .ref (q 4), .ref (q 5), .int ea, .int (nI ra), .int (nI rs), .int (nI rt), .ref (q 6), .ref (q 7), .ref (q 8), .ref (q 9), .ref (q 10), .ref (q 11), .int (nI nr), .ref (q 12), .ref (q 13), .ref (q 14), .ref (q 15), .ref (q 16), .ref (q 17), .int tr])), ((q 2), .inl (cI, 6, .inl kd)), ((q 3), .inl (cI, 6, .inl ho)), ((q 4), .inl (cI, 6, .inl pl)), ((q 5), .inl (cI, 6, .inl st)), ((q 12), .inl (cI, 8, .inl rc)), ((q 13), .inl (cI, 8, .inl rh))] := (by rw [hw] at hD; exact hD)
      refine lv_iload_n hx hb dX3_strengths_68 rfl (lv_at hl 1 rfl) ?_
      have hE : (m_X3_strengths nt kd ho pl st ea nr rc rh v1) = u3_22 := Eq.symm (by (unfold m_X3_strengths; rw [if_pos c_5]; rw [← hm22]; (try dsimp only)) <;> rfl)
      rw [hE]
      exact W.iret hx hb hr (fun t ht hW => ⟨⟨_, (), rfl, rfl, by rw [ht]; exact hP, va_K.moved hW.alike hK, hD⟩, hS.F ht⟩) hS.2.2 dX3_strengths_69
    · intro k22 i22 z ls H locs ih22 hI
      obtain ⟨u3_22, wst_22⟩ := z
      obtain ⟨hk22, hw, hm22, hP, hD, hS, hl⟩ := hI
      have hm22 : m_X3_strengths_L22 nt kd ho pl ea nr rc rh v1 (k22 + 1) i22 u3_22 wst_22 = m_X3_strengths_L22 nt kd ho pl ea nr rc rh v1 10 0 0 st := hm22
      have hw : upd wst_22 v1.toNatClampNeg (st v1.toNatClampNeg) = st := hw
      have hP : va_P D vwCl [((q 0), .inr (3, [.int fa, .int (nI nc), .ref (q 1), .int (nI nt), .ref (q 2), .ref (q 3), .ref (q 4), .ref (q 5), .int ea, .int (nI ra), .int (nI rs), .int (nI rt), .ref (q 6), .ref (q 7), .ref (q 8), .ref (q 9), .ref (q 10), .ref (q 11), .int (nI nr), .ref (q 12), .ref (q 13), .ref (q 14), .ref (q 15), .ref (q 16), .ref (q 17), .int tr])), ((q 2), .inl (cI, 6, .inl kd)), ((q 3), .inl (cI, 6, .inl ho)), ((q 4), .inl (cI, 6, .inl pl)), ((q 5), .inl (cI, 6, .inl wst_22)), ((q 12), .inl (cI, 8, .inl rc)), ((q 13), .inl (cI, 8, .inl rh))] H := hP
      have hD : va_D A [((q 0), .inr (3, [.int fa, .int (nI nc), .ref (q 1), .int (nI nt), .ref (q 2), .ref (q 3), .ref (q 4), .ref (q 5), .int ea, .int (nI ra), .int (nI rs), .int (nI rt), .ref (q 6), .ref (q 7), .ref (q 8), .ref (q 9), .ref (q 10), .ref (q 11), .int (nI nr), .ref (q 12), .ref (q 13), .ref (q 14), .ref (q 15), .ref (q 16), .ref (q 17), .int tr])), ((q 2), .inl (cI, 6, .inl kd)), ((q 3), .inl (cI, 6, .inl ho)), ((q 4), .inl (cI, 6, .inl pl)), ((q 5), .inl (cI, 6, .inl wst_22)), ((q 12), .inl (cI, 8, .inl rc)), ((q 13), .inl (cI, 8, .inl rh))] := hD
      have hl : lv_has ls 5 [(4, .int (nI i22)), (3, .int u3_22), (2, .int (st v1.toNatClampNeg)), (0, .ref (q 0)), (1, .int v1)] := hl
      refine lv_iload hx hb dX3_strengths_22 (lv_at hl 0 rfl) ?_
      refine lv_bipush (v := 10) hx hb dX3_strengths_24 (by decide) ?_
      refine lv_icmp_ge (tgt := 61) hx hb dX3_strengths_26 (by decide) (fun c_26 => absurd c_26 (tw_tlt rfl (show i22 < 10 by omega) (show 10 < 2 ^ 31 by omega))) (fun c_26 => ?_)
      refine lv_aload_n hx hb dX3_strengths_29 rfl (lv_at hl 3 rfl) ?_
      refine va_get (ci := 3) (v := .ref (q 5)) (C := RX3) (T := TX3) (N := 26) hx hb hts hin_X3 hown hK hP 0 rfl rfl 7 (by decide) fl_22 (fun _ h9 => h9) rfl dX3_strengths_30 ?_
      refine lv_iload_n hx hb dX3_strengths_33 rfl (lv_at hl 4 rfl) ?_
      refine lv_iload hx hb dX3_strengths_34 (lv_at hl 0 rfl) ?_
      refine va_iast hx hb hK hP hD hS 4 0 rfl rfl (noThing_in hn c_5) dX3_strengths_36 (fun H locs hP hD hS => ?_)
      have hP : va_P D vwCl [((q 0), .inr (3, [.int fa, .int (nI nc), .ref (q 1), .int (nI nt), .ref (q 2), .ref (q 3), .ref (q 4), .ref (q 5), .int ea, .int (nI ra), .int (nI rs), .int (nI rt), .ref (q 6), .ref (q 7), .ref (q 8), .ref (q 9), .ref (q 10), .ref (q 11), .int (nI nr), .ref (q 12), .ref (q 13), .ref (q 14), .ref (q 15), .ref (q 16), .ref (q 17), .int tr])), ((q 2), .inl (cI, 6, .inl kd)), ((q 3), .inl (cI, 6, .inl ho)), ((q 4), .inl (cI, 6, .inl pl)), ((q 5), .inl (cI, 6, .inl (upd wst_22 v1.toNatClampNeg (nI i22)))), ((q 12), .inl (cI, 8, .inl rc)), ((q 13), .inl (cI, 8, .inl rh))] H := hP
      have hD : va_D A [((q 0), .inr (3, [.int fa, .int (nI nc), .ref (q 1), .int (nI nt), .ref (q 2), .ref (q 3), .ref (q 4), .ref (q 5), .int ea, .int (nI ra), .int (nI rs), .int (nI rt), .ref (q 6), .ref (q 7), .ref (q 8), .ref (q 9), .ref (q 10), .ref (q 11), .int (nI nr), .ref (q 12), .ref (q 13), .ref (q 14), .ref (q 15), .ref (q 16), .ref (q 17), .int tr])), ((q 2), .inl (cI, 6, .inl kd)), ((q 3), .inl (cI, 6, .inl ho)), ((q 4), .inl (cI, 6, .inl pl)), ((q 5), .inl (cI, 6, .inl (upd wst_22 v1.toNatClampNeg (nI i22)))), ((q 12), .inl (cI, 8, .inl rc)), ((q 13), .inl (cI, 8, .inl rh))] := hD
      refine lv_iload_n hx hb dX3_strengths_37 rfl (lv_at hl 1 rfl) ?_
      refine lv_aload_n hx hb dX3_strengths_38 rfl (lv_at hl 3 rfl) ?_
      refine tw_cs (va_runV (As := []) (rest := [.int u3_22]) ⟨hx, hb, hml, hown, hts⟩ (c_X3_areSo l D cI cS q fa nc nt kd ho pl (upd wst_22 v1.toNatClampNeg (nI i22)) ea ra rs rt nr rc rh tr (by first | assumption | omega | exact hz60 _ | exact vp_in_nI (by omega) (by decide)) (by first | assumption | omega | exact hz60 _ | exact vp_in_nI (by omega) (by decide))) (cwV 0 hts gX3_strengths_X3_areSo rfl rfl rfl (by decide +kernel) ⟨Nat.le_of_ble_eq_true rfl, Nat.le_of_ble_eq_true rfl⟩) ⟨tw_Rb, va_recv hK hP (ci := 3) (q0 := 0) rfl rfl, tw_Rp (hP.sub (ws' := [((q 0), .inr (3, [.int fa, .int (nI nc), .ref (q 1), .int (nI nt), .ref (q 2), .ref (q 3), .ref (q 4), .ref (q 5), .int ea, .int (nI ra), .int (nI rs), .int (nI rt), .ref (q 6), .ref (q 7), .ref (q 8), .ref (q 9), .ref (q 10), .ref (q 11), .int (nI nr), .ref (q 12), .ref (q 13), .ref (q 14), .ref (q 15), .ref (q 16), .ref (q 17), .int tr])), ((q 2), .inl (cI, 6, .inl kd)), ((q 3), .inl (cI, 6, .inl ho)), ((q 4), .inl (cI, 6, .inl pl)), ((q 5), .inl (cI, 6, .inl (upd wst_22 v1.toNatClampNeg (nI i22)))), ((q 12), .inl (cI, 8, .inl rc)), ((q 13), .inl (cI, 8, .inl rh))]) [0, 1, 2, 3, 4, 5, 6] rfl) hK⟩ rfl rfl hl.1 rfl (lv_room (Nat.le_of_ble_eq_true rfl)) dX3_strengths_39 ⟨Nat.zero_le _, Nat.zero_le _⟩) ?_
      refine tw_join (fun (y : Int32) => F0 m 53 ls (.int y :: .int u3_22 :: [])) (if (m_X3_areSo nt kd ho pl (upd wst_22 v1.toNatClampNeg (nI i22)) ea nr rc rh) = 0 then (0 : Int32) else 1 <<< ((nI i22) &&& 31)) ?_ (fun J53_0 => ?_)
      · intro y53 hy53
        refine lv_ior hx hb dX3_strengths_53 ?_
        refine lv_istore_n (lv' := [(3, .int (u3_22 ||| y53)), (4, .int (nI i22)), (2, .int (st v1.toNatClampNeg)), (0, .ref (q 0)), (1, .int v1)]) hx hb dX3_strengths_54 rfl hl (by decide) rfl (fun ls hl => ?_)
        refine lv_iinc (v := nI (i22 + 1)) (lv' := [(4, .int (nI (i22 + 1))), (3, .int (u3_22 ||| y53)), (2, .int (st v1.toNatClampNeg)), (0, .ref (q 0)), (1, .int v1)]) hx hb dX3_strengths_55 hl (k := 1) rfl (nI_1 _) (by decide) rfl (fun ls hl => ?_)
        refine lv_goto (tgt := 22) hx hb dX3_strengths_58 (by decide) ?_
        exact ih22 (u3_22 ||| y53, upd wst_22 v1.toNatClampNeg (nI i22)) ls H _ ⟨by omega, (show upd (upd wst_22 v1.toNatClampNeg (nI i22)) v1.toNatClampNeg (st v1.toNatClampNeg) = st from tw_uu hw), (by (rw [← hm22, m_X3_strengths_L22_s]; (try rw [← hy53])) <;> rfl), hP, hD, hS, lv_sub hl [0, 1, 2, 3, 4] rfl⟩
      · refine lv_if_eq (tgt := 52) hx hb dX3_strengths_42 (by decide) (fun c_42 => ?_) (fun c_42 => ?_)
        · refine lv_iconst (v := 0) hx hb dX3_strengths_52 (by decide) ?_
          exact J53_0 _ (by (rw [if_pos c_42]) <;> rfl)
        · refine lv_iconst (v := 1) hx hb dX3_strengths_45 (by decide) ?_
          refine lv_iload hx hb dX3_strengths_46 (lv_at hl 0 rfl) ?_
          refine lv_ishl hx hb dX3_strengths_48 ?_
          refine lv_goto (tgt := 53) hx hb dX3_strengths_49 (by decide) ?_
          exact J53_0 _ (by (rw [if_neg c_42]) <;> rfl)
  · refine lv_iconst (v := (-1)) hx hb dX3_strengths_8 (by decide) ?_
    have hE : (m_X3_strengths nt kd ho pl st ea nr rc rh v1) = (-1) := Eq.symm (by (unfold m_X3_strengths; rw [if_neg c_5]) <;> rfl)
    rw [hE]
    exact W.iret hx hb hr (fun t ht hW => ⟨⟨_, (), rfl, rfl, by rw [ht]; exact hP, va_K.moved hW.alike hK, hD⟩, hS.F ht⟩) hS.2.2 dX3_strengths_9

def m_X3_kinds_L22 (nt : Nat) (ho : Nat → Int32) (pl : Nat → Int32) (st : Nat → Int32) (ea : Int32) (nr : Nat) (rc : Nat → Int32) (rh : Nat → Int32) (v1 : Int32) : Nat → Nat → Int32 → (Nat → Int32) → (Int32 × (Nat → Int32))
  | 0, i22, u3_22, wkd_22 =>
    (u3_22, wkd_22)
  | k22 + 1, i22, u3_22, wkd_22 =>
    m_X3_kinds_L22 nt ho pl st ea nr rc rh v1 k22 (i22 + 1) (u3_22 ||| (if (m_X3_areSo nt (upd wkd_22 v1.toNatClampNeg (nI i22)) ho pl st ea nr rc rh) = 0 then (0 : Int32) else 1 <<< ((nI i22) &&& 31))) (upd wkd_22 v1.toNatClampNeg (nI i22))
theorem m_X3_kinds_L22_0 (nt : Nat) (ho : Nat → Int32) (pl : Nat → Int32) (st : Nat → Int32) (ea : Int32) (nr : Nat) (rc : Nat → Int32) (rh : Nat → Int32) (v1 : Int32) (i22 : Nat) (u3_22 : Int32) (wkd_22 : Nat → Int32) : m_X3_kinds_L22 nt ho pl st ea nr rc rh v1 0 i22 u3_22 wkd_22 = 
    (u3_22, wkd_22) := rfl
theorem m_X3_kinds_L22_s (nt : Nat) (ho : Nat → Int32) (pl : Nat → Int32) (st : Nat → Int32) (ea : Int32) (nr : Nat) (rc : Nat → Int32) (rh : Nat → Int32) (v1 : Int32) (i22 : Nat) (u3_22 : Int32) (wkd_22 : Nat → Int32) (k22 : Nat) : m_X3_kinds_L22 nt ho pl st ea nr rc rh v1 (k22 + 1) i22 u3_22 wkd_22 = 
    m_X3_kinds_L22 nt ho pl st ea nr rc rh v1 k22 (i22 + 1) (u3_22 ||| (if (m_X3_areSo nt (upd wkd_22 v1.toNatClampNeg (nI i22)) ho pl st ea nr rc rh) = 0 then (0 : Int32) else 1 <<< ((nI i22) &&& 31))) (upd wkd_22 v1.toNatClampNeg (nI i22)) := rfl
def m_X3_kinds (nt : Nat) (kd : Nat → Int32) (ho : Nat → Int32) (pl : Nat → Int32) (st : Nat → Int32) (ea : Int32) (nr : Nat) (rc : Nat → Int32) (rh : Nat → Int32) (v1 : Int32) : Int32 :=
  if (m_X3_noThing nt v1) = 0 then
    ((m_X3_kinds_L22 nt ho pl st ea nr rc rh v1 3 0 0 kd).1)
  else
    (-1)
set_option maxHeartbeats 4000000 in
set_option maxRecDepth 100000 in
theorem c_X3_kinds (l : Launch) (D : va_G) (cI cS : ClassId) (q : Nat → Nat) (hz : Nat) (fa : Int32) (nc : Nat) (nt : Nat) (kd : Nat → Int32) (ho : Nat → Int32) (pl : Nat → Int32) (st : Nat → Int32) (ea : Int32) (ra : Nat) (rs : Nat) (rt : Nat) (nr : Nat) (rc : Nat → Int32) (rh : Nat → Int32) (tr : Int32) (v1 : Int32) (hn : nt ≤ 6) (hr8 : nr ≤ 8) : Met l yX3_kinds wsX3_kinds ({ frames := 5, cells := 0, slots := 0, locals := 113 }) (tw_W D cI cS [.ref (q 0), .int v1] hz [((q 0), .inr (3, [.int fa, .int (nI nc), .ref (q 1), .int (nI nt), .ref (q 2), .ref (q 3), .ref (q 4), .ref (q 5), .int ea, .int (nI ra), .int (nI rs), .int (nI rt), .ref (q 6), .ref (q 7), .ref (q 8), .ref (q 9), .ref (q 10), .ref (q 11), .int (nI nr), .ref (q 12), .ref (q 13), .ref (q 14), .ref (q 15), .ref (q 16), .ref (q 17), .int tr])), ((q 2), .inl (cI, 6, .inl kd)), ((q 3), .inl (cI, 6, .inl ho)), ((q 4), .inl (cI, 6, .inl pl)), ((q 5), .inl (cI, 6, .inl st)), ((q 12), .inl (cI, 8, .inl rc)), ((q 13), .inl (cI, 8, .inl rh))]) (va_Qi (fun r (_ : Unit) => r = (m_X3_kinds nt kd ho pl st ea nr rc rh v1)) (tw_B D cI cS (va_A [((q 0), .inr (3, [.int fa, .int (nI nc), .ref (q 1), .int (nI nt), .ref (q 2), .ref (q 3), .ref (q 4), .ref (q 5), .int ea, .int (nI ra), .int (nI rs), .int (nI rt), .ref (q 6), .ref (q 7), .ref (q 8), .ref (q 9), .ref (q 10), .ref (q 11), .int (nI nr), .ref (q 12), .ref (q 13), .ref (q 14), .ref (q 15), .ref (q 16), .ref (q 17), .int tr])), ((q 2), .inl (cI, 6, .inl kd)), ((q 3), .inl (cI, 6, .inl ho)), ((q 4), .inl (cI, 6, .inl pl)), ((q 5), .inl (cI, 6, .inl st)), ((q 12), .inl (cI, 8, .inl rc)), ((q 13), .inl (cI, 8, .inl rh))] hz) [((q 0), .inr (3, [.int fa, .int (nI nc), .ref (q 1), .int (nI nt), .ref (q 2), .ref (q 3), .ref (q 4), .ref (q 5), .int ea, .int (nI ra), .int (nI rs), .int (nI rt), .ref (q 6), .ref (q 7), .ref (q 8), .ref (q 9), .ref (q 10), .ref (q 11), .int (nI nr), .ref (q 12), .ref (q 13), .ref (q 14), .ref (q 15), .ref (q 16), .ref (q 17), .int tr])), ((q 2), .inl (cI, 6, .inl kd)), ((q 3), .inl (cI, 6, .inl ho)), ((q 4), .inl (cI, 6, .inl pl)), ((q 5), .inl (cI, 6, .inl st)), ((q 12), .inl (cI, 8, .inl rc)), ((q 13), .inl (cI, 8, .inl rh))]) (va_A [((q 0), .inr (3, [.int fa, .int (nI nc), .ref (q 1), .int (nI nt), .ref (q 2), .ref (q 3), .ref (q 4), .ref (q 5), .int ea, .int (nI ra), .int (nI rs), .int (nI rt), .ref (q 6), .ref (q 7), .ref (q 8), .ref (q 9), .ref (q 10), .ref (q 11), .int (nI nr), .ref (q 12), .ref (q 13), .ref (q 14), .ref (q 15), .ref (q 16), .ref (q 17), .int tr])), ((q 2), .inl (cI, 6, .inl kd)), ((q 3), .inl (cI, 6, .inl ho)), ((q 4), .inl (cI, 6, .inl pl)), ((q 5), .inl (cI, 6, .inl st)), ((q 12), .inl (cI, 8, .inl rc)), ((q 13), .inl (cI, 8, .inl rh))] hz)) 0 0 (va_A [((q 0), .inr (3, [.int fa, .int (nI nc), .ref (q 1), .int (nI nt), .ref (q 2), .ref (q 3), .ref (q 4), .ref (q 5), .int ea, .int (nI ra), .int (nI rs), .int (nI rt), .ref (q 6), .ref (q 7), .ref (q 8), .ref (q 9), .ref (q 10), .ref (q 11), .int (nI nr), .ref (q 12), .ref (q 13), .ref (q 14), .ref (q 15), .ref (q 16), .ref (q 17), .int tr])), ((q 2), .inl (cI, 6, .inl kd)), ((q 3), .inl (cI, 6, .inl ho)), ((q 4), .inl (cI, 6, .inl pl)), ((q 5), .inl (cI, 6, .inl st)), ((q 12), .inl (cI, 8, .inl rc)), ((q 13), .inl (cI, 8, .inl rh))] hz) := by
  refine Met.ofW (cc := cX3_kinds) (maxL := 5) (ret := (some .int)) (by decide) rfl ?_
  intro p e s m args below meth c s₁ B hml hv
  obtain ⟨rfl, hsz, hP, hK, hD0⟩ := hv
  have hx := B.exec
  have hb := B.bytes
  have hr := B.returns
  have hts := atoms_spec (ws := wsX3_kinds) B.pre
  have hown : s.vm.findClass RX3 = some m.cls := findClass_of_methodNamed B.named
  have hlocks := B.notSynchronized
  subst hsz
  have hD := hD0.self (sz := s.heap.size)
  generalize hAe : va_A [((q 0), .inr (3, [.int fa, .int (nI nc), .ref (q 1), .int (nI nt), .ref (q 2), .ref (q 3), .ref (q 4), .ref (q 5), .int ea, .int (nI ra), .int (nI rs), .int (nI rt), .ref (q 6), .ref (q 7), .ref (q 8), .ref (q 9), .ref (q 10), .ref (q 11), .int (nI nr), .ref (q 12), .ref (q 13), .ref (q 14), .ref (q 15), .ref (q 16), .ref (q 17), .int tr])), ((q 2), .inl (cI, 6, .inl kd)), ((q 3), .inl (cI, 6, .inl ho)), ((q 4), .inl (cI, 6, .inl pl)), ((q 5), .inl (cI, 6, .inl st)), ((q 12), .inl (cI, 8, .inl rc)), ((q 13), .inl (cI, 8, .inl rh))] s.heap.size = A at hD ⊢
  have hA : ∀ q : Nat, s.heap.size ≤ q → A q := fun q h => by rw [← hAe]; exact Or.inr h
  have hS : va_S A s.heap s.heap [] := va_S.rf
  have fl_13 := hts (.fieldLink RX3 13 "TableWarModel" "kindOf" "[I") (by decide +kernel)
  have hin_X3 := (show ∀ w ∈ u_ws RX3 TX3 26, w ∈ wsX3_kinds from by decide +kernel)
  have hl := lv_entry ([.ref (q 0), .int v1]) (n := 5) (Nat.le_of_ble_eq_true rfl)
  rw [lg_entry_eq]
  generalize (lg_sl ([.ref (q 0), .int v1]) ++ List.replicate (5 - (lg_sl ([.ref (q 0), .int v1])).length) Slot.unset).toArray = ls at hl ⊢
  have hl : lv_has ls 5 [(0, .ref (q 0)), (1, .int v1)] := hl
  refine lv_aload_n hx hb dX3_kinds_0 rfl (lv_at hl 0 rfl) ?_
  refine lv_iload_n hx hb dX3_kinds_1 rfl (lv_at hl 1 rfl) ?_
  refine tw_cs (va_runV (As := [.int v1]) (rest := []) ⟨hx, hb, hml, hown, hts⟩ (c_X3_noThing l D cI cS q fa nc nt ea ra rs rt nr tr v1) (cwV 1 hts gX3_kinds_X3_noThing rfl rfl rfl (by decide +kernel) ⟨Nat.le_of_ble_eq_true rfl, Nat.le_of_ble_eq_true rfl⟩) ⟨tw_Rb, va_recv hK hP (ci := 3) (q0 := 0) rfl rfl, tw_Rp (hP.sub (ws' := [((q 0), .inr (3, [.int fa, .int (nI nc), .ref (q 1), .int (nI nt), .ref (q 2), .ref (q 3), .ref (q 4), .ref (q 5), .int ea, .int (nI ra), .int (nI rs), .int (nI rt), .ref (q 6), .ref (q 7), .ref (q 8), .ref (q 9), .ref (q 10), .ref (q 11), .int (nI nr), .ref (q 12), .ref (q 13), .ref (q 14), .ref (q 15), .ref (q 16), .ref (q 17), .int tr]))]) [0] rfl) hK⟩ rfl rfl hl.1 rfl (lv_room (Nat.le_of_ble_eq_true rfl)) dX3_kinds_2 ⟨Nat.zero_le _, Nat.zero_le _⟩) ?_
  refine lv_if_eq (tgt := 10) hx hb dX3_kinds_5 (by decide) (fun c_5 => ?_) (fun c_5 => ?_)
  · refine lv_aload_n hx hb dX3_kinds_10 rfl (lv_at hl 0 rfl) ?_
    refine va_get (ci := 3) (v := .ref (q 2)) (C := RX3) (T := TX3) (N := 26) hx hb hts hin_X3 hown hK hP 0 rfl rfl 4 (by decide) fl_13 (fun _ h9 => h9) rfl dX3_kinds_11 ?_
    refine lv_iload_n hx hb dX3_kinds_14 rfl (lv_at hl 1 rfl) ?_
    refine va_iald hx hb hK hP 1 0 rfl rfl (noThing_in hn c_5) dX3_kinds_15 ?_
    refine lv_istore_n (lv' := [(2, .int (kd v1.toNatClampNeg)), (0, .ref (q 0)), (1, .int v1)]) hx hb dX3_kinds_16 rfl hl (by decide) rfl (fun ls hl => ?_)
    refine lv_iconst (v := 0) hx hb dX3_kinds_17 (by decide) ?_
    refine lv_istore_n (lv' := [(3, .int 0), (2, .int (kd v1.toNatClampNeg)), (0, .ref (q 0)), (1, .int v1)]) hx hb dX3_kinds_18 rfl hl (by decide) rfl (fun ls hl => ?_)
    refine lv_iconst (v := 0) hx hb dX3_kinds_19 (by decide) ?_
    refine lv_istore (lv' := [(4, .int 0), (3, .int 0), (2, .int (kd v1.toNatClampNeg)), (0, .ref (q 0)), (1, .int v1)]) hx hb dX3_kinds_20 hl (by decide) rfl (fun ls hl => ?_)
    refine tw_loopW (σ := Int32 × (Nat → Int32)) (fun k i z ls H locs => i + k = 3 ∧ upd z.2 v1.toNatClampNeg (kd v1.toNatClampNeg) = kd ∧ m_X3_kinds_L22 nt ho pl st ea nr rc rh v1 k i z.1 z.2 = m_X3_kinds_L22 nt ho pl st ea nr rc rh v1 3 0 0 kd ∧ va_P D vwCl [((q 0), .inr (3, [.int fa, .int (nI nc), .ref (q 1), .int (nI nt), .ref (q 2), .ref (q 3), .ref (q 4), .ref (q 5), .int ea, .int (nI ra), .int (nI rs), .int (nI rt), .ref (q 6), .ref (q 7), .ref (q 8), .ref (q 9), .ref (q 10), .ref (q 11), .int (nI nr), .ref (q 12), .ref (q 13), .ref (q 14), .ref (q 15), .ref (q 16), .ref (q 17), .int tr])), ((q 2), .inl (cI, 6, .inl z.2)), ((q 3), .inl (cI, 6, .inl ho)), ((q 4), .inl (cI, 6, .inl pl)), ((q 5), .inl (cI, 6, .inl st)), ((q 12), .inl (cI, 8, .inl rc)), ((q 13), .inl (cI, 8, .inl rh))] H ∧ va_D A [((q 0), .inr (3, [.int fa, .int (nI nc), .ref (q 1), .int (nI nt), .ref (q 2), .ref (q 3), .ref (q 4), .ref (q 5), .int ea, .int (nI ra), .int (nI rs), .int (nI rt), .ref (q 6), .ref (q 7), .ref (q 8), .ref (q 9), .ref (q 10), .ref (q 11), .int (nI nr), .ref (q 12), .ref (q 13), .ref (q 14), .ref (q 15), .ref (q 16), .ref (q 17), .int tr])), ((q 2), .inl (cI, 6, .inl z.2)), ((q 3), .inl (cI, 6, .inl ho)), ((q 4), .inl (cI, 6, .inl pl)), ((q 5), .inl (cI, 6, .inl st)), ((q 12), .inl (cI, 8, .inl rc)), ((q 13), .inl (cI, 8, .inl rh))] ∧ va_S A s.heap H locs ∧ lv_has ls 5 [(4, .int (nI i)), (3, .int z.1), (2, .int (kd v1.toNatClampNeg)), (0, .ref (q 0)), (1, .int v1)]) 3 0 (0, kd) ⟨Nat.zero_add _, (show upd kd v1.toNatClampNeg (kd v1.toNatClampNeg) = kd from upd_id _ _), rfl, hP, hD, hS, lv_sub hl [0, 1, 2, 3, 4] rfl⟩ ?_ ?_
    · intro i22 z ls H locs hI
      obtain ⟨u3_22, wkd_22⟩ := z
      obtain ⟨hk22, hw, hm22, hP, hD, hS, hl⟩ := hI
      have hm22 : m_X3_kinds_L22 nt ho pl st ea nr rc rh v1 0 i22 u3_22 wkd_22 = m_X3_kinds_L22 nt ho pl st ea nr rc rh v1 3 0 0 kd := hm22
      have hw : upd wkd_22 v1.toNatClampNeg (kd v1.toNatClampNeg) = kd := hw
      have hP : va_P D vwCl [((q 0), .inr (3, [.int fa, .int (nI nc), .ref (q 1), .int (nI nt), .ref (q 2), .ref (q 3), .ref (q 4), .ref (q 5), .int ea, .int (nI ra), .int (nI rs), .int (nI rt), .ref (q 6), .ref (q 7), .ref (q 8), .ref (q 9), .ref (q 10), .ref (q 11), .int (nI nr), .ref (q 12), .ref (q 13), .ref (q 14), .ref (q 15), .ref (q 16), .ref (q 17), .int tr])), ((q 2), .inl (cI, 6, .inl wkd_22)), ((q 3), .inl (cI, 6, .inl ho)), ((q 4), .inl (cI, 6, .inl pl)), ((q 5), .inl (cI, 6, .inl st)), ((q 12), .inl (cI, 8, .inl rc)), ((q 13), .inl (cI, 8, .inl rh))] H := hP
      have hD : va_D A [((q 0), .inr (3, [.int fa, .int (nI nc), .ref (q 1), .int (nI nt), .ref (q 2), .ref (q 3), .ref (q 4), .ref (q 5), .int ea, .int (nI ra), .int (nI rs), .int (nI rt), .ref (q 6), .ref (q 7), .ref (q 8), .ref (q 9), .ref (q 10), .ref (q 11), .int (nI nr), .ref (q 12), .ref (q 13), .ref (q 14), .ref (q 15), .ref (q 16), .ref (q 17), .int tr])), ((q 2), .inl (cI, 6, .inl wkd_22)), ((q 3), .inl (cI, 6, .inl ho)), ((q 4), .inl (cI, 6, .inl pl)), ((q 5), .inl (cI, 6, .inl st)), ((q 12), .inl (cI, 8, .inl rc)), ((q 13), .inl (cI, 8, .inl rh))] := hD
      have hl : lv_has ls 5 [(4, .int (nI i22)), (3, .int u3_22), (2, .int (kd v1.toNatClampNeg)), (0, .ref (q 0)), (1, .int v1)] := hl
      have hm22 : (u3_22, wkd_22) = m_X3_kinds_L22 nt ho pl st ea nr rc rh v1 3 0 0 kd := hm22
      refine lv_iload hx hb dX3_kinds_22 (lv_at hl 0 rfl) ?_
      refine lv_iconst (v := 3) hx hb dX3_kinds_24 (by decide) ?_
      refine lv_icmp_ge (tgt := 60) hx hb dX3_kinds_25 (by decide) (fun c_25 => ?_) (fun c_25 => absurd (tw_tge rfl (show 3 ≤ i22 by omega) (show i22 < 2 ^ 31 by omega)) c_25)
      refine lv_aload_n hx hb dX3_kinds_60 rfl (lv_at hl 3 rfl) ?_
      refine va_get (ci := 3) (v := .ref (q 2)) (C := RX3) (T := TX3) (N := 26) hx hb hts hin_X3 hown hK hP 0 rfl rfl 4 (by decide) fl_13 (fun _ h9 => h9) rfl dX3_kinds_61 ?_
      refine lv_iload_n hx hb dX3_kinds_64 rfl (lv_at hl 4 rfl) ?_
      refine lv_iload_n hx hb dX3_kinds_65 rfl (lv_at hl 2 rfl) ?_
      refine va_iast hx hb hK hP hD hS 1 0 rfl rfl (noThing_in hn c_5) dX3_kinds_66 (fun H locs hP hD hS => ?_)
      have hP : va_P D vwCl [((q 0), .inr (3, [.int fa, .int (nI nc), .ref (q 1), .int (nI nt), .ref (q 2), .ref (q 3), .ref (q 4), .ref (q 5), .int ea, .int (nI ra), .int (nI rs), .int (nI rt), .ref (q 6), .ref (q 7), .ref (q 8), .ref (q 9), .ref (q 10), .ref (q 11), .int (nI nr), .ref (q 12), .ref (q 13), .ref (q 14), .ref (q 15), .ref (q 16), .ref (q 17), .int tr])), ((q 2), .inl (cI, 6, .inl (upd wkd_22 v1.toNatClampNeg (kd v1.toNatClampNeg)))), ((q 3), .inl (cI, 6, .inl ho)), ((q 4), .inl (cI, 6, .inl pl)), ((q 5), .inl (cI, 6, .inl st)), ((q 12), .inl (cI, 8, .inl rc)), ((q 13), .inl (cI, 8, .inl rh))] H := hP
      have hD : va_D A [((q 0), .inr (3, [.int fa, .int (nI nc), .ref (q 1), .int (nI nt), .ref (q 2), .ref (q 3), .ref (q 4), .ref (q 5), .int ea, .int (nI ra), .int (nI rs), .int (nI rt), .ref (q 6), .ref (q 7), .ref (q 8), .ref (q 9), .ref (q 10), .ref (q 11), .int (nI nr), .ref (q 12), .ref (q 13), .ref (q 14), .ref (q 15), .ref (q 16), .ref (q 17), .int tr])), ((q 2), .inl (cI, 6, .inl (upd wkd_22 v1.toNatClampNeg (kd v1.toNatClampNeg)))), ((q 3), .inl (cI, 6, .inl ho)), ((q 4), .inl (cI, 6, .inl pl)), ((q 5), .inl (cI, 6, .inl st)), ((q 12), .inl (cI, 8, .inl rc)), ((q 13), .inl (cI, 8, .inl rh))] := hD
      have hP : va_P D vwCl [((q 0), .inr (3, [.int fa, .int (nI nc), .ref (q 1), .int (nI nt), .ref (q 2), .ref (q 3), .ref (q 4), .ref (q 5), .int ea, .int (nI ra), .int (nI rs), .int (nI rt), .ref (q 6), .ref (q 7), .ref (q 8), .ref (q 9), .ref (q 10), .ref (q 11), .int (nI nr), .ref (q 12), .ref (q 13), .ref (q 14), .ref (q 15), .ref (q 16), .ref (q 17), .int tr])), ((q 2), .inl (cI, 6, .inl kd)), ((q 3), .inl (cI, 6, .inl ho)), ((q 4), .inl (cI, 6, .inl pl)), ((q 5), .inl (cI, 6, .inl st)), ((q 12), .inl (cI, 8, .inl rc)), ((q 13), .inl (cI, 8, .inl rh))] H := (by rw [hw] at hP; exact hP)
      have hD : va_D A [((q 0), .inr (3, [.int fa, .int (nI nc), .ref (q 1), .int (nI nt), .ref (q 2), .ref (q 3), .ref (q 4), .ref (q 5), .int ea, .int (nI ra), .int (nI rs), .int (nI rt), .ref (q 6), .ref (q 7), .ref (q 8), .ref (q 9), .ref (q 10), .ref (q 11), .int (nI nr), .ref (q 12), .ref (q 13), .ref (q 14), .ref (q 15), .ref (q 16), .ref (q 17), .int tr])), ((q 2), .inl (cI, 6, .inl kd)), ((q 3), .inl (cI, 6, .inl ho)), ((q 4), .inl (cI, 6, .inl pl)), ((q 5), .inl (cI, 6, .inl st)), ((q 12), .inl (cI, 8, .inl rc)), ((q 13), .inl (cI, 8, .inl rh))] := (by rw [hw] at hD; exact hD)
      refine lv_iload_n hx hb dX3_kinds_67 rfl (lv_at hl 1 rfl) ?_
      have hE : (m_X3_kinds nt kd ho pl st ea nr rc rh v1) = u3_22 := Eq.symm (by (unfold m_X3_kinds; rw [if_pos c_5]; rw [← hm22]; (try dsimp only)) <;> rfl)
      rw [hE]
      exact W.iret hx hb hr (fun t ht hW => ⟨⟨_, (), rfl, rfl, by rw [ht]; exact hP, va_K.moved hW.alike hK, hD⟩, hS.F ht⟩) hS.2.2 dX3_kinds_68
    · intro k22 i22 z ls H locs ih22 hI
      obtain ⟨u3_22, wkd_22⟩ := z
      obtain ⟨hk22, hw, hm22, hP, hD, hS, hl⟩ := hI
      have hm22 : m_X3_kinds_L22 nt ho pl st ea nr rc rh v1 (k22 + 1) i22 u3_22 wkd_22 = m_X3_kinds_L22 nt ho pl st ea nr rc rh v1 3 0 0 kd := hm22
      have hw : upd wkd_22 v1.toNatClampNeg (kd v1.toNatClampNeg) = kd := hw
      have hP : va_P D vwCl [((q 0), .inr (3, [.int fa, .int (nI nc), .ref (q 1), .int (nI nt), .ref (q 2), .ref (q 3), .ref (q 4), .ref (q 5), .int ea, .int (nI ra), .int (nI rs), .int (nI rt), .ref (q 6), .ref (q 7), .ref (q 8), .ref (q 9), .ref (q 10), .ref (q 11), .int (nI nr), .ref (q 12), .ref (q 13), .ref (q 14), .ref (q 15), .ref (q 16), .ref (q 17), .int tr])), ((q 2), .inl (cI, 6, .inl wkd_22)), ((q 3), .inl (cI, 6, .inl ho)), ((q 4), .inl (cI, 6, .inl pl)), ((q 5), .inl (cI, 6, .inl st)), ((q 12), .inl (cI, 8, .inl rc)), ((q 13), .inl (cI, 8, .inl rh))] H := hP
      have hD : va_D A [((q 0), .inr (3, [.int fa, .int (nI nc), .ref (q 1), .int (nI nt), .ref (q 2), .ref (q 3), .ref (q 4), .ref (q 5), .int ea, .int (nI ra), .int (nI rs), .int (nI rt), .ref (q 6), .ref (q 7), .ref (q 8), .ref (q 9), .ref (q 10), .ref (q 11), .int (nI nr), .ref (q 12), .ref (q 13), .ref (q 14), .ref (q 15), .ref (q 16), .ref (q 17), .int tr])), ((q 2), .inl (cI, 6, .inl wkd_22)), ((q 3), .inl (cI, 6, .inl ho)), ((q 4), .inl (cI, 6, .inl pl)), ((q 5), .inl (cI, 6, .inl st)), ((q 12), .inl (cI, 8, .inl rc)), ((q 13), .inl (cI, 8, .inl rh))] := hD
      have hl : lv_has ls 5 [(4, .int (nI i22)), (3, .int u3_22), (2, .int (kd v1.toNatClampNeg)), (0, .ref (q 0)), (1, .int v1)] := hl
      refine lv_iload hx hb dX3_kinds_22 (lv_at hl 0 rfl) ?_
      refine lv_iconst (v := 3) hx hb dX3_kinds_24 (by decide) ?_
      refine lv_icmp_ge (tgt := 60) hx hb dX3_kinds_25 (by decide) (fun c_25 => absurd c_25 (tw_tlt rfl (show i22 < 3 by omega) (show 3 < 2 ^ 31 by omega))) (fun c_25 => ?_)
      refine lv_aload_n hx hb dX3_kinds_28 rfl (lv_at hl 3 rfl) ?_
      refine va_get (ci := 3) (v := .ref (q 2)) (C := RX3) (T := TX3) (N := 26) hx hb hts hin_X3 hown hK hP 0 rfl rfl 4 (by decide) fl_13 (fun _ h9 => h9) rfl dX3_kinds_29 ?_
      refine lv_iload_n hx hb dX3_kinds_32 rfl (lv_at hl 4 rfl) ?_
      refine lv_iload hx hb dX3_kinds_33 (lv_at hl 0 rfl) ?_
      refine va_iast hx hb hK hP hD hS 1 0 rfl rfl (noThing_in hn c_5) dX3_kinds_35 (fun H locs hP hD hS => ?_)
      have hP : va_P D vwCl [((q 0), .inr (3, [.int fa, .int (nI nc), .ref (q 1), .int (nI nt), .ref (q 2), .ref (q 3), .ref (q 4), .ref (q 5), .int ea, .int (nI ra), .int (nI rs), .int (nI rt), .ref (q 6), .ref (q 7), .ref (q 8), .ref (q 9), .ref (q 10), .ref (q 11), .int (nI nr), .ref (q 12), .ref (q 13), .ref (q 14), .ref (q 15), .ref (q 16), .ref (q 17), .int tr])), ((q 2), .inl (cI, 6, .inl (upd wkd_22 v1.toNatClampNeg (nI i22)))), ((q 3), .inl (cI, 6, .inl ho)), ((q 4), .inl (cI, 6, .inl pl)), ((q 5), .inl (cI, 6, .inl st)), ((q 12), .inl (cI, 8, .inl rc)), ((q 13), .inl (cI, 8, .inl rh))] H := hP
      have hD : va_D A [((q 0), .inr (3, [.int fa, .int (nI nc), .ref (q 1), .int (nI nt), .ref (q 2), .ref (q 3), .ref (q 4), .ref (q 5), .int ea, .int (nI ra), .int (nI rs), .int (nI rt), .ref (q 6), .ref (q 7), .ref (q 8), .ref (q 9), .ref (q 10), .ref (q 11), .int (nI nr), .ref (q 12), .ref (q 13), .ref (q 14), .ref (q 15), .ref (q 16), .ref (q 17), .int tr])), ((q 2), .inl (cI, 6, .inl (upd wkd_22 v1.toNatClampNeg (nI i22)))), ((q 3), .inl (cI, 6, .inl ho)), ((q 4), .inl (cI, 6, .inl pl)), ((q 5), .inl (cI, 6, .inl st)), ((q 12), .inl (cI, 8, .inl rc)), ((q 13), .inl (cI, 8, .inl rh))] := hD
      refine lv_iload_n hx hb dX3_kinds_36 rfl (lv_at hl 1 rfl) ?_
      refine lv_aload_n hx hb dX3_kinds_37 rfl (lv_at hl 3 rfl) ?_
      refine tw_cs (va_runV (As := []) (rest := [.int u3_22]) ⟨hx, hb, hml, hown, hts⟩ (c_X3_areSo l D cI cS q fa nc nt (upd wkd_22 v1.toNatClampNeg (nI i22)) ho pl st ea ra rs rt nr rc rh tr (by first | assumption | omega | exact hz60 _ | exact vp_in_nI (by omega) (by decide)) (by first | assumption | omega | exact hz60 _ | exact vp_in_nI (by omega) (by decide))) (cwV 0 hts gX3_kinds_X3_areSo rfl rfl rfl (by decide +kernel) ⟨Nat.le_of_ble_eq_true rfl, Nat.le_of_ble_eq_true rfl⟩) ⟨tw_Rb, va_recv hK hP (ci := 3) (q0 := 0) rfl rfl, tw_Rp (hP.sub (ws' := [((q 0), .inr (3, [.int fa, .int (nI nc), .ref (q 1), .int (nI nt), .ref (q 2), .ref (q 3), .ref (q 4), .ref (q 5), .int ea, .int (nI ra), .int (nI rs), .int (nI rt), .ref (q 6), .ref (q 7), .ref (q 8), .ref (q 9), .ref (q 10), .ref (q 11), .int (nI nr), .ref (q 12), .ref (q 13), .ref (q 14), .ref (q 15), .ref (q 16), .ref (q 17), .int tr])), ((q 2), .inl (cI, 6, .inl (upd wkd_22 v1.toNatClampNeg (nI i22)))), ((q 3), .inl (cI, 6, .inl ho)), ((q 4), .inl (cI, 6, .inl pl)), ((q 5), .inl (cI, 6, .inl st)), ((q 12), .inl (cI, 8, .inl rc)), ((q 13), .inl (cI, 8, .inl rh))]) [0, 1, 2, 3, 4, 5, 6] rfl) hK⟩ rfl rfl hl.1 rfl (lv_room (Nat.le_of_ble_eq_true rfl)) dX3_kinds_38 ⟨Nat.zero_le _, Nat.zero_le _⟩) ?_
      refine tw_join (fun (y : Int32) => F0 m 52 ls (.int y :: .int u3_22 :: [])) (if (m_X3_areSo nt (upd wkd_22 v1.toNatClampNeg (nI i22)) ho pl st ea nr rc rh) = 0 then (0 : Int32) else 1 <<< ((nI i22) &&& 31)) ?_ (fun J52_0 => ?_)
      · intro y52 hy52
        refine lv_ior hx hb dX3_kinds_52 ?_
        refine lv_istore_n (lv' := [(3, .int (u3_22 ||| y52)), (4, .int (nI i22)), (2, .int (kd v1.toNatClampNeg)), (0, .ref (q 0)), (1, .int v1)]) hx hb dX3_kinds_53 rfl hl (by decide) rfl (fun ls hl => ?_)
        refine lv_iinc (v := nI (i22 + 1)) (lv' := [(4, .int (nI (i22 + 1))), (3, .int (u3_22 ||| y52)), (2, .int (kd v1.toNatClampNeg)), (0, .ref (q 0)), (1, .int v1)]) hx hb dX3_kinds_54 hl (k := 1) rfl (nI_1 _) (by decide) rfl (fun ls hl => ?_)
        refine lv_goto (tgt := 22) hx hb dX3_kinds_57 (by decide) ?_
        exact ih22 (u3_22 ||| y52, upd wkd_22 v1.toNatClampNeg (nI i22)) ls H _ ⟨by omega, (show upd (upd wkd_22 v1.toNatClampNeg (nI i22)) v1.toNatClampNeg (kd v1.toNatClampNeg) = kd from tw_uu hw), (by (rw [← hm22, m_X3_kinds_L22_s]; (try rw [← hy52])) <;> rfl), hP, hD, hS, lv_sub hl [0, 1, 2, 3, 4] rfl⟩
      · refine lv_if_eq (tgt := 51) hx hb dX3_kinds_41 (by decide) (fun c_41 => ?_) (fun c_41 => ?_)
        · refine lv_iconst (v := 0) hx hb dX3_kinds_51 (by decide) ?_
          exact J52_0 _ (by (rw [if_pos c_41]) <;> rfl)
        · refine lv_iconst (v := 1) hx hb dX3_kinds_44 (by decide) ?_
          refine lv_iload hx hb dX3_kinds_45 (lv_at hl 0 rfl) ?_
          refine lv_ishl hx hb dX3_kinds_47 ?_
          refine lv_goto (tgt := 52) hx hb dX3_kinds_48 (by decide) ?_
          exact J52_0 _ (by (rw [if_neg c_41]) <;> rfl)
  · refine lv_iconst (v := (-1)) hx hb dX3_kinds_8 (by decide) ?_
    have hE : (m_X3_kinds nt kd ho pl st ea nr rc rh v1) = (-1) := Eq.symm (by (unfold m_X3_kinds; rw [if_neg c_5]) <;> rfl)
    rw [hE]
    exact W.iret hx hb hr (fun t ht hW => ⟨⟨_, (), rfl, rfl, by rw [ht]; exact hP, va_K.moved hW.alike hK, hD⟩, hS.F ht⟩) hS.2.2 dX3_kinds_9

def m_X3_spots_L22 (nt : Nat) (kd : Nat → Int32) (ho : Nat → Int32) (st : Nat → Int32) (ea : Int32) (nr : Nat) (rc : Nat → Int32) (rh : Nat → Int32) (v1 : Int32) : Nat → Nat → Int32 → (Nat → Int32) → (Int32 × (Nat → Int32))
  | 0, i22, u3_22, wpl_22 =>
    (u3_22, wpl_22)
  | k22 + 1, i22, u3_22, wpl_22 =>
    m_X3_spots_L22 nt kd ho st ea nr rc rh v1 k22 (i22 + 1) (u3_22 ||| (if (m_X3_areSo nt kd ho (upd wpl_22 v1.toNatClampNeg (nI i22)) st ea nr rc rh) = 0 then (0 : Int32) else 1 <<< ((nI i22) &&& 31))) (upd wpl_22 v1.toNatClampNeg (nI i22))
theorem m_X3_spots_L22_0 (nt : Nat) (kd : Nat → Int32) (ho : Nat → Int32) (st : Nat → Int32) (ea : Int32) (nr : Nat) (rc : Nat → Int32) (rh : Nat → Int32) (v1 : Int32) (i22 : Nat) (u3_22 : Int32) (wpl_22 : Nat → Int32) : m_X3_spots_L22 nt kd ho st ea nr rc rh v1 0 i22 u3_22 wpl_22 = 
    (u3_22, wpl_22) := rfl
theorem m_X3_spots_L22_s (nt : Nat) (kd : Nat → Int32) (ho : Nat → Int32) (st : Nat → Int32) (ea : Int32) (nr : Nat) (rc : Nat → Int32) (rh : Nat → Int32) (v1 : Int32) (i22 : Nat) (u3_22 : Int32) (wpl_22 : Nat → Int32) (k22 : Nat) : m_X3_spots_L22 nt kd ho st ea nr rc rh v1 (k22 + 1) i22 u3_22 wpl_22 = 
    m_X3_spots_L22 nt kd ho st ea nr rc rh v1 k22 (i22 + 1) (u3_22 ||| (if (m_X3_areSo nt kd ho (upd wpl_22 v1.toNatClampNeg (nI i22)) st ea nr rc rh) = 0 then (0 : Int32) else 1 <<< ((nI i22) &&& 31))) (upd wpl_22 v1.toNatClampNeg (nI i22)) := rfl
def m_X3_spots (nc : Nat) (nt : Nat) (kd : Nat → Int32) (ho : Nat → Int32) (pl : Nat → Int32) (st : Nat → Int32) (ea : Int32) (nr : Nat) (rc : Nat → Int32) (rh : Nat → Int32) (v1 : Int32) : Int32 :=
  if (m_X3_noThing nt v1) = 0 then
    ((m_X3_spots_L22 nt kd ho st ea nr rc rh v1 nc 0 0 pl).1)
  else
    (-1)
set_option maxHeartbeats 4000000 in
set_option maxRecDepth 100000 in
theorem c_X3_spots (l : Launch) (D : va_G) (cI cS : ClassId) (q : Nat → Nat) (hz : Nat) (fa : Int32) (nc : Nat) (nt : Nat) (kd : Nat → Int32) (ho : Nat → Int32) (pl : Nat → Int32) (st : Nat → Int32) (ea : Int32) (ra : Nat) (rs : Nat) (rt : Nat) (nr : Nat) (rc : Nat → Int32) (rh : Nat → Int32) (tr : Int32) (v1 : Int32) (hn : nt ≤ 6) (hr8 : nr ≤ 8) (hc : nc ≤ 6) : Met l yX3_spots wsX3_spots ({ frames := 5, cells := 0, slots := 0, locals := 113 }) (tw_W D cI cS [.ref (q 0), .int v1] hz [((q 0), .inr (3, [.int fa, .int (nI nc), .ref (q 1), .int (nI nt), .ref (q 2), .ref (q 3), .ref (q 4), .ref (q 5), .int ea, .int (nI ra), .int (nI rs), .int (nI rt), .ref (q 6), .ref (q 7), .ref (q 8), .ref (q 9), .ref (q 10), .ref (q 11), .int (nI nr), .ref (q 12), .ref (q 13), .ref (q 14), .ref (q 15), .ref (q 16), .ref (q 17), .int tr])), ((q 2), .inl (cI, 6, .inl kd)), ((q 3), .inl (cI, 6, .inl ho)), ((q 4), .inl (cI, 6, .inl pl)), ((q 5), .inl (cI, 6, .inl st)), ((q 12), .inl (cI, 8, .inl rc)), ((q 13), .inl (cI, 8, .inl rh))]) (va_Qi (fun r (_ : Unit) => r = (m_X3_spots nc nt kd ho pl st ea nr rc rh v1)) (tw_B D cI cS (va_A [((q 0), .inr (3, [.int fa, .int (nI nc), .ref (q 1), .int (nI nt), .ref (q 2), .ref (q 3), .ref (q 4), .ref (q 5), .int ea, .int (nI ra), .int (nI rs), .int (nI rt), .ref (q 6), .ref (q 7), .ref (q 8), .ref (q 9), .ref (q 10), .ref (q 11), .int (nI nr), .ref (q 12), .ref (q 13), .ref (q 14), .ref (q 15), .ref (q 16), .ref (q 17), .int tr])), ((q 2), .inl (cI, 6, .inl kd)), ((q 3), .inl (cI, 6, .inl ho)), ((q 4), .inl (cI, 6, .inl pl)), ((q 5), .inl (cI, 6, .inl st)), ((q 12), .inl (cI, 8, .inl rc)), ((q 13), .inl (cI, 8, .inl rh))] hz) [((q 0), .inr (3, [.int fa, .int (nI nc), .ref (q 1), .int (nI nt), .ref (q 2), .ref (q 3), .ref (q 4), .ref (q 5), .int ea, .int (nI ra), .int (nI rs), .int (nI rt), .ref (q 6), .ref (q 7), .ref (q 8), .ref (q 9), .ref (q 10), .ref (q 11), .int (nI nr), .ref (q 12), .ref (q 13), .ref (q 14), .ref (q 15), .ref (q 16), .ref (q 17), .int tr])), ((q 2), .inl (cI, 6, .inl kd)), ((q 3), .inl (cI, 6, .inl ho)), ((q 4), .inl (cI, 6, .inl pl)), ((q 5), .inl (cI, 6, .inl st)), ((q 12), .inl (cI, 8, .inl rc)), ((q 13), .inl (cI, 8, .inl rh))]) (va_A [((q 0), .inr (3, [.int fa, .int (nI nc), .ref (q 1), .int (nI nt), .ref (q 2), .ref (q 3), .ref (q 4), .ref (q 5), .int ea, .int (nI ra), .int (nI rs), .int (nI rt), .ref (q 6), .ref (q 7), .ref (q 8), .ref (q 9), .ref (q 10), .ref (q 11), .int (nI nr), .ref (q 12), .ref (q 13), .ref (q 14), .ref (q 15), .ref (q 16), .ref (q 17), .int tr])), ((q 2), .inl (cI, 6, .inl kd)), ((q 3), .inl (cI, 6, .inl ho)), ((q 4), .inl (cI, 6, .inl pl)), ((q 5), .inl (cI, 6, .inl st)), ((q 12), .inl (cI, 8, .inl rc)), ((q 13), .inl (cI, 8, .inl rh))] hz)) 0 0 (va_A [((q 0), .inr (3, [.int fa, .int (nI nc), .ref (q 1), .int (nI nt), .ref (q 2), .ref (q 3), .ref (q 4), .ref (q 5), .int ea, .int (nI ra), .int (nI rs), .int (nI rt), .ref (q 6), .ref (q 7), .ref (q 8), .ref (q 9), .ref (q 10), .ref (q 11), .int (nI nr), .ref (q 12), .ref (q 13), .ref (q 14), .ref (q 15), .ref (q 16), .ref (q 17), .int tr])), ((q 2), .inl (cI, 6, .inl kd)), ((q 3), .inl (cI, 6, .inl ho)), ((q 4), .inl (cI, 6, .inl pl)), ((q 5), .inl (cI, 6, .inl st)), ((q 12), .inl (cI, 8, .inl rc)), ((q 13), .inl (cI, 8, .inl rh))] hz) := by
  refine Met.ofW (cc := cX3_spots) (maxL := 5) (ret := (some .int)) (by decide) rfl ?_
  intro p e s m args below meth c s₁ B hml hv
  obtain ⟨rfl, hsz, hP, hK, hD0⟩ := hv
  have hx := B.exec
  have hb := B.bytes
  have hr := B.returns
  have hts := atoms_spec (ws := wsX3_spots) B.pre
  have hown : s.vm.findClass RX3 = some m.cls := findClass_of_methodNamed B.named
  have hlocks := B.notSynchronized
  subst hsz
  have hD := hD0.self (sz := s.heap.size)
  generalize hAe : va_A [((q 0), .inr (3, [.int fa, .int (nI nc), .ref (q 1), .int (nI nt), .ref (q 2), .ref (q 3), .ref (q 4), .ref (q 5), .int ea, .int (nI ra), .int (nI rs), .int (nI rt), .ref (q 6), .ref (q 7), .ref (q 8), .ref (q 9), .ref (q 10), .ref (q 11), .int (nI nr), .ref (q 12), .ref (q 13), .ref (q 14), .ref (q 15), .ref (q 16), .ref (q 17), .int tr])), ((q 2), .inl (cI, 6, .inl kd)), ((q 3), .inl (cI, 6, .inl ho)), ((q 4), .inl (cI, 6, .inl pl)), ((q 5), .inl (cI, 6, .inl st)), ((q 12), .inl (cI, 8, .inl rc)), ((q 13), .inl (cI, 8, .inl rh))] s.heap.size = A at hD ⊢
  have hA : ∀ q : Nat, s.heap.size ≤ q → A q := fun q h => by rw [← hAe]; exact Or.inr h
  have hS : va_S A s.heap s.heap [] := va_S.rf
  have fl_19 := hts (.fieldLink RX3 19 "TableWarModel" "spotOf" "[I") (by decide +kernel)
  have hin_X3 := (show ∀ w ∈ u_ws RX3 TX3 26, w ∈ wsX3_spots from by decide +kernel)
  have fl_75 := hts (.fieldLink RX3 75 "TableWarModel" "squares" "I") (by decide +kernel)
  have hl := lv_entry ([.ref (q 0), .int v1]) (n := 5) (Nat.le_of_ble_eq_true rfl)
  rw [lg_entry_eq]
  generalize (lg_sl ([.ref (q 0), .int v1]) ++ List.replicate (5 - (lg_sl ([.ref (q 0), .int v1])).length) Slot.unset).toArray = ls at hl ⊢
  have hl : lv_has ls 5 [(0, .ref (q 0)), (1, .int v1)] := hl
  refine lv_aload_n hx hb dX3_spots_0 rfl (lv_at hl 0 rfl) ?_
  refine lv_iload_n hx hb dX3_spots_1 rfl (lv_at hl 1 rfl) ?_
  refine tw_cs (va_runV (As := [.int v1]) (rest := []) ⟨hx, hb, hml, hown, hts⟩ (c_X3_noThing l D cI cS q fa nc nt ea ra rs rt nr tr v1) (cwV 1 hts gX3_spots_X3_noThing rfl rfl rfl (by decide +kernel) ⟨Nat.le_of_ble_eq_true rfl, Nat.le_of_ble_eq_true rfl⟩) ⟨tw_Rb, va_recv hK hP (ci := 3) (q0 := 0) rfl rfl, tw_Rp (hP.sub (ws' := [((q 0), .inr (3, [.int fa, .int (nI nc), .ref (q 1), .int (nI nt), .ref (q 2), .ref (q 3), .ref (q 4), .ref (q 5), .int ea, .int (nI ra), .int (nI rs), .int (nI rt), .ref (q 6), .ref (q 7), .ref (q 8), .ref (q 9), .ref (q 10), .ref (q 11), .int (nI nr), .ref (q 12), .ref (q 13), .ref (q 14), .ref (q 15), .ref (q 16), .ref (q 17), .int tr]))]) [0] rfl) hK⟩ rfl rfl hl.1 rfl (lv_room (Nat.le_of_ble_eq_true rfl)) dX3_spots_2 ⟨Nat.zero_le _, Nat.zero_le _⟩) ?_
  refine lv_if_eq (tgt := 10) hx hb dX3_spots_5 (by decide) (fun c_5 => ?_) (fun c_5 => ?_)
  · refine lv_aload_n hx hb dX3_spots_10 rfl (lv_at hl 0 rfl) ?_
    refine va_get (ci := 3) (v := .ref (q 4)) (C := RX3) (T := TX3) (N := 26) hx hb hts hin_X3 hown hK hP 0 rfl rfl 6 (by decide) fl_19 (fun _ h9 => h9) rfl dX3_spots_11 ?_
    refine lv_iload_n hx hb dX3_spots_14 rfl (lv_at hl 1 rfl) ?_
    refine va_iald hx hb hK hP 3 0 rfl rfl (noThing_in hn c_5) dX3_spots_15 ?_
    refine lv_istore_n (lv' := [(2, .int (pl v1.toNatClampNeg)), (0, .ref (q 0)), (1, .int v1)]) hx hb dX3_spots_16 rfl hl (by decide) rfl (fun ls hl => ?_)
    refine lv_iconst (v := 0) hx hb dX3_spots_17 (by decide) ?_
    refine lv_istore_n (lv' := [(3, .int 0), (2, .int (pl v1.toNatClampNeg)), (0, .ref (q 0)), (1, .int v1)]) hx hb dX3_spots_18 rfl hl (by decide) rfl (fun ls hl => ?_)
    refine lv_iconst (v := 0) hx hb dX3_spots_19 (by decide) ?_
    refine lv_istore (lv' := [(4, .int 0), (3, .int 0), (2, .int (pl v1.toNatClampNeg)), (0, .ref (q 0)), (1, .int v1)]) hx hb dX3_spots_20 hl (by decide) rfl (fun ls hl => ?_)
    refine tw_loopW (σ := Int32 × (Nat → Int32)) (fun k i z ls H locs => i + k = nc ∧ upd z.2 v1.toNatClampNeg (pl v1.toNatClampNeg) = pl ∧ m_X3_spots_L22 nt kd ho st ea nr rc rh v1 k i z.1 z.2 = m_X3_spots_L22 nt kd ho st ea nr rc rh v1 nc 0 0 pl ∧ va_P D vwCl [((q 0), .inr (3, [.int fa, .int (nI nc), .ref (q 1), .int (nI nt), .ref (q 2), .ref (q 3), .ref (q 4), .ref (q 5), .int ea, .int (nI ra), .int (nI rs), .int (nI rt), .ref (q 6), .ref (q 7), .ref (q 8), .ref (q 9), .ref (q 10), .ref (q 11), .int (nI nr), .ref (q 12), .ref (q 13), .ref (q 14), .ref (q 15), .ref (q 16), .ref (q 17), .int tr])), ((q 2), .inl (cI, 6, .inl kd)), ((q 3), .inl (cI, 6, .inl ho)), ((q 4), .inl (cI, 6, .inl z.2)), ((q 5), .inl (cI, 6, .inl st)), ((q 12), .inl (cI, 8, .inl rc)), ((q 13), .inl (cI, 8, .inl rh))] H ∧ va_D A [((q 0), .inr (3, [.int fa, .int (nI nc), .ref (q 1), .int (nI nt), .ref (q 2), .ref (q 3), .ref (q 4), .ref (q 5), .int ea, .int (nI ra), .int (nI rs), .int (nI rt), .ref (q 6), .ref (q 7), .ref (q 8), .ref (q 9), .ref (q 10), .ref (q 11), .int (nI nr), .ref (q 12), .ref (q 13), .ref (q 14), .ref (q 15), .ref (q 16), .ref (q 17), .int tr])), ((q 2), .inl (cI, 6, .inl kd)), ((q 3), .inl (cI, 6, .inl ho)), ((q 4), .inl (cI, 6, .inl z.2)), ((q 5), .inl (cI, 6, .inl st)), ((q 12), .inl (cI, 8, .inl rc)), ((q 13), .inl (cI, 8, .inl rh))] ∧ va_S A s.heap H locs ∧ lv_has ls 5 [(4, .int (nI i)), (3, .int z.1), (2, .int (pl v1.toNatClampNeg)), (0, .ref (q 0)), (1, .int v1)]) nc 0 (0, pl) ⟨Nat.zero_add _, (show upd pl v1.toNatClampNeg (pl v1.toNatClampNeg) = pl from upd_id _ _), rfl, hP, hD, hS, lv_sub hl [0, 1, 2, 3, 4] rfl⟩ ?_ ?_
    · intro i22 z ls H locs hI
      obtain ⟨u3_22, wpl_22⟩ := z
      obtain ⟨hk22, hw, hm22, hP, hD, hS, hl⟩ := hI
      have hm22 : m_X3_spots_L22 nt kd ho st ea nr rc rh v1 0 i22 u3_22 wpl_22 = m_X3_spots_L22 nt kd ho st ea nr rc rh v1 nc 0 0 pl := hm22
      have hw : upd wpl_22 v1.toNatClampNeg (pl v1.toNatClampNeg) = pl := hw
      have hP : va_P D vwCl [((q 0), .inr (3, [.int fa, .int (nI nc), .ref (q 1), .int (nI nt), .ref (q 2), .ref (q 3), .ref (q 4), .ref (q 5), .int ea, .int (nI ra), .int (nI rs), .int (nI rt), .ref (q 6), .ref (q 7), .ref (q 8), .ref (q 9), .ref (q 10), .ref (q 11), .int (nI nr), .ref (q 12), .ref (q 13), .ref (q 14), .ref (q 15), .ref (q 16), .ref (q 17), .int tr])), ((q 2), .inl (cI, 6, .inl kd)), ((q 3), .inl (cI, 6, .inl ho)), ((q 4), .inl (cI, 6, .inl wpl_22)), ((q 5), .inl (cI, 6, .inl st)), ((q 12), .inl (cI, 8, .inl rc)), ((q 13), .inl (cI, 8, .inl rh))] H := hP
      have hD : va_D A [((q 0), .inr (3, [.int fa, .int (nI nc), .ref (q 1), .int (nI nt), .ref (q 2), .ref (q 3), .ref (q 4), .ref (q 5), .int ea, .int (nI ra), .int (nI rs), .int (nI rt), .ref (q 6), .ref (q 7), .ref (q 8), .ref (q 9), .ref (q 10), .ref (q 11), .int (nI nr), .ref (q 12), .ref (q 13), .ref (q 14), .ref (q 15), .ref (q 16), .ref (q 17), .int tr])), ((q 2), .inl (cI, 6, .inl kd)), ((q 3), .inl (cI, 6, .inl ho)), ((q 4), .inl (cI, 6, .inl wpl_22)), ((q 5), .inl (cI, 6, .inl st)), ((q 12), .inl (cI, 8, .inl rc)), ((q 13), .inl (cI, 8, .inl rh))] := hD
      have hl : lv_has ls 5 [(4, .int (nI i22)), (3, .int u3_22), (2, .int (pl v1.toNatClampNeg)), (0, .ref (q 0)), (1, .int v1)] := hl
      have hm22 : (u3_22, wpl_22) = m_X3_spots_L22 nt kd ho st ea nr rc rh v1 nc 0 0 pl := hm22
      refine lv_iload hx hb dX3_spots_22 (lv_at hl 0 rfl) ?_
      refine lv_aload_n hx hb dX3_spots_24 rfl (lv_at hl 3 rfl) ?_
      refine va_get (ci := 3) (v := .int (nI nc)) (C := RX3) (T := TX3) (N := 26) hx hb hts hin_X3 hown hK hP 0 rfl rfl 1 (by decide) fl_75 (fun _ h9 => h9) rfl dX3_spots_25 ?_
      refine lv_icmp_ge (tgt := 63) hx hb dX3_spots_28 (by decide) (fun c_28 => ?_) (fun c_28 => absurd (tw_tge rfl (show nc ≤ i22 by omega) (show i22 < 2 ^ 31 by omega)) c_28)
      refine lv_aload_n hx hb dX3_spots_63 rfl (lv_at hl 3 rfl) ?_
      refine va_get (ci := 3) (v := .ref (q 4)) (C := RX3) (T := TX3) (N := 26) hx hb hts hin_X3 hown hK hP 0 rfl rfl 6 (by decide) fl_19 (fun _ h9 => h9) rfl dX3_spots_64 ?_
      refine lv_iload_n hx hb dX3_spots_67 rfl (lv_at hl 4 rfl) ?_
      refine lv_iload_n hx hb dX3_spots_68 rfl (lv_at hl 2 rfl) ?_
      refine va_iast hx hb hK hP hD hS 3 0 rfl rfl (noThing_in hn c_5) dX3_spots_69 (fun H locs hP hD hS => ?_)
      have hP : va_P D vwCl [((q 0), .inr (3, [.int fa, .int (nI nc), .ref (q 1), .int (nI nt), .ref (q 2), .ref (q 3), .ref (q 4), .ref (q 5), .int ea, .int (nI ra), .int (nI rs), .int (nI rt), .ref (q 6), .ref (q 7), .ref (q 8), .ref (q 9), .ref (q 10), .ref (q 11), .int (nI nr), .ref (q 12), .ref (q 13), .ref (q 14), .ref (q 15), .ref (q 16), .ref (q 17), .int tr])), ((q 2), .inl (cI, 6, .inl kd)), ((q 3), .inl (cI, 6, .inl ho)), ((q 4), .inl (cI, 6, .inl (upd wpl_22 v1.toNatClampNeg (pl v1.toNatClampNeg)))), ((q 5), .inl (cI, 6, .inl st)), ((q 12), .inl (cI, 8, .inl rc)), ((q 13), .inl (cI, 8, .inl rh))] H := hP
      have hD : va_D A [((q 0), .inr (3, [.int fa, .int (nI nc), .ref (q 1), .int (nI nt), .ref (q 2), .ref (q 3), .ref (q 4), .ref (q 5), .int ea, .int (nI ra), .int (nI rs), .int (nI rt), .ref (q 6), .ref (q 7), .ref (q 8), .ref (q 9), .ref (q 10), .ref (q 11), .int (nI nr), .ref (q 12), .ref (q 13), .ref (q 14), .ref (q 15), .ref (q 16), .ref (q 17), .int tr])), ((q 2), .inl (cI, 6, .inl kd)), ((q 3), .inl (cI, 6, .inl ho)), ((q 4), .inl (cI, 6, .inl (upd wpl_22 v1.toNatClampNeg (pl v1.toNatClampNeg)))), ((q 5), .inl (cI, 6, .inl st)), ((q 12), .inl (cI, 8, .inl rc)), ((q 13), .inl (cI, 8, .inl rh))] := hD
      have hP : va_P D vwCl [((q 0), .inr (3, [.int fa, .int (nI nc), .ref (q 1), .int (nI nt), .ref (q 2), .ref (q 3), .ref (q 4), .ref (q 5), .int ea, .int (nI ra), .int (nI rs), .int (nI rt), .ref (q 6), .ref (q 7), .ref (q 8), .ref (q 9), .ref (q 10), .ref (q 11), .int (nI nr), .ref (q 12), .ref (q 13), .ref (q 14), .ref (q 15), .ref (q 16), .ref (q 17), .int tr])), ((q 2), .inl (cI, 6, .inl kd)), ((q 3), .inl (cI, 6, .inl ho)), ((q 4), .inl (cI, 6, .inl pl)), ((q 5), .inl (cI, 6, .inl st)), ((q 12), .inl (cI, 8, .inl rc)), ((q 13), .inl (cI, 8, .inl rh))] H := (by rw [hw] at hP; exact hP)
      have hD : va_D A [((q 0), .inr (3, [.int fa, .int (nI nc), .ref (q 1), .int (nI nt), .ref (q 2), .ref (q 3), .ref (q 4), .ref (q 5), .int ea, .int (nI ra), .int (nI rs), .int (nI rt), .ref (q 6), .ref (q 7), .ref (q 8), .ref (q 9), .ref (q 10), .ref (q 11), .int (nI nr), .ref (q 12), .ref (q 13), .ref (q 14), .ref (q 15), .ref (q 16), .ref (q 17), .int tr])), ((q 2), .inl (cI, 6, .inl kd)), ((q 3), .inl (cI, 6, .inl ho)), ((q 4), .inl (cI, 6, .inl pl)), ((q 5), .inl (cI, 6, .inl st)), ((q 12), .inl (cI, 8, .inl rc)), ((q 13), .inl (cI, 8, .inl rh))] := (by rw [hw] at hD; exact hD)
      refine lv_iload_n hx hb dX3_spots_70 rfl (lv_at hl 1 rfl) ?_
      have hE : (m_X3_spots nc nt kd ho pl st ea nr rc rh v1) = u3_22 := Eq.symm (by (unfold m_X3_spots; rw [if_pos c_5]; rw [← hm22]; (try dsimp only)) <;> rfl)
      rw [hE]
      exact W.iret hx hb hr (fun t ht hW => ⟨⟨_, (), rfl, rfl, by rw [ht]; exact hP, va_K.moved hW.alike hK, hD⟩, hS.F ht⟩) hS.2.2 dX3_spots_71
    · intro k22 i22 z ls H locs ih22 hI
      obtain ⟨u3_22, wpl_22⟩ := z
      obtain ⟨hk22, hw, hm22, hP, hD, hS, hl⟩ := hI
      have hm22 : m_X3_spots_L22 nt kd ho st ea nr rc rh v1 (k22 + 1) i22 u3_22 wpl_22 = m_X3_spots_L22 nt kd ho st ea nr rc rh v1 nc 0 0 pl := hm22
      have hw : upd wpl_22 v1.toNatClampNeg (pl v1.toNatClampNeg) = pl := hw
      have hP : va_P D vwCl [((q 0), .inr (3, [.int fa, .int (nI nc), .ref (q 1), .int (nI nt), .ref (q 2), .ref (q 3), .ref (q 4), .ref (q 5), .int ea, .int (nI ra), .int (nI rs), .int (nI rt), .ref (q 6), .ref (q 7), .ref (q 8), .ref (q 9), .ref (q 10), .ref (q 11), .int (nI nr), .ref (q 12), .ref (q 13), .ref (q 14), .ref (q 15), .ref (q 16), .ref (q 17), .int tr])), ((q 2), .inl (cI, 6, .inl kd)), ((q 3), .inl (cI, 6, .inl ho)), ((q 4), .inl (cI, 6, .inl wpl_22)), ((q 5), .inl (cI, 6, .inl st)), ((q 12), .inl (cI, 8, .inl rc)), ((q 13), .inl (cI, 8, .inl rh))] H := hP
      have hD : va_D A [((q 0), .inr (3, [.int fa, .int (nI nc), .ref (q 1), .int (nI nt), .ref (q 2), .ref (q 3), .ref (q 4), .ref (q 5), .int ea, .int (nI ra), .int (nI rs), .int (nI rt), .ref (q 6), .ref (q 7), .ref (q 8), .ref (q 9), .ref (q 10), .ref (q 11), .int (nI nr), .ref (q 12), .ref (q 13), .ref (q 14), .ref (q 15), .ref (q 16), .ref (q 17), .int tr])), ((q 2), .inl (cI, 6, .inl kd)), ((q 3), .inl (cI, 6, .inl ho)), ((q 4), .inl (cI, 6, .inl wpl_22)), ((q 5), .inl (cI, 6, .inl st)), ((q 12), .inl (cI, 8, .inl rc)), ((q 13), .inl (cI, 8, .inl rh))] := hD
      have hl : lv_has ls 5 [(4, .int (nI i22)), (3, .int u3_22), (2, .int (pl v1.toNatClampNeg)), (0, .ref (q 0)), (1, .int v1)] := hl
      refine lv_iload hx hb dX3_spots_22 (lv_at hl 0 rfl) ?_
      refine lv_aload_n hx hb dX3_spots_24 rfl (lv_at hl 3 rfl) ?_
      refine va_get (ci := 3) (v := .int (nI nc)) (C := RX3) (T := TX3) (N := 26) hx hb hts hin_X3 hown hK hP 0 rfl rfl 1 (by decide) fl_75 (fun _ h9 => h9) rfl dX3_spots_25 ?_
      refine lv_icmp_ge (tgt := 63) hx hb dX3_spots_28 (by decide) (fun c_28 => absurd c_28 (tw_tlt rfl (show i22 < nc by omega) (show nc < 2 ^ 31 by omega))) (fun c_28 => ?_)
      refine lv_aload_n hx hb dX3_spots_31 rfl (lv_at hl 3 rfl) ?_
      refine va_get (ci := 3) (v := .ref (q 4)) (C := RX3) (T := TX3) (N := 26) hx hb hts hin_X3 hown hK hP 0 rfl rfl 6 (by decide) fl_19 (fun _ h9 => h9) rfl dX3_spots_32 ?_
      refine lv_iload_n hx hb dX3_spots_35 rfl (lv_at hl 4 rfl) ?_
      refine lv_iload hx hb dX3_spots_36 (lv_at hl 0 rfl) ?_
      refine va_iast hx hb hK hP hD hS 3 0 rfl rfl (noThing_in hn c_5) dX3_spots_38 (fun H locs hP hD hS => ?_)
      have hP : va_P D vwCl [((q 0), .inr (3, [.int fa, .int (nI nc), .ref (q 1), .int (nI nt), .ref (q 2), .ref (q 3), .ref (q 4), .ref (q 5), .int ea, .int (nI ra), .int (nI rs), .int (nI rt), .ref (q 6), .ref (q 7), .ref (q 8), .ref (q 9), .ref (q 10), .ref (q 11), .int (nI nr), .ref (q 12), .ref (q 13), .ref (q 14), .ref (q 15), .ref (q 16), .ref (q 17), .int tr])), ((q 2), .inl (cI, 6, .inl kd)), ((q 3), .inl (cI, 6, .inl ho)), ((q 4), .inl (cI, 6, .inl (upd wpl_22 v1.toNatClampNeg (nI i22)))), ((q 5), .inl (cI, 6, .inl st)), ((q 12), .inl (cI, 8, .inl rc)), ((q 13), .inl (cI, 8, .inl rh))] H := hP
      have hD : va_D A [((q 0), .inr (3, [.int fa, .int (nI nc), .ref (q 1), .int (nI nt), .ref (q 2), .ref (q 3), .ref (q 4), .ref (q 5), .int ea, .int (nI ra), .int (nI rs), .int (nI rt), .ref (q 6), .ref (q 7), .ref (q 8), .ref (q 9), .ref (q 10), .ref (q 11), .int (nI nr), .ref (q 12), .ref (q 13), .ref (q 14), .ref (q 15), .ref (q 16), .ref (q 17), .int tr])), ((q 2), .inl (cI, 6, .inl kd)), ((q 3), .inl (cI, 6, .inl ho)), ((q 4), .inl (cI, 6, .inl (upd wpl_22 v1.toNatClampNeg (nI i22)))), ((q 5), .inl (cI, 6, .inl st)), ((q 12), .inl (cI, 8, .inl rc)), ((q 13), .inl (cI, 8, .inl rh))] := hD
      refine lv_iload_n hx hb dX3_spots_39 rfl (lv_at hl 1 rfl) ?_
      refine lv_aload_n hx hb dX3_spots_40 rfl (lv_at hl 3 rfl) ?_
      refine tw_cs (va_runV (As := []) (rest := [.int u3_22]) ⟨hx, hb, hml, hown, hts⟩ (c_X3_areSo l D cI cS q fa nc nt kd ho (upd wpl_22 v1.toNatClampNeg (nI i22)) st ea ra rs rt nr rc rh tr (by first | assumption | omega | exact hz60 _ | exact vp_in_nI (by omega) (by decide)) (by first | assumption | omega | exact hz60 _ | exact vp_in_nI (by omega) (by decide))) (cwV 0 hts gX3_spots_X3_areSo rfl rfl rfl (by decide +kernel) ⟨Nat.le_of_ble_eq_true rfl, Nat.le_of_ble_eq_true rfl⟩) ⟨tw_Rb, va_recv hK hP (ci := 3) (q0 := 0) rfl rfl, tw_Rp (hP.sub (ws' := [((q 0), .inr (3, [.int fa, .int (nI nc), .ref (q 1), .int (nI nt), .ref (q 2), .ref (q 3), .ref (q 4), .ref (q 5), .int ea, .int (nI ra), .int (nI rs), .int (nI rt), .ref (q 6), .ref (q 7), .ref (q 8), .ref (q 9), .ref (q 10), .ref (q 11), .int (nI nr), .ref (q 12), .ref (q 13), .ref (q 14), .ref (q 15), .ref (q 16), .ref (q 17), .int tr])), ((q 2), .inl (cI, 6, .inl kd)), ((q 3), .inl (cI, 6, .inl ho)), ((q 4), .inl (cI, 6, .inl (upd wpl_22 v1.toNatClampNeg (nI i22)))), ((q 5), .inl (cI, 6, .inl st)), ((q 12), .inl (cI, 8, .inl rc)), ((q 13), .inl (cI, 8, .inl rh))]) [0, 1, 2, 3, 4, 5, 6] rfl) hK⟩ rfl rfl hl.1 rfl (lv_room (Nat.le_of_ble_eq_true rfl)) dX3_spots_41 ⟨Nat.zero_le _, Nat.zero_le _⟩) ?_
      refine tw_join (fun (y : Int32) => F0 m 55 ls (.int y :: .int u3_22 :: [])) (if (m_X3_areSo nt kd ho (upd wpl_22 v1.toNatClampNeg (nI i22)) st ea nr rc rh) = 0 then (0 : Int32) else 1 <<< ((nI i22) &&& 31)) ?_ (fun J55_0 => ?_)
      · intro y55 hy55
        refine lv_ior hx hb dX3_spots_55 ?_
        refine lv_istore_n (lv' := [(3, .int (u3_22 ||| y55)), (4, .int (nI i22)), (2, .int (pl v1.toNatClampNeg)), (0, .ref (q 0)), (1, .int v1)]) hx hb dX3_spots_56 rfl hl (by decide) rfl (fun ls hl => ?_)
        refine lv_iinc (v := nI (i22 + 1)) (lv' := [(4, .int (nI (i22 + 1))), (3, .int (u3_22 ||| y55)), (2, .int (pl v1.toNatClampNeg)), (0, .ref (q 0)), (1, .int v1)]) hx hb dX3_spots_57 hl (k := 1) rfl (nI_1 _) (by decide) rfl (fun ls hl => ?_)
        refine lv_goto (tgt := 22) hx hb dX3_spots_60 (by decide) ?_
        exact ih22 (u3_22 ||| y55, upd wpl_22 v1.toNatClampNeg (nI i22)) ls H _ ⟨by omega, (show upd (upd wpl_22 v1.toNatClampNeg (nI i22)) v1.toNatClampNeg (pl v1.toNatClampNeg) = pl from tw_uu hw), (by (rw [← hm22, m_X3_spots_L22_s]; (try rw [← hy55])) <;> rfl), hP, hD, hS, lv_sub hl [0, 1, 2, 3, 4] rfl⟩
      · refine lv_if_eq (tgt := 54) hx hb dX3_spots_44 (by decide) (fun c_44 => ?_) (fun c_44 => ?_)
        · refine lv_iconst (v := 0) hx hb dX3_spots_54 (by decide) ?_
          exact J55_0 _ (by (rw [if_pos c_44]) <;> rfl)
        · refine lv_iconst (v := 1) hx hb dX3_spots_47 (by decide) ?_
          refine lv_iload hx hb dX3_spots_48 (lv_at hl 0 rfl) ?_
          refine lv_ishl hx hb dX3_spots_50 ?_
          refine lv_goto (tgt := 55) hx hb dX3_spots_51 (by decide) ?_
          exact J55_0 _ (by (rw [if_neg c_44]) <;> rfl)
  · refine lv_iconst (v := (-1)) hx hb dX3_spots_8 (by decide) ?_
    have hE : (m_X3_spots nc nt kd ho pl st ea nr rc rh v1) = (-1) := Eq.symm (by (unfold m_X3_spots; rw [if_neg c_5]) <;> rfl)
    rw [hE]
    exact W.iret hx hb hr (fun t ht hW => ⟨⟨_, (), rfl, rfl, by rw [ht]; exact hP, va_K.moved hW.alike hK, hD⟩, hS.F ht⟩) hS.2.2 dX3_spots_9

def m_X3_tell (nt : Nat) (kd : Nat → Int32) (st : Nat → Int32) (tr : Int32) (v1 : Int32) : Int32 × Int32 :=
  if (m_X3_noThing nt v1) = 0 then
    if (kd v1.toNatClampNeg) = 2 then
      if (kd v1.toNatClampNeg) ≤ 0 then
        if (kd v1.toNatClampNeg) = 2 then
          ((if (kd v1.toNatClampNeg) = 0 then st v1.toNatClampNeg else (if (kd v1.toNatClampNeg) = 1 then (st v1.toNatClampNeg) + 100 else (2 * (st v1.toNatClampNeg)) + 100)), (m_X3_traced (m_X3_traced (m_X3_traced tr 3) 1) 1))
        else
          ((if (kd v1.toNatClampNeg) = 0 then st v1.toNatClampNeg else (if (kd v1.toNatClampNeg) = 1 then (st v1.toNatClampNeg) + 100 else (2 * (st v1.toNatClampNeg)) + 100)), (m_X3_traced (m_X3_traced tr 3) 1))
      else
        if (kd v1.toNatClampNeg) = 2 then
          ((if (kd v1.toNatClampNeg) = 0 then st v1.toNatClampNeg else (if (kd v1.toNatClampNeg) = 1 then (st v1.toNatClampNeg) + 100 else (2 * (st v1.toNatClampNeg)) + 100)), (m_X3_traced (m_X3_traced (m_X3_traced (m_X3_traced tr 3) 2) 1) 1))
        else
          ((if (kd v1.toNatClampNeg) = 0 then st v1.toNatClampNeg else (if (kd v1.toNatClampNeg) = 1 then (st v1.toNatClampNeg) + 100 else (2 * (st v1.toNatClampNeg)) + 100)), (m_X3_traced (m_X3_traced (m_X3_traced tr 3) 2) 1))
    else
      if (kd v1.toNatClampNeg) ≤ 0 then
        if (kd v1.toNatClampNeg) = 2 then
          ((if (kd v1.toNatClampNeg) = 0 then st v1.toNatClampNeg else (if (kd v1.toNatClampNeg) = 1 then (st v1.toNatClampNeg) + 100 else (2 * (st v1.toNatClampNeg)) + 100)), (m_X3_traced (m_X3_traced tr 1) 1))
        else
          ((if (kd v1.toNatClampNeg) = 0 then st v1.toNatClampNeg else (if (kd v1.toNatClampNeg) = 1 then (st v1.toNatClampNeg) + 100 else (2 * (st v1.toNatClampNeg)) + 100)), (m_X3_traced tr 1))
      else
        if (kd v1.toNatClampNeg) = 2 then
          ((if (kd v1.toNatClampNeg) = 0 then st v1.toNatClampNeg else (if (kd v1.toNatClampNeg) = 1 then (st v1.toNatClampNeg) + 100 else (2 * (st v1.toNatClampNeg)) + 100)), (m_X3_traced (m_X3_traced (m_X3_traced tr 2) 1) 1))
        else
          ((if (kd v1.toNatClampNeg) = 0 then st v1.toNatClampNeg else (if (kd v1.toNatClampNeg) = 1 then (st v1.toNatClampNeg) + 100 else (2 * (st v1.toNatClampNeg)) + 100)), (m_X3_traced (m_X3_traced tr 2) 1))
  else
    ((-1), tr)
set_option maxHeartbeats 4000000 in
set_option maxRecDepth 100000 in
theorem c_X3_tell (l : Launch) (D : va_G) (cI cS : ClassId) (q : Nat → Nat) (hz : Nat) (fa : Int32) (nc : Nat) (nt : Nat) (kd : Nat → Int32) (st : Nat → Int32) (ea : Int32) (ra : Nat) (rs : Nat) (rt : Nat) (nr : Nat) (tr : Int32) (v1 : Int32) (hn : nt ≤ 6) : Met l yX3_tell wsX3_tell ({ frames := 2, cells := 0, slots := 0, locals := 46 }) (tw_W D cI cS [.ref (q 0), .int v1] hz [((q 0), .inr (3, [.int fa, .int (nI nc), .ref (q 1), .int (nI nt), .ref (q 2), .ref (q 3), .ref (q 4), .ref (q 5), .int ea, .int (nI ra), .int (nI rs), .int (nI rt), .ref (q 6), .ref (q 7), .ref (q 8), .ref (q 9), .ref (q 10), .ref (q 11), .int (nI nr), .ref (q 12), .ref (q 13), .ref (q 14), .ref (q 15), .ref (q 16), .ref (q 17), .int tr])), ((q 2), .inl (cI, 6, .inl kd)), ((q 5), .inl (cI, 6, .inl st))]) (va_Qi (fun r (_ : Unit) => r = (m_X3_tell nt kd st tr v1).1) (tw_B D cI cS (va_A [((q 0), .inr (3, [.int fa, .int (nI nc), .ref (q 1), .int (nI nt), .ref (q 2), .ref (q 3), .ref (q 4), .ref (q 5), .int ea, .int (nI ra), .int (nI rs), .int (nI rt), .ref (q 6), .ref (q 7), .ref (q 8), .ref (q 9), .ref (q 10), .ref (q 11), .int (nI nr), .ref (q 12), .ref (q 13), .ref (q 14), .ref (q 15), .ref (q 16), .ref (q 17), .int tr])), ((q 2), .inl (cI, 6, .inl kd)), ((q 5), .inl (cI, 6, .inl st))] hz) [((q 0), .inr (3, [.int fa, .int (nI nc), .ref (q 1), .int (nI nt), .ref (q 2), .ref (q 3), .ref (q 4), .ref (q 5), .int ea, .int (nI ra), .int (nI rs), .int (nI rt), .ref (q 6), .ref (q 7), .ref (q 8), .ref (q 9), .ref (q 10), .ref (q 11), .int (nI nr), .ref (q 12), .ref (q 13), .ref (q 14), .ref (q 15), .ref (q 16), .ref (q 17), .int ((m_X3_tell nt kd st tr v1).2)])), ((q 2), .inl (cI, 6, .inl kd)), ((q 5), .inl (cI, 6, .inl st))]) (va_A [((q 0), .inr (3, [.int fa, .int (nI nc), .ref (q 1), .int (nI nt), .ref (q 2), .ref (q 3), .ref (q 4), .ref (q 5), .int ea, .int (nI ra), .int (nI rs), .int (nI rt), .ref (q 6), .ref (q 7), .ref (q 8), .ref (q 9), .ref (q 10), .ref (q 11), .int (nI nr), .ref (q 12), .ref (q 13), .ref (q 14), .ref (q 15), .ref (q 16), .ref (q 17), .int tr])), ((q 2), .inl (cI, 6, .inl kd)), ((q 5), .inl (cI, 6, .inl st))] hz)) 0 0 (va_A [((q 0), .inr (3, [.int fa, .int (nI nc), .ref (q 1), .int (nI nt), .ref (q 2), .ref (q 3), .ref (q 4), .ref (q 5), .int ea, .int (nI ra), .int (nI rs), .int (nI rt), .ref (q 6), .ref (q 7), .ref (q 8), .ref (q 9), .ref (q 10), .ref (q 11), .int (nI nr), .ref (q 12), .ref (q 13), .ref (q 14), .ref (q 15), .ref (q 16), .ref (q 17), .int tr])), ((q 2), .inl (cI, 6, .inl kd)), ((q 5), .inl (cI, 6, .inl st))] hz) := by
  refine Met.ofW (cc := cX3_tell) (maxL := 4) (ret := (some .int)) (by decide) rfl ?_
  intro p e s m args below meth c s₁ B hml hv
  obtain ⟨rfl, hsz, hP, hK, hD0⟩ := hv
  have hx := B.exec
  have hb := B.bytes
  have hr := B.returns
  have hts := atoms_spec (ws := wsX3_tell) B.pre
  have hown : s.vm.findClass RX3 = some m.cls := findClass_of_methodNamed B.named
  have hlocks := B.notSynchronized
  subst hsz
  have hD := hD0.self (sz := s.heap.size)
  generalize hAe : va_A [((q 0), .inr (3, [.int fa, .int (nI nc), .ref (q 1), .int (nI nt), .ref (q 2), .ref (q 3), .ref (q 4), .ref (q 5), .int ea, .int (nI ra), .int (nI rs), .int (nI rt), .ref (q 6), .ref (q 7), .ref (q 8), .ref (q 9), .ref (q 10), .ref (q 11), .int (nI nr), .ref (q 12), .ref (q 13), .ref (q 14), .ref (q 15), .ref (q 16), .ref (q 17), .int tr])), ((q 2), .inl (cI, 6, .inl kd)), ((q 5), .inl (cI, 6, .inl st))] s.heap.size = A at hD ⊢
  have hA : ∀ q : Nat, s.heap.size ≤ q → A q := fun q h => by rw [← hAe]; exact Or.inr h
  have hS : va_S A s.heap s.heap [] := va_S.rf
  have fl_13 := hts (.fieldLink RX3 13 "TableWarModel" "kindOf" "[I") (by decide +kernel)
  have hin_X3 := (show ∀ w ∈ u_ws RX3 TX3 26, w ∈ wsX3_tell from by decide +kernel)
  have fl_22 := hts (.fieldLink RX3 22 "TableWarModel" "strengthOf" "[I") (by decide +kernel)
  have hl := lv_entry ([.ref (q 0), .int v1]) (n := 4) (Nat.le_of_ble_eq_true rfl)
  rw [lg_entry_eq]
  generalize (lg_sl ([.ref (q 0), .int v1]) ++ List.replicate (4 - (lg_sl ([.ref (q 0), .int v1])).length) Slot.unset).toArray = ls at hl ⊢
  have hl : lv_has ls 4 [(0, .ref (q 0)), (1, .int v1)] := hl
  refine lv_aload_n hx hb dX3_tell_0 rfl (lv_at hl 0 rfl) ?_
  refine lv_iload_n hx hb dX3_tell_1 rfl (lv_at hl 1 rfl) ?_
  refine tw_cs (va_runV (As := [.int v1]) (rest := []) ⟨hx, hb, hml, hown, hts⟩ (c_X3_noThing l D cI cS q fa nc nt ea ra rs rt nr tr v1) (cwV 1 hts gX3_tell_X3_noThing rfl rfl rfl (by decide +kernel) ⟨Nat.le_of_ble_eq_true rfl, Nat.le_of_ble_eq_true rfl⟩) ⟨tw_Rb, va_recv hK hP (ci := 3) (q0 := 0) rfl rfl, tw_Rp (hP.sub (ws' := [((q 0), .inr (3, [.int fa, .int (nI nc), .ref (q 1), .int (nI nt), .ref (q 2), .ref (q 3), .ref (q 4), .ref (q 5), .int ea, .int (nI ra), .int (nI rs), .int (nI rt), .ref (q 6), .ref (q 7), .ref (q 8), .ref (q 9), .ref (q 10), .ref (q 11), .int (nI nr), .ref (q 12), .ref (q 13), .ref (q 14), .ref (q 15), .ref (q 16), .ref (q 17), .int tr]))]) [0] rfl) hK⟩ rfl rfl hl.1 rfl (lv_room (Nat.le_of_ble_eq_true rfl)) dX3_tell_2 ⟨Nat.zero_le _, Nat.zero_le _⟩) ?_
  refine lv_if_eq (tgt := 10) hx hb dX3_tell_5 (by decide) (fun c_5 => ?_) (fun c_5 => ?_)
  · refine lv_aload_n hx hb dX3_tell_10 rfl (lv_at hl 0 rfl) ?_
    refine va_get (ci := 3) (v := .ref (q 2)) (C := RX3) (T := TX3) (N := 26) hx hb hts hin_X3 hown hK hP 0 rfl rfl 4 (by decide) fl_13 (fun _ h9 => h9) rfl dX3_tell_11 ?_
    refine lv_iload_n hx hb dX3_tell_14 rfl (lv_at hl 1 rfl) ?_
    refine va_iald hx hb hK hP 1 0 rfl rfl (noThing_in hn c_5) dX3_tell_15 ?_
    refine lv_istore_n (lv' := [(2, .int (kd v1.toNatClampNeg)), (0, .ref (q 0)), (1, .int v1)]) hx hb dX3_tell_16 rfl hl (by decide) rfl (fun ls hl => ?_)
    refine lv_iload_n hx hb dX3_tell_17 rfl (lv_at hl 0 rfl) ?_
    refine lv_iconst (v := 2) hx hb dX3_tell_18 (by decide) ?_
    refine lv_icmp_ne (tgt := 27) hx hb dX3_tell_19 (by decide) (fun c_19 => ?_) (fun c_19 => ?_)
    · refine lv_iload_n hx hb dX3_tell_27 rfl (lv_at hl 0 rfl) ?_
      refine lv_if_le (tgt := 36) hx hb dX3_tell_28 (by decide) (fun c_28 => ?_) (fun c_28 => ?_)
      · refine lv_aload_n hx hb dX3_tell_36 rfl (lv_at hl 1 rfl) ?_
        refine lv_iconst (v := 1) hx hb dX3_tell_37 (by decide) ?_
        refine tw_wv (ws := [((q 0), .inr (3, [.int fa, .int (nI nc), .ref (q 1), .int (nI nt), .ref (q 2), .ref (q 3), .ref (q 4), .ref (q 5), .int ea, .int (nI ra), .int (nI rs), .int (nI rt), .ref (q 6), .ref (q 7), .ref (q 8), .ref (q 9), .ref (q 10), .ref (q 11), .int (nI nr), .ref (q 12), .ref (q 13), .ref (q 14), .ref (q 15), .ref (q 16), .ref (q 17), .int tr])), ((q 2), .inl (cI, 6, .inl kd)), ((q 5), .inl (cI, 6, .inl st))]) (wc := [((q 0), .inr (3, [.int fa, .int (nI nc), .ref (q 1), .int (nI nt), .ref (q 2), .ref (q 3), .ref (q 4), .ref (q 5), .int ea, .int (nI ra), .int (nI rs), .int (nI rt), .ref (q 6), .ref (q 7), .ref (q 8), .ref (q 9), .ref (q 10), .ref (q 11), .int (nI nr), .ref (q 12), .ref (q 13), .ref (q 14), .ref (q 15), .ref (q 16), .ref (q 17), .int tr]))]) (wr := [((q 2), .inl (cI, 6, .inl kd)), ((q 5), .inl (cI, 6, .inl st))]) (w1 := [((q 0), .inr (3, [.int fa, .int (nI nc), .ref (q 1), .int (nI nt), .ref (q 2), .ref (q 3), .ref (q 4), .ref (q 5), .int ea, .int (nI ra), .int (nI rs), .int (nI rt), .ref (q 6), .ref (q 7), .ref (q 8), .ref (q 9), .ref (q 10), .ref (q 11), .int (nI nr), .ref (q 12), .ref (q 13), .ref (q 14), .ref (q 15), .ref (q 16), .ref (q 17), .int (m_X3_traced tr 1)]))]) (ws' := [((q 0), .inr (3, [.int fa, .int (nI nc), .ref (q 1), .int (nI nt), .ref (q 2), .ref (q 3), .ref (q 4), .ref (q 5), .int ea, .int (nI ra), .int (nI rs), .int (nI rt), .ref (q 6), .ref (q 7), .ref (q 8), .ref (q 9), .ref (q 10), .ref (q 11), .int (nI nr), .ref (q 12), .ref (q 13), .ref (q 14), .ref (q 15), .ref (q 16), .ref (q 17), .int (m_X3_traced tr 1)])), ((q 2), .inl (cI, 6, .inl kd)), ((q 5), .inl (cI, 6, .inl st))]) (va_runV (As := [.int 1]) (rest := []) ⟨hx, hb, hml, hown, hts⟩ (c_X3_traced l D cI cS q _ fa nc nt ea ra rs rt nr tr 1) (cwV 1 hts gX3_tell_X3_traced rfl rfl rfl (by decide +kernel) ⟨Nat.le_of_ble_eq_true rfl, Nat.le_of_ble_eq_true rfl⟩) ⟨tw_Wb, va_recv hK hP (ci := 3) (q0 := 0) rfl rfl, tw_Wp (hP.sub (ws' := [((q 0), .inr (3, [.int fa, .int (nI nc), .ref (q 1), .int (nI nt), .ref (q 2), .ref (q 3), .ref (q 4), .ref (q 5), .int ea, .int (nI ra), .int (nI rs), .int (nI rt), .ref (q 6), .ref (q 7), .ref (q 8), .ref (q 9), .ref (q 10), .ref (q 11), .int (nI nr), .ref (q 12), .ref (q 13), .ref (q 14), .ref (q 15), .ref (q 16), .ref (q 17), .int tr]))]) [0] rfl) hK (hD.sub (ws' := [((q 0), .inr (3, [.int fa, .int (nI nc), .ref (q 1), .int (nI nt), .ref (q 2), .ref (q 3), .ref (q 4), .ref (q 5), .int ea, .int (nI ra), .int (nI rs), .int (nI rt), .ref (q 6), .ref (q 7), .ref (q 8), .ref (q 9), .ref (q 10), .ref (q 11), .int (nI nr), .ref (q 12), .ref (q 13), .ref (q 14), .ref (q 15), .ref (q 16), .ref (q 17), .int tr]))]) [0] (by decide) rfl)⟩ rfl rfl hl.1 rfl (lv_room (Nat.le_of_ble_eq_true rfl)) dX3_tell_38 ⟨Nat.zero_le _, Nat.zero_le _⟩) hP hD hS hA [0] [1, 2] [2, 0, 1] rfl rfl (by decide) (by decide) rfl (by decide) (fun H locs hP hD hS => ?_)
        refine lv_iload_n hx hb dX3_tell_41 rfl (lv_at hl 0 rfl) ?_
        refine lv_iconst (v := 2) hx hb dX3_tell_42 (by decide) ?_
        refine lv_icmp_ne (tgt := 51) hx hb dX3_tell_43 (by decide) (fun c_43 => ?_) (fun c_43 => ?_)
        · refine lv_aload_n hx hb dX3_tell_51 rfl (lv_at hl 1 rfl) ?_
          refine va_get (ci := 3) (v := .ref (q 5)) (C := RX3) (T := TX3) (N := 26) hx hb hts hin_X3 hown hK hP 0 rfl rfl 7 (by decide) fl_22 (fun _ h9 => h9) rfl dX3_tell_52 ?_
          refine lv_iload_n hx hb dX3_tell_55 rfl (lv_at hl 2 rfl) ?_
          refine va_iald hx hb hK hP 2 0 rfl rfl (noThing_in hn c_5) dX3_tell_56 ?_
          refine lv_istore_n (lv' := [(3, .int (st v1.toNatClampNeg)), (2, .int (kd v1.toNatClampNeg)), (0, .ref (q 0)), (1, .int v1)]) hx hb dX3_tell_57 rfl hl (by decide) rfl (fun ls hl => ?_)
          refine lv_iload_n hx hb dX3_tell_58 rfl (lv_at hl 1 rfl) ?_
          refine tw_join (fun (y : Int32) => F0 m 84 ls (.int y :: [])) (if (kd v1.toNatClampNeg) = 0 then st v1.toNatClampNeg else (if (kd v1.toNatClampNeg) = 1 then (st v1.toNatClampNeg) + 100 else (2 * (st v1.toNatClampNeg)) + 100)) ?_ (fun J84_0 => ?_)
          · intro y84 hy84
            have hE : (m_X3_tell nt kd st tr v1) = (y84, (m_X3_traced tr 1)) := Eq.symm (by (unfold m_X3_tell; rw [if_pos c_5]; rw [if_neg c_19]; rw [if_pos c_28]; rw [if_neg c_43]; (try rw [← hy84])) <;> rfl)
            rw [hE]
            exact W.iret hx hb hr (fun t ht hW => ⟨⟨_, (), rfl, rfl, by rw [ht]; exact hP, va_K.moved hW.alike hK, hD⟩, hS.F ht⟩) hS.2.2 dX3_tell_84
          · refine lv_if_ne (tgt := 66) hx hb dX3_tell_59 (by decide) (fun c_59 => ?_) (fun c_59 => ?_)
            · refine lv_iload_n hx hb dX3_tell_66 rfl (lv_at hl 1 rfl) ?_
              refine lv_iconst (v := 1) hx hb dX3_tell_67 (by decide) ?_
              refine lv_icmp_ne (tgt := 78) hx hb dX3_tell_68 (by decide) (fun c_68 => ?_) (fun c_68 => ?_)
              · refine lv_iconst (v := 2) hx hb dX3_tell_78 (by decide) ?_
                refine lv_iload_n hx hb dX3_tell_79 rfl (lv_at hl 0 rfl) ?_
                refine lv_imul hx hb dX3_tell_80 ?_
                refine lv_bipush (v := 100) hx hb dX3_tell_81 (by decide) ?_
                refine lv_iadd hx hb dX3_tell_83 ?_
                exact J84_0 _ (by (rw [if_neg c_59]; rw [if_neg c_68]) <;> rfl)
              · refine lv_iload_n hx hb dX3_tell_71 rfl (lv_at hl 0 rfl) ?_
                refine lv_bipush (v := 100) hx hb dX3_tell_72 (by decide) ?_
                refine lv_iadd hx hb dX3_tell_74 ?_
                refine lv_goto (tgt := 84) hx hb dX3_tell_75 (by decide) ?_
                exact J84_0 _ (by (rw [if_neg c_59]; rw [if_pos c_68]) <;> rfl)
            · refine lv_iload_n hx hb dX3_tell_62 rfl (lv_at hl 0 rfl) ?_
              refine lv_goto (tgt := 84) hx hb dX3_tell_63 (by decide) ?_
              exact J84_0 _ (by (rw [if_pos c_59]) <;> rfl)
        · refine lv_aload_n hx hb dX3_tell_46 rfl (lv_at hl 1 rfl) ?_
          refine lv_iconst (v := 1) hx hb dX3_tell_47 (by decide) ?_
          refine tw_wv (ws := [((q 0), .inr (3, [.int fa, .int (nI nc), .ref (q 1), .int (nI nt), .ref (q 2), .ref (q 3), .ref (q 4), .ref (q 5), .int ea, .int (nI ra), .int (nI rs), .int (nI rt), .ref (q 6), .ref (q 7), .ref (q 8), .ref (q 9), .ref (q 10), .ref (q 11), .int (nI nr), .ref (q 12), .ref (q 13), .ref (q 14), .ref (q 15), .ref (q 16), .ref (q 17), .int (m_X3_traced tr 1)])), ((q 2), .inl (cI, 6, .inl kd)), ((q 5), .inl (cI, 6, .inl st))]) (wc := [((q 0), .inr (3, [.int fa, .int (nI nc), .ref (q 1), .int (nI nt), .ref (q 2), .ref (q 3), .ref (q 4), .ref (q 5), .int ea, .int (nI ra), .int (nI rs), .int (nI rt), .ref (q 6), .ref (q 7), .ref (q 8), .ref (q 9), .ref (q 10), .ref (q 11), .int (nI nr), .ref (q 12), .ref (q 13), .ref (q 14), .ref (q 15), .ref (q 16), .ref (q 17), .int (m_X3_traced tr 1)]))]) (wr := [((q 2), .inl (cI, 6, .inl kd)), ((q 5), .inl (cI, 6, .inl st))]) (w1 := [((q 0), .inr (3, [.int fa, .int (nI nc), .ref (q 1), .int (nI nt), .ref (q 2), .ref (q 3), .ref (q 4), .ref (q 5), .int ea, .int (nI ra), .int (nI rs), .int (nI rt), .ref (q 6), .ref (q 7), .ref (q 8), .ref (q 9), .ref (q 10), .ref (q 11), .int (nI nr), .ref (q 12), .ref (q 13), .ref (q 14), .ref (q 15), .ref (q 16), .ref (q 17), .int (m_X3_traced (m_X3_traced tr 1) 1)]))]) (ws' := [((q 0), .inr (3, [.int fa, .int (nI nc), .ref (q 1), .int (nI nt), .ref (q 2), .ref (q 3), .ref (q 4), .ref (q 5), .int ea, .int (nI ra), .int (nI rs), .int (nI rt), .ref (q 6), .ref (q 7), .ref (q 8), .ref (q 9), .ref (q 10), .ref (q 11), .int (nI nr), .ref (q 12), .ref (q 13), .ref (q 14), .ref (q 15), .ref (q 16), .ref (q 17), .int (m_X3_traced (m_X3_traced tr 1) 1)])), ((q 2), .inl (cI, 6, .inl kd)), ((q 5), .inl (cI, 6, .inl st))]) (va_runV (As := [.int 1]) (rest := []) ⟨hx, hb, hml, hown, hts⟩ (c_X3_traced l D cI cS q _ fa nc nt ea ra rs rt nr (m_X3_traced tr 1) 1) (cwV 1 hts gX3_tell_X3_traced rfl rfl rfl (by decide +kernel) ⟨Nat.le_of_ble_eq_true rfl, Nat.le_of_ble_eq_true rfl⟩) ⟨tw_Wb, va_recv hK hP (ci := 3) (q0 := 0) rfl rfl, tw_Wp (hP.sub (ws' := [((q 0), .inr (3, [.int fa, .int (nI nc), .ref (q 1), .int (nI nt), .ref (q 2), .ref (q 3), .ref (q 4), .ref (q 5), .int ea, .int (nI ra), .int (nI rs), .int (nI rt), .ref (q 6), .ref (q 7), .ref (q 8), .ref (q 9), .ref (q 10), .ref (q 11), .int (nI nr), .ref (q 12), .ref (q 13), .ref (q 14), .ref (q 15), .ref (q 16), .ref (q 17), .int (m_X3_traced tr 1)]))]) [0] rfl) hK (hD.sub (ws' := [((q 0), .inr (3, [.int fa, .int (nI nc), .ref (q 1), .int (nI nt), .ref (q 2), .ref (q 3), .ref (q 4), .ref (q 5), .int ea, .int (nI ra), .int (nI rs), .int (nI rt), .ref (q 6), .ref (q 7), .ref (q 8), .ref (q 9), .ref (q 10), .ref (q 11), .int (nI nr), .ref (q 12), .ref (q 13), .ref (q 14), .ref (q 15), .ref (q 16), .ref (q 17), .int (m_X3_traced tr 1)]))]) [0] (by decide) rfl)⟩ rfl rfl hl.1 rfl (lv_room (Nat.le_of_ble_eq_true rfl)) dX3_tell_48 ⟨Nat.zero_le _, Nat.zero_le _⟩) hP hD hS hA [0] [1, 2] [2, 0, 1] rfl rfl (by decide) (by decide) rfl (by decide) (fun H locs hP hD hS => ?_)
          refine lv_aload_n hx hb dX3_tell_51 rfl (lv_at hl 1 rfl) ?_
          refine va_get (ci := 3) (v := .ref (q 5)) (C := RX3) (T := TX3) (N := 26) hx hb hts hin_X3 hown hK hP 0 rfl rfl 7 (by decide) fl_22 (fun _ h9 => h9) rfl dX3_tell_52 ?_
          refine lv_iload_n hx hb dX3_tell_55 rfl (lv_at hl 2 rfl) ?_
          refine va_iald hx hb hK hP 2 0 rfl rfl (noThing_in hn c_5) dX3_tell_56 ?_
          refine lv_istore_n (lv' := [(3, .int (st v1.toNatClampNeg)), (2, .int (kd v1.toNatClampNeg)), (0, .ref (q 0)), (1, .int v1)]) hx hb dX3_tell_57 rfl hl (by decide) rfl (fun ls hl => ?_)
          refine lv_iload_n hx hb dX3_tell_58 rfl (lv_at hl 1 rfl) ?_
          refine tw_join (fun (y : Int32) => F0 m 84 ls (.int y :: [])) (if (kd v1.toNatClampNeg) = 0 then st v1.toNatClampNeg else (if (kd v1.toNatClampNeg) = 1 then (st v1.toNatClampNeg) + 100 else (2 * (st v1.toNatClampNeg)) + 100)) ?_ (fun J84_1 => ?_)
          · intro y84 hy84
            have hE : (m_X3_tell nt kd st tr v1) = (y84, (m_X3_traced (m_X3_traced tr 1) 1)) := Eq.symm (by (unfold m_X3_tell; rw [if_pos c_5]; rw [if_neg c_19]; rw [if_pos c_28]; rw [if_pos c_43]; (try rw [← hy84])) <;> rfl)
            rw [hE]
            exact W.iret hx hb hr (fun t ht hW => ⟨⟨_, (), rfl, rfl, by rw [ht]; exact hP, va_K.moved hW.alike hK, hD⟩, hS.F ht⟩) hS.2.2 dX3_tell_84
          · refine lv_if_ne (tgt := 66) hx hb dX3_tell_59 (by decide) (fun c_59 => ?_) (fun c_59 => ?_)
            · refine lv_iload_n hx hb dX3_tell_66 rfl (lv_at hl 1 rfl) ?_
              refine lv_iconst (v := 1) hx hb dX3_tell_67 (by decide) ?_
              refine lv_icmp_ne (tgt := 78) hx hb dX3_tell_68 (by decide) (fun c_68 => ?_) (fun c_68 => ?_)
              · refine lv_iconst (v := 2) hx hb dX3_tell_78 (by decide) ?_
                refine lv_iload_n hx hb dX3_tell_79 rfl (lv_at hl 0 rfl) ?_
                refine lv_imul hx hb dX3_tell_80 ?_
                refine lv_bipush (v := 100) hx hb dX3_tell_81 (by decide) ?_
                refine lv_iadd hx hb dX3_tell_83 ?_
                exact J84_1 _ (by (rw [if_neg c_59]; rw [if_neg c_68]) <;> rfl)
              · refine lv_iload_n hx hb dX3_tell_71 rfl (lv_at hl 0 rfl) ?_
                refine lv_bipush (v := 100) hx hb dX3_tell_72 (by decide) ?_
                refine lv_iadd hx hb dX3_tell_74 ?_
                refine lv_goto (tgt := 84) hx hb dX3_tell_75 (by decide) ?_
                exact J84_1 _ (by (rw [if_neg c_59]; rw [if_pos c_68]) <;> rfl)
            · refine lv_iload_n hx hb dX3_tell_62 rfl (lv_at hl 0 rfl) ?_
              refine lv_goto (tgt := 84) hx hb dX3_tell_63 (by decide) ?_
              exact J84_1 _ (by (rw [if_pos c_59]) <;> rfl)
      · refine lv_aload_n hx hb dX3_tell_31 rfl (lv_at hl 1 rfl) ?_
        refine lv_iconst (v := 2) hx hb dX3_tell_32 (by decide) ?_
        refine tw_wv (ws := [((q 0), .inr (3, [.int fa, .int (nI nc), .ref (q 1), .int (nI nt), .ref (q 2), .ref (q 3), .ref (q 4), .ref (q 5), .int ea, .int (nI ra), .int (nI rs), .int (nI rt), .ref (q 6), .ref (q 7), .ref (q 8), .ref (q 9), .ref (q 10), .ref (q 11), .int (nI nr), .ref (q 12), .ref (q 13), .ref (q 14), .ref (q 15), .ref (q 16), .ref (q 17), .int tr])), ((q 2), .inl (cI, 6, .inl kd)), ((q 5), .inl (cI, 6, .inl st))]) (wc := [((q 0), .inr (3, [.int fa, .int (nI nc), .ref (q 1), .int (nI nt), .ref (q 2), .ref (q 3), .ref (q 4), .ref (q 5), .int ea, .int (nI ra), .int (nI rs), .int (nI rt), .ref (q 6), .ref (q 7), .ref (q 8), .ref (q 9), .ref (q 10), .ref (q 11), .int (nI nr), .ref (q 12), .ref (q 13), .ref (q 14), .ref (q 15), .ref (q 16), .ref (q 17), .int tr]))]) (wr := [((q 2), .inl (cI, 6, .inl kd)), ((q 5), .inl (cI, 6, .inl st))]) (w1 := [((q 0), .inr (3, [.int fa, .int (nI nc), .ref (q 1), .int (nI nt), .ref (q 2), .ref (q 3), .ref (q 4), .ref (q 5), .int ea, .int (nI ra), .int (nI rs), .int (nI rt), .ref (q 6), .ref (q 7), .ref (q 8), .ref (q 9), .ref (q 10), .ref (q 11), .int (nI nr), .ref (q 12), .ref (q 13), .ref (q 14), .ref (q 15), .ref (q 16), .ref (q 17), .int (m_X3_traced tr 2)]))]) (ws' := [((q 0), .inr (3, [.int fa, .int (nI nc), .ref (q 1), .int (nI nt), .ref (q 2), .ref (q 3), .ref (q 4), .ref (q 5), .int ea, .int (nI ra), .int (nI rs), .int (nI rt), .ref (q 6), .ref (q 7), .ref (q 8), .ref (q 9), .ref (q 10), .ref (q 11), .int (nI nr), .ref (q 12), .ref (q 13), .ref (q 14), .ref (q 15), .ref (q 16), .ref (q 17), .int (m_X3_traced tr 2)])), ((q 2), .inl (cI, 6, .inl kd)), ((q 5), .inl (cI, 6, .inl st))]) (va_runV (As := [.int 2]) (rest := []) ⟨hx, hb, hml, hown, hts⟩ (c_X3_traced l D cI cS q _ fa nc nt ea ra rs rt nr tr 2) (cwV 1 hts gX3_tell_X3_traced rfl rfl rfl (by decide +kernel) ⟨Nat.le_of_ble_eq_true rfl, Nat.le_of_ble_eq_true rfl⟩) ⟨tw_Wb, va_recv hK hP (ci := 3) (q0 := 0) rfl rfl, tw_Wp (hP.sub (ws' := [((q 0), .inr (3, [.int fa, .int (nI nc), .ref (q 1), .int (nI nt), .ref (q 2), .ref (q 3), .ref (q 4), .ref (q 5), .int ea, .int (nI ra), .int (nI rs), .int (nI rt), .ref (q 6), .ref (q 7), .ref (q 8), .ref (q 9), .ref (q 10), .ref (q 11), .int (nI nr), .ref (q 12), .ref (q 13), .ref (q 14), .ref (q 15), .ref (q 16), .ref (q 17), .int tr]))]) [0] rfl) hK (hD.sub (ws' := [((q 0), .inr (3, [.int fa, .int (nI nc), .ref (q 1), .int (nI nt), .ref (q 2), .ref (q 3), .ref (q 4), .ref (q 5), .int ea, .int (nI ra), .int (nI rs), .int (nI rt), .ref (q 6), .ref (q 7), .ref (q 8), .ref (q 9), .ref (q 10), .ref (q 11), .int (nI nr), .ref (q 12), .ref (q 13), .ref (q 14), .ref (q 15), .ref (q 16), .ref (q 17), .int tr]))]) [0] (by decide) rfl)⟩ rfl rfl hl.1 rfl (lv_room (Nat.le_of_ble_eq_true rfl)) dX3_tell_33 ⟨Nat.zero_le _, Nat.zero_le _⟩) hP hD hS hA [0] [1, 2] [2, 0, 1] rfl rfl (by decide) (by decide) rfl (by decide) (fun H locs hP hD hS => ?_)
        refine lv_aload_n hx hb dX3_tell_36 rfl (lv_at hl 1 rfl) ?_
        refine lv_iconst (v := 1) hx hb dX3_tell_37 (by decide) ?_
        refine tw_wv (ws := [((q 0), .inr (3, [.int fa, .int (nI nc), .ref (q 1), .int (nI nt), .ref (q 2), .ref (q 3), .ref (q 4), .ref (q 5), .int ea, .int (nI ra), .int (nI rs), .int (nI rt), .ref (q 6), .ref (q 7), .ref (q 8), .ref (q 9), .ref (q 10), .ref (q 11), .int (nI nr), .ref (q 12), .ref (q 13), .ref (q 14), .ref (q 15), .ref (q 16), .ref (q 17), .int (m_X3_traced tr 2)])), ((q 2), .inl (cI, 6, .inl kd)), ((q 5), .inl (cI, 6, .inl st))]) (wc := [((q 0), .inr (3, [.int fa, .int (nI nc), .ref (q 1), .int (nI nt), .ref (q 2), .ref (q 3), .ref (q 4), .ref (q 5), .int ea, .int (nI ra), .int (nI rs), .int (nI rt), .ref (q 6), .ref (q 7), .ref (q 8), .ref (q 9), .ref (q 10), .ref (q 11), .int (nI nr), .ref (q 12), .ref (q 13), .ref (q 14), .ref (q 15), .ref (q 16), .ref (q 17), .int (m_X3_traced tr 2)]))]) (wr := [((q 2), .inl (cI, 6, .inl kd)), ((q 5), .inl (cI, 6, .inl st))]) (w1 := [((q 0), .inr (3, [.int fa, .int (nI nc), .ref (q 1), .int (nI nt), .ref (q 2), .ref (q 3), .ref (q 4), .ref (q 5), .int ea, .int (nI ra), .int (nI rs), .int (nI rt), .ref (q 6), .ref (q 7), .ref (q 8), .ref (q 9), .ref (q 10), .ref (q 11), .int (nI nr), .ref (q 12), .ref (q 13), .ref (q 14), .ref (q 15), .ref (q 16), .ref (q 17), .int (m_X3_traced (m_X3_traced tr 2) 1)]))]) (ws' := [((q 0), .inr (3, [.int fa, .int (nI nc), .ref (q 1), .int (nI nt), .ref (q 2), .ref (q 3), .ref (q 4), .ref (q 5), .int ea, .int (nI ra), .int (nI rs), .int (nI rt), .ref (q 6), .ref (q 7), .ref (q 8), .ref (q 9), .ref (q 10), .ref (q 11), .int (nI nr), .ref (q 12), .ref (q 13), .ref (q 14), .ref (q 15), .ref (q 16), .ref (q 17), .int (m_X3_traced (m_X3_traced tr 2) 1)])), ((q 2), .inl (cI, 6, .inl kd)), ((q 5), .inl (cI, 6, .inl st))]) (va_runV (As := [.int 1]) (rest := []) ⟨hx, hb, hml, hown, hts⟩ (c_X3_traced l D cI cS q _ fa nc nt ea ra rs rt nr (m_X3_traced tr 2) 1) (cwV 1 hts gX3_tell_X3_traced rfl rfl rfl (by decide +kernel) ⟨Nat.le_of_ble_eq_true rfl, Nat.le_of_ble_eq_true rfl⟩) ⟨tw_Wb, va_recv hK hP (ci := 3) (q0 := 0) rfl rfl, tw_Wp (hP.sub (ws' := [((q 0), .inr (3, [.int fa, .int (nI nc), .ref (q 1), .int (nI nt), .ref (q 2), .ref (q 3), .ref (q 4), .ref (q 5), .int ea, .int (nI ra), .int (nI rs), .int (nI rt), .ref (q 6), .ref (q 7), .ref (q 8), .ref (q 9), .ref (q 10), .ref (q 11), .int (nI nr), .ref (q 12), .ref (q 13), .ref (q 14), .ref (q 15), .ref (q 16), .ref (q 17), .int (m_X3_traced tr 2)]))]) [0] rfl) hK (hD.sub (ws' := [((q 0), .inr (3, [.int fa, .int (nI nc), .ref (q 1), .int (nI nt), .ref (q 2), .ref (q 3), .ref (q 4), .ref (q 5), .int ea, .int (nI ra), .int (nI rs), .int (nI rt), .ref (q 6), .ref (q 7), .ref (q 8), .ref (q 9), .ref (q 10), .ref (q 11), .int (nI nr), .ref (q 12), .ref (q 13), .ref (q 14), .ref (q 15), .ref (q 16), .ref (q 17), .int (m_X3_traced tr 2)]))]) [0] (by decide) rfl)⟩ rfl rfl hl.1 rfl (lv_room (Nat.le_of_ble_eq_true rfl)) dX3_tell_38 ⟨Nat.zero_le _, Nat.zero_le _⟩) hP hD hS hA [0] [1, 2] [2, 0, 1] rfl rfl (by decide) (by decide) rfl (by decide) (fun H locs hP hD hS => ?_)
        refine lv_iload_n hx hb dX3_tell_41 rfl (lv_at hl 0 rfl) ?_
        refine lv_iconst (v := 2) hx hb dX3_tell_42 (by decide) ?_
        refine lv_icmp_ne (tgt := 51) hx hb dX3_tell_43 (by decide) (fun c_43 => ?_) (fun c_43 => ?_)
        · refine lv_aload_n hx hb dX3_tell_51 rfl (lv_at hl 1 rfl) ?_
          refine va_get (ci := 3) (v := .ref (q 5)) (C := RX3) (T := TX3) (N := 26) hx hb hts hin_X3 hown hK hP 0 rfl rfl 7 (by decide) fl_22 (fun _ h9 => h9) rfl dX3_tell_52 ?_
          refine lv_iload_n hx hb dX3_tell_55 rfl (lv_at hl 2 rfl) ?_
          refine va_iald hx hb hK hP 2 0 rfl rfl (noThing_in hn c_5) dX3_tell_56 ?_
          refine lv_istore_n (lv' := [(3, .int (st v1.toNatClampNeg)), (2, .int (kd v1.toNatClampNeg)), (0, .ref (q 0)), (1, .int v1)]) hx hb dX3_tell_57 rfl hl (by decide) rfl (fun ls hl => ?_)
          refine lv_iload_n hx hb dX3_tell_58 rfl (lv_at hl 1 rfl) ?_
          refine tw_join (fun (y : Int32) => F0 m 84 ls (.int y :: [])) (if (kd v1.toNatClampNeg) = 0 then st v1.toNatClampNeg else (if (kd v1.toNatClampNeg) = 1 then (st v1.toNatClampNeg) + 100 else (2 * (st v1.toNatClampNeg)) + 100)) ?_ (fun J84_2 => ?_)
          · intro y84 hy84
            have hE : (m_X3_tell nt kd st tr v1) = (y84, (m_X3_traced (m_X3_traced tr 2) 1)) := Eq.symm (by (unfold m_X3_tell; rw [if_pos c_5]; rw [if_neg c_19]; rw [if_neg c_28]; rw [if_neg c_43]; (try rw [← hy84])) <;> rfl)
            rw [hE]
            exact W.iret hx hb hr (fun t ht hW => ⟨⟨_, (), rfl, rfl, by rw [ht]; exact hP, va_K.moved hW.alike hK, hD⟩, hS.F ht⟩) hS.2.2 dX3_tell_84
          · refine lv_if_ne (tgt := 66) hx hb dX3_tell_59 (by decide) (fun c_59 => ?_) (fun c_59 => ?_)
            · refine lv_iload_n hx hb dX3_tell_66 rfl (lv_at hl 1 rfl) ?_
              refine lv_iconst (v := 1) hx hb dX3_tell_67 (by decide) ?_
              refine lv_icmp_ne (tgt := 78) hx hb dX3_tell_68 (by decide) (fun c_68 => ?_) (fun c_68 => ?_)
              · refine lv_iconst (v := 2) hx hb dX3_tell_78 (by decide) ?_
                refine lv_iload_n hx hb dX3_tell_79 rfl (lv_at hl 0 rfl) ?_
                refine lv_imul hx hb dX3_tell_80 ?_
                refine lv_bipush (v := 100) hx hb dX3_tell_81 (by decide) ?_
                refine lv_iadd hx hb dX3_tell_83 ?_
                exact J84_2 _ (by (rw [if_neg c_59]; rw [if_neg c_68]) <;> rfl)
              · refine lv_iload_n hx hb dX3_tell_71 rfl (lv_at hl 0 rfl) ?_
                refine lv_bipush (v := 100) hx hb dX3_tell_72 (by decide) ?_
                refine lv_iadd hx hb dX3_tell_74 ?_
                refine lv_goto (tgt := 84) hx hb dX3_tell_75 (by decide) ?_
                exact J84_2 _ (by (rw [if_neg c_59]; rw [if_pos c_68]) <;> rfl)
            · refine lv_iload_n hx hb dX3_tell_62 rfl (lv_at hl 0 rfl) ?_
              refine lv_goto (tgt := 84) hx hb dX3_tell_63 (by decide) ?_
              exact J84_2 _ (by (rw [if_pos c_59]) <;> rfl)
        · refine lv_aload_n hx hb dX3_tell_46 rfl (lv_at hl 1 rfl) ?_
          refine lv_iconst (v := 1) hx hb dX3_tell_47 (by decide) ?_
          refine tw_wv (ws := [((q 0), .inr (3, [.int fa, .int (nI nc), .ref (q 1), .int (nI nt), .ref (q 2), .ref (q 3), .ref (q 4), .ref (q 5), .int ea, .int (nI ra), .int (nI rs), .int (nI rt), .ref (q 6), .ref (q 7), .ref (q 8), .ref (q 9), .ref (q 10), .ref (q 11), .int (nI nr), .ref (q 12), .ref (q 13), .ref (q 14), .ref (q 15), .ref (q 16), .ref (q 17), .int (m_X3_traced (m_X3_traced tr 2) 1)])), ((q 2), .inl (cI, 6, .inl kd)), ((q 5), .inl (cI, 6, .inl st))]) (wc := [((q 0), .inr (3, [.int fa, .int (nI nc), .ref (q 1), .int (nI nt), .ref (q 2), .ref (q 3), .ref (q 4), .ref (q 5), .int ea, .int (nI ra), .int (nI rs), .int (nI rt), .ref (q 6), .ref (q 7), .ref (q 8), .ref (q 9), .ref (q 10), .ref (q 11), .int (nI nr), .ref (q 12), .ref (q 13), .ref (q 14), .ref (q 15), .ref (q 16), .ref (q 17), .int (m_X3_traced (m_X3_traced tr 2) 1)]))]) (wr := [((q 2), .inl (cI, 6, .inl kd)), ((q 5), .inl (cI, 6, .inl st))]) (w1 := [((q 0), .inr (3, [.int fa, .int (nI nc), .ref (q 1), .int (nI nt), .ref (q 2), .ref (q 3), .ref (q 4), .ref (q 5), .int ea, .int (nI ra), .int (nI rs), .int (nI rt), .ref (q 6), .ref (q 7), .ref (q 8), .ref (q 9), .ref (q 10), .ref (q 11), .int (nI nr), .ref (q 12), .ref (q 13), .ref (q 14), .ref (q 15), .ref (q 16), .ref (q 17), .int (m_X3_traced (m_X3_traced (m_X3_traced tr 2) 1) 1)]))]) (ws' := [((q 0), .inr (3, [.int fa, .int (nI nc), .ref (q 1), .int (nI nt), .ref (q 2), .ref (q 3), .ref (q 4), .ref (q 5), .int ea, .int (nI ra), .int (nI rs), .int (nI rt), .ref (q 6), .ref (q 7), .ref (q 8), .ref (q 9), .ref (q 10), .ref (q 11), .int (nI nr), .ref (q 12), .ref (q 13), .ref (q 14), .ref (q 15), .ref (q 16), .ref (q 17), .int (m_X3_traced (m_X3_traced (m_X3_traced tr 2) 1) 1)])), ((q 2), .inl (cI, 6, .inl kd)), ((q 5), .inl (cI, 6, .inl st))]) (va_runV (As := [.int 1]) (rest := []) ⟨hx, hb, hml, hown, hts⟩ (c_X3_traced l D cI cS q _ fa nc nt ea ra rs rt nr (m_X3_traced (m_X3_traced tr 2) 1) 1) (cwV 1 hts gX3_tell_X3_traced rfl rfl rfl (by decide +kernel) ⟨Nat.le_of_ble_eq_true rfl, Nat.le_of_ble_eq_true rfl⟩) ⟨tw_Wb, va_recv hK hP (ci := 3) (q0 := 0) rfl rfl, tw_Wp (hP.sub (ws' := [((q 0), .inr (3, [.int fa, .int (nI nc), .ref (q 1), .int (nI nt), .ref (q 2), .ref (q 3), .ref (q 4), .ref (q 5), .int ea, .int (nI ra), .int (nI rs), .int (nI rt), .ref (q 6), .ref (q 7), .ref (q 8), .ref (q 9), .ref (q 10), .ref (q 11), .int (nI nr), .ref (q 12), .ref (q 13), .ref (q 14), .ref (q 15), .ref (q 16), .ref (q 17), .int (m_X3_traced (m_X3_traced tr 2) 1)]))]) [0] rfl) hK (hD.sub (ws' := [((q 0), .inr (3, [.int fa, .int (nI nc), .ref (q 1), .int (nI nt), .ref (q 2), .ref (q 3), .ref (q 4), .ref (q 5), .int ea, .int (nI ra), .int (nI rs), .int (nI rt), .ref (q 6), .ref (q 7), .ref (q 8), .ref (q 9), .ref (q 10), .ref (q 11), .int (nI nr), .ref (q 12), .ref (q 13), .ref (q 14), .ref (q 15), .ref (q 16), .ref (q 17), .int (m_X3_traced (m_X3_traced tr 2) 1)]))]) [0] (by decide) rfl)⟩ rfl rfl hl.1 rfl (lv_room (Nat.le_of_ble_eq_true rfl)) dX3_tell_48 ⟨Nat.zero_le _, Nat.zero_le _⟩) hP hD hS hA [0] [1, 2] [2, 0, 1] rfl rfl (by decide) (by decide) rfl (by decide) (fun H locs hP hD hS => ?_)
          refine lv_aload_n hx hb dX3_tell_51 rfl (lv_at hl 1 rfl) ?_
          refine va_get (ci := 3) (v := .ref (q 5)) (C := RX3) (T := TX3) (N := 26) hx hb hts hin_X3 hown hK hP 0 rfl rfl 7 (by decide) fl_22 (fun _ h9 => h9) rfl dX3_tell_52 ?_
          refine lv_iload_n hx hb dX3_tell_55 rfl (lv_at hl 2 rfl) ?_
          refine va_iald hx hb hK hP 2 0 rfl rfl (noThing_in hn c_5) dX3_tell_56 ?_
          refine lv_istore_n (lv' := [(3, .int (st v1.toNatClampNeg)), (2, .int (kd v1.toNatClampNeg)), (0, .ref (q 0)), (1, .int v1)]) hx hb dX3_tell_57 rfl hl (by decide) rfl (fun ls hl => ?_)
          refine lv_iload_n hx hb dX3_tell_58 rfl (lv_at hl 1 rfl) ?_
          refine tw_join (fun (y : Int32) => F0 m 84 ls (.int y :: [])) (if (kd v1.toNatClampNeg) = 0 then st v1.toNatClampNeg else (if (kd v1.toNatClampNeg) = 1 then (st v1.toNatClampNeg) + 100 else (2 * (st v1.toNatClampNeg)) + 100)) ?_ (fun J84_3 => ?_)
          · intro y84 hy84
            have hE : (m_X3_tell nt kd st tr v1) = (y84, (m_X3_traced (m_X3_traced (m_X3_traced tr 2) 1) 1)) := Eq.symm (by (unfold m_X3_tell; rw [if_pos c_5]; rw [if_neg c_19]; rw [if_neg c_28]; rw [if_pos c_43]; (try rw [← hy84])) <;> rfl)
            rw [hE]
            exact W.iret hx hb hr (fun t ht hW => ⟨⟨_, (), rfl, rfl, by rw [ht]; exact hP, va_K.moved hW.alike hK, hD⟩, hS.F ht⟩) hS.2.2 dX3_tell_84
          · refine lv_if_ne (tgt := 66) hx hb dX3_tell_59 (by decide) (fun c_59 => ?_) (fun c_59 => ?_)
            · refine lv_iload_n hx hb dX3_tell_66 rfl (lv_at hl 1 rfl) ?_
              refine lv_iconst (v := 1) hx hb dX3_tell_67 (by decide) ?_
              refine lv_icmp_ne (tgt := 78) hx hb dX3_tell_68 (by decide) (fun c_68 => ?_) (fun c_68 => ?_)
              · refine lv_iconst (v := 2) hx hb dX3_tell_78 (by decide) ?_
                refine lv_iload_n hx hb dX3_tell_79 rfl (lv_at hl 0 rfl) ?_
                refine lv_imul hx hb dX3_tell_80 ?_
                refine lv_bipush (v := 100) hx hb dX3_tell_81 (by decide) ?_
                refine lv_iadd hx hb dX3_tell_83 ?_
                exact J84_3 _ (by (rw [if_neg c_59]; rw [if_neg c_68]) <;> rfl)
              · refine lv_iload_n hx hb dX3_tell_71 rfl (lv_at hl 0 rfl) ?_
                refine lv_bipush (v := 100) hx hb dX3_tell_72 (by decide) ?_
                refine lv_iadd hx hb dX3_tell_74 ?_
                refine lv_goto (tgt := 84) hx hb dX3_tell_75 (by decide) ?_
                exact J84_3 _ (by (rw [if_neg c_59]; rw [if_pos c_68]) <;> rfl)
            · refine lv_iload_n hx hb dX3_tell_62 rfl (lv_at hl 0 rfl) ?_
              refine lv_goto (tgt := 84) hx hb dX3_tell_63 (by decide) ?_
              exact J84_3 _ (by (rw [if_pos c_59]) <;> rfl)
    · refine lv_aload_n hx hb dX3_tell_22 rfl (lv_at hl 1 rfl) ?_
      refine lv_iconst (v := 3) hx hb dX3_tell_23 (by decide) ?_
      refine tw_wv (ws := [((q 0), .inr (3, [.int fa, .int (nI nc), .ref (q 1), .int (nI nt), .ref (q 2), .ref (q 3), .ref (q 4), .ref (q 5), .int ea, .int (nI ra), .int (nI rs), .int (nI rt), .ref (q 6), .ref (q 7), .ref (q 8), .ref (q 9), .ref (q 10), .ref (q 11), .int (nI nr), .ref (q 12), .ref (q 13), .ref (q 14), .ref (q 15), .ref (q 16), .ref (q 17), .int tr])), ((q 2), .inl (cI, 6, .inl kd)), ((q 5), .inl (cI, 6, .inl st))]) (wc := [((q 0), .inr (3, [.int fa, .int (nI nc), .ref (q 1), .int (nI nt), .ref (q 2), .ref (q 3), .ref (q 4), .ref (q 5), .int ea, .int (nI ra), .int (nI rs), .int (nI rt), .ref (q 6), .ref (q 7), .ref (q 8), .ref (q 9), .ref (q 10), .ref (q 11), .int (nI nr), .ref (q 12), .ref (q 13), .ref (q 14), .ref (q 15), .ref (q 16), .ref (q 17), .int tr]))]) (wr := [((q 2), .inl (cI, 6, .inl kd)), ((q 5), .inl (cI, 6, .inl st))]) (w1 := [((q 0), .inr (3, [.int fa, .int (nI nc), .ref (q 1), .int (nI nt), .ref (q 2), .ref (q 3), .ref (q 4), .ref (q 5), .int ea, .int (nI ra), .int (nI rs), .int (nI rt), .ref (q 6), .ref (q 7), .ref (q 8), .ref (q 9), .ref (q 10), .ref (q 11), .int (nI nr), .ref (q 12), .ref (q 13), .ref (q 14), .ref (q 15), .ref (q 16), .ref (q 17), .int (m_X3_traced tr 3)]))]) (ws' := [((q 0), .inr (3, [.int fa, .int (nI nc), .ref (q 1), .int (nI nt), .ref (q 2), .ref (q 3), .ref (q 4), .ref (q 5), .int ea, .int (nI ra), .int (nI rs), .int (nI rt), .ref (q 6), .ref (q 7), .ref (q 8), .ref (q 9), .ref (q 10), .ref (q 11), .int (nI nr), .ref (q 12), .ref (q 13), .ref (q 14), .ref (q 15), .ref (q 16), .ref (q 17), .int (m_X3_traced tr 3)])), ((q 2), .inl (cI, 6, .inl kd)), ((q 5), .inl (cI, 6, .inl st))]) (va_runV (As := [.int 3]) (rest := []) ⟨hx, hb, hml, hown, hts⟩ (c_X3_traced l D cI cS q _ fa nc nt ea ra rs rt nr tr 3) (cwV 1 hts gX3_tell_X3_traced rfl rfl rfl (by decide +kernel) ⟨Nat.le_of_ble_eq_true rfl, Nat.le_of_ble_eq_true rfl⟩) ⟨tw_Wb, va_recv hK hP (ci := 3) (q0 := 0) rfl rfl, tw_Wp (hP.sub (ws' := [((q 0), .inr (3, [.int fa, .int (nI nc), .ref (q 1), .int (nI nt), .ref (q 2), .ref (q 3), .ref (q 4), .ref (q 5), .int ea, .int (nI ra), .int (nI rs), .int (nI rt), .ref (q 6), .ref (q 7), .ref (q 8), .ref (q 9), .ref (q 10), .ref (q 11), .int (nI nr), .ref (q 12), .ref (q 13), .ref (q 14), .ref (q 15), .ref (q 16), .ref (q 17), .int tr]))]) [0] rfl) hK (hD.sub (ws' := [((q 0), .inr (3, [.int fa, .int (nI nc), .ref (q 1), .int (nI nt), .ref (q 2), .ref (q 3), .ref (q 4), .ref (q 5), .int ea, .int (nI ra), .int (nI rs), .int (nI rt), .ref (q 6), .ref (q 7), .ref (q 8), .ref (q 9), .ref (q 10), .ref (q 11), .int (nI nr), .ref (q 12), .ref (q 13), .ref (q 14), .ref (q 15), .ref (q 16), .ref (q 17), .int tr]))]) [0] (by decide) rfl)⟩ rfl rfl hl.1 rfl (lv_room (Nat.le_of_ble_eq_true rfl)) dX3_tell_24 ⟨Nat.zero_le _, Nat.zero_le _⟩) hP hD hS hA [0] [1, 2] [2, 0, 1] rfl rfl (by decide) (by decide) rfl (by decide) (fun H locs hP hD hS => ?_)
      refine lv_iload_n hx hb dX3_tell_27 rfl (lv_at hl 0 rfl) ?_
      refine lv_if_le (tgt := 36) hx hb dX3_tell_28 (by decide) (fun c_28 => ?_) (fun c_28 => ?_)
      · refine lv_aload_n hx hb dX3_tell_36 rfl (lv_at hl 1 rfl) ?_
        refine lv_iconst (v := 1) hx hb dX3_tell_37 (by decide) ?_
        refine tw_wv (ws := [((q 0), .inr (3, [.int fa, .int (nI nc), .ref (q 1), .int (nI nt), .ref (q 2), .ref (q 3), .ref (q 4), .ref (q 5), .int ea, .int (nI ra), .int (nI rs), .int (nI rt), .ref (q 6), .ref (q 7), .ref (q 8), .ref (q 9), .ref (q 10), .ref (q 11), .int (nI nr), .ref (q 12), .ref (q 13), .ref (q 14), .ref (q 15), .ref (q 16), .ref (q 17), .int (m_X3_traced tr 3)])), ((q 2), .inl (cI, 6, .inl kd)), ((q 5), .inl (cI, 6, .inl st))]) (wc := [((q 0), .inr (3, [.int fa, .int (nI nc), .ref (q 1), .int (nI nt), .ref (q 2), .ref (q 3), .ref (q 4), .ref (q 5), .int ea, .int (nI ra), .int (nI rs), .int (nI rt), .ref (q 6), .ref (q 7), .ref (q 8), .ref (q 9), .ref (q 10), .ref (q 11), .int (nI nr), .ref (q 12), .ref (q 13), .ref (q 14), .ref (q 15), .ref (q 16), .ref (q 17), .int (m_X3_traced tr 3)]))]) (wr := [((q 2), .inl (cI, 6, .inl kd)), ((q 5), .inl (cI, 6, .inl st))]) (w1 := [((q 0), .inr (3, [.int fa, .int (nI nc), .ref (q 1), .int (nI nt), .ref (q 2), .ref (q 3), .ref (q 4), .ref (q 5), .int ea, .int (nI ra), .int (nI rs), .int (nI rt), .ref (q 6), .ref (q 7), .ref (q 8), .ref (q 9), .ref (q 10), .ref (q 11), .int (nI nr), .ref (q 12), .ref (q 13), .ref (q 14), .ref (q 15), .ref (q 16), .ref (q 17), .int (m_X3_traced (m_X3_traced tr 3) 1)]))]) (ws' := [((q 0), .inr (3, [.int fa, .int (nI nc), .ref (q 1), .int (nI nt), .ref (q 2), .ref (q 3), .ref (q 4), .ref (q 5), .int ea, .int (nI ra), .int (nI rs), .int (nI rt), .ref (q 6), .ref (q 7), .ref (q 8), .ref (q 9), .ref (q 10), .ref (q 11), .int (nI nr), .ref (q 12), .ref (q 13), .ref (q 14), .ref (q 15), .ref (q 16), .ref (q 17), .int (m_X3_traced (m_X3_traced tr 3) 1)])), ((q 2), .inl (cI, 6, .inl kd)), ((q 5), .inl (cI, 6, .inl st))]) (va_runV (As := [.int 1]) (rest := []) ⟨hx, hb, hml, hown, hts⟩ (c_X3_traced l D cI cS q _ fa nc nt ea ra rs rt nr (m_X3_traced tr 3) 1) (cwV 1 hts gX3_tell_X3_traced rfl rfl rfl (by decide +kernel) ⟨Nat.le_of_ble_eq_true rfl, Nat.le_of_ble_eq_true rfl⟩) ⟨tw_Wb, va_recv hK hP (ci := 3) (q0 := 0) rfl rfl, tw_Wp (hP.sub (ws' := [((q 0), .inr (3, [.int fa, .int (nI nc), .ref (q 1), .int (nI nt), .ref (q 2), .ref (q 3), .ref (q 4), .ref (q 5), .int ea, .int (nI ra), .int (nI rs), .int (nI rt), .ref (q 6), .ref (q 7), .ref (q 8), .ref (q 9), .ref (q 10), .ref (q 11), .int (nI nr), .ref (q 12), .ref (q 13), .ref (q 14), .ref (q 15), .ref (q 16), .ref (q 17), .int (m_X3_traced tr 3)]))]) [0] rfl) hK (hD.sub (ws' := [((q 0), .inr (3, [.int fa, .int (nI nc), .ref (q 1), .int (nI nt), .ref (q 2), .ref (q 3), .ref (q 4), .ref (q 5), .int ea, .int (nI ra), .int (nI rs), .int (nI rt), .ref (q 6), .ref (q 7), .ref (q 8), .ref (q 9), .ref (q 10), .ref (q 11), .int (nI nr), .ref (q 12), .ref (q 13), .ref (q 14), .ref (q 15), .ref (q 16), .ref (q 17), .int (m_X3_traced tr 3)]))]) [0] (by decide) rfl)⟩ rfl rfl hl.1 rfl (lv_room (Nat.le_of_ble_eq_true rfl)) dX3_tell_38 ⟨Nat.zero_le _, Nat.zero_le _⟩) hP hD hS hA [0] [1, 2] [2, 0, 1] rfl rfl (by decide) (by decide) rfl (by decide) (fun H locs hP hD hS => ?_)
        refine lv_iload_n hx hb dX3_tell_41 rfl (lv_at hl 0 rfl) ?_
        refine lv_iconst (v := 2) hx hb dX3_tell_42 (by decide) ?_
        refine lv_icmp_ne (tgt := 51) hx hb dX3_tell_43 (by decide) (fun c_43 => ?_) (fun c_43 => ?_)
        · refine lv_aload_n hx hb dX3_tell_51 rfl (lv_at hl 1 rfl) ?_
          refine va_get (ci := 3) (v := .ref (q 5)) (C := RX3) (T := TX3) (N := 26) hx hb hts hin_X3 hown hK hP 0 rfl rfl 7 (by decide) fl_22 (fun _ h9 => h9) rfl dX3_tell_52 ?_
          refine lv_iload_n hx hb dX3_tell_55 rfl (lv_at hl 2 rfl) ?_
          refine va_iald hx hb hK hP 2 0 rfl rfl (noThing_in hn c_5) dX3_tell_56 ?_
          refine lv_istore_n (lv' := [(3, .int (st v1.toNatClampNeg)), (2, .int (kd v1.toNatClampNeg)), (0, .ref (q 0)), (1, .int v1)]) hx hb dX3_tell_57 rfl hl (by decide) rfl (fun ls hl => ?_)
          refine lv_iload_n hx hb dX3_tell_58 rfl (lv_at hl 1 rfl) ?_
          refine tw_join (fun (y : Int32) => F0 m 84 ls (.int y :: [])) (if (kd v1.toNatClampNeg) = 0 then st v1.toNatClampNeg else (if (kd v1.toNatClampNeg) = 1 then (st v1.toNatClampNeg) + 100 else (2 * (st v1.toNatClampNeg)) + 100)) ?_ (fun J84_4 => ?_)
          · intro y84 hy84
            have hE : (m_X3_tell nt kd st tr v1) = (y84, (m_X3_traced (m_X3_traced tr 3) 1)) := Eq.symm (by (unfold m_X3_tell; rw [if_pos c_5]; rw [if_pos c_19]; rw [if_pos c_28]; rw [if_neg c_43]; (try rw [← hy84])) <;> rfl)
            rw [hE]
            exact W.iret hx hb hr (fun t ht hW => ⟨⟨_, (), rfl, rfl, by rw [ht]; exact hP, va_K.moved hW.alike hK, hD⟩, hS.F ht⟩) hS.2.2 dX3_tell_84
          · refine lv_if_ne (tgt := 66) hx hb dX3_tell_59 (by decide) (fun c_59 => ?_) (fun c_59 => ?_)
            · refine lv_iload_n hx hb dX3_tell_66 rfl (lv_at hl 1 rfl) ?_
              refine lv_iconst (v := 1) hx hb dX3_tell_67 (by decide) ?_
              refine lv_icmp_ne (tgt := 78) hx hb dX3_tell_68 (by decide) (fun c_68 => ?_) (fun c_68 => ?_)
              · refine lv_iconst (v := 2) hx hb dX3_tell_78 (by decide) ?_
                refine lv_iload_n hx hb dX3_tell_79 rfl (lv_at hl 0 rfl) ?_
                refine lv_imul hx hb dX3_tell_80 ?_
                refine lv_bipush (v := 100) hx hb dX3_tell_81 (by decide) ?_
                refine lv_iadd hx hb dX3_tell_83 ?_
                exact J84_4 _ (by (rw [if_neg c_59]; rw [if_neg c_68]) <;> rfl)
              · refine lv_iload_n hx hb dX3_tell_71 rfl (lv_at hl 0 rfl) ?_
                refine lv_bipush (v := 100) hx hb dX3_tell_72 (by decide) ?_
                refine lv_iadd hx hb dX3_tell_74 ?_
                refine lv_goto (tgt := 84) hx hb dX3_tell_75 (by decide) ?_
                exact J84_4 _ (by (rw [if_neg c_59]; rw [if_pos c_68]) <;> rfl)
            · refine lv_iload_n hx hb dX3_tell_62 rfl (lv_at hl 0 rfl) ?_
              refine lv_goto (tgt := 84) hx hb dX3_tell_63 (by decide) ?_
              exact J84_4 _ (by (rw [if_pos c_59]) <;> rfl)
        · refine lv_aload_n hx hb dX3_tell_46 rfl (lv_at hl 1 rfl) ?_
          refine lv_iconst (v := 1) hx hb dX3_tell_47 (by decide) ?_
          refine tw_wv (ws := [((q 0), .inr (3, [.int fa, .int (nI nc), .ref (q 1), .int (nI nt), .ref (q 2), .ref (q 3), .ref (q 4), .ref (q 5), .int ea, .int (nI ra), .int (nI rs), .int (nI rt), .ref (q 6), .ref (q 7), .ref (q 8), .ref (q 9), .ref (q 10), .ref (q 11), .int (nI nr), .ref (q 12), .ref (q 13), .ref (q 14), .ref (q 15), .ref (q 16), .ref (q 17), .int (m_X3_traced (m_X3_traced tr 3) 1)])), ((q 2), .inl (cI, 6, .inl kd)), ((q 5), .inl (cI, 6, .inl st))]) (wc := [((q 0), .inr (3, [.int fa, .int (nI nc), .ref (q 1), .int (nI nt), .ref (q 2), .ref (q 3), .ref (q 4), .ref (q 5), .int ea, .int (nI ra), .int (nI rs), .int (nI rt), .ref (q 6), .ref (q 7), .ref (q 8), .ref (q 9), .ref (q 10), .ref (q 11), .int (nI nr), .ref (q 12), .ref (q 13), .ref (q 14), .ref (q 15), .ref (q 16), .ref (q 17), .int (m_X3_traced (m_X3_traced tr 3) 1)]))]) (wr := [((q 2), .inl (cI, 6, .inl kd)), ((q 5), .inl (cI, 6, .inl st))]) (w1 := [((q 0), .inr (3, [.int fa, .int (nI nc), .ref (q 1), .int (nI nt), .ref (q 2), .ref (q 3), .ref (q 4), .ref (q 5), .int ea, .int (nI ra), .int (nI rs), .int (nI rt), .ref (q 6), .ref (q 7), .ref (q 8), .ref (q 9), .ref (q 10), .ref (q 11), .int (nI nr), .ref (q 12), .ref (q 13), .ref (q 14), .ref (q 15), .ref (q 16), .ref (q 17), .int (m_X3_traced (m_X3_traced (m_X3_traced tr 3) 1) 1)]))]) (ws' := [((q 0), .inr (3, [.int fa, .int (nI nc), .ref (q 1), .int (nI nt), .ref (q 2), .ref (q 3), .ref (q 4), .ref (q 5), .int ea, .int (nI ra), .int (nI rs), .int (nI rt), .ref (q 6), .ref (q 7), .ref (q 8), .ref (q 9), .ref (q 10), .ref (q 11), .int (nI nr), .ref (q 12), .ref (q 13), .ref (q 14), .ref (q 15), .ref (q 16), .ref (q 17), .int (m_X3_traced (m_X3_traced (m_X3_traced tr 3) 1) 1)])), ((q 2), .inl (cI, 6, .inl kd)), ((q 5), .inl (cI, 6, .inl st))]) (va_runV (As := [.int 1]) (rest := []) ⟨hx, hb, hml, hown, hts⟩ (c_X3_traced l D cI cS q _ fa nc nt ea ra rs rt nr (m_X3_traced (m_X3_traced tr 3) 1) 1) (cwV 1 hts gX3_tell_X3_traced rfl rfl rfl (by decide +kernel) ⟨Nat.le_of_ble_eq_true rfl, Nat.le_of_ble_eq_true rfl⟩) ⟨tw_Wb, va_recv hK hP (ci := 3) (q0 := 0) rfl rfl, tw_Wp (hP.sub (ws' := [((q 0), .inr (3, [.int fa, .int (nI nc), .ref (q 1), .int (nI nt), .ref (q 2), .ref (q 3), .ref (q 4), .ref (q 5), .int ea, .int (nI ra), .int (nI rs), .int (nI rt), .ref (q 6), .ref (q 7), .ref (q 8), .ref (q 9), .ref (q 10), .ref (q 11), .int (nI nr), .ref (q 12), .ref (q 13), .ref (q 14), .ref (q 15), .ref (q 16), .ref (q 17), .int (m_X3_traced (m_X3_traced tr 3) 1)]))]) [0] rfl) hK (hD.sub (ws' := [((q 0), .inr (3, [.int fa, .int (nI nc), .ref (q 1), .int (nI nt), .ref (q 2), .ref (q 3), .ref (q 4), .ref (q 5), .int ea, .int (nI ra), .int (nI rs), .int (nI rt), .ref (q 6), .ref (q 7), .ref (q 8), .ref (q 9), .ref (q 10), .ref (q 11), .int (nI nr), .ref (q 12), .ref (q 13), .ref (q 14), .ref (q 15), .ref (q 16), .ref (q 17), .int (m_X3_traced (m_X3_traced tr 3) 1)]))]) [0] (by decide) rfl)⟩ rfl rfl hl.1 rfl (lv_room (Nat.le_of_ble_eq_true rfl)) dX3_tell_48 ⟨Nat.zero_le _, Nat.zero_le _⟩) hP hD hS hA [0] [1, 2] [2, 0, 1] rfl rfl (by decide) (by decide) rfl (by decide) (fun H locs hP hD hS => ?_)
          refine lv_aload_n hx hb dX3_tell_51 rfl (lv_at hl 1 rfl) ?_
          refine va_get (ci := 3) (v := .ref (q 5)) (C := RX3) (T := TX3) (N := 26) hx hb hts hin_X3 hown hK hP 0 rfl rfl 7 (by decide) fl_22 (fun _ h9 => h9) rfl dX3_tell_52 ?_
          refine lv_iload_n hx hb dX3_tell_55 rfl (lv_at hl 2 rfl) ?_
          refine va_iald hx hb hK hP 2 0 rfl rfl (noThing_in hn c_5) dX3_tell_56 ?_
          refine lv_istore_n (lv' := [(3, .int (st v1.toNatClampNeg)), (2, .int (kd v1.toNatClampNeg)), (0, .ref (q 0)), (1, .int v1)]) hx hb dX3_tell_57 rfl hl (by decide) rfl (fun ls hl => ?_)
          refine lv_iload_n hx hb dX3_tell_58 rfl (lv_at hl 1 rfl) ?_
          refine tw_join (fun (y : Int32) => F0 m 84 ls (.int y :: [])) (if (kd v1.toNatClampNeg) = 0 then st v1.toNatClampNeg else (if (kd v1.toNatClampNeg) = 1 then (st v1.toNatClampNeg) + 100 else (2 * (st v1.toNatClampNeg)) + 100)) ?_ (fun J84_5 => ?_)
          · intro y84 hy84
            have hE : (m_X3_tell nt kd st tr v1) = (y84, (m_X3_traced (m_X3_traced (m_X3_traced tr 3) 1) 1)) := Eq.symm (by (unfold m_X3_tell; rw [if_pos c_5]; rw [if_pos c_19]; rw [if_pos c_28]; rw [if_pos c_43]; (try rw [← hy84])) <;> rfl)
            rw [hE]
            exact W.iret hx hb hr (fun t ht hW => ⟨⟨_, (), rfl, rfl, by rw [ht]; exact hP, va_K.moved hW.alike hK, hD⟩, hS.F ht⟩) hS.2.2 dX3_tell_84
          · refine lv_if_ne (tgt := 66) hx hb dX3_tell_59 (by decide) (fun c_59 => ?_) (fun c_59 => ?_)
            · refine lv_iload_n hx hb dX3_tell_66 rfl (lv_at hl 1 rfl) ?_
              refine lv_iconst (v := 1) hx hb dX3_tell_67 (by decide) ?_
              refine lv_icmp_ne (tgt := 78) hx hb dX3_tell_68 (by decide) (fun c_68 => ?_) (fun c_68 => ?_)
              · refine lv_iconst (v := 2) hx hb dX3_tell_78 (by decide) ?_
                refine lv_iload_n hx hb dX3_tell_79 rfl (lv_at hl 0 rfl) ?_
                refine lv_imul hx hb dX3_tell_80 ?_
                refine lv_bipush (v := 100) hx hb dX3_tell_81 (by decide) ?_
                refine lv_iadd hx hb dX3_tell_83 ?_
                exact J84_5 _ (by (rw [if_neg c_59]; rw [if_neg c_68]) <;> rfl)
              · refine lv_iload_n hx hb dX3_tell_71 rfl (lv_at hl 0 rfl) ?_
                refine lv_bipush (v := 100) hx hb dX3_tell_72 (by decide) ?_
                refine lv_iadd hx hb dX3_tell_74 ?_
                refine lv_goto (tgt := 84) hx hb dX3_tell_75 (by decide) ?_
                exact J84_5 _ (by (rw [if_neg c_59]; rw [if_pos c_68]) <;> rfl)
            · refine lv_iload_n hx hb dX3_tell_62 rfl (lv_at hl 0 rfl) ?_
              refine lv_goto (tgt := 84) hx hb dX3_tell_63 (by decide) ?_
              exact J84_5 _ (by (rw [if_pos c_59]) <;> rfl)
      · refine lv_aload_n hx hb dX3_tell_31 rfl (lv_at hl 1 rfl) ?_
        refine lv_iconst (v := 2) hx hb dX3_tell_32 (by decide) ?_
        refine tw_wv (ws := [((q 0), .inr (3, [.int fa, .int (nI nc), .ref (q 1), .int (nI nt), .ref (q 2), .ref (q 3), .ref (q 4), .ref (q 5), .int ea, .int (nI ra), .int (nI rs), .int (nI rt), .ref (q 6), .ref (q 7), .ref (q 8), .ref (q 9), .ref (q 10), .ref (q 11), .int (nI nr), .ref (q 12), .ref (q 13), .ref (q 14), .ref (q 15), .ref (q 16), .ref (q 17), .int (m_X3_traced tr 3)])), ((q 2), .inl (cI, 6, .inl kd)), ((q 5), .inl (cI, 6, .inl st))]) (wc := [((q 0), .inr (3, [.int fa, .int (nI nc), .ref (q 1), .int (nI nt), .ref (q 2), .ref (q 3), .ref (q 4), .ref (q 5), .int ea, .int (nI ra), .int (nI rs), .int (nI rt), .ref (q 6), .ref (q 7), .ref (q 8), .ref (q 9), .ref (q 10), .ref (q 11), .int (nI nr), .ref (q 12), .ref (q 13), .ref (q 14), .ref (q 15), .ref (q 16), .ref (q 17), .int (m_X3_traced tr 3)]))]) (wr := [((q 2), .inl (cI, 6, .inl kd)), ((q 5), .inl (cI, 6, .inl st))]) (w1 := [((q 0), .inr (3, [.int fa, .int (nI nc), .ref (q 1), .int (nI nt), .ref (q 2), .ref (q 3), .ref (q 4), .ref (q 5), .int ea, .int (nI ra), .int (nI rs), .int (nI rt), .ref (q 6), .ref (q 7), .ref (q 8), .ref (q 9), .ref (q 10), .ref (q 11), .int (nI nr), .ref (q 12), .ref (q 13), .ref (q 14), .ref (q 15), .ref (q 16), .ref (q 17), .int (m_X3_traced (m_X3_traced tr 3) 2)]))]) (ws' := [((q 0), .inr (3, [.int fa, .int (nI nc), .ref (q 1), .int (nI nt), .ref (q 2), .ref (q 3), .ref (q 4), .ref (q 5), .int ea, .int (nI ra), .int (nI rs), .int (nI rt), .ref (q 6), .ref (q 7), .ref (q 8), .ref (q 9), .ref (q 10), .ref (q 11), .int (nI nr), .ref (q 12), .ref (q 13), .ref (q 14), .ref (q 15), .ref (q 16), .ref (q 17), .int (m_X3_traced (m_X3_traced tr 3) 2)])), ((q 2), .inl (cI, 6, .inl kd)), ((q 5), .inl (cI, 6, .inl st))]) (va_runV (As := [.int 2]) (rest := []) ⟨hx, hb, hml, hown, hts⟩ (c_X3_traced l D cI cS q _ fa nc nt ea ra rs rt nr (m_X3_traced tr 3) 2) (cwV 1 hts gX3_tell_X3_traced rfl rfl rfl (by decide +kernel) ⟨Nat.le_of_ble_eq_true rfl, Nat.le_of_ble_eq_true rfl⟩) ⟨tw_Wb, va_recv hK hP (ci := 3) (q0 := 0) rfl rfl, tw_Wp (hP.sub (ws' := [((q 0), .inr (3, [.int fa, .int (nI nc), .ref (q 1), .int (nI nt), .ref (q 2), .ref (q 3), .ref (q 4), .ref (q 5), .int ea, .int (nI ra), .int (nI rs), .int (nI rt), .ref (q 6), .ref (q 7), .ref (q 8), .ref (q 9), .ref (q 10), .ref (q 11), .int (nI nr), .ref (q 12), .ref (q 13), .ref (q 14), .ref (q 15), .ref (q 16), .ref (q 17), .int (m_X3_traced tr 3)]))]) [0] rfl) hK (hD.sub (ws' := [((q 0), .inr (3, [.int fa, .int (nI nc), .ref (q 1), .int (nI nt), .ref (q 2), .ref (q 3), .ref (q 4), .ref (q 5), .int ea, .int (nI ra), .int (nI rs), .int (nI rt), .ref (q 6), .ref (q 7), .ref (q 8), .ref (q 9), .ref (q 10), .ref (q 11), .int (nI nr), .ref (q 12), .ref (q 13), .ref (q 14), .ref (q 15), .ref (q 16), .ref (q 17), .int (m_X3_traced tr 3)]))]) [0] (by decide) rfl)⟩ rfl rfl hl.1 rfl (lv_room (Nat.le_of_ble_eq_true rfl)) dX3_tell_33 ⟨Nat.zero_le _, Nat.zero_le _⟩) hP hD hS hA [0] [1, 2] [2, 0, 1] rfl rfl (by decide) (by decide) rfl (by decide) (fun H locs hP hD hS => ?_)
        refine lv_aload_n hx hb dX3_tell_36 rfl (lv_at hl 1 rfl) ?_
        refine lv_iconst (v := 1) hx hb dX3_tell_37 (by decide) ?_
        refine tw_wv (ws := [((q 0), .inr (3, [.int fa, .int (nI nc), .ref (q 1), .int (nI nt), .ref (q 2), .ref (q 3), .ref (q 4), .ref (q 5), .int ea, .int (nI ra), .int (nI rs), .int (nI rt), .ref (q 6), .ref (q 7), .ref (q 8), .ref (q 9), .ref (q 10), .ref (q 11), .int (nI nr), .ref (q 12), .ref (q 13), .ref (q 14), .ref (q 15), .ref (q 16), .ref (q 17), .int (m_X3_traced (m_X3_traced tr 3) 2)])), ((q 2), .inl (cI, 6, .inl kd)), ((q 5), .inl (cI, 6, .inl st))]) (wc := [((q 0), .inr (3, [.int fa, .int (nI nc), .ref (q 1), .int (nI nt), .ref (q 2), .ref (q 3), .ref (q 4), .ref (q 5), .int ea, .int (nI ra), .int (nI rs), .int (nI rt), .ref (q 6), .ref (q 7), .ref (q 8), .ref (q 9), .ref (q 10), .ref (q 11), .int (nI nr), .ref (q 12), .ref (q 13), .ref (q 14), .ref (q 15), .ref (q 16), .ref (q 17), .int (m_X3_traced (m_X3_traced tr 3) 2)]))]) (wr := [((q 2), .inl (cI, 6, .inl kd)), ((q 5), .inl (cI, 6, .inl st))]) (w1 := [((q 0), .inr (3, [.int fa, .int (nI nc), .ref (q 1), .int (nI nt), .ref (q 2), .ref (q 3), .ref (q 4), .ref (q 5), .int ea, .int (nI ra), .int (nI rs), .int (nI rt), .ref (q 6), .ref (q 7), .ref (q 8), .ref (q 9), .ref (q 10), .ref (q 11), .int (nI nr), .ref (q 12), .ref (q 13), .ref (q 14), .ref (q 15), .ref (q 16), .ref (q 17), .int (m_X3_traced (m_X3_traced (m_X3_traced tr 3) 2) 1)]))]) (ws' := [((q 0), .inr (3, [.int fa, .int (nI nc), .ref (q 1), .int (nI nt), .ref (q 2), .ref (q 3), .ref (q 4), .ref (q 5), .int ea, .int (nI ra), .int (nI rs), .int (nI rt), .ref (q 6), .ref (q 7), .ref (q 8), .ref (q 9), .ref (q 10), .ref (q 11), .int (nI nr), .ref (q 12), .ref (q 13), .ref (q 14), .ref (q 15), .ref (q 16), .ref (q 17), .int (m_X3_traced (m_X3_traced (m_X3_traced tr 3) 2) 1)])), ((q 2), .inl (cI, 6, .inl kd)), ((q 5), .inl (cI, 6, .inl st))]) (va_runV (As := [.int 1]) (rest := []) ⟨hx, hb, hml, hown, hts⟩ (c_X3_traced l D cI cS q _ fa nc nt ea ra rs rt nr (m_X3_traced (m_X3_traced tr 3) 2) 1) (cwV 1 hts gX3_tell_X3_traced rfl rfl rfl (by decide +kernel) ⟨Nat.le_of_ble_eq_true rfl, Nat.le_of_ble_eq_true rfl⟩) ⟨tw_Wb, va_recv hK hP (ci := 3) (q0 := 0) rfl rfl, tw_Wp (hP.sub (ws' := [((q 0), .inr (3, [.int fa, .int (nI nc), .ref (q 1), .int (nI nt), .ref (q 2), .ref (q 3), .ref (q 4), .ref (q 5), .int ea, .int (nI ra), .int (nI rs), .int (nI rt), .ref (q 6), .ref (q 7), .ref (q 8), .ref (q 9), .ref (q 10), .ref (q 11), .int (nI nr), .ref (q 12), .ref (q 13), .ref (q 14), .ref (q 15), .ref (q 16), .ref (q 17), .int (m_X3_traced (m_X3_traced tr 3) 2)]))]) [0] rfl) hK (hD.sub (ws' := [((q 0), .inr (3, [.int fa, .int (nI nc), .ref (q 1), .int (nI nt), .ref (q 2), .ref (q 3), .ref (q 4), .ref (q 5), .int ea, .int (nI ra), .int (nI rs), .int (nI rt), .ref (q 6), .ref (q 7), .ref (q 8), .ref (q 9), .ref (q 10), .ref (q 11), .int (nI nr), .ref (q 12), .ref (q 13), .ref (q 14), .ref (q 15), .ref (q 16), .ref (q 17), .int (m_X3_traced (m_X3_traced tr 3) 2)]))]) [0] (by decide) rfl)⟩ rfl rfl hl.1 rfl (lv_room (Nat.le_of_ble_eq_true rfl)) dX3_tell_38 ⟨Nat.zero_le _, Nat.zero_le _⟩) hP hD hS hA [0] [1, 2] [2, 0, 1] rfl rfl (by decide) (by decide) rfl (by decide) (fun H locs hP hD hS => ?_)
        refine lv_iload_n hx hb dX3_tell_41 rfl (lv_at hl 0 rfl) ?_
        refine lv_iconst (v := 2) hx hb dX3_tell_42 (by decide) ?_
        refine lv_icmp_ne (tgt := 51) hx hb dX3_tell_43 (by decide) (fun c_43 => ?_) (fun c_43 => ?_)
        · refine lv_aload_n hx hb dX3_tell_51 rfl (lv_at hl 1 rfl) ?_
          refine va_get (ci := 3) (v := .ref (q 5)) (C := RX3) (T := TX3) (N := 26) hx hb hts hin_X3 hown hK hP 0 rfl rfl 7 (by decide) fl_22 (fun _ h9 => h9) rfl dX3_tell_52 ?_
          refine lv_iload_n hx hb dX3_tell_55 rfl (lv_at hl 2 rfl) ?_
          refine va_iald hx hb hK hP 2 0 rfl rfl (noThing_in hn c_5) dX3_tell_56 ?_
          refine lv_istore_n (lv' := [(3, .int (st v1.toNatClampNeg)), (2, .int (kd v1.toNatClampNeg)), (0, .ref (q 0)), (1, .int v1)]) hx hb dX3_tell_57 rfl hl (by decide) rfl (fun ls hl => ?_)
          refine lv_iload_n hx hb dX3_tell_58 rfl (lv_at hl 1 rfl) ?_
          refine tw_join (fun (y : Int32) => F0 m 84 ls (.int y :: [])) (if (kd v1.toNatClampNeg) = 0 then st v1.toNatClampNeg else (if (kd v1.toNatClampNeg) = 1 then (st v1.toNatClampNeg) + 100 else (2 * (st v1.toNatClampNeg)) + 100)) ?_ (fun J84_6 => ?_)
          · intro y84 hy84
            have hE : (m_X3_tell nt kd st tr v1) = (y84, (m_X3_traced (m_X3_traced (m_X3_traced tr 3) 2) 1)) := Eq.symm (by (unfold m_X3_tell; rw [if_pos c_5]; rw [if_pos c_19]; rw [if_neg c_28]; rw [if_neg c_43]; (try rw [← hy84])) <;> rfl)
            rw [hE]
            exact W.iret hx hb hr (fun t ht hW => ⟨⟨_, (), rfl, rfl, by rw [ht]; exact hP, va_K.moved hW.alike hK, hD⟩, hS.F ht⟩) hS.2.2 dX3_tell_84
          · refine lv_if_ne (tgt := 66) hx hb dX3_tell_59 (by decide) (fun c_59 => ?_) (fun c_59 => ?_)
            · refine lv_iload_n hx hb dX3_tell_66 rfl (lv_at hl 1 rfl) ?_
              refine lv_iconst (v := 1) hx hb dX3_tell_67 (by decide) ?_
              refine lv_icmp_ne (tgt := 78) hx hb dX3_tell_68 (by decide) (fun c_68 => ?_) (fun c_68 => ?_)
              · refine lv_iconst (v := 2) hx hb dX3_tell_78 (by decide) ?_
                refine lv_iload_n hx hb dX3_tell_79 rfl (lv_at hl 0 rfl) ?_
                refine lv_imul hx hb dX3_tell_80 ?_
                refine lv_bipush (v := 100) hx hb dX3_tell_81 (by decide) ?_
                refine lv_iadd hx hb dX3_tell_83 ?_
                exact J84_6 _ (by (rw [if_neg c_59]; rw [if_neg c_68]) <;> rfl)
              · refine lv_iload_n hx hb dX3_tell_71 rfl (lv_at hl 0 rfl) ?_
                refine lv_bipush (v := 100) hx hb dX3_tell_72 (by decide) ?_
                refine lv_iadd hx hb dX3_tell_74 ?_
                refine lv_goto (tgt := 84) hx hb dX3_tell_75 (by decide) ?_
                exact J84_6 _ (by (rw [if_neg c_59]; rw [if_pos c_68]) <;> rfl)
            · refine lv_iload_n hx hb dX3_tell_62 rfl (lv_at hl 0 rfl) ?_
              refine lv_goto (tgt := 84) hx hb dX3_tell_63 (by decide) ?_
              exact J84_6 _ (by (rw [if_pos c_59]) <;> rfl)
        · refine lv_aload_n hx hb dX3_tell_46 rfl (lv_at hl 1 rfl) ?_
          refine lv_iconst (v := 1) hx hb dX3_tell_47 (by decide) ?_
          refine tw_wv (ws := [((q 0), .inr (3, [.int fa, .int (nI nc), .ref (q 1), .int (nI nt), .ref (q 2), .ref (q 3), .ref (q 4), .ref (q 5), .int ea, .int (nI ra), .int (nI rs), .int (nI rt), .ref (q 6), .ref (q 7), .ref (q 8), .ref (q 9), .ref (q 10), .ref (q 11), .int (nI nr), .ref (q 12), .ref (q 13), .ref (q 14), .ref (q 15), .ref (q 16), .ref (q 17), .int (m_X3_traced (m_X3_traced (m_X3_traced tr 3) 2) 1)])), ((q 2), .inl (cI, 6, .inl kd)), ((q 5), .inl (cI, 6, .inl st))]) (wc := [((q 0), .inr (3, [.int fa, .int (nI nc), .ref (q 1), .int (nI nt), .ref (q 2), .ref (q 3), .ref (q 4), .ref (q 5), .int ea, .int (nI ra), .int (nI rs), .int (nI rt), .ref (q 6), .ref (q 7), .ref (q 8), .ref (q 9), .ref (q 10), .ref (q 11), .int (nI nr), .ref (q 12), .ref (q 13), .ref (q 14), .ref (q 15), .ref (q 16), .ref (q 17), .int (m_X3_traced (m_X3_traced (m_X3_traced tr 3) 2) 1)]))]) (wr := [((q 2), .inl (cI, 6, .inl kd)), ((q 5), .inl (cI, 6, .inl st))]) (w1 := [((q 0), .inr (3, [.int fa, .int (nI nc), .ref (q 1), .int (nI nt), .ref (q 2), .ref (q 3), .ref (q 4), .ref (q 5), .int ea, .int (nI ra), .int (nI rs), .int (nI rt), .ref (q 6), .ref (q 7), .ref (q 8), .ref (q 9), .ref (q 10), .ref (q 11), .int (nI nr), .ref (q 12), .ref (q 13), .ref (q 14), .ref (q 15), .ref (q 16), .ref (q 17), .int (m_X3_traced (m_X3_traced (m_X3_traced (m_X3_traced tr 3) 2) 1) 1)]))]) (ws' := [((q 0), .inr (3, [.int fa, .int (nI nc), .ref (q 1), .int (nI nt), .ref (q 2), .ref (q 3), .ref (q 4), .ref (q 5), .int ea, .int (nI ra), .int (nI rs), .int (nI rt), .ref (q 6), .ref (q 7), .ref (q 8), .ref (q 9), .ref (q 10), .ref (q 11), .int (nI nr), .ref (q 12), .ref (q 13), .ref (q 14), .ref (q 15), .ref (q 16), .ref (q 17), .int (m_X3_traced (m_X3_traced (m_X3_traced (m_X3_traced tr 3) 2) 1) 1)])), ((q 2), .inl (cI, 6, .inl kd)), ((q 5), .inl (cI, 6, .inl st))]) (va_runV (As := [.int 1]) (rest := []) ⟨hx, hb, hml, hown, hts⟩ (c_X3_traced l D cI cS q _ fa nc nt ea ra rs rt nr (m_X3_traced (m_X3_traced (m_X3_traced tr 3) 2) 1) 1) (cwV 1 hts gX3_tell_X3_traced rfl rfl rfl (by decide +kernel) ⟨Nat.le_of_ble_eq_true rfl, Nat.le_of_ble_eq_true rfl⟩) ⟨tw_Wb, va_recv hK hP (ci := 3) (q0 := 0) rfl rfl, tw_Wp (hP.sub (ws' := [((q 0), .inr (3, [.int fa, .int (nI nc), .ref (q 1), .int (nI nt), .ref (q 2), .ref (q 3), .ref (q 4), .ref (q 5), .int ea, .int (nI ra), .int (nI rs), .int (nI rt), .ref (q 6), .ref (q 7), .ref (q 8), .ref (q 9), .ref (q 10), .ref (q 11), .int (nI nr), .ref (q 12), .ref (q 13), .ref (q 14), .ref (q 15), .ref (q 16), .ref (q 17), .int (m_X3_traced (m_X3_traced (m_X3_traced tr 3) 2) 1)]))]) [0] rfl) hK (hD.sub (ws' := [((q 0), .inr (3, [.int fa, .int (nI nc), .ref (q 1), .int (nI nt), .ref (q 2), .ref (q 3), .ref (q 4), .ref (q 5), .int ea, .int (nI ra), .int (nI rs), .int (nI rt), .ref (q 6), .ref (q 7), .ref (q 8), .ref (q 9), .ref (q 10), .ref (q 11), .int (nI nr), .ref (q 12), .ref (q 13), .ref (q 14), .ref (q 15), .ref (q 16), .ref (q 17), .int (m_X3_traced (m_X3_traced (m_X3_traced tr 3) 2) 1)]))]) [0] (by decide) rfl)⟩ rfl rfl hl.1 rfl (lv_room (Nat.le_of_ble_eq_true rfl)) dX3_tell_48 ⟨Nat.zero_le _, Nat.zero_le _⟩) hP hD hS hA [0] [1, 2] [2, 0, 1] rfl rfl (by decide) (by decide) rfl (by decide) (fun H locs hP hD hS => ?_)
          refine lv_aload_n hx hb dX3_tell_51 rfl (lv_at hl 1 rfl) ?_
          refine va_get (ci := 3) (v := .ref (q 5)) (C := RX3) (T := TX3) (N := 26) hx hb hts hin_X3 hown hK hP 0 rfl rfl 7 (by decide) fl_22 (fun _ h9 => h9) rfl dX3_tell_52 ?_
          refine lv_iload_n hx hb dX3_tell_55 rfl (lv_at hl 2 rfl) ?_
          refine va_iald hx hb hK hP 2 0 rfl rfl (noThing_in hn c_5) dX3_tell_56 ?_
          refine lv_istore_n (lv' := [(3, .int (st v1.toNatClampNeg)), (2, .int (kd v1.toNatClampNeg)), (0, .ref (q 0)), (1, .int v1)]) hx hb dX3_tell_57 rfl hl (by decide) rfl (fun ls hl => ?_)
          refine lv_iload_n hx hb dX3_tell_58 rfl (lv_at hl 1 rfl) ?_
          refine tw_join (fun (y : Int32) => F0 m 84 ls (.int y :: [])) (if (kd v1.toNatClampNeg) = 0 then st v1.toNatClampNeg else (if (kd v1.toNatClampNeg) = 1 then (st v1.toNatClampNeg) + 100 else (2 * (st v1.toNatClampNeg)) + 100)) ?_ (fun J84_7 => ?_)
          · intro y84 hy84
            have hE : (m_X3_tell nt kd st tr v1) = (y84, (m_X3_traced (m_X3_traced (m_X3_traced (m_X3_traced tr 3) 2) 1) 1)) := Eq.symm (by (unfold m_X3_tell; rw [if_pos c_5]; rw [if_pos c_19]; rw [if_neg c_28]; rw [if_pos c_43]; (try rw [← hy84])) <;> rfl)
            rw [hE]
            exact W.iret hx hb hr (fun t ht hW => ⟨⟨_, (), rfl, rfl, by rw [ht]; exact hP, va_K.moved hW.alike hK, hD⟩, hS.F ht⟩) hS.2.2 dX3_tell_84
          · refine lv_if_ne (tgt := 66) hx hb dX3_tell_59 (by decide) (fun c_59 => ?_) (fun c_59 => ?_)
            · refine lv_iload_n hx hb dX3_tell_66 rfl (lv_at hl 1 rfl) ?_
              refine lv_iconst (v := 1) hx hb dX3_tell_67 (by decide) ?_
              refine lv_icmp_ne (tgt := 78) hx hb dX3_tell_68 (by decide) (fun c_68 => ?_) (fun c_68 => ?_)
              · refine lv_iconst (v := 2) hx hb dX3_tell_78 (by decide) ?_
                refine lv_iload_n hx hb dX3_tell_79 rfl (lv_at hl 0 rfl) ?_
                refine lv_imul hx hb dX3_tell_80 ?_
                refine lv_bipush (v := 100) hx hb dX3_tell_81 (by decide) ?_
                refine lv_iadd hx hb dX3_tell_83 ?_
                exact J84_7 _ (by (rw [if_neg c_59]; rw [if_neg c_68]) <;> rfl)
              · refine lv_iload_n hx hb dX3_tell_71 rfl (lv_at hl 0 rfl) ?_
                refine lv_bipush (v := 100) hx hb dX3_tell_72 (by decide) ?_
                refine lv_iadd hx hb dX3_tell_74 ?_
                refine lv_goto (tgt := 84) hx hb dX3_tell_75 (by decide) ?_
                exact J84_7 _ (by (rw [if_neg c_59]; rw [if_pos c_68]) <;> rfl)
            · refine lv_iload_n hx hb dX3_tell_62 rfl (lv_at hl 0 rfl) ?_
              refine lv_goto (tgt := 84) hx hb dX3_tell_63 (by decide) ?_
              exact J84_7 _ (by (rw [if_pos c_59]) <;> rfl)
  · refine lv_iconst (v := (-1)) hx hb dX3_tell_8 (by decide) ?_
    have hE : (m_X3_tell nt kd st tr v1) = ((-1), tr) := Eq.symm (by (unfold m_X3_tell; rw [if_neg c_5]) <;> rfl)
    rw [hE]
    exact W.iret hx hb hr (fun t ht hW => ⟨⟨_, (), rfl, rfl, by rw [ht]; exact hP, va_K.moved hW.alike hK, hD⟩, hS.F ht⟩) hS.2.2 dX3_tell_9

def m_X3_pass (nt : Nat) (kd : Nat → Int32) (tr : Int32) (v1 : Int32) : Int32 × Int32 :=
  if (m_X3_noThing nt v1) = 0 then
    ((if (kd v1.toNatClampNeg) = 2 then (60 : Int32) else v1), (m_X3_traced tr (if (kd v1.toNatClampNeg) = 2 then 5 else 4)))
  else
    ((-1), tr)
set_option maxHeartbeats 4000000 in
set_option maxRecDepth 100000 in
theorem c_X3_pass (l : Launch) (D : va_G) (cI cS : ClassId) (q : Nat → Nat) (hz : Nat) (fa : Int32) (nc : Nat) (nt : Nat) (kd : Nat → Int32) (ea : Int32) (ra : Nat) (rs : Nat) (rt : Nat) (nr : Nat) (tr : Int32) (v1 : Int32) (hn : nt ≤ 6) : Met l yX3_pass wsX3_pass ({ frames := 2, cells := 0, slots := 0, locals := 46 }) (tw_W D cI cS [.ref (q 0), .int v1] hz [((q 0), .inr (3, [.int fa, .int (nI nc), .ref (q 1), .int (nI nt), .ref (q 2), .ref (q 3), .ref (q 4), .ref (q 5), .int ea, .int (nI ra), .int (nI rs), .int (nI rt), .ref (q 6), .ref (q 7), .ref (q 8), .ref (q 9), .ref (q 10), .ref (q 11), .int (nI nr), .ref (q 12), .ref (q 13), .ref (q 14), .ref (q 15), .ref (q 16), .ref (q 17), .int tr])), ((q 2), .inl (cI, 6, .inl kd))]) (va_Qi (fun r (_ : Unit) => r = (m_X3_pass nt kd tr v1).1) (tw_B D cI cS (va_A [((q 0), .inr (3, [.int fa, .int (nI nc), .ref (q 1), .int (nI nt), .ref (q 2), .ref (q 3), .ref (q 4), .ref (q 5), .int ea, .int (nI ra), .int (nI rs), .int (nI rt), .ref (q 6), .ref (q 7), .ref (q 8), .ref (q 9), .ref (q 10), .ref (q 11), .int (nI nr), .ref (q 12), .ref (q 13), .ref (q 14), .ref (q 15), .ref (q 16), .ref (q 17), .int tr])), ((q 2), .inl (cI, 6, .inl kd))] hz) [((q 0), .inr (3, [.int fa, .int (nI nc), .ref (q 1), .int (nI nt), .ref (q 2), .ref (q 3), .ref (q 4), .ref (q 5), .int ea, .int (nI ra), .int (nI rs), .int (nI rt), .ref (q 6), .ref (q 7), .ref (q 8), .ref (q 9), .ref (q 10), .ref (q 11), .int (nI nr), .ref (q 12), .ref (q 13), .ref (q 14), .ref (q 15), .ref (q 16), .ref (q 17), .int ((m_X3_pass nt kd tr v1).2)])), ((q 2), .inl (cI, 6, .inl kd))]) (va_A [((q 0), .inr (3, [.int fa, .int (nI nc), .ref (q 1), .int (nI nt), .ref (q 2), .ref (q 3), .ref (q 4), .ref (q 5), .int ea, .int (nI ra), .int (nI rs), .int (nI rt), .ref (q 6), .ref (q 7), .ref (q 8), .ref (q 9), .ref (q 10), .ref (q 11), .int (nI nr), .ref (q 12), .ref (q 13), .ref (q 14), .ref (q 15), .ref (q 16), .ref (q 17), .int tr])), ((q 2), .inl (cI, 6, .inl kd))] hz)) 0 0 (va_A [((q 0), .inr (3, [.int fa, .int (nI nc), .ref (q 1), .int (nI nt), .ref (q 2), .ref (q 3), .ref (q 4), .ref (q 5), .int ea, .int (nI ra), .int (nI rs), .int (nI rt), .ref (q 6), .ref (q 7), .ref (q 8), .ref (q 9), .ref (q 10), .ref (q 11), .int (nI nr), .ref (q 12), .ref (q 13), .ref (q 14), .ref (q 15), .ref (q 16), .ref (q 17), .int tr])), ((q 2), .inl (cI, 6, .inl kd))] hz) := by
  refine Met.ofW (cc := cX3_pass) (maxL := 2) (ret := (some .int)) (by decide) rfl ?_
  intro p e s m args below meth c s₁ B hml hv
  obtain ⟨rfl, hsz, hP, hK, hD0⟩ := hv
  have hx := B.exec
  have hb := B.bytes
  have hr := B.returns
  have hts := atoms_spec (ws := wsX3_pass) B.pre
  have hown : s.vm.findClass RX3 = some m.cls := findClass_of_methodNamed B.named
  have hlocks := B.notSynchronized
  subst hsz
  have hD := hD0.self (sz := s.heap.size)
  generalize hAe : va_A [((q 0), .inr (3, [.int fa, .int (nI nc), .ref (q 1), .int (nI nt), .ref (q 2), .ref (q 3), .ref (q 4), .ref (q 5), .int ea, .int (nI ra), .int (nI rs), .int (nI rt), .ref (q 6), .ref (q 7), .ref (q 8), .ref (q 9), .ref (q 10), .ref (q 11), .int (nI nr), .ref (q 12), .ref (q 13), .ref (q 14), .ref (q 15), .ref (q 16), .ref (q 17), .int tr])), ((q 2), .inl (cI, 6, .inl kd))] s.heap.size = A at hD ⊢
  have hA : ∀ q : Nat, s.heap.size ≤ q → A q := fun q h => by rw [← hAe]; exact Or.inr h
  have hS : va_S A s.heap s.heap [] := va_S.rf
  have fl_13 := hts (.fieldLink RX3 13 "TableWarModel" "kindOf" "[I") (by decide +kernel)
  have hin_X3 := (show ∀ w ∈ u_ws RX3 TX3 26, w ∈ wsX3_pass from by decide +kernel)
  have hl := lv_entry ([.ref (q 0), .int v1]) (n := 2) (Nat.le_of_ble_eq_true rfl)
  rw [lg_entry_eq]
  generalize (lg_sl ([.ref (q 0), .int v1]) ++ List.replicate (2 - (lg_sl ([.ref (q 0), .int v1])).length) Slot.unset).toArray = ls at hl ⊢
  have hl : lv_has ls 2 [(0, .ref (q 0)), (1, .int v1)] := hl
  refine lv_aload_n hx hb dX3_pass_0 rfl (lv_at hl 0 rfl) ?_
  refine lv_iload_n hx hb dX3_pass_1 rfl (lv_at hl 1 rfl) ?_
  refine tw_cs (va_runV (As := [.int v1]) (rest := []) ⟨hx, hb, hml, hown, hts⟩ (c_X3_noThing l D cI cS q fa nc nt ea ra rs rt nr tr v1) (cwV 1 hts gX3_pass_X3_noThing rfl rfl rfl (by decide +kernel) ⟨Nat.le_of_ble_eq_true rfl, Nat.le_of_ble_eq_true rfl⟩) ⟨tw_Rb, va_recv hK hP (ci := 3) (q0 := 0) rfl rfl, tw_Rp (hP.sub (ws' := [((q 0), .inr (3, [.int fa, .int (nI nc), .ref (q 1), .int (nI nt), .ref (q 2), .ref (q 3), .ref (q 4), .ref (q 5), .int ea, .int (nI ra), .int (nI rs), .int (nI rt), .ref (q 6), .ref (q 7), .ref (q 8), .ref (q 9), .ref (q 10), .ref (q 11), .int (nI nr), .ref (q 12), .ref (q 13), .ref (q 14), .ref (q 15), .ref (q 16), .ref (q 17), .int tr]))]) [0] rfl) hK⟩ rfl rfl hl.1 rfl (lv_room (Nat.le_of_ble_eq_true rfl)) dX3_pass_2 ⟨Nat.zero_le _, Nat.zero_le _⟩) ?_
  refine lv_if_eq (tgt := 10) hx hb dX3_pass_5 (by decide) (fun c_5 => ?_) (fun c_5 => ?_)
  · refine lv_aload_n hx hb dX3_pass_10 rfl (lv_at hl 0 rfl) ?_
    refine lv_aload_n hx hb dX3_pass_11 rfl (lv_at hl 0 rfl) ?_
    refine va_get (ci := 3) (v := .ref (q 2)) (C := RX3) (T := TX3) (N := 26) hx hb hts hin_X3 hown hK hP 0 rfl rfl 4 (by decide) fl_13 (fun _ h9 => h9) rfl dX3_pass_12 ?_
    refine lv_iload_n hx hb dX3_pass_15 rfl (lv_at hl 1 rfl) ?_
    refine va_iald hx hb hK hP 1 0 rfl rfl (noThing_in hn c_5) dX3_pass_16 ?_
    refine lv_iconst (v := 2) hx hb dX3_pass_17 (by decide) ?_
    refine tw_join (fun (y : Int32) => F0 m 26 ls (.int y :: .ref (q 0) :: [])) (if (kd v1.toNatClampNeg) = 2 then 5 else 4) ?_ (fun J26_0 => ?_)
    · intro y26 hy26
      refine tw_wv (ws := [((q 0), .inr (3, [.int fa, .int (nI nc), .ref (q 1), .int (nI nt), .ref (q 2), .ref (q 3), .ref (q 4), .ref (q 5), .int ea, .int (nI ra), .int (nI rs), .int (nI rt), .ref (q 6), .ref (q 7), .ref (q 8), .ref (q 9), .ref (q 10), .ref (q 11), .int (nI nr), .ref (q 12), .ref (q 13), .ref (q 14), .ref (q 15), .ref (q 16), .ref (q 17), .int tr])), ((q 2), .inl (cI, 6, .inl kd))]) (wc := [((q 0), .inr (3, [.int fa, .int (nI nc), .ref (q 1), .int (nI nt), .ref (q 2), .ref (q 3), .ref (q 4), .ref (q 5), .int ea, .int (nI ra), .int (nI rs), .int (nI rt), .ref (q 6), .ref (q 7), .ref (q 8), .ref (q 9), .ref (q 10), .ref (q 11), .int (nI nr), .ref (q 12), .ref (q 13), .ref (q 14), .ref (q 15), .ref (q 16), .ref (q 17), .int tr]))]) (wr := [((q 2), .inl (cI, 6, .inl kd))]) (w1 := [((q 0), .inr (3, [.int fa, .int (nI nc), .ref (q 1), .int (nI nt), .ref (q 2), .ref (q 3), .ref (q 4), .ref (q 5), .int ea, .int (nI ra), .int (nI rs), .int (nI rt), .ref (q 6), .ref (q 7), .ref (q 8), .ref (q 9), .ref (q 10), .ref (q 11), .int (nI nr), .ref (q 12), .ref (q 13), .ref (q 14), .ref (q 15), .ref (q 16), .ref (q 17), .int (m_X3_traced tr y26)]))]) (ws' := [((q 0), .inr (3, [.int fa, .int (nI nc), .ref (q 1), .int (nI nt), .ref (q 2), .ref (q 3), .ref (q 4), .ref (q 5), .int ea, .int (nI ra), .int (nI rs), .int (nI rt), .ref (q 6), .ref (q 7), .ref (q 8), .ref (q 9), .ref (q 10), .ref (q 11), .int (nI nr), .ref (q 12), .ref (q 13), .ref (q 14), .ref (q 15), .ref (q 16), .ref (q 17), .int (m_X3_traced tr y26)])), ((q 2), .inl (cI, 6, .inl kd))]) (va_runV (As := [.int y26]) (rest := []) ⟨hx, hb, hml, hown, hts⟩ (c_X3_traced l D cI cS q _ fa nc nt ea ra rs rt nr tr y26) (cwV 1 hts gX3_pass_X3_traced rfl rfl rfl (by decide +kernel) ⟨Nat.le_of_ble_eq_true rfl, Nat.le_of_ble_eq_true rfl⟩) ⟨tw_Wb, va_recv hK hP (ci := 3) (q0 := 0) rfl rfl, tw_Wp (hP.sub (ws' := [((q 0), .inr (3, [.int fa, .int (nI nc), .ref (q 1), .int (nI nt), .ref (q 2), .ref (q 3), .ref (q 4), .ref (q 5), .int ea, .int (nI ra), .int (nI rs), .int (nI rt), .ref (q 6), .ref (q 7), .ref (q 8), .ref (q 9), .ref (q 10), .ref (q 11), .int (nI nr), .ref (q 12), .ref (q 13), .ref (q 14), .ref (q 15), .ref (q 16), .ref (q 17), .int tr]))]) [0] rfl) hK (hD.sub (ws' := [((q 0), .inr (3, [.int fa, .int (nI nc), .ref (q 1), .int (nI nt), .ref (q 2), .ref (q 3), .ref (q 4), .ref (q 5), .int ea, .int (nI ra), .int (nI rs), .int (nI rt), .ref (q 6), .ref (q 7), .ref (q 8), .ref (q 9), .ref (q 10), .ref (q 11), .int (nI nr), .ref (q 12), .ref (q 13), .ref (q 14), .ref (q 15), .ref (q 16), .ref (q 17), .int tr]))]) [0] (by decide) rfl)⟩ rfl rfl hl.1 rfl (lv_room (Nat.le_of_ble_eq_true rfl)) dX3_pass_26 ⟨Nat.zero_le _, Nat.zero_le _⟩) hP hD hS hA [0] [1] [1, 0] rfl rfl (by decide) (by decide) rfl (by decide) (fun H locs hP hD hS => ?_)
      refine lv_aload_n hx hb dX3_pass_29 rfl (lv_at hl 0 rfl) ?_
      refine va_get (ci := 3) (v := .ref (q 2)) (C := RX3) (T := TX3) (N := 26) hx hb hts hin_X3 hown hK hP 0 rfl rfl 4 (by decide) fl_13 (fun _ h9 => h9) rfl dX3_pass_30 ?_
      refine lv_iload_n hx hb dX3_pass_33 rfl (lv_at hl 1 rfl) ?_
      refine va_iald hx hb hK hP 1 0 rfl rfl (noThing_in hn c_5) dX3_pass_34 ?_
      refine lv_iconst (v := 2) hx hb dX3_pass_35 (by decide) ?_
      refine tw_join (fun (y : Int32) => F0 m 45 ls (.int y :: [])) (if (kd v1.toNatClampNeg) = 2 then (60 : Int32) else v1) ?_ (fun J45_1 => ?_)
      · intro y45 hy45
        have hE : (m_X3_pass nt kd tr v1) = (y45, (m_X3_traced tr y26)) := Eq.symm (by (unfold m_X3_pass; rw [if_pos c_5]; (try rw [← hy26]); (try rw [← hy45])) <;> rfl)
        rw [hE]
        exact W.iret hx hb hr (fun t ht hW => ⟨⟨_, (), rfl, rfl, by rw [ht]; exact hP, va_K.moved hW.alike hK, hD⟩, hS.F ht⟩) hS.2.2 dX3_pass_45
      · refine lv_icmp_ne (tgt := 44) hx hb dX3_pass_36 (by decide) (fun c_36 => ?_) (fun c_36 => ?_)
        · refine lv_iload_n hx hb dX3_pass_44 rfl (lv_at hl 1 rfl) ?_
          exact J45_1 _ (by (rw [if_neg c_36]) <;> rfl)
        · refine lv_bipush (v := 60) hx hb dX3_pass_39 (by decide) ?_
          refine lv_goto (tgt := 45) hx hb dX3_pass_41 (by decide) ?_
          exact J45_1 _ (by (rw [if_pos c_36]) <;> rfl)
    · refine lv_icmp_ne (tgt := 25) hx hb dX3_pass_18 (by decide) (fun c_18 => ?_) (fun c_18 => ?_)
      · refine lv_iconst (v := 4) hx hb dX3_pass_25 (by decide) ?_
        exact J26_0 _ (by (rw [if_neg c_18]) <;> rfl)
      · refine lv_iconst (v := 5) hx hb dX3_pass_21 (by decide) ?_
        refine lv_goto (tgt := 26) hx hb dX3_pass_22 (by decide) ?_
        exact J26_0 _ (by (rw [if_pos c_18]) <;> rfl)
  · refine lv_iconst (v := (-1)) hx hb dX3_pass_8 (by decide) ?_
    have hE : (m_X3_pass nt kd tr v1) = ((-1), tr) := Eq.symm (by (unfold m_X3_pass; rw [if_neg c_5]) <;> rfl)
    rw [hE]
    exact W.iret hx hb hr (fun t ht hW => ⟨⟨_, (), rfl, rfl, by rw [ht]; exact hP, va_K.moved hW.alike hK, hD⟩, hS.F ht⟩) hS.2.2 dX3_pass_9

def m_X3_as (nt : Nat) (kd : Nat → Int32) (v1 : Int32) (v2 : Int32) : Int32 × Int32 :=
  if (m_X3_noThing nt v1) = 0 then
    if (m_X3_in v2.toInt64 0 2) = 0 then
      ((m_X3_refused (-2)).1, (m_X3_refused (-2)).2)
    else
      if (kd v1.toNatClampNeg) < v2 then
        ((m_X3_failed 2).1, (m_X3_failed 2).2)
      else
        ((m_X3_refused 1).1, (m_X3_refused 1).2)
  else
    ((m_X3_refused (-1)).1, (m_X3_refused (-1)).2)
set_option maxHeartbeats 4000000 in
set_option maxRecDepth 100000 in
theorem c_X3_as (l : Launch) (D : va_G) (cI cS : ClassId) (q : Nat → Nat) (hz : Nat) (fa : Int32) (nc : Nat) (nt : Nat) (kd : Nat → Int32) (ea : Int32) (ra : Nat) (rs : Nat) (rt : Nat) (nr : Nat) (tr : Int32) (v1 : Int32) (v2 : Int32) (hn : nt ≤ 6) : Met l yX3_as wsX3_as ({ frames := 2, cells := 0, slots := 0, locals := 46 }) (tw_W D cI cS [.ref (q 0), .int v1, .int v2] hz [((q 0), .inr (3, [.int fa, .int (nI nc), .ref (q 1), .int (nI nt), .ref (q 2), .ref (q 3), .ref (q 4), .ref (q 5), .int ea, .int (nI ra), .int (nI rs), .int (nI rt), .ref (q 6), .ref (q 7), .ref (q 8), .ref (q 9), .ref (q 10), .ref (q 11), .int (nI nr), .ref (q 12), .ref (q 13), .ref (q 14), .ref (q 15), .ref (q 16), .ref (q 17), .int tr])), ((q 2), .inl (cI, 6, .inl kd))]) (va_Qi (fun r (_ : Unit) => r = (m_X3_as nt kd v1 v2).1) (tw_B D cI cS (va_A [((q 0), .inr (3, [.int fa, .int (nI nc), .ref (q 1), .int (nI nt), .ref (q 2), .ref (q 3), .ref (q 4), .ref (q 5), .int ea, .int (nI ra), .int (nI rs), .int (nI rt), .ref (q 6), .ref (q 7), .ref (q 8), .ref (q 9), .ref (q 10), .ref (q 11), .int (nI nr), .ref (q 12), .ref (q 13), .ref (q 14), .ref (q 15), .ref (q 16), .ref (q 17), .int tr])), ((q 2), .inl (cI, 6, .inl kd))] hz) [((q 0), .inr (3, [.int ((m_X3_as nt kd v1 v2).2), .int (nI nc), .ref (q 1), .int (nI nt), .ref (q 2), .ref (q 3), .ref (q 4), .ref (q 5), .int ea, .int (nI ra), .int (nI rs), .int (nI rt), .ref (q 6), .ref (q 7), .ref (q 8), .ref (q 9), .ref (q 10), .ref (q 11), .int (nI nr), .ref (q 12), .ref (q 13), .ref (q 14), .ref (q 15), .ref (q 16), .ref (q 17), .int tr])), ((q 2), .inl (cI, 6, .inl kd))]) (va_A [((q 0), .inr (3, [.int fa, .int (nI nc), .ref (q 1), .int (nI nt), .ref (q 2), .ref (q 3), .ref (q 4), .ref (q 5), .int ea, .int (nI ra), .int (nI rs), .int (nI rt), .ref (q 6), .ref (q 7), .ref (q 8), .ref (q 9), .ref (q 10), .ref (q 11), .int (nI nr), .ref (q 12), .ref (q 13), .ref (q 14), .ref (q 15), .ref (q 16), .ref (q 17), .int tr])), ((q 2), .inl (cI, 6, .inl kd))] hz)) 0 0 (va_A [((q 0), .inr (3, [.int fa, .int (nI nc), .ref (q 1), .int (nI nt), .ref (q 2), .ref (q 3), .ref (q 4), .ref (q 5), .int ea, .int (nI ra), .int (nI rs), .int (nI rt), .ref (q 6), .ref (q 7), .ref (q 8), .ref (q 9), .ref (q 10), .ref (q 11), .int (nI nr), .ref (q 12), .ref (q 13), .ref (q 14), .ref (q 15), .ref (q 16), .ref (q 17), .int tr])), ((q 2), .inl (cI, 6, .inl kd))] hz) := by
  refine Met.ofW (cc := cX3_as) (maxL := 3) (ret := (some .int)) (by decide) rfl ?_
  intro p e s m args below meth c s₁ B hml hv
  obtain ⟨rfl, hsz, hP, hK, hD0⟩ := hv
  have hx := B.exec
  have hb := B.bytes
  have hr := B.returns
  have hts := atoms_spec (ws := wsX3_as) B.pre
  have hown : s.vm.findClass RX3 = some m.cls := findClass_of_methodNamed B.named
  have hlocks := B.notSynchronized
  subst hsz
  have hD := hD0.self (sz := s.heap.size)
  generalize hAe : va_A [((q 0), .inr (3, [.int fa, .int (nI nc), .ref (q 1), .int (nI nt), .ref (q 2), .ref (q 3), .ref (q 4), .ref (q 5), .int ea, .int (nI ra), .int (nI rs), .int (nI rt), .ref (q 6), .ref (q 7), .ref (q 8), .ref (q 9), .ref (q 10), .ref (q 11), .int (nI nr), .ref (q 12), .ref (q 13), .ref (q 14), .ref (q 15), .ref (q 16), .ref (q 17), .int tr])), ((q 2), .inl (cI, 6, .inl kd))] s.heap.size = A at hD ⊢
  have hA : ∀ q : Nat, s.heap.size ≤ q → A q := fun q h => by rw [← hAe]; exact Or.inr h
  have hS : va_S A s.heap s.heap [] := va_S.rf
  have kl_120 := hts (.constantLong RX3 120 (2)) (by decide +kernel)
  have fl_13 := hts (.fieldLink RX3 13 "TableWarModel" "kindOf" "[I") (by decide +kernel)
  have hin_X3 := (show ∀ w ∈ u_ws RX3 TX3 26, w ∈ wsX3_as from by decide +kernel)
  have hl := lv_entry ([.ref (q 0), .int v1, .int v2]) (n := 3) (Nat.le_of_ble_eq_true rfl)
  rw [lg_entry_eq]
  generalize (lg_sl ([.ref (q 0), .int v1, .int v2]) ++ List.replicate (3 - (lg_sl ([.ref (q 0), .int v1, .int v2])).length) Slot.unset).toArray = ls at hl ⊢
  have hl : lv_has ls 3 [(0, .ref (q 0)), (1, .int v1), (2, .int v2)] := hl
  refine lv_aload_n hx hb dX3_as_0 rfl (lv_at hl 0 rfl) ?_
  refine lv_iload_n hx hb dX3_as_1 rfl (lv_at hl 1 rfl) ?_
  refine tw_cs (va_runV (As := [.int v1]) (rest := []) ⟨hx, hb, hml, hown, hts⟩ (c_X3_noThing l D cI cS q fa nc nt ea ra rs rt nr tr v1) (cwV 1 hts gX3_as_X3_noThing rfl rfl rfl (by decide +kernel) ⟨Nat.le_of_ble_eq_true rfl, Nat.le_of_ble_eq_true rfl⟩) ⟨tw_Rb, va_recv hK hP (ci := 3) (q0 := 0) rfl rfl, tw_Rp (hP.sub (ws' := [((q 0), .inr (3, [.int fa, .int (nI nc), .ref (q 1), .int (nI nt), .ref (q 2), .ref (q 3), .ref (q 4), .ref (q 5), .int ea, .int (nI ra), .int (nI rs), .int (nI rt), .ref (q 6), .ref (q 7), .ref (q 8), .ref (q 9), .ref (q 10), .ref (q 11), .int (nI nr), .ref (q 12), .ref (q 13), .ref (q 14), .ref (q 15), .ref (q 16), .ref (q 17), .int tr]))]) [0] rfl) hK⟩ rfl rfl hl.1 rfl (lv_room (Nat.le_of_ble_eq_true rfl)) dX3_as_2 ⟨Nat.zero_le _, Nat.zero_le _⟩) ?_
  refine lv_if_eq (tgt := 14) hx hb dX3_as_5 (by decide) (fun c_5 => ?_) (fun c_5 => ?_)
  · refine lv_iload_n hx hb dX3_as_14 rfl (lv_at hl 2 rfl) ?_
    refine lv_i2l (v := v2.toInt64) hx hb dX3_as_15 rfl ?_
    refine lv_lconst (v := 0) hx hb dX3_as_16 (by decide) ?_
    refine lv_ldc2 (v := 2) hx hb hown kl_120 dX3_as_17 ?_
    refine tw_cs (va_runS (As := [.long v2.toInt64, .long 0, .long 2]) (rest := []) ⟨hx, hb, hml, hown, hts⟩ (c_X3_in l D cI cS v2.toInt64 0 2) (va_cwS 3 hts gX3_as_X3_in rfl rfl rfl (by decide +kernel) ⟨Nat.le_of_ble_eq_true rfl, Nat.le_of_ble_eq_true rfl⟩) ⟨tw_Rb, tw_Rp (hP.sub (ws' := []) [] rfl) hK⟩ rfl rfl hl.1 rfl (lv_room (Nat.le_of_ble_eq_true rfl)) dX3_as_20 ⟨Nat.zero_le _, Nat.zero_le _⟩) ?_
    refine lv_if_ne (tgt := 33) hx hb dX3_as_23 (by decide) (fun c_23 => ?_) (fun c_23 => ?_)
    · refine lv_aload_n hx hb dX3_as_33 rfl (lv_at hl 0 rfl) ?_
      refine va_get (ci := 3) (v := .ref (q 2)) (C := RX3) (T := TX3) (N := 26) hx hb hts hin_X3 hown hK hP 0 rfl rfl 4 (by decide) fl_13 (fun _ h9 => h9) rfl dX3_as_34 ?_
      refine lv_iload_n hx hb dX3_as_37 rfl (lv_at hl 1 rfl) ?_
      refine va_iald hx hb hK hP 1 0 rfl rfl (noThing_in hn c_5) dX3_as_38 ?_
      refine lv_iload_n hx hb dX3_as_39 rfl (lv_at hl 2 rfl) ?_
      refine lv_icmp_lt (tgt := 51) hx hb dX3_as_40 (by decide) (fun c_40 => ?_) (fun c_40 => ?_)
      · refine lv_aload_n hx hb dX3_as_51 rfl (lv_at hl 0 rfl) ?_
        refine lv_iconst (v := 2) hx hb dX3_as_52 (by decide) ?_
        refine tw_wi (v := (m_X3_failed 2).1) (ws := [((q 0), .inr (3, [.int fa, .int (nI nc), .ref (q 1), .int (nI nt), .ref (q 2), .ref (q 3), .ref (q 4), .ref (q 5), .int ea, .int (nI ra), .int (nI rs), .int (nI rt), .ref (q 6), .ref (q 7), .ref (q 8), .ref (q 9), .ref (q 10), .ref (q 11), .int (nI nr), .ref (q 12), .ref (q 13), .ref (q 14), .ref (q 15), .ref (q 16), .ref (q 17), .int tr])), ((q 2), .inl (cI, 6, .inl kd))]) (wc := [((q 0), .inr (3, [.int fa, .int (nI nc), .ref (q 1), .int (nI nt), .ref (q 2), .ref (q 3), .ref (q 4), .ref (q 5), .int ea, .int (nI ra), .int (nI rs), .int (nI rt), .ref (q 6), .ref (q 7), .ref (q 8), .ref (q 9), .ref (q 10), .ref (q 11), .int (nI nr), .ref (q 12), .ref (q 13), .ref (q 14), .ref (q 15), .ref (q 16), .ref (q 17), .int tr]))]) (wr := [((q 2), .inl (cI, 6, .inl kd))]) (w1 := [((q 0), .inr (3, [.int ((m_X3_failed 2).2), .int (nI nc), .ref (q 1), .int (nI nt), .ref (q 2), .ref (q 3), .ref (q 4), .ref (q 5), .int ea, .int (nI ra), .int (nI rs), .int (nI rt), .ref (q 6), .ref (q 7), .ref (q 8), .ref (q 9), .ref (q 10), .ref (q 11), .int (nI nr), .ref (q 12), .ref (q 13), .ref (q 14), .ref (q 15), .ref (q 16), .ref (q 17), .int tr]))]) (ws' := [((q 0), .inr (3, [.int ((m_X3_failed 2).2), .int (nI nc), .ref (q 1), .int (nI nt), .ref (q 2), .ref (q 3), .ref (q 4), .ref (q 5), .int ea, .int (nI ra), .int (nI rs), .int (nI rt), .ref (q 6), .ref (q 7), .ref (q 8), .ref (q 9), .ref (q 10), .ref (q 11), .int (nI nr), .ref (q 12), .ref (q 13), .ref (q 14), .ref (q 15), .ref (q 16), .ref (q 17), .int tr])), ((q 2), .inl (cI, 6, .inl kd))]) (va_runV (As := [.int 2]) (rest := []) ⟨hx, hb, hml, hown, hts⟩ (c_X3_failed l D cI cS q _ fa nc nt ea ra rs rt nr tr 2) (cwV 1 hts gX3_as_X3_failed rfl rfl rfl (by decide +kernel) ⟨Nat.le_of_ble_eq_true rfl, Nat.le_of_ble_eq_true rfl⟩) ⟨tw_Wb, va_recv hK hP (ci := 3) (q0 := 0) rfl rfl, tw_Wp (hP.sub (ws' := [((q 0), .inr (3, [.int fa, .int (nI nc), .ref (q 1), .int (nI nt), .ref (q 2), .ref (q 3), .ref (q 4), .ref (q 5), .int ea, .int (nI ra), .int (nI rs), .int (nI rt), .ref (q 6), .ref (q 7), .ref (q 8), .ref (q 9), .ref (q 10), .ref (q 11), .int (nI nr), .ref (q 12), .ref (q 13), .ref (q 14), .ref (q 15), .ref (q 16), .ref (q 17), .int tr]))]) [0] rfl) hK (hD.sub (ws' := [((q 0), .inr (3, [.int fa, .int (nI nc), .ref (q 1), .int (nI nt), .ref (q 2), .ref (q 3), .ref (q 4), .ref (q 5), .int ea, .int (nI ra), .int (nI rs), .int (nI rt), .ref (q 6), .ref (q 7), .ref (q 8), .ref (q 9), .ref (q 10), .ref (q 11), .int (nI nr), .ref (q 12), .ref (q 13), .ref (q 14), .ref (q 15), .ref (q 16), .ref (q 17), .int tr]))]) [0] (by decide) rfl)⟩ rfl rfl hl.1 rfl (lv_room (Nat.le_of_ble_eq_true rfl)) dX3_as_53 ⟨Nat.zero_le _, Nat.zero_le _⟩) hP hD hS hA [0] [1] [1, 0] rfl rfl (by decide) (by decide) rfl (by decide) (fun H locs hP hD hS => ?_)
        have hE : (m_X3_as nt kd v1 v2) = ((m_X3_failed 2).1, (m_X3_failed 2).2) := Eq.symm (by (unfold m_X3_as; rw [if_pos c_5]; rw [if_neg c_23]; rw [if_pos c_40]) <;> rfl)
        rw [hE]
        exact W.iret hx hb hr (fun t ht hW => ⟨⟨_, (), rfl, rfl, by rw [ht]; exact hP, va_K.moved hW.alike hK, hD⟩, hS.F ht⟩) hS.2.2 dX3_as_56
      · refine lv_aload_n hx hb dX3_as_43 rfl (lv_at hl 0 rfl) ?_
        refine lv_iconst (v := 1) hx hb dX3_as_44 (by decide) ?_
        refine tw_wi (v := (m_X3_refused 1).1) (ws := [((q 0), .inr (3, [.int fa, .int (nI nc), .ref (q 1), .int (nI nt), .ref (q 2), .ref (q 3), .ref (q 4), .ref (q 5), .int ea, .int (nI ra), .int (nI rs), .int (nI rt), .ref (q 6), .ref (q 7), .ref (q 8), .ref (q 9), .ref (q 10), .ref (q 11), .int (nI nr), .ref (q 12), .ref (q 13), .ref (q 14), .ref (q 15), .ref (q 16), .ref (q 17), .int tr])), ((q 2), .inl (cI, 6, .inl kd))]) (wc := [((q 0), .inr (3, [.int fa, .int (nI nc), .ref (q 1), .int (nI nt), .ref (q 2), .ref (q 3), .ref (q 4), .ref (q 5), .int ea, .int (nI ra), .int (nI rs), .int (nI rt), .ref (q 6), .ref (q 7), .ref (q 8), .ref (q 9), .ref (q 10), .ref (q 11), .int (nI nr), .ref (q 12), .ref (q 13), .ref (q 14), .ref (q 15), .ref (q 16), .ref (q 17), .int tr]))]) (wr := [((q 2), .inl (cI, 6, .inl kd))]) (w1 := [((q 0), .inr (3, [.int ((m_X3_refused 1).2), .int (nI nc), .ref (q 1), .int (nI nt), .ref (q 2), .ref (q 3), .ref (q 4), .ref (q 5), .int ea, .int (nI ra), .int (nI rs), .int (nI rt), .ref (q 6), .ref (q 7), .ref (q 8), .ref (q 9), .ref (q 10), .ref (q 11), .int (nI nr), .ref (q 12), .ref (q 13), .ref (q 14), .ref (q 15), .ref (q 16), .ref (q 17), .int tr]))]) (ws' := [((q 0), .inr (3, [.int ((m_X3_refused 1).2), .int (nI nc), .ref (q 1), .int (nI nt), .ref (q 2), .ref (q 3), .ref (q 4), .ref (q 5), .int ea, .int (nI ra), .int (nI rs), .int (nI rt), .ref (q 6), .ref (q 7), .ref (q 8), .ref (q 9), .ref (q 10), .ref (q 11), .int (nI nr), .ref (q 12), .ref (q 13), .ref (q 14), .ref (q 15), .ref (q 16), .ref (q 17), .int tr])), ((q 2), .inl (cI, 6, .inl kd))]) (va_runV (As := [.int 1]) (rest := []) ⟨hx, hb, hml, hown, hts⟩ (c_X3_refused l D cI cS q _ fa nc nt ea ra rs rt nr tr 1) (cwV 1 hts gX3_as_X3_refused rfl rfl rfl (by decide +kernel) ⟨Nat.le_of_ble_eq_true rfl, Nat.le_of_ble_eq_true rfl⟩) ⟨tw_Wb, va_recv hK hP (ci := 3) (q0 := 0) rfl rfl, tw_Wp (hP.sub (ws' := [((q 0), .inr (3, [.int fa, .int (nI nc), .ref (q 1), .int (nI nt), .ref (q 2), .ref (q 3), .ref (q 4), .ref (q 5), .int ea, .int (nI ra), .int (nI rs), .int (nI rt), .ref (q 6), .ref (q 7), .ref (q 8), .ref (q 9), .ref (q 10), .ref (q 11), .int (nI nr), .ref (q 12), .ref (q 13), .ref (q 14), .ref (q 15), .ref (q 16), .ref (q 17), .int tr]))]) [0] rfl) hK (hD.sub (ws' := [((q 0), .inr (3, [.int fa, .int (nI nc), .ref (q 1), .int (nI nt), .ref (q 2), .ref (q 3), .ref (q 4), .ref (q 5), .int ea, .int (nI ra), .int (nI rs), .int (nI rt), .ref (q 6), .ref (q 7), .ref (q 8), .ref (q 9), .ref (q 10), .ref (q 11), .int (nI nr), .ref (q 12), .ref (q 13), .ref (q 14), .ref (q 15), .ref (q 16), .ref (q 17), .int tr]))]) [0] (by decide) rfl)⟩ rfl rfl hl.1 rfl (lv_room (Nat.le_of_ble_eq_true rfl)) dX3_as_45 ⟨Nat.zero_le _, Nat.zero_le _⟩) hP hD hS hA [0] [1] [1, 0] rfl rfl (by decide) (by decide) rfl (by decide) (fun H locs hP hD hS => ?_)
        refine lv_goto (tgt := 56) hx hb dX3_as_48 (by decide) ?_
        have hE : (m_X3_as nt kd v1 v2) = ((m_X3_refused 1).1, (m_X3_refused 1).2) := Eq.symm (by (unfold m_X3_as; rw [if_pos c_5]; rw [if_neg c_23]; rw [if_neg c_40]) <;> rfl)
        rw [hE]
        exact W.iret hx hb hr (fun t ht hW => ⟨⟨_, (), rfl, rfl, by rw [ht]; exact hP, va_K.moved hW.alike hK, hD⟩, hS.F ht⟩) hS.2.2 dX3_as_56
    · refine lv_aload_n hx hb dX3_as_26 rfl (lv_at hl 0 rfl) ?_
      refine lv_bipush (v := (-2)) hx hb dX3_as_27 (by decide) ?_
      refine tw_wi (v := (m_X3_refused (-2)).1) (ws := [((q 0), .inr (3, [.int fa, .int (nI nc), .ref (q 1), .int (nI nt), .ref (q 2), .ref (q 3), .ref (q 4), .ref (q 5), .int ea, .int (nI ra), .int (nI rs), .int (nI rt), .ref (q 6), .ref (q 7), .ref (q 8), .ref (q 9), .ref (q 10), .ref (q 11), .int (nI nr), .ref (q 12), .ref (q 13), .ref (q 14), .ref (q 15), .ref (q 16), .ref (q 17), .int tr])), ((q 2), .inl (cI, 6, .inl kd))]) (wc := [((q 0), .inr (3, [.int fa, .int (nI nc), .ref (q 1), .int (nI nt), .ref (q 2), .ref (q 3), .ref (q 4), .ref (q 5), .int ea, .int (nI ra), .int (nI rs), .int (nI rt), .ref (q 6), .ref (q 7), .ref (q 8), .ref (q 9), .ref (q 10), .ref (q 11), .int (nI nr), .ref (q 12), .ref (q 13), .ref (q 14), .ref (q 15), .ref (q 16), .ref (q 17), .int tr]))]) (wr := [((q 2), .inl (cI, 6, .inl kd))]) (w1 := [((q 0), .inr (3, [.int ((m_X3_refused (-2)).2), .int (nI nc), .ref (q 1), .int (nI nt), .ref (q 2), .ref (q 3), .ref (q 4), .ref (q 5), .int ea, .int (nI ra), .int (nI rs), .int (nI rt), .ref (q 6), .ref (q 7), .ref (q 8), .ref (q 9), .ref (q 10), .ref (q 11), .int (nI nr), .ref (q 12), .ref (q 13), .ref (q 14), .ref (q 15), .ref (q 16), .ref (q 17), .int tr]))]) (ws' := [((q 0), .inr (3, [.int ((m_X3_refused (-2)).2), .int (nI nc), .ref (q 1), .int (nI nt), .ref (q 2), .ref (q 3), .ref (q 4), .ref (q 5), .int ea, .int (nI ra), .int (nI rs), .int (nI rt), .ref (q 6), .ref (q 7), .ref (q 8), .ref (q 9), .ref (q 10), .ref (q 11), .int (nI nr), .ref (q 12), .ref (q 13), .ref (q 14), .ref (q 15), .ref (q 16), .ref (q 17), .int tr])), ((q 2), .inl (cI, 6, .inl kd))]) (va_runV (As := [.int (-2)]) (rest := []) ⟨hx, hb, hml, hown, hts⟩ (c_X3_refused l D cI cS q _ fa nc nt ea ra rs rt nr tr (-2)) (cwV 1 hts gX3_as_X3_refused rfl rfl rfl (by decide +kernel) ⟨Nat.le_of_ble_eq_true rfl, Nat.le_of_ble_eq_true rfl⟩) ⟨tw_Wb, va_recv hK hP (ci := 3) (q0 := 0) rfl rfl, tw_Wp (hP.sub (ws' := [((q 0), .inr (3, [.int fa, .int (nI nc), .ref (q 1), .int (nI nt), .ref (q 2), .ref (q 3), .ref (q 4), .ref (q 5), .int ea, .int (nI ra), .int (nI rs), .int (nI rt), .ref (q 6), .ref (q 7), .ref (q 8), .ref (q 9), .ref (q 10), .ref (q 11), .int (nI nr), .ref (q 12), .ref (q 13), .ref (q 14), .ref (q 15), .ref (q 16), .ref (q 17), .int tr]))]) [0] rfl) hK (hD.sub (ws' := [((q 0), .inr (3, [.int fa, .int (nI nc), .ref (q 1), .int (nI nt), .ref (q 2), .ref (q 3), .ref (q 4), .ref (q 5), .int ea, .int (nI ra), .int (nI rs), .int (nI rt), .ref (q 6), .ref (q 7), .ref (q 8), .ref (q 9), .ref (q 10), .ref (q 11), .int (nI nr), .ref (q 12), .ref (q 13), .ref (q 14), .ref (q 15), .ref (q 16), .ref (q 17), .int tr]))]) [0] (by decide) rfl)⟩ rfl rfl hl.1 rfl (lv_room (Nat.le_of_ble_eq_true rfl)) dX3_as_29 ⟨Nat.zero_le _, Nat.zero_le _⟩) hP hD hS hA [0] [1] [1, 0] rfl rfl (by decide) (by decide) rfl (by decide) (fun H locs hP hD hS => ?_)
      have hE : (m_X3_as nt kd v1 v2) = ((m_X3_refused (-2)).1, (m_X3_refused (-2)).2) := Eq.symm (by (unfold m_X3_as; rw [if_pos c_5]; rw [if_pos c_23]) <;> rfl)
      rw [hE]
      exact W.iret hx hb hr (fun t ht hW => ⟨⟨_, (), rfl, rfl, by rw [ht]; exact hP, va_K.moved hW.alike hK, hD⟩, hS.F ht⟩) hS.2.2 dX3_as_32
  · refine lv_aload_n hx hb dX3_as_8 rfl (lv_at hl 0 rfl) ?_
    refine lv_iconst (v := (-1)) hx hb dX3_as_9 (by decide) ?_
    refine tw_wi (v := (m_X3_refused (-1)).1) (ws := [((q 0), .inr (3, [.int fa, .int (nI nc), .ref (q 1), .int (nI nt), .ref (q 2), .ref (q 3), .ref (q 4), .ref (q 5), .int ea, .int (nI ra), .int (nI rs), .int (nI rt), .ref (q 6), .ref (q 7), .ref (q 8), .ref (q 9), .ref (q 10), .ref (q 11), .int (nI nr), .ref (q 12), .ref (q 13), .ref (q 14), .ref (q 15), .ref (q 16), .ref (q 17), .int tr])), ((q 2), .inl (cI, 6, .inl kd))]) (wc := [((q 0), .inr (3, [.int fa, .int (nI nc), .ref (q 1), .int (nI nt), .ref (q 2), .ref (q 3), .ref (q 4), .ref (q 5), .int ea, .int (nI ra), .int (nI rs), .int (nI rt), .ref (q 6), .ref (q 7), .ref (q 8), .ref (q 9), .ref (q 10), .ref (q 11), .int (nI nr), .ref (q 12), .ref (q 13), .ref (q 14), .ref (q 15), .ref (q 16), .ref (q 17), .int tr]))]) (wr := [((q 2), .inl (cI, 6, .inl kd))]) (w1 := [((q 0), .inr (3, [.int ((m_X3_refused (-1)).2), .int (nI nc), .ref (q 1), .int (nI nt), .ref (q 2), .ref (q 3), .ref (q 4), .ref (q 5), .int ea, .int (nI ra), .int (nI rs), .int (nI rt), .ref (q 6), .ref (q 7), .ref (q 8), .ref (q 9), .ref (q 10), .ref (q 11), .int (nI nr), .ref (q 12), .ref (q 13), .ref (q 14), .ref (q 15), .ref (q 16), .ref (q 17), .int tr]))]) (ws' := [((q 0), .inr (3, [.int ((m_X3_refused (-1)).2), .int (nI nc), .ref (q 1), .int (nI nt), .ref (q 2), .ref (q 3), .ref (q 4), .ref (q 5), .int ea, .int (nI ra), .int (nI rs), .int (nI rt), .ref (q 6), .ref (q 7), .ref (q 8), .ref (q 9), .ref (q 10), .ref (q 11), .int (nI nr), .ref (q 12), .ref (q 13), .ref (q 14), .ref (q 15), .ref (q 16), .ref (q 17), .int tr])), ((q 2), .inl (cI, 6, .inl kd))]) (va_runV (As := [.int (-1)]) (rest := []) ⟨hx, hb, hml, hown, hts⟩ (c_X3_refused l D cI cS q _ fa nc nt ea ra rs rt nr tr (-1)) (cwV 1 hts gX3_as_X3_refused rfl rfl rfl (by decide +kernel) ⟨Nat.le_of_ble_eq_true rfl, Nat.le_of_ble_eq_true rfl⟩) ⟨tw_Wb, va_recv hK hP (ci := 3) (q0 := 0) rfl rfl, tw_Wp (hP.sub (ws' := [((q 0), .inr (3, [.int fa, .int (nI nc), .ref (q 1), .int (nI nt), .ref (q 2), .ref (q 3), .ref (q 4), .ref (q 5), .int ea, .int (nI ra), .int (nI rs), .int (nI rt), .ref (q 6), .ref (q 7), .ref (q 8), .ref (q 9), .ref (q 10), .ref (q 11), .int (nI nr), .ref (q 12), .ref (q 13), .ref (q 14), .ref (q 15), .ref (q 16), .ref (q 17), .int tr]))]) [0] rfl) hK (hD.sub (ws' := [((q 0), .inr (3, [.int fa, .int (nI nc), .ref (q 1), .int (nI nt), .ref (q 2), .ref (q 3), .ref (q 4), .ref (q 5), .int ea, .int (nI ra), .int (nI rs), .int (nI rt), .ref (q 6), .ref (q 7), .ref (q 8), .ref (q 9), .ref (q 10), .ref (q 11), .int (nI nr), .ref (q 12), .ref (q 13), .ref (q 14), .ref (q 15), .ref (q 16), .ref (q 17), .int tr]))]) [0] (by decide) rfl)⟩ rfl rfl hl.1 rfl (lv_room (Nat.le_of_ble_eq_true rfl)) dX3_as_10 ⟨Nat.zero_le _, Nat.zero_le _⟩) hP hD hS hA [0] [1] [1, 0] rfl rfl (by decide) (by decide) rfl (by decide) (fun H locs hP hD hS => ?_)
    have hE : (m_X3_as nt kd v1 v2) = ((m_X3_refused (-1)).1, (m_X3_refused (-1)).2) := Eq.symm (by (unfold m_X3_as; rw [if_neg c_5]) <;> rfl)
    rw [hE]
    exact W.iret hx hb hr (fun t ht hW => ⟨⟨_, (), rfl, rfl, by rw [ht]; exact hP, va_K.moved hW.alike hK, hD⟩, hS.F ht⟩) hS.2.2 dX3_as_13

def m_X3_noCell (sz : Nat → Int32) (v1 : Int32) (v2 : Int32) : Int32 :=
  (if 0 ≤ (sz v1.toNatClampNeg) then (if (m_X3_in v2.toInt64 0 (((sz v1.toNatClampNeg).toInt64) - 1)) = 0 then 3 else 0) else 1)
set_option maxHeartbeats 4000000 in
set_option maxRecDepth 100000 in
theorem c_X3_noCell (l : Launch) (D : va_G) (cI cS : ClassId) (q : Nat → Nat) (fa : Int32) (nc : Nat) (nt : Nat) (ea : Int32) (ra : Nat) (rs : Nat) (rt : Nat) (nr : Nat) (sz : Nat → Int32) (tr : Int32) (v1 : Int32) (v2 : Int32) (h14 : vp_in v1 4) : Met l yX3_noCell wsX3_noCell ({ frames := 1, cells := 0, slots := 0, locals := 25 }) (tw_R D cI cS [.ref (q 0), .int v1, .int v2] [((q 0), .inr (3, [.int fa, .int (nI nc), .ref (q 1), .int (nI nt), .ref (q 2), .ref (q 3), .ref (q 4), .ref (q 5), .int ea, .int (nI ra), .int (nI rs), .int (nI rt), .ref (q 6), .ref (q 7), .ref (q 8), .ref (q 9), .ref (q 10), .ref (q 11), .int (nI nr), .ref (q 12), .ref (q 13), .ref (q 14), .ref (q 15), .ref (q 16), .ref (q 17), .int tr])), ((q 14), .inl (cI, 4, .inl sz))]) (vp_Si (fun r => r = (m_X3_noCell sz v1 v2))) 0 0 (fun _ => False) := by
  refine Met.ofW (cc := cX3_noCell) (maxL := 3) (ret := (some .int)) (by decide) rfl ?_
  intro p e s m args below meth c s₁ B hml hv
  obtain ⟨rfl, hP, hK⟩ := hv
  have hx := B.exec
  have hb := B.bytes
  have hr := B.returns
  have hts := atoms_spec (ws := wsX3_noCell) B.pre
  have hown : s.vm.findClass RX3 = some m.cls := findClass_of_methodNamed B.named
  have hlocks := B.notSynchronized
  have fl_49 := hts (.fieldLink RX3 49 "TableWarModel" "sheetSize" "[I") (by decide +kernel)
  have hin_X3 := (show ∀ w ∈ u_ws RX3 TX3 26, w ∈ wsX3_noCell from by decide +kernel)
  have hl := lv_entry ([.ref (q 0), .int v1, .int v2]) (n := 3) (Nat.le_of_ble_eq_true rfl)
  rw [lg_entry_eq]
  generalize (lg_sl ([.ref (q 0), .int v1, .int v2]) ++ List.replicate (3 - (lg_sl ([.ref (q 0), .int v1, .int v2])).length) Slot.unset).toArray = ls at hl ⊢
  have hl : lv_has ls 3 [(0, .ref (q 0)), (1, .int v1), (2, .int v2)] := hl
  refine lv_aload_n hx hb dX3_noCell_0 rfl (lv_at hl 0 rfl) ?_
  refine va_get (ci := 3) (v := .ref (q 14)) (C := RX3) (T := TX3) (N := 26) hx hb hts hin_X3 hown hK hP 0 rfl rfl 21 (by decide) fl_49 (fun _ h9 => h9) rfl dX3_noCell_1 ?_
  refine lv_iload_n hx hb dX3_noCell_4 rfl (lv_at hl 1 rfl) ?_
  refine va_iald hx hb hK hP 1 0 rfl rfl (by assumption) dX3_noCell_5 ?_
  refine tw_join (fun (y : Int32) => F0 m 36 ls (.int y :: [])) (if 0 ≤ (sz v1.toNatClampNeg) then (if (m_X3_in v2.toInt64 0 (((sz v1.toNatClampNeg).toInt64) - 1)) = 0 then 3 else 0) else 1) ?_ (fun J36_0 => ?_)
  · intro y36 hy36
    exact W.iret hx hb hr (fun t ht _ => ⟨_, rfl, (by (unfold m_X3_noCell; (try rw [← hy36])) <;> rfl), ht⟩) (fun _ h => nomatch h) dX3_noCell_36
  · refine lv_if_ge (tgt := 13) hx hb dX3_noCell_6 (by decide) (fun c_6 => ?_) (fun c_6 => ?_)
    · refine lv_iload_n hx hb dX3_noCell_13 rfl (lv_at hl 2 rfl) ?_
      refine lv_i2l (v := v2.toInt64) hx hb dX3_noCell_14 rfl ?_
      refine lv_lconst (v := 0) hx hb dX3_noCell_15 (by decide) ?_
      refine lv_aload_n hx hb dX3_noCell_16 rfl (lv_at hl 0 rfl) ?_
      refine va_get (ci := 3) (v := .ref (q 14)) (C := RX3) (T := TX3) (N := 26) hx hb hts hin_X3 hown hK hP 0 rfl rfl 21 (by decide) fl_49 (fun _ h9 => h9) rfl dX3_noCell_17 ?_
      refine lv_iload_n hx hb dX3_noCell_20 rfl (lv_at hl 1 rfl) ?_
      refine va_iald hx hb hK hP 1 0 rfl rfl (by assumption) dX3_noCell_21 ?_
      refine lv_i2l (v := (sz v1.toNatClampNeg).toInt64) hx hb dX3_noCell_22 rfl ?_
      refine lv_lconst (v := 1) hx hb dX3_noCell_23 (by decide) ?_
      refine lv_lsub hx hb dX3_noCell_24 ?_
      refine tw_cs (va_runS (As := [.long v2.toInt64, .long 0, .long (((sz v1.toNatClampNeg).toInt64) - 1)]) (rest := []) ⟨hx, hb, hml, hown, hts⟩ (c_X3_in l D cI cS v2.toInt64 0 (((sz v1.toNatClampNeg).toInt64) - 1)) (va_cwS 3 hts gX3_noCell_X3_in rfl rfl rfl (by decide +kernel) ⟨Nat.le_of_ble_eq_true rfl, Nat.le_of_ble_eq_true rfl⟩) ⟨tw_Rb, tw_Rp (hP.sub (ws' := []) [] rfl) hK⟩ rfl rfl hl.1 rfl (lv_room (Nat.le_of_ble_eq_true rfl)) dX3_noCell_25 ⟨Nat.zero_le _, Nat.zero_le _⟩) ?_
      refine lv_if_eq (tgt := 35) hx hb dX3_noCell_28 (by decide) (fun c_28 => ?_) (fun c_28 => ?_)
      · refine lv_iconst (v := 3) hx hb dX3_noCell_35 (by decide) ?_
        exact J36_0 _ (by (rw [if_pos c_6]; rw [if_pos c_28]) <;> rfl)
      · refine lv_iconst (v := 0) hx hb dX3_noCell_31 (by decide) ?_
        refine lv_goto (tgt := 36) hx hb dX3_noCell_32 (by decide) ?_
        exact J36_0 _ (by (rw [if_pos c_6]; rw [if_neg c_28]) <;> rfl)
    · refine lv_iconst (v := 1) hx hb dX3_noCell_9 (by decide) ?_
      refine lv_goto (tgt := 36) hx hb dX3_noCell_10 (by decide) ?_
      exact J36_0 _ (by (rw [if_neg c_6]) <;> rfl)

def m_X3_lose (sz : Nat → Int32) (v1 : Int32) : Int32 × (Nat → Int32) :=
  if (m_X3_noSheet v1) = 0 then
    ((if 0 ≤ (sz v1.toNatClampNeg) then 1 else 0), upd sz v1.toNatClampNeg (-1))
  else
    ((-1), sz)
set_option maxHeartbeats 4000000 in
set_option maxRecDepth 100000 in
theorem c_X3_lose (l : Launch) (D : va_G) (cI cS : ClassId) (q : Nat → Nat) (hz : Nat) (fa : Int32) (nc : Nat) (nt : Nat) (ea : Int32) (ra : Nat) (rs : Nat) (rt : Nat) (nr : Nat) (sz : Nat → Int32) (tr : Int32) (v1 : Int32)  : Met l yX3_lose wsX3_lose ({ frames := 2, cells := 0, slots := 0, locals := 45 }) (tw_W D cI cS [.ref (q 0), .int v1] hz [((q 0), .inr (3, [.int fa, .int (nI nc), .ref (q 1), .int (nI nt), .ref (q 2), .ref (q 3), .ref (q 4), .ref (q 5), .int ea, .int (nI ra), .int (nI rs), .int (nI rt), .ref (q 6), .ref (q 7), .ref (q 8), .ref (q 9), .ref (q 10), .ref (q 11), .int (nI nr), .ref (q 12), .ref (q 13), .ref (q 14), .ref (q 15), .ref (q 16), .ref (q 17), .int tr])), ((q 14), .inl (cI, 4, .inl sz))]) (va_Qi (fun r (_ : Unit) => r = (m_X3_lose sz v1).1) (tw_B D cI cS (va_A [((q 0), .inr (3, [.int fa, .int (nI nc), .ref (q 1), .int (nI nt), .ref (q 2), .ref (q 3), .ref (q 4), .ref (q 5), .int ea, .int (nI ra), .int (nI rs), .int (nI rt), .ref (q 6), .ref (q 7), .ref (q 8), .ref (q 9), .ref (q 10), .ref (q 11), .int (nI nr), .ref (q 12), .ref (q 13), .ref (q 14), .ref (q 15), .ref (q 16), .ref (q 17), .int tr])), ((q 14), .inl (cI, 4, .inl sz))] hz) [((q 0), .inr (3, [.int fa, .int (nI nc), .ref (q 1), .int (nI nt), .ref (q 2), .ref (q 3), .ref (q 4), .ref (q 5), .int ea, .int (nI ra), .int (nI rs), .int (nI rt), .ref (q 6), .ref (q 7), .ref (q 8), .ref (q 9), .ref (q 10), .ref (q 11), .int (nI nr), .ref (q 12), .ref (q 13), .ref (q 14), .ref (q 15), .ref (q 16), .ref (q 17), .int tr])), ((q 14), .inl (cI, 4, .inl ((m_X3_lose sz v1).2)))]) (va_A [((q 0), .inr (3, [.int fa, .int (nI nc), .ref (q 1), .int (nI nt), .ref (q 2), .ref (q 3), .ref (q 4), .ref (q 5), .int ea, .int (nI ra), .int (nI rs), .int (nI rt), .ref (q 6), .ref (q 7), .ref (q 8), .ref (q 9), .ref (q 10), .ref (q 11), .int (nI nr), .ref (q 12), .ref (q 13), .ref (q 14), .ref (q 15), .ref (q 16), .ref (q 17), .int tr])), ((q 14), .inl (cI, 4, .inl sz))] hz)) 0 0 (va_A [((q 0), .inr (3, [.int fa, .int (nI nc), .ref (q 1), .int (nI nt), .ref (q 2), .ref (q 3), .ref (q 4), .ref (q 5), .int ea, .int (nI ra), .int (nI rs), .int (nI rt), .ref (q 6), .ref (q 7), .ref (q 8), .ref (q 9), .ref (q 10), .ref (q 11), .int (nI nr), .ref (q 12), .ref (q 13), .ref (q 14), .ref (q 15), .ref (q 16), .ref (q 17), .int tr])), ((q 14), .inl (cI, 4, .inl sz))] hz) := by
  refine Met.ofW (cc := cX3_lose) (maxL := 3) (ret := (some .int)) (by decide) rfl ?_
  intro p e s m args below meth c s₁ B hml hv
  obtain ⟨rfl, hsz, hP, hK, hD0⟩ := hv
  have hx := B.exec
  have hb := B.bytes
  have hr := B.returns
  have hts := atoms_spec (ws := wsX3_lose) B.pre
  have hown : s.vm.findClass RX3 = some m.cls := findClass_of_methodNamed B.named
  have hlocks := B.notSynchronized
  subst hsz
  have hD := hD0.self (sz := s.heap.size)
  generalize hAe : va_A [((q 0), .inr (3, [.int fa, .int (nI nc), .ref (q 1), .int (nI nt), .ref (q 2), .ref (q 3), .ref (q 4), .ref (q 5), .int ea, .int (nI ra), .int (nI rs), .int (nI rt), .ref (q 6), .ref (q 7), .ref (q 8), .ref (q 9), .ref (q 10), .ref (q 11), .int (nI nr), .ref (q 12), .ref (q 13), .ref (q 14), .ref (q 15), .ref (q 16), .ref (q 17), .int tr])), ((q 14), .inl (cI, 4, .inl sz))] s.heap.size = A at hD ⊢
  have hA : ∀ q : Nat, s.heap.size ≤ q → A q := fun q h => by rw [← hAe]; exact Or.inr h
  have hS : va_S A s.heap s.heap [] := va_S.rf
  have fl_49 := hts (.fieldLink RX3 49 "TableWarModel" "sheetSize" "[I") (by decide +kernel)
  have hin_X3 := (show ∀ w ∈ u_ws RX3 TX3 26, w ∈ wsX3_lose from by decide +kernel)
  have hl := lv_entry ([.ref (q 0), .int v1]) (n := 3) (Nat.le_of_ble_eq_true rfl)
  rw [lg_entry_eq]
  generalize (lg_sl ([.ref (q 0), .int v1]) ++ List.replicate (3 - (lg_sl ([.ref (q 0), .int v1])).length) Slot.unset).toArray = ls at hl ⊢
  have hl : lv_has ls 3 [(0, .ref (q 0)), (1, .int v1)] := hl
  refine lv_iload_n hx hb dX3_lose_0 rfl (lv_at hl 1 rfl) ?_
  refine tw_cs (va_runS (As := [.int v1]) (rest := []) ⟨hx, hb, hml, hown, hts⟩ (c_X3_noSheet l D cI cS v1) (va_cwS 1 hts gX3_lose_X3_noSheet rfl rfl rfl (by decide +kernel) ⟨Nat.le_of_ble_eq_true rfl, Nat.le_of_ble_eq_true rfl⟩) ⟨tw_Rb, tw_Rp (hP.sub (ws' := []) [] rfl) hK⟩ rfl rfl hl.1 rfl (lv_room (Nat.le_of_ble_eq_true rfl)) dX3_lose_1 ⟨Nat.zero_le _, Nat.zero_le _⟩) ?_
  refine lv_if_eq (tgt := 9) hx hb dX3_lose_4 (by decide) (fun c_4 => ?_) (fun c_4 => ?_)
  · refine lv_aload_n hx hb dX3_lose_9 rfl (lv_at hl 0 rfl) ?_
    refine va_get (ci := 3) (v := .ref (q 14)) (C := RX3) (T := TX3) (N := 26) hx hb hts hin_X3 hown hK hP 0 rfl rfl 21 (by decide) fl_49 (fun _ h9 => h9) rfl dX3_lose_10 ?_
    refine lv_iload_n hx hb dX3_lose_13 rfl (lv_at hl 1 rfl) ?_
    refine va_iald hx hb hK hP 1 0 rfl rfl (noSheet_in c_4) dX3_lose_14 ?_
    refine tw_join (fun (y : Int32) => F0 m 23 ls (.int y :: [])) (if 0 ≤ (sz v1.toNatClampNeg) then 1 else 0) ?_ (fun J23_0 => ?_)
    · intro y23 hy23
      refine lv_istore_n (lv' := [(2, .int y23), (0, .ref (q 0)), (1, .int v1)]) hx hb dX3_lose_23 rfl hl (by decide) rfl (fun ls hl => ?_)
      refine lv_aload_n hx hb dX3_lose_24 rfl (lv_at hl 1 rfl) ?_
      refine va_get (ci := 3) (v := .ref (q 14)) (C := RX3) (T := TX3) (N := 26) hx hb hts hin_X3 hown hK hP 0 rfl rfl 21 (by decide) fl_49 (fun _ h9 => h9) rfl dX3_lose_25 ?_
      refine lv_iload_n hx hb dX3_lose_28 rfl (lv_at hl 2 rfl) ?_
      refine lv_iconst (v := (-1)) hx hb dX3_lose_29 (by decide) ?_
      refine va_iast hx hb hK hP hD hS 1 0 rfl rfl (noSheet_in c_4) dX3_lose_30 (fun H locs hP hD hS => ?_)
      have hP : va_P D vwCl [((q 0), .inr (3, [.int fa, .int (nI nc), .ref (q 1), .int (nI nt), .ref (q 2), .ref (q 3), .ref (q 4), .ref (q 5), .int ea, .int (nI ra), .int (nI rs), .int (nI rt), .ref (q 6), .ref (q 7), .ref (q 8), .ref (q 9), .ref (q 10), .ref (q 11), .int (nI nr), .ref (q 12), .ref (q 13), .ref (q 14), .ref (q 15), .ref (q 16), .ref (q 17), .int tr])), ((q 14), .inl (cI, 4, .inl (upd sz v1.toNatClampNeg (-1))))] H := hP
      have hD : va_D A [((q 0), .inr (3, [.int fa, .int (nI nc), .ref (q 1), .int (nI nt), .ref (q 2), .ref (q 3), .ref (q 4), .ref (q 5), .int ea, .int (nI ra), .int (nI rs), .int (nI rt), .ref (q 6), .ref (q 7), .ref (q 8), .ref (q 9), .ref (q 10), .ref (q 11), .int (nI nr), .ref (q 12), .ref (q 13), .ref (q 14), .ref (q 15), .ref (q 16), .ref (q 17), .int tr])), ((q 14), .inl (cI, 4, .inl (upd sz v1.toNatClampNeg (-1))))] := hD
      refine lv_iload_n hx hb dX3_lose_31 rfl (lv_at hl 0 rfl) ?_
      have hE : (m_X3_lose sz v1) = (y23, upd sz v1.toNatClampNeg (-1)) := Eq.symm (by (unfold m_X3_lose; rw [if_pos c_4]; (try rw [← hy23])) <;> rfl)
      rw [hE]
      exact W.iret hx hb hr (fun t ht hW => ⟨⟨_, (), rfl, rfl, by rw [ht]; exact hP, va_K.moved hW.alike hK, hD⟩, hS.F ht⟩) hS.2.2 dX3_lose_32
    · refine lv_if_ge (tgt := 22) hx hb dX3_lose_15 (by decide) (fun c_15 => ?_) (fun c_15 => ?_)
      · refine lv_iconst (v := 1) hx hb dX3_lose_22 (by decide) ?_
        exact J23_0 _ (by (rw [if_pos c_15]) <;> rfl)
      · refine lv_iconst (v := 0) hx hb dX3_lose_18 (by decide) ?_
        refine lv_goto (tgt := 23) hx hb dX3_lose_19 (by decide) ?_
        exact J23_0 _ (by (rw [if_neg c_15]) <;> rfl)
  · refine lv_iconst (v := (-1)) hx hb dX3_lose_7 (by decide) ?_
    have hE : (m_X3_lose sz v1) = ((-1), sz) := Eq.symm (by (unfold m_X3_lose; rw [if_neg c_4]) <;> rfl)
    rw [hE]
    exact W.iret hx hb hr (fun t ht hW => ⟨⟨_, (), rfl, rfl, by rw [ht]; exact hP, va_K.moved hW.alike hK, hD⟩, hS.F ht⟩) hS.2.2 dX3_lose_8

def m_X3_cellsBarred (fa : Int32) (sz : Nat → Int32) (la : Nat → Int32) (v1 : Int32) (v2 : Int32) (v3 : Int32) (v4 : Int64) : Int32 × Int32 :=
  if (sz v1.toNatClampNeg) < 0 then
    if 0 ≤ (sz v1.toNatClampNeg) then
      if 0 ≤ (lg_cmp v4 0) then
        if (m_X3_isBeyond v3 v4 (sz v1.toNatClampNeg)) = 0 then
          (0, fa)
        else
          ((m_X3_failed 3).1, (m_X3_failed 3).2)
      else
        ((m_X3_failed 4).1, (m_X3_failed 4).2)
    else
      ((m_X3_failed 1).1, (m_X3_failed 1).2)
  else
    if (la v1.toNatClampNeg) = v2 then
      if 0 ≤ (sz v1.toNatClampNeg) then
        if 0 ≤ (lg_cmp v4 0) then
          if (m_X3_isBeyond v3 v4 (sz v1.toNatClampNeg)) = 0 then
            (0, fa)
          else
            ((m_X3_failed 3).1, (m_X3_failed 3).2)
        else
          ((m_X3_failed 4).1, (m_X3_failed 4).2)
      else
        ((m_X3_failed 1).1, (m_X3_failed 1).2)
    else
      ((m_X3_failed 2).1, (m_X3_failed 2).2)
set_option maxHeartbeats 4000000 in
set_option maxRecDepth 100000 in
theorem c_X3_cellsBarred (l : Launch) (D : va_G) (cI cS : ClassId) (q : Nat → Nat) (hz : Nat) (fa : Int32) (nc : Nat) (nt : Nat) (ea : Int32) (ra : Nat) (rs : Nat) (rt : Nat) (nr : Nat) (sz : Nat → Int32) (la : Nat → Int32) (tr : Int32) (v1 : Int32) (v2 : Int32) (v3 : Int32) (v4 : Int64) (h14 : vp_in v1 4) : Met l yX3_cellsBarred wsX3_cellsBarred ({ frames := 1, cells := 0, slots := 0, locals := 23 }) (tw_W D cI cS [.ref (q 0), .int v1, .int v2, .int v3, .long v4] hz [((q 0), .inr (3, [.int fa, .int (nI nc), .ref (q 1), .int (nI nt), .ref (q 2), .ref (q 3), .ref (q 4), .ref (q 5), .int ea, .int (nI ra), .int (nI rs), .int (nI rt), .ref (q 6), .ref (q 7), .ref (q 8), .ref (q 9), .ref (q 10), .ref (q 11), .int (nI nr), .ref (q 12), .ref (q 13), .ref (q 14), .ref (q 15), .ref (q 16), .ref (q 17), .int tr])), ((q 14), .inl (cI, 4, .inl sz)), ((q 15), .inl (cI, 4, .inl la))]) (va_Qi (fun r (_ : Unit) => r = (m_X3_cellsBarred fa sz la v1 v2 v3 v4).1) (tw_B D cI cS (va_A [((q 0), .inr (3, [.int fa, .int (nI nc), .ref (q 1), .int (nI nt), .ref (q 2), .ref (q 3), .ref (q 4), .ref (q 5), .int ea, .int (nI ra), .int (nI rs), .int (nI rt), .ref (q 6), .ref (q 7), .ref (q 8), .ref (q 9), .ref (q 10), .ref (q 11), .int (nI nr), .ref (q 12), .ref (q 13), .ref (q 14), .ref (q 15), .ref (q 16), .ref (q 17), .int tr])), ((q 14), .inl (cI, 4, .inl sz)), ((q 15), .inl (cI, 4, .inl la))] hz) [((q 0), .inr (3, [.int ((m_X3_cellsBarred fa sz la v1 v2 v3 v4).2), .int (nI nc), .ref (q 1), .int (nI nt), .ref (q 2), .ref (q 3), .ref (q 4), .ref (q 5), .int ea, .int (nI ra), .int (nI rs), .int (nI rt), .ref (q 6), .ref (q 7), .ref (q 8), .ref (q 9), .ref (q 10), .ref (q 11), .int (nI nr), .ref (q 12), .ref (q 13), .ref (q 14), .ref (q 15), .ref (q 16), .ref (q 17), .int tr])), ((q 14), .inl (cI, 4, .inl sz)), ((q 15), .inl (cI, 4, .inl la))]) (va_A [((q 0), .inr (3, [.int fa, .int (nI nc), .ref (q 1), .int (nI nt), .ref (q 2), .ref (q 3), .ref (q 4), .ref (q 5), .int ea, .int (nI ra), .int (nI rs), .int (nI rt), .ref (q 6), .ref (q 7), .ref (q 8), .ref (q 9), .ref (q 10), .ref (q 11), .int (nI nr), .ref (q 12), .ref (q 13), .ref (q 14), .ref (q 15), .ref (q 16), .ref (q 17), .int tr])), ((q 14), .inl (cI, 4, .inl sz)), ((q 15), .inl (cI, 4, .inl la))] hz)) 0 0 (va_A [((q 0), .inr (3, [.int fa, .int (nI nc), .ref (q 1), .int (nI nt), .ref (q 2), .ref (q 3), .ref (q 4), .ref (q 5), .int ea, .int (nI ra), .int (nI rs), .int (nI rt), .ref (q 6), .ref (q 7), .ref (q 8), .ref (q 9), .ref (q 10), .ref (q 11), .int (nI nr), .ref (q 12), .ref (q 13), .ref (q 14), .ref (q 15), .ref (q 16), .ref (q 17), .int tr])), ((q 14), .inl (cI, 4, .inl sz)), ((q 15), .inl (cI, 4, .inl la))] hz) := by
  refine Met.ofW (cc := cX3_cellsBarred) (maxL := 6) (ret := (some .int)) (by decide) rfl ?_
  intro p e s m args below meth c s₁ B hml hv
  obtain ⟨rfl, hsz, hP, hK, hD0⟩ := hv
  have hx := B.exec
  have hb := B.bytes
  have hr := B.returns
  have hts := atoms_spec (ws := wsX3_cellsBarred) B.pre
  have hown : s.vm.findClass RX3 = some m.cls := findClass_of_methodNamed B.named
  have hlocks := B.notSynchronized
  subst hsz
  have hD := hD0.self (sz := s.heap.size)
  generalize hAe : va_A [((q 0), .inr (3, [.int fa, .int (nI nc), .ref (q 1), .int (nI nt), .ref (q 2), .ref (q 3), .ref (q 4), .ref (q 5), .int ea, .int (nI ra), .int (nI rs), .int (nI rt), .ref (q 6), .ref (q 7), .ref (q 8), .ref (q 9), .ref (q 10), .ref (q 11), .int (nI nr), .ref (q 12), .ref (q 13), .ref (q 14), .ref (q 15), .ref (q 16), .ref (q 17), .int tr])), ((q 14), .inl (cI, 4, .inl sz)), ((q 15), .inl (cI, 4, .inl la))] s.heap.size = A at hD ⊢
  have hA : ∀ q : Nat, s.heap.size ≤ q → A q := fun q h => by rw [← hAe]; exact Or.inr h
  have hS : va_S A s.heap s.heap [] := va_S.rf
  have fl_49 := hts (.fieldLink RX3 49 "TableWarModel" "sheetSize" "[I") (by decide +kernel)
  have hin_X3 := (show ∀ w ∈ u_ws RX3 TX3 26, w ∈ wsX3_cellsBarred from by decide +kernel)
  have fl_52 := hts (.fieldLink RX3 52 "TableWarModel" "sheetLane" "[I") (by decide +kernel)
  have hl := lv_entry ([.ref (q 0), .int v1, .int v2, .int v3, .long v4]) (n := 6) (Nat.le_of_ble_eq_true rfl)
  rw [lg_entry_eq]
  generalize (lg_sl ([.ref (q 0), .int v1, .int v2, .int v3, .long v4]) ++ List.replicate (6 - (lg_sl ([.ref (q 0), .int v1, .int v2, .int v3, .long v4])).length) Slot.unset).toArray = ls at hl ⊢
  have hl : lv_has ls 6 [(0, .ref (q 0)), (1, .int v1), (2, .int v2), (3, .int v3), (4, .long v4)] := hl
  refine lv_aload_n hx hb dX3_cellsBarred_0 rfl (lv_at hl 0 rfl) ?_
  refine va_get (ci := 3) (v := .ref (q 14)) (C := RX3) (T := TX3) (N := 26) hx hb hts hin_X3 hown hK hP 0 rfl rfl 21 (by decide) fl_49 (fun _ h9 => h9) rfl dX3_cellsBarred_1 ?_
  refine lv_iload_n hx hb dX3_cellsBarred_4 rfl (lv_at hl 1 rfl) ?_
  refine va_iald hx hb hK hP 1 0 rfl rfl (by assumption) dX3_cellsBarred_5 ?_
  refine lv_if_lt (tgt := 25) hx hb dX3_cellsBarred_6 (by decide) (fun c_6 => ?_) (fun c_6 => ?_)
  · refine lv_aload_n hx hb dX3_cellsBarred_25 rfl (lv_at hl 0 rfl) ?_
    refine va_get (ci := 3) (v := .ref (q 14)) (C := RX3) (T := TX3) (N := 26) hx hb hts hin_X3 hown hK hP 0 rfl rfl 21 (by decide) fl_49 (fun _ h9 => h9) rfl dX3_cellsBarred_26 ?_
    refine lv_iload_n hx hb dX3_cellsBarred_29 rfl (lv_at hl 1 rfl) ?_
    refine va_iald hx hb hK hP 1 0 rfl rfl (by assumption) dX3_cellsBarred_30 ?_
    refine lv_if_ge (tgt := 40) hx hb dX3_cellsBarred_31 (by decide) (fun c_31 => ?_) (fun c_31 => ?_)
    · refine lv_lload hx hb dX3_cellsBarred_40 (lv_at hl 4 rfl) ?_
      refine lv_lconst (v := 0) hx hb dX3_cellsBarred_42 (by decide) ?_
      refine W.lcmp hx hb dX3_cellsBarred_43 ?_
      refine lv_if_ge (tgt := 53) hx hb dX3_cellsBarred_44 (by decide) (fun c_44 => ?_) (fun c_44 => ?_)
      · refine lv_iload_n hx hb dX3_cellsBarred_53 rfl (lv_at hl 3 rfl) ?_
        refine lv_lload hx hb dX3_cellsBarred_54 (lv_at hl 4 rfl) ?_
        refine lv_aload_n hx hb dX3_cellsBarred_56 rfl (lv_at hl 0 rfl) ?_
        refine va_get (ci := 3) (v := .ref (q 14)) (C := RX3) (T := TX3) (N := 26) hx hb hts hin_X3 hown hK hP 0 rfl rfl 21 (by decide) fl_49 (fun _ h9 => h9) rfl dX3_cellsBarred_57 ?_
        refine lv_iload_n hx hb dX3_cellsBarred_60 rfl (lv_at hl 1 rfl) ?_
        refine va_iald hx hb hK hP 1 0 rfl rfl (by assumption) dX3_cellsBarred_61 ?_
        refine tw_cs (va_runS (As := [.int v3, .long v4, .int (sz v1.toNatClampNeg)]) (rest := []) ⟨hx, hb, hml, hown, hts⟩ (c_X3_isBeyond l D cI cS v3 v4 (sz v1.toNatClampNeg)) (va_cwS 3 hts gX3_cellsBarred_X3_isBeyond rfl rfl rfl (by decide +kernel) ⟨Nat.le_of_ble_eq_true rfl, Nat.le_of_ble_eq_true rfl⟩) ⟨tw_Rb, tw_Rp (hP.sub (ws' := []) [] rfl) hK⟩ rfl rfl hl.1 rfl (lv_room (Nat.le_of_ble_eq_true rfl)) dX3_cellsBarred_62 ⟨Nat.zero_le _, Nat.zero_le _⟩) ?_
        refine lv_if_eq (tgt := 76) hx hb dX3_cellsBarred_65 (by decide) (fun c_65 => ?_) (fun c_65 => ?_)
        · refine lv_iconst (v := 0) hx hb dX3_cellsBarred_76 (by decide) ?_
          have hE : (m_X3_cellsBarred fa sz la v1 v2 v3 v4) = (0, fa) := Eq.symm (by (unfold m_X3_cellsBarred; rw [if_pos c_6]; rw [if_pos c_31]; rw [if_pos c_44]; rw [if_pos c_65]) <;> rfl)
          rw [hE]
          exact W.iret hx hb hr (fun t ht hW => ⟨⟨_, (), rfl, rfl, by rw [ht]; exact hP, va_K.moved hW.alike hK, hD⟩, hS.F ht⟩) hS.2.2 dX3_cellsBarred_77
        · refine lv_aload_n hx hb dX3_cellsBarred_68 rfl (lv_at hl 0 rfl) ?_
          refine lv_iconst (v := 3) hx hb dX3_cellsBarred_69 (by decide) ?_
          refine tw_wi (v := (m_X3_failed 3).1) (ws := [((q 0), .inr (3, [.int fa, .int (nI nc), .ref (q 1), .int (nI nt), .ref (q 2), .ref (q 3), .ref (q 4), .ref (q 5), .int ea, .int (nI ra), .int (nI rs), .int (nI rt), .ref (q 6), .ref (q 7), .ref (q 8), .ref (q 9), .ref (q 10), .ref (q 11), .int (nI nr), .ref (q 12), .ref (q 13), .ref (q 14), .ref (q 15), .ref (q 16), .ref (q 17), .int tr])), ((q 14), .inl (cI, 4, .inl sz)), ((q 15), .inl (cI, 4, .inl la))]) (wc := [((q 0), .inr (3, [.int fa, .int (nI nc), .ref (q 1), .int (nI nt), .ref (q 2), .ref (q 3), .ref (q 4), .ref (q 5), .int ea, .int (nI ra), .int (nI rs), .int (nI rt), .ref (q 6), .ref (q 7), .ref (q 8), .ref (q 9), .ref (q 10), .ref (q 11), .int (nI nr), .ref (q 12), .ref (q 13), .ref (q 14), .ref (q 15), .ref (q 16), .ref (q 17), .int tr]))]) (wr := [((q 14), .inl (cI, 4, .inl sz)), ((q 15), .inl (cI, 4, .inl la))]) (w1 := [((q 0), .inr (3, [.int ((m_X3_failed 3).2), .int (nI nc), .ref (q 1), .int (nI nt), .ref (q 2), .ref (q 3), .ref (q 4), .ref (q 5), .int ea, .int (nI ra), .int (nI rs), .int (nI rt), .ref (q 6), .ref (q 7), .ref (q 8), .ref (q 9), .ref (q 10), .ref (q 11), .int (nI nr), .ref (q 12), .ref (q 13), .ref (q 14), .ref (q 15), .ref (q 16), .ref (q 17), .int tr]))]) (ws' := [((q 0), .inr (3, [.int ((m_X3_failed 3).2), .int (nI nc), .ref (q 1), .int (nI nt), .ref (q 2), .ref (q 3), .ref (q 4), .ref (q 5), .int ea, .int (nI ra), .int (nI rs), .int (nI rt), .ref (q 6), .ref (q 7), .ref (q 8), .ref (q 9), .ref (q 10), .ref (q 11), .int (nI nr), .ref (q 12), .ref (q 13), .ref (q 14), .ref (q 15), .ref (q 16), .ref (q 17), .int tr])), ((q 14), .inl (cI, 4, .inl sz)), ((q 15), .inl (cI, 4, .inl la))]) (va_runV (As := [.int 3]) (rest := []) ⟨hx, hb, hml, hown, hts⟩ (c_X3_failed l D cI cS q _ fa nc nt ea ra rs rt nr tr 3) (cwV 1 hts gX3_cellsBarred_X3_failed rfl rfl rfl (by decide +kernel) ⟨Nat.le_of_ble_eq_true rfl, Nat.le_of_ble_eq_true rfl⟩) ⟨tw_Wb, va_recv hK hP (ci := 3) (q0 := 0) rfl rfl, tw_Wp (hP.sub (ws' := [((q 0), .inr (3, [.int fa, .int (nI nc), .ref (q 1), .int (nI nt), .ref (q 2), .ref (q 3), .ref (q 4), .ref (q 5), .int ea, .int (nI ra), .int (nI rs), .int (nI rt), .ref (q 6), .ref (q 7), .ref (q 8), .ref (q 9), .ref (q 10), .ref (q 11), .int (nI nr), .ref (q 12), .ref (q 13), .ref (q 14), .ref (q 15), .ref (q 16), .ref (q 17), .int tr]))]) [0] rfl) hK (hD.sub (ws' := [((q 0), .inr (3, [.int fa, .int (nI nc), .ref (q 1), .int (nI nt), .ref (q 2), .ref (q 3), .ref (q 4), .ref (q 5), .int ea, .int (nI ra), .int (nI rs), .int (nI rt), .ref (q 6), .ref (q 7), .ref (q 8), .ref (q 9), .ref (q 10), .ref (q 11), .int (nI nr), .ref (q 12), .ref (q 13), .ref (q 14), .ref (q 15), .ref (q 16), .ref (q 17), .int tr]))]) [0] (by decide) rfl)⟩ rfl rfl hl.1 rfl (lv_room (Nat.le_of_ble_eq_true rfl)) dX3_cellsBarred_70 ⟨Nat.zero_le _, Nat.zero_le _⟩) hP hD hS hA [0] [1, 2] [2, 0, 1] rfl rfl (by decide) (by decide) rfl (by decide) (fun H locs hP hD hS => ?_)
          refine lv_goto (tgt := 77) hx hb dX3_cellsBarred_73 (by decide) ?_
          have hE : (m_X3_cellsBarred fa sz la v1 v2 v3 v4) = ((m_X3_failed 3).1, (m_X3_failed 3).2) := Eq.symm (by (unfold m_X3_cellsBarred; rw [if_pos c_6]; rw [if_pos c_31]; rw [if_pos c_44]; rw [if_neg c_65]) <;> rfl)
          rw [hE]
          exact W.iret hx hb hr (fun t ht hW => ⟨⟨_, (), rfl, rfl, by rw [ht]; exact hP, va_K.moved hW.alike hK, hD⟩, hS.F ht⟩) hS.2.2 dX3_cellsBarred_77
      · refine lv_aload_n hx hb dX3_cellsBarred_47 rfl (lv_at hl 0 rfl) ?_
        refine lv_iconst (v := 4) hx hb dX3_cellsBarred_48 (by decide) ?_
        refine tw_wi (v := (m_X3_failed 4).1) (ws := [((q 0), .inr (3, [.int fa, .int (nI nc), .ref (q 1), .int (nI nt), .ref (q 2), .ref (q 3), .ref (q 4), .ref (q 5), .int ea, .int (nI ra), .int (nI rs), .int (nI rt), .ref (q 6), .ref (q 7), .ref (q 8), .ref (q 9), .ref (q 10), .ref (q 11), .int (nI nr), .ref (q 12), .ref (q 13), .ref (q 14), .ref (q 15), .ref (q 16), .ref (q 17), .int tr])), ((q 14), .inl (cI, 4, .inl sz)), ((q 15), .inl (cI, 4, .inl la))]) (wc := [((q 0), .inr (3, [.int fa, .int (nI nc), .ref (q 1), .int (nI nt), .ref (q 2), .ref (q 3), .ref (q 4), .ref (q 5), .int ea, .int (nI ra), .int (nI rs), .int (nI rt), .ref (q 6), .ref (q 7), .ref (q 8), .ref (q 9), .ref (q 10), .ref (q 11), .int (nI nr), .ref (q 12), .ref (q 13), .ref (q 14), .ref (q 15), .ref (q 16), .ref (q 17), .int tr]))]) (wr := [((q 14), .inl (cI, 4, .inl sz)), ((q 15), .inl (cI, 4, .inl la))]) (w1 := [((q 0), .inr (3, [.int ((m_X3_failed 4).2), .int (nI nc), .ref (q 1), .int (nI nt), .ref (q 2), .ref (q 3), .ref (q 4), .ref (q 5), .int ea, .int (nI ra), .int (nI rs), .int (nI rt), .ref (q 6), .ref (q 7), .ref (q 8), .ref (q 9), .ref (q 10), .ref (q 11), .int (nI nr), .ref (q 12), .ref (q 13), .ref (q 14), .ref (q 15), .ref (q 16), .ref (q 17), .int tr]))]) (ws' := [((q 0), .inr (3, [.int ((m_X3_failed 4).2), .int (nI nc), .ref (q 1), .int (nI nt), .ref (q 2), .ref (q 3), .ref (q 4), .ref (q 5), .int ea, .int (nI ra), .int (nI rs), .int (nI rt), .ref (q 6), .ref (q 7), .ref (q 8), .ref (q 9), .ref (q 10), .ref (q 11), .int (nI nr), .ref (q 12), .ref (q 13), .ref (q 14), .ref (q 15), .ref (q 16), .ref (q 17), .int tr])), ((q 14), .inl (cI, 4, .inl sz)), ((q 15), .inl (cI, 4, .inl la))]) (va_runV (As := [.int 4]) (rest := []) ⟨hx, hb, hml, hown, hts⟩ (c_X3_failed l D cI cS q _ fa nc nt ea ra rs rt nr tr 4) (cwV 1 hts gX3_cellsBarred_X3_failed rfl rfl rfl (by decide +kernel) ⟨Nat.le_of_ble_eq_true rfl, Nat.le_of_ble_eq_true rfl⟩) ⟨tw_Wb, va_recv hK hP (ci := 3) (q0 := 0) rfl rfl, tw_Wp (hP.sub (ws' := [((q 0), .inr (3, [.int fa, .int (nI nc), .ref (q 1), .int (nI nt), .ref (q 2), .ref (q 3), .ref (q 4), .ref (q 5), .int ea, .int (nI ra), .int (nI rs), .int (nI rt), .ref (q 6), .ref (q 7), .ref (q 8), .ref (q 9), .ref (q 10), .ref (q 11), .int (nI nr), .ref (q 12), .ref (q 13), .ref (q 14), .ref (q 15), .ref (q 16), .ref (q 17), .int tr]))]) [0] rfl) hK (hD.sub (ws' := [((q 0), .inr (3, [.int fa, .int (nI nc), .ref (q 1), .int (nI nt), .ref (q 2), .ref (q 3), .ref (q 4), .ref (q 5), .int ea, .int (nI ra), .int (nI rs), .int (nI rt), .ref (q 6), .ref (q 7), .ref (q 8), .ref (q 9), .ref (q 10), .ref (q 11), .int (nI nr), .ref (q 12), .ref (q 13), .ref (q 14), .ref (q 15), .ref (q 16), .ref (q 17), .int tr]))]) [0] (by decide) rfl)⟩ rfl rfl hl.1 rfl (lv_room (Nat.le_of_ble_eq_true rfl)) dX3_cellsBarred_49 ⟨Nat.zero_le _, Nat.zero_le _⟩) hP hD hS hA [0] [1, 2] [2, 0, 1] rfl rfl (by decide) (by decide) rfl (by decide) (fun H locs hP hD hS => ?_)
        have hE : (m_X3_cellsBarred fa sz la v1 v2 v3 v4) = ((m_X3_failed 4).1, (m_X3_failed 4).2) := Eq.symm (by (unfold m_X3_cellsBarred; rw [if_pos c_6]; rw [if_pos c_31]; rw [if_neg c_44]) <;> rfl)
        rw [hE]
        exact W.iret hx hb hr (fun t ht hW => ⟨⟨_, (), rfl, rfl, by rw [ht]; exact hP, va_K.moved hW.alike hK, hD⟩, hS.F ht⟩) hS.2.2 dX3_cellsBarred_52
    · refine lv_aload_n hx hb dX3_cellsBarred_34 rfl (lv_at hl 0 rfl) ?_
      refine lv_iconst (v := 1) hx hb dX3_cellsBarred_35 (by decide) ?_
      refine tw_wi (v := (m_X3_failed 1).1) (ws := [((q 0), .inr (3, [.int fa, .int (nI nc), .ref (q 1), .int (nI nt), .ref (q 2), .ref (q 3), .ref (q 4), .ref (q 5), .int ea, .int (nI ra), .int (nI rs), .int (nI rt), .ref (q 6), .ref (q 7), .ref (q 8), .ref (q 9), .ref (q 10), .ref (q 11), .int (nI nr), .ref (q 12), .ref (q 13), .ref (q 14), .ref (q 15), .ref (q 16), .ref (q 17), .int tr])), ((q 14), .inl (cI, 4, .inl sz)), ((q 15), .inl (cI, 4, .inl la))]) (wc := [((q 0), .inr (3, [.int fa, .int (nI nc), .ref (q 1), .int (nI nt), .ref (q 2), .ref (q 3), .ref (q 4), .ref (q 5), .int ea, .int (nI ra), .int (nI rs), .int (nI rt), .ref (q 6), .ref (q 7), .ref (q 8), .ref (q 9), .ref (q 10), .ref (q 11), .int (nI nr), .ref (q 12), .ref (q 13), .ref (q 14), .ref (q 15), .ref (q 16), .ref (q 17), .int tr]))]) (wr := [((q 14), .inl (cI, 4, .inl sz)), ((q 15), .inl (cI, 4, .inl la))]) (w1 := [((q 0), .inr (3, [.int ((m_X3_failed 1).2), .int (nI nc), .ref (q 1), .int (nI nt), .ref (q 2), .ref (q 3), .ref (q 4), .ref (q 5), .int ea, .int (nI ra), .int (nI rs), .int (nI rt), .ref (q 6), .ref (q 7), .ref (q 8), .ref (q 9), .ref (q 10), .ref (q 11), .int (nI nr), .ref (q 12), .ref (q 13), .ref (q 14), .ref (q 15), .ref (q 16), .ref (q 17), .int tr]))]) (ws' := [((q 0), .inr (3, [.int ((m_X3_failed 1).2), .int (nI nc), .ref (q 1), .int (nI nt), .ref (q 2), .ref (q 3), .ref (q 4), .ref (q 5), .int ea, .int (nI ra), .int (nI rs), .int (nI rt), .ref (q 6), .ref (q 7), .ref (q 8), .ref (q 9), .ref (q 10), .ref (q 11), .int (nI nr), .ref (q 12), .ref (q 13), .ref (q 14), .ref (q 15), .ref (q 16), .ref (q 17), .int tr])), ((q 14), .inl (cI, 4, .inl sz)), ((q 15), .inl (cI, 4, .inl la))]) (va_runV (As := [.int 1]) (rest := []) ⟨hx, hb, hml, hown, hts⟩ (c_X3_failed l D cI cS q _ fa nc nt ea ra rs rt nr tr 1) (cwV 1 hts gX3_cellsBarred_X3_failed rfl rfl rfl (by decide +kernel) ⟨Nat.le_of_ble_eq_true rfl, Nat.le_of_ble_eq_true rfl⟩) ⟨tw_Wb, va_recv hK hP (ci := 3) (q0 := 0) rfl rfl, tw_Wp (hP.sub (ws' := [((q 0), .inr (3, [.int fa, .int (nI nc), .ref (q 1), .int (nI nt), .ref (q 2), .ref (q 3), .ref (q 4), .ref (q 5), .int ea, .int (nI ra), .int (nI rs), .int (nI rt), .ref (q 6), .ref (q 7), .ref (q 8), .ref (q 9), .ref (q 10), .ref (q 11), .int (nI nr), .ref (q 12), .ref (q 13), .ref (q 14), .ref (q 15), .ref (q 16), .ref (q 17), .int tr]))]) [0] rfl) hK (hD.sub (ws' := [((q 0), .inr (3, [.int fa, .int (nI nc), .ref (q 1), .int (nI nt), .ref (q 2), .ref (q 3), .ref (q 4), .ref (q 5), .int ea, .int (nI ra), .int (nI rs), .int (nI rt), .ref (q 6), .ref (q 7), .ref (q 8), .ref (q 9), .ref (q 10), .ref (q 11), .int (nI nr), .ref (q 12), .ref (q 13), .ref (q 14), .ref (q 15), .ref (q 16), .ref (q 17), .int tr]))]) [0] (by decide) rfl)⟩ rfl rfl hl.1 rfl (lv_room (Nat.le_of_ble_eq_true rfl)) dX3_cellsBarred_36 ⟨Nat.zero_le _, Nat.zero_le _⟩) hP hD hS hA [0] [1, 2] [2, 0, 1] rfl rfl (by decide) (by decide) rfl (by decide) (fun H locs hP hD hS => ?_)
      have hE : (m_X3_cellsBarred fa sz la v1 v2 v3 v4) = ((m_X3_failed 1).1, (m_X3_failed 1).2) := Eq.symm (by (unfold m_X3_cellsBarred; rw [if_pos c_6]; rw [if_neg c_31]) <;> rfl)
      rw [hE]
      exact W.iret hx hb hr (fun t ht hW => ⟨⟨_, (), rfl, rfl, by rw [ht]; exact hP, va_K.moved hW.alike hK, hD⟩, hS.F ht⟩) hS.2.2 dX3_cellsBarred_39
  · refine lv_aload_n hx hb dX3_cellsBarred_9 rfl (lv_at hl 0 rfl) ?_
    refine va_get (ci := 3) (v := .ref (q 15)) (C := RX3) (T := TX3) (N := 26) hx hb hts hin_X3 hown hK hP 0 rfl rfl 22 (by decide) fl_52 (fun _ h9 => h9) rfl dX3_cellsBarred_10 ?_
    refine lv_iload_n hx hb dX3_cellsBarred_13 rfl (lv_at hl 1 rfl) ?_
    refine va_iald hx hb hK hP 2 0 rfl rfl (by assumption) dX3_cellsBarred_14 ?_
    refine lv_iload_n hx hb dX3_cellsBarred_15 rfl (lv_at hl 2 rfl) ?_
    refine lv_icmp_eq (tgt := 25) hx hb dX3_cellsBarred_16 (by decide) (fun c_16 => ?_) (fun c_16 => ?_)
    · refine lv_aload_n hx hb dX3_cellsBarred_25 rfl (lv_at hl 0 rfl) ?_
      refine va_get (ci := 3) (v := .ref (q 14)) (C := RX3) (T := TX3) (N := 26) hx hb hts hin_X3 hown hK hP 0 rfl rfl 21 (by decide) fl_49 (fun _ h9 => h9) rfl dX3_cellsBarred_26 ?_
      refine lv_iload_n hx hb dX3_cellsBarred_29 rfl (lv_at hl 1 rfl) ?_
      refine va_iald hx hb hK hP 1 0 rfl rfl (by assumption) dX3_cellsBarred_30 ?_
      refine lv_if_ge (tgt := 40) hx hb dX3_cellsBarred_31 (by decide) (fun c_31 => ?_) (fun c_31 => ?_)
      · refine lv_lload hx hb dX3_cellsBarred_40 (lv_at hl 4 rfl) ?_
        refine lv_lconst (v := 0) hx hb dX3_cellsBarred_42 (by decide) ?_
        refine W.lcmp hx hb dX3_cellsBarred_43 ?_
        refine lv_if_ge (tgt := 53) hx hb dX3_cellsBarred_44 (by decide) (fun c_44 => ?_) (fun c_44 => ?_)
        · refine lv_iload_n hx hb dX3_cellsBarred_53 rfl (lv_at hl 3 rfl) ?_
          refine lv_lload hx hb dX3_cellsBarred_54 (lv_at hl 4 rfl) ?_
          refine lv_aload_n hx hb dX3_cellsBarred_56 rfl (lv_at hl 0 rfl) ?_
          refine va_get (ci := 3) (v := .ref (q 14)) (C := RX3) (T := TX3) (N := 26) hx hb hts hin_X3 hown hK hP 0 rfl rfl 21 (by decide) fl_49 (fun _ h9 => h9) rfl dX3_cellsBarred_57 ?_
          refine lv_iload_n hx hb dX3_cellsBarred_60 rfl (lv_at hl 1 rfl) ?_
          refine va_iald hx hb hK hP 1 0 rfl rfl (by assumption) dX3_cellsBarred_61 ?_
          refine tw_cs (va_runS (As := [.int v3, .long v4, .int (sz v1.toNatClampNeg)]) (rest := []) ⟨hx, hb, hml, hown, hts⟩ (c_X3_isBeyond l D cI cS v3 v4 (sz v1.toNatClampNeg)) (va_cwS 3 hts gX3_cellsBarred_X3_isBeyond rfl rfl rfl (by decide +kernel) ⟨Nat.le_of_ble_eq_true rfl, Nat.le_of_ble_eq_true rfl⟩) ⟨tw_Rb, tw_Rp (hP.sub (ws' := []) [] rfl) hK⟩ rfl rfl hl.1 rfl (lv_room (Nat.le_of_ble_eq_true rfl)) dX3_cellsBarred_62 ⟨Nat.zero_le _, Nat.zero_le _⟩) ?_
          refine lv_if_eq (tgt := 76) hx hb dX3_cellsBarred_65 (by decide) (fun c_65 => ?_) (fun c_65 => ?_)
          · refine lv_iconst (v := 0) hx hb dX3_cellsBarred_76 (by decide) ?_
            have hE : (m_X3_cellsBarred fa sz la v1 v2 v3 v4) = (0, fa) := Eq.symm (by (unfold m_X3_cellsBarred; rw [if_neg c_6]; rw [if_pos c_16]; rw [if_pos c_31]; rw [if_pos c_44]; rw [if_pos c_65]) <;> rfl)
            rw [hE]
            exact W.iret hx hb hr (fun t ht hW => ⟨⟨_, (), rfl, rfl, by rw [ht]; exact hP, va_K.moved hW.alike hK, hD⟩, hS.F ht⟩) hS.2.2 dX3_cellsBarred_77
          · refine lv_aload_n hx hb dX3_cellsBarred_68 rfl (lv_at hl 0 rfl) ?_
            refine lv_iconst (v := 3) hx hb dX3_cellsBarred_69 (by decide) ?_
            refine tw_wi (v := (m_X3_failed 3).1) (ws := [((q 0), .inr (3, [.int fa, .int (nI nc), .ref (q 1), .int (nI nt), .ref (q 2), .ref (q 3), .ref (q 4), .ref (q 5), .int ea, .int (nI ra), .int (nI rs), .int (nI rt), .ref (q 6), .ref (q 7), .ref (q 8), .ref (q 9), .ref (q 10), .ref (q 11), .int (nI nr), .ref (q 12), .ref (q 13), .ref (q 14), .ref (q 15), .ref (q 16), .ref (q 17), .int tr])), ((q 14), .inl (cI, 4, .inl sz)), ((q 15), .inl (cI, 4, .inl la))]) (wc := [((q 0), .inr (3, [.int fa, .int (nI nc), .ref (q 1), .int (nI nt), .ref (q 2), .ref (q 3), .ref (q 4), .ref (q 5), .int ea, .int (nI ra), .int (nI rs), .int (nI rt), .ref (q 6), .ref (q 7), .ref (q 8), .ref (q 9), .ref (q 10), .ref (q 11), .int (nI nr), .ref (q 12), .ref (q 13), .ref (q 14), .ref (q 15), .ref (q 16), .ref (q 17), .int tr]))]) (wr := [((q 14), .inl (cI, 4, .inl sz)), ((q 15), .inl (cI, 4, .inl la))]) (w1 := [((q 0), .inr (3, [.int ((m_X3_failed 3).2), .int (nI nc), .ref (q 1), .int (nI nt), .ref (q 2), .ref (q 3), .ref (q 4), .ref (q 5), .int ea, .int (nI ra), .int (nI rs), .int (nI rt), .ref (q 6), .ref (q 7), .ref (q 8), .ref (q 9), .ref (q 10), .ref (q 11), .int (nI nr), .ref (q 12), .ref (q 13), .ref (q 14), .ref (q 15), .ref (q 16), .ref (q 17), .int tr]))]) (ws' := [((q 0), .inr (3, [.int ((m_X3_failed 3).2), .int (nI nc), .ref (q 1), .int (nI nt), .ref (q 2), .ref (q 3), .ref (q 4), .ref (q 5), .int ea, .int (nI ra), .int (nI rs), .int (nI rt), .ref (q 6), .ref (q 7), .ref (q 8), .ref (q 9), .ref (q 10), .ref (q 11), .int (nI nr), .ref (q 12), .ref (q 13), .ref (q 14), .ref (q 15), .ref (q 16), .ref (q 17), .int tr])), ((q 14), .inl (cI, 4, .inl sz)), ((q 15), .inl (cI, 4, .inl la))]) (va_runV (As := [.int 3]) (rest := []) ⟨hx, hb, hml, hown, hts⟩ (c_X3_failed l D cI cS q _ fa nc nt ea ra rs rt nr tr 3) (cwV 1 hts gX3_cellsBarred_X3_failed rfl rfl rfl (by decide +kernel) ⟨Nat.le_of_ble_eq_true rfl, Nat.le_of_ble_eq_true rfl⟩) ⟨tw_Wb, va_recv hK hP (ci := 3) (q0 := 0) rfl rfl, tw_Wp (hP.sub (ws' := [((q 0), .inr (3, [.int fa, .int (nI nc), .ref (q 1), .int (nI nt), .ref (q 2), .ref (q 3), .ref (q 4), .ref (q 5), .int ea, .int (nI ra), .int (nI rs), .int (nI rt), .ref (q 6), .ref (q 7), .ref (q 8), .ref (q 9), .ref (q 10), .ref (q 11), .int (nI nr), .ref (q 12), .ref (q 13), .ref (q 14), .ref (q 15), .ref (q 16), .ref (q 17), .int tr]))]) [0] rfl) hK (hD.sub (ws' := [((q 0), .inr (3, [.int fa, .int (nI nc), .ref (q 1), .int (nI nt), .ref (q 2), .ref (q 3), .ref (q 4), .ref (q 5), .int ea, .int (nI ra), .int (nI rs), .int (nI rt), .ref (q 6), .ref (q 7), .ref (q 8), .ref (q 9), .ref (q 10), .ref (q 11), .int (nI nr), .ref (q 12), .ref (q 13), .ref (q 14), .ref (q 15), .ref (q 16), .ref (q 17), .int tr]))]) [0] (by decide) rfl)⟩ rfl rfl hl.1 rfl (lv_room (Nat.le_of_ble_eq_true rfl)) dX3_cellsBarred_70 ⟨Nat.zero_le _, Nat.zero_le _⟩) hP hD hS hA [0] [1, 2] [2, 0, 1] rfl rfl (by decide) (by decide) rfl (by decide) (fun H locs hP hD hS => ?_)
            refine lv_goto (tgt := 77) hx hb dX3_cellsBarred_73 (by decide) ?_
            have hE : (m_X3_cellsBarred fa sz la v1 v2 v3 v4) = ((m_X3_failed 3).1, (m_X3_failed 3).2) := Eq.symm (by (unfold m_X3_cellsBarred; rw [if_neg c_6]; rw [if_pos c_16]; rw [if_pos c_31]; rw [if_pos c_44]; rw [if_neg c_65]) <;> rfl)
            rw [hE]
            exact W.iret hx hb hr (fun t ht hW => ⟨⟨_, (), rfl, rfl, by rw [ht]; exact hP, va_K.moved hW.alike hK, hD⟩, hS.F ht⟩) hS.2.2 dX3_cellsBarred_77
        · refine lv_aload_n hx hb dX3_cellsBarred_47 rfl (lv_at hl 0 rfl) ?_
          refine lv_iconst (v := 4) hx hb dX3_cellsBarred_48 (by decide) ?_
          refine tw_wi (v := (m_X3_failed 4).1) (ws := [((q 0), .inr (3, [.int fa, .int (nI nc), .ref (q 1), .int (nI nt), .ref (q 2), .ref (q 3), .ref (q 4), .ref (q 5), .int ea, .int (nI ra), .int (nI rs), .int (nI rt), .ref (q 6), .ref (q 7), .ref (q 8), .ref (q 9), .ref (q 10), .ref (q 11), .int (nI nr), .ref (q 12), .ref (q 13), .ref (q 14), .ref (q 15), .ref (q 16), .ref (q 17), .int tr])), ((q 14), .inl (cI, 4, .inl sz)), ((q 15), .inl (cI, 4, .inl la))]) (wc := [((q 0), .inr (3, [.int fa, .int (nI nc), .ref (q 1), .int (nI nt), .ref (q 2), .ref (q 3), .ref (q 4), .ref (q 5), .int ea, .int (nI ra), .int (nI rs), .int (nI rt), .ref (q 6), .ref (q 7), .ref (q 8), .ref (q 9), .ref (q 10), .ref (q 11), .int (nI nr), .ref (q 12), .ref (q 13), .ref (q 14), .ref (q 15), .ref (q 16), .ref (q 17), .int tr]))]) (wr := [((q 14), .inl (cI, 4, .inl sz)), ((q 15), .inl (cI, 4, .inl la))]) (w1 := [((q 0), .inr (3, [.int ((m_X3_failed 4).2), .int (nI nc), .ref (q 1), .int (nI nt), .ref (q 2), .ref (q 3), .ref (q 4), .ref (q 5), .int ea, .int (nI ra), .int (nI rs), .int (nI rt), .ref (q 6), .ref (q 7), .ref (q 8), .ref (q 9), .ref (q 10), .ref (q 11), .int (nI nr), .ref (q 12), .ref (q 13), .ref (q 14), .ref (q 15), .ref (q 16), .ref (q 17), .int tr]))]) (ws' := [((q 0), .inr (3, [.int ((m_X3_failed 4).2), .int (nI nc), .ref (q 1), .int (nI nt), .ref (q 2), .ref (q 3), .ref (q 4), .ref (q 5), .int ea, .int (nI ra), .int (nI rs), .int (nI rt), .ref (q 6), .ref (q 7), .ref (q 8), .ref (q 9), .ref (q 10), .ref (q 11), .int (nI nr), .ref (q 12), .ref (q 13), .ref (q 14), .ref (q 15), .ref (q 16), .ref (q 17), .int tr])), ((q 14), .inl (cI, 4, .inl sz)), ((q 15), .inl (cI, 4, .inl la))]) (va_runV (As := [.int 4]) (rest := []) ⟨hx, hb, hml, hown, hts⟩ (c_X3_failed l D cI cS q _ fa nc nt ea ra rs rt nr tr 4) (cwV 1 hts gX3_cellsBarred_X3_failed rfl rfl rfl (by decide +kernel) ⟨Nat.le_of_ble_eq_true rfl, Nat.le_of_ble_eq_true rfl⟩) ⟨tw_Wb, va_recv hK hP (ci := 3) (q0 := 0) rfl rfl, tw_Wp (hP.sub (ws' := [((q 0), .inr (3, [.int fa, .int (nI nc), .ref (q 1), .int (nI nt), .ref (q 2), .ref (q 3), .ref (q 4), .ref (q 5), .int ea, .int (nI ra), .int (nI rs), .int (nI rt), .ref (q 6), .ref (q 7), .ref (q 8), .ref (q 9), .ref (q 10), .ref (q 11), .int (nI nr), .ref (q 12), .ref (q 13), .ref (q 14), .ref (q 15), .ref (q 16), .ref (q 17), .int tr]))]) [0] rfl) hK (hD.sub (ws' := [((q 0), .inr (3, [.int fa, .int (nI nc), .ref (q 1), .int (nI nt), .ref (q 2), .ref (q 3), .ref (q 4), .ref (q 5), .int ea, .int (nI ra), .int (nI rs), .int (nI rt), .ref (q 6), .ref (q 7), .ref (q 8), .ref (q 9), .ref (q 10), .ref (q 11), .int (nI nr), .ref (q 12), .ref (q 13), .ref (q 14), .ref (q 15), .ref (q 16), .ref (q 17), .int tr]))]) [0] (by decide) rfl)⟩ rfl rfl hl.1 rfl (lv_room (Nat.le_of_ble_eq_true rfl)) dX3_cellsBarred_49 ⟨Nat.zero_le _, Nat.zero_le _⟩) hP hD hS hA [0] [1, 2] [2, 0, 1] rfl rfl (by decide) (by decide) rfl (by decide) (fun H locs hP hD hS => ?_)
          have hE : (m_X3_cellsBarred fa sz la v1 v2 v3 v4) = ((m_X3_failed 4).1, (m_X3_failed 4).2) := Eq.symm (by (unfold m_X3_cellsBarred; rw [if_neg c_6]; rw [if_pos c_16]; rw [if_pos c_31]; rw [if_neg c_44]) <;> rfl)
          rw [hE]
          exact W.iret hx hb hr (fun t ht hW => ⟨⟨_, (), rfl, rfl, by rw [ht]; exact hP, va_K.moved hW.alike hK, hD⟩, hS.F ht⟩) hS.2.2 dX3_cellsBarred_52
      · refine lv_aload_n hx hb dX3_cellsBarred_34 rfl (lv_at hl 0 rfl) ?_
        refine lv_iconst (v := 1) hx hb dX3_cellsBarred_35 (by decide) ?_
        refine tw_wi (v := (m_X3_failed 1).1) (ws := [((q 0), .inr (3, [.int fa, .int (nI nc), .ref (q 1), .int (nI nt), .ref (q 2), .ref (q 3), .ref (q 4), .ref (q 5), .int ea, .int (nI ra), .int (nI rs), .int (nI rt), .ref (q 6), .ref (q 7), .ref (q 8), .ref (q 9), .ref (q 10), .ref (q 11), .int (nI nr), .ref (q 12), .ref (q 13), .ref (q 14), .ref (q 15), .ref (q 16), .ref (q 17), .int tr])), ((q 14), .inl (cI, 4, .inl sz)), ((q 15), .inl (cI, 4, .inl la))]) (wc := [((q 0), .inr (3, [.int fa, .int (nI nc), .ref (q 1), .int (nI nt), .ref (q 2), .ref (q 3), .ref (q 4), .ref (q 5), .int ea, .int (nI ra), .int (nI rs), .int (nI rt), .ref (q 6), .ref (q 7), .ref (q 8), .ref (q 9), .ref (q 10), .ref (q 11), .int (nI nr), .ref (q 12), .ref (q 13), .ref (q 14), .ref (q 15), .ref (q 16), .ref (q 17), .int tr]))]) (wr := [((q 14), .inl (cI, 4, .inl sz)), ((q 15), .inl (cI, 4, .inl la))]) (w1 := [((q 0), .inr (3, [.int ((m_X3_failed 1).2), .int (nI nc), .ref (q 1), .int (nI nt), .ref (q 2), .ref (q 3), .ref (q 4), .ref (q 5), .int ea, .int (nI ra), .int (nI rs), .int (nI rt), .ref (q 6), .ref (q 7), .ref (q 8), .ref (q 9), .ref (q 10), .ref (q 11), .int (nI nr), .ref (q 12), .ref (q 13), .ref (q 14), .ref (q 15), .ref (q 16), .ref (q 17), .int tr]))]) (ws' := [((q 0), .inr (3, [.int ((m_X3_failed 1).2), .int (nI nc), .ref (q 1), .int (nI nt), .ref (q 2), .ref (q 3), .ref (q 4), .ref (q 5), .int ea, .int (nI ra), .int (nI rs), .int (nI rt), .ref (q 6), .ref (q 7), .ref (q 8), .ref (q 9), .ref (q 10), .ref (q 11), .int (nI nr), .ref (q 12), .ref (q 13), .ref (q 14), .ref (q 15), .ref (q 16), .ref (q 17), .int tr])), ((q 14), .inl (cI, 4, .inl sz)), ((q 15), .inl (cI, 4, .inl la))]) (va_runV (As := [.int 1]) (rest := []) ⟨hx, hb, hml, hown, hts⟩ (c_X3_failed l D cI cS q _ fa nc nt ea ra rs rt nr tr 1) (cwV 1 hts gX3_cellsBarred_X3_failed rfl rfl rfl (by decide +kernel) ⟨Nat.le_of_ble_eq_true rfl, Nat.le_of_ble_eq_true rfl⟩) ⟨tw_Wb, va_recv hK hP (ci := 3) (q0 := 0) rfl rfl, tw_Wp (hP.sub (ws' := [((q 0), .inr (3, [.int fa, .int (nI nc), .ref (q 1), .int (nI nt), .ref (q 2), .ref (q 3), .ref (q 4), .ref (q 5), .int ea, .int (nI ra), .int (nI rs), .int (nI rt), .ref (q 6), .ref (q 7), .ref (q 8), .ref (q 9), .ref (q 10), .ref (q 11), .int (nI nr), .ref (q 12), .ref (q 13), .ref (q 14), .ref (q 15), .ref (q 16), .ref (q 17), .int tr]))]) [0] rfl) hK (hD.sub (ws' := [((q 0), .inr (3, [.int fa, .int (nI nc), .ref (q 1), .int (nI nt), .ref (q 2), .ref (q 3), .ref (q 4), .ref (q 5), .int ea, .int (nI ra), .int (nI rs), .int (nI rt), .ref (q 6), .ref (q 7), .ref (q 8), .ref (q 9), .ref (q 10), .ref (q 11), .int (nI nr), .ref (q 12), .ref (q 13), .ref (q 14), .ref (q 15), .ref (q 16), .ref (q 17), .int tr]))]) [0] (by decide) rfl)⟩ rfl rfl hl.1 rfl (lv_room (Nat.le_of_ble_eq_true rfl)) dX3_cellsBarred_36 ⟨Nat.zero_le _, Nat.zero_le _⟩) hP hD hS hA [0] [1, 2] [2, 0, 1] rfl rfl (by decide) (by decide) rfl (by decide) (fun H locs hP hD hS => ?_)
        have hE : (m_X3_cellsBarred fa sz la v1 v2 v3 v4) = ((m_X3_failed 1).1, (m_X3_failed 1).2) := Eq.symm (by (unfold m_X3_cellsBarred; rw [if_neg c_6]; rw [if_pos c_16]; rw [if_neg c_31]) <;> rfl)
        rw [hE]
        exact W.iret hx hb hr (fun t ht hW => ⟨⟨_, (), rfl, rfl, by rw [ht]; exact hP, va_K.moved hW.alike hK, hD⟩, hS.F ht⟩) hS.2.2 dX3_cellsBarred_39
    · refine lv_aload_n hx hb dX3_cellsBarred_19 rfl (lv_at hl 0 rfl) ?_
      refine lv_iconst (v := 2) hx hb dX3_cellsBarred_20 (by decide) ?_
      refine tw_wi (v := (m_X3_failed 2).1) (ws := [((q 0), .inr (3, [.int fa, .int (nI nc), .ref (q 1), .int (nI nt), .ref (q 2), .ref (q 3), .ref (q 4), .ref (q 5), .int ea, .int (nI ra), .int (nI rs), .int (nI rt), .ref (q 6), .ref (q 7), .ref (q 8), .ref (q 9), .ref (q 10), .ref (q 11), .int (nI nr), .ref (q 12), .ref (q 13), .ref (q 14), .ref (q 15), .ref (q 16), .ref (q 17), .int tr])), ((q 14), .inl (cI, 4, .inl sz)), ((q 15), .inl (cI, 4, .inl la))]) (wc := [((q 0), .inr (3, [.int fa, .int (nI nc), .ref (q 1), .int (nI nt), .ref (q 2), .ref (q 3), .ref (q 4), .ref (q 5), .int ea, .int (nI ra), .int (nI rs), .int (nI rt), .ref (q 6), .ref (q 7), .ref (q 8), .ref (q 9), .ref (q 10), .ref (q 11), .int (nI nr), .ref (q 12), .ref (q 13), .ref (q 14), .ref (q 15), .ref (q 16), .ref (q 17), .int tr]))]) (wr := [((q 14), .inl (cI, 4, .inl sz)), ((q 15), .inl (cI, 4, .inl la))]) (w1 := [((q 0), .inr (3, [.int ((m_X3_failed 2).2), .int (nI nc), .ref (q 1), .int (nI nt), .ref (q 2), .ref (q 3), .ref (q 4), .ref (q 5), .int ea, .int (nI ra), .int (nI rs), .int (nI rt), .ref (q 6), .ref (q 7), .ref (q 8), .ref (q 9), .ref (q 10), .ref (q 11), .int (nI nr), .ref (q 12), .ref (q 13), .ref (q 14), .ref (q 15), .ref (q 16), .ref (q 17), .int tr]))]) (ws' := [((q 0), .inr (3, [.int ((m_X3_failed 2).2), .int (nI nc), .ref (q 1), .int (nI nt), .ref (q 2), .ref (q 3), .ref (q 4), .ref (q 5), .int ea, .int (nI ra), .int (nI rs), .int (nI rt), .ref (q 6), .ref (q 7), .ref (q 8), .ref (q 9), .ref (q 10), .ref (q 11), .int (nI nr), .ref (q 12), .ref (q 13), .ref (q 14), .ref (q 15), .ref (q 16), .ref (q 17), .int tr])), ((q 14), .inl (cI, 4, .inl sz)), ((q 15), .inl (cI, 4, .inl la))]) (va_runV (As := [.int 2]) (rest := []) ⟨hx, hb, hml, hown, hts⟩ (c_X3_failed l D cI cS q _ fa nc nt ea ra rs rt nr tr 2) (cwV 1 hts gX3_cellsBarred_X3_failed rfl rfl rfl (by decide +kernel) ⟨Nat.le_of_ble_eq_true rfl, Nat.le_of_ble_eq_true rfl⟩) ⟨tw_Wb, va_recv hK hP (ci := 3) (q0 := 0) rfl rfl, tw_Wp (hP.sub (ws' := [((q 0), .inr (3, [.int fa, .int (nI nc), .ref (q 1), .int (nI nt), .ref (q 2), .ref (q 3), .ref (q 4), .ref (q 5), .int ea, .int (nI ra), .int (nI rs), .int (nI rt), .ref (q 6), .ref (q 7), .ref (q 8), .ref (q 9), .ref (q 10), .ref (q 11), .int (nI nr), .ref (q 12), .ref (q 13), .ref (q 14), .ref (q 15), .ref (q 16), .ref (q 17), .int tr]))]) [0] rfl) hK (hD.sub (ws' := [((q 0), .inr (3, [.int fa, .int (nI nc), .ref (q 1), .int (nI nt), .ref (q 2), .ref (q 3), .ref (q 4), .ref (q 5), .int ea, .int (nI ra), .int (nI rs), .int (nI rt), .ref (q 6), .ref (q 7), .ref (q 8), .ref (q 9), .ref (q 10), .ref (q 11), .int (nI nr), .ref (q 12), .ref (q 13), .ref (q 14), .ref (q 15), .ref (q 16), .ref (q 17), .int tr]))]) [0] (by decide) rfl)⟩ rfl rfl hl.1 rfl (lv_room (Nat.le_of_ble_eq_true rfl)) dX3_cellsBarred_21 ⟨Nat.zero_le _, Nat.zero_le _⟩) hP hD hS hA [0] [1, 2] [2, 0, 1] rfl rfl (by decide) (by decide) rfl (by decide) (fun H locs hP hD hS => ?_)
      have hE : (m_X3_cellsBarred fa sz la v1 v2 v3 v4) = ((m_X3_failed 2).1, (m_X3_failed 2).2) := Eq.symm (by (unfold m_X3_cellsBarred; rw [if_neg c_6]; rw [if_neg c_16]) <;> rfl)
      rw [hE]
      exact W.iret hx hb hr (fun t ht hW => ⟨⟨_, (), rfl, rfl, by rw [ht]; exact hP, va_K.moved hW.alike hK, hD⟩, hS.F ht⟩) hS.2.2 dX3_cellsBarred_24

def m_X3_share_L6 (v4 : Int32) (up : Nat) (dn : Nat) : Nat → Nat → Nat → Int64
  | 0, u7_6, u5_6 =>
    0
  | k6 + 1, u7_6, u5_6 =>
    if (lg_cmp (lN u7_6) 0) = 0 then
      (if v4 = 0 then lN up else lN dn) / (lN u5_6)
    else
      m_X3_share_L6 v4 up dn k6 (u5_6 % u7_6) u7_6
theorem m_X3_share_L6_0 (v4 : Int32) (up : Nat) (dn : Nat) (u7_6 : Nat) (u5_6 : Nat) : m_X3_share_L6 v4 up dn 0 u7_6 u5_6 = 
    0 := rfl
theorem m_X3_share_L6_s (v4 : Int32) (up : Nat) (dn : Nat) (u7_6 : Nat) (u5_6 : Nat) (k6 : Nat) : m_X3_share_L6 v4 up dn (k6 + 1) u7_6 u5_6 = 
    if (lg_cmp (lN u7_6) 0) = 0 then
      (if v4 = 0 then lN up else lN dn) / (lN u5_6)
    else
      m_X3_share_L6 v4 up dn k6 (u5_6 % u7_6) u7_6 := rfl
def m_X3_share (v4 : Int32) (up : Nat) (dn : Nat) : Int64 :=
  m_X3_share_L6 v4 up dn (dn + 1) dn up
set_option maxHeartbeats 4000000 in
set_option maxRecDepth 100000 in
theorem c_X3_share (l : Launch) (D : va_G) (cI cS : ClassId)  (v4 : Int32) (up : Nat) (dn : Nat) (hup : up ≤ 64) (hdn : dn ≤ 64) (hd0 : 0 < dn) : Met l yX3_share wsX3_share ({ frames := 0, cells := 0, slots := 0, locals := 0 }) (tw_R D cI cS [.long (lN up), .long (lN dn), .int v4] []) (vp_Sl (fun r => r = (m_X3_share v4 up dn))) 0 0 (fun _ => False) := by
  refine Met.ofW (cc := cX3_share) (maxL := 11) (ret := (some .long)) (by decide) rfl ?_
  intro p e s m args below meth c s₁ B hml hv
  obtain ⟨rfl, hP, hK⟩ := hv
  have hx := B.exec
  have hb := B.bytes
  have hr := B.returns
  have hts := atoms_spec (ws := wsX3_share) B.pre
  have hown : s.vm.findClass RX3 = some m.cls := findClass_of_methodNamed B.named
  have hlocks := B.notSynchronized
  have hl := lv_entry ([.long (lN up), .long (lN dn), .int v4]) (n := 11) (Nat.le_of_ble_eq_true rfl)
  rw [lg_entry_eq]
  generalize (lg_sl ([.long (lN up), .long (lN dn), .int v4]) ++ List.replicate (11 - (lg_sl ([.long (lN up), .long (lN dn), .int v4])).length) Slot.unset).toArray = ls at hl ⊢
  have hl : lv_has ls 11 [(0, .long (lN up)), (2, .long (lN dn)), (4, .int v4)] := hl
  refine lv_lload_n hx hb dX3_share_0 rfl (lv_at hl 0 rfl) ?_
  refine lv_lstore (lv' := [(5, .long (lN up)), (0, .long (lN up)), (2, .long (lN dn)), (4, .int v4)]) hx hb dX3_share_1 hl (by decide) rfl (fun ls hl => ?_)
  refine lv_lload_n hx hb dX3_share_3 rfl (lv_at hl 2 rfl) ?_
  refine lv_lstore (lv' := [(7, .long (lN dn)), (5, .long (lN up)), (0, .long (lN up)), (2, .long (lN dn)), (4, .int v4)]) hx hb dX3_share_4 hl (by decide) rfl (fun ls hl => ?_)
  refine tw_loopR (σ := Nat × Nat) (fun k i z ls => z.1 < k ∧ z.2 ≤ 64 ∧ z.1 ≤ 64 ∧ (0 < z.2 ∨ 0 < z.1) ∧ (m_X3_share v4 up dn) = m_X3_share_L6 v4 up dn k z.1 z.2 ∧ lv_has ls 11 [(7, .long (lN z.1)), (5, .long (lN z.2)), (0, .long (lN up)), (2, .long (lN dn)), (4, .int v4)]) (dn + 1) 0 (dn, up) ⟨(show dn < (dn + 1) from (Nat.lt_succ_self _)), (show up ≤ 64 from hup), (show dn ≤ 64 from hdn), (show 0 < up ∨ 0 < dn from (Or.inr hd0)), (by (unfold m_X3_share) <;> rfl), lv_sub hl [0, 1, 2, 3, 4] rfl⟩ ?_ ?_
  · intro i6 z ls hI
    obtain ⟨u7_6, u5_6⟩ := z
    obtain ⟨hk7, h5, h7b, h57, hm6, hl⟩ := hI
    have hm6 : (m_X3_share v4 up dn) = m_X3_share_L6 v4 up dn 0 u7_6 u5_6 := hm6
    have hk7 : u7_6 < 0 := hk7
    have h5 : u5_6 ≤ 64 := h5
    have h7b : u7_6 ≤ 64 := h7b
    have h57 : 0 < u5_6 ∨ 0 < u7_6 := h57
    have hl : lv_has ls 11 [(7, .long (lN u7_6)), (5, .long (lN u5_6)), (0, .long (lN up)), (2, .long (lN dn)), (4, .int v4)] := hl
    exact absurd hk7 (Nat.not_lt_zero _)
  · intro k6 i6 z ls ih6 hI
    obtain ⟨u7_6, u5_6⟩ := z
    obtain ⟨hk7, h5, h7b, h57, hm6, hl⟩ := hI
    have hm6 : (m_X3_share v4 up dn) = m_X3_share_L6 v4 up dn (k6 + 1) u7_6 u5_6 := hm6
    have hk7 : u7_6 < (k6 + 1) := hk7
    have h5 : u5_6 ≤ 64 := h5
    have h7b : u7_6 ≤ 64 := h7b
    have h57 : 0 < u5_6 ∨ 0 < u7_6 := h57
    have hl : lv_has ls 11 [(7, .long (lN u7_6)), (5, .long (lN u5_6)), (0, .long (lN up)), (2, .long (lN dn)), (4, .int v4)] := hl
    refine lv_lload hx hb dX3_share_6 (lv_at hl 0 rfl) ?_
    refine lv_lconst (v := 0) hx hb dX3_share_8 (by decide) ?_
    refine W.lcmp hx hb dX3_share_9 ?_
    refine lv_if_eq (tgt := 31) hx hb dX3_share_10 (by decide) (fun c_10 => ?_) (fun c_10 => ?_)
    · have h5p : 0 < u5_6 := by have := lgc0 (by omega) c_10; omega
      refine lv_iload hx hb dX3_share_31 (lv_at hl 4 rfl) ?_
      refine tw_join (fun (y : Int64) => F0 m 41 ls (.long y :: [])) (if v4 = 0 then lN up else lN dn) ?_ (fun J41_0 => ?_)
      · intro y41 hy41
        refine lv_lload hx hb dX3_share_41 (lv_at hl 1 rfl) ?_
        refine lv_ldiv hx hb dX3_share_43 (fun q => by have := (lN_eq (b := 0) (by omega) (by decide)).mp q; omega) ?_
        exact W.lret hx hb hr (fun t ht _ => ⟨_, rfl, (by (rw [hm6, m_X3_share_L6_s]; rw [if_pos c_10]; (try rw [← hy41])) <;> rfl), ht⟩) (fun _ h => nomatch h) dX3_share_44
      · refine lv_if_ne (tgt := 40) hx hb dX3_share_33 (by decide) (fun c_33 => ?_) (fun c_33 => ?_)
        · refine lv_lload_n hx hb dX3_share_40 rfl (lv_at hl 3 rfl) ?_
          exact J41_0 _ (by (rw [if_neg c_33]) <;> rfl)
        · refine lv_lload_n hx hb dX3_share_36 rfl (lv_at hl 2 rfl) ?_
          refine lv_goto (tgt := 41) hx hb dX3_share_37 (by decide) ?_
          exact J41_0 _ (by (rw [if_pos c_33]) <;> rfl)
    · have h7 : 0 < u7_6 := Nat.pos_of_ne_zero (fun q => c_10 (by rw [q]; rfl))
      refine lv_lload hx hb dX3_share_13 (lv_at hl 1 rfl) ?_
      refine lv_lload hx hb dX3_share_15 (lv_at hl 0 rfl) ?_
      refine lv_lrem hx hb dX3_share_17 (fun q => c_10 (by rw [q]; rfl)) ?_
      refine tw_topl (show _ = lN (u5_6 % u7_6) from pk_lRem (by omega) h7 (by omega)) ?_
      refine lv_lstore (lv' := [(9, .long (lN (u5_6 % u7_6))), (7, .long (lN u7_6)), (5, .long (lN u5_6)), (0, .long (lN up)), (2, .long (lN dn)), (4, .int v4)]) hx hb dX3_share_18 hl (by decide) rfl (fun ls hl => ?_)
      refine lv_lload hx hb dX3_share_20 (lv_at hl 1 rfl) ?_
      refine lv_lstore (lv' := [(5, .long (lN u7_6)), (9, .long (lN (u5_6 % u7_6))), (7, .long (lN u7_6)), (0, .long (lN up)), (2, .long (lN dn)), (4, .int v4)]) hx hb dX3_share_22 hl (by decide) rfl (fun ls hl => ?_)
      refine lv_lload hx hb dX3_share_24 (lv_at hl 1 rfl) ?_
      refine lv_lstore (lv' := [(7, .long (lN (u5_6 % u7_6))), (5, .long (lN u7_6)), (9, .long (lN (u5_6 % u7_6))), (0, .long (lN up)), (2, .long (lN dn)), (4, .int v4)]) hx hb dX3_share_26 hl (by decide) rfl (fun ls hl => ?_)
      refine lv_goto (tgt := 6) hx hb dX3_share_28 (by decide) ?_
      exact ih6 ((u5_6 % u7_6), u7_6) ls ⟨(show (u5_6 % u7_6) < k6 from (by have := Nat.mod_lt u5_6 h7; omega)), (show u7_6 ≤ 64 from h7b), (show (u5_6 % u7_6) ≤ 64 from (by have := Nat.mod_lt u5_6 h7; omega)), (show 0 < u7_6 ∨ 0 < (u5_6 % u7_6) from (Or.inl h7)), (by (rw [hm6, m_X3_share_L6_s]; rw [if_neg c_10]) <;> rfl), lv_sub hl [0, 1, 3, 4, 5] rfl⟩

def m_X3_odds_L42 (nc : Nat) (ac : Nat → Int32) (nt : Nat) (kd : Nat → Int32) (ho : Nat → Int32) (pl : Nat → Int32) (st : Nat → Int32) (ea : Int32) (v1 : Int32) : Nat → Nat → Nat → Nat → Int32 → Nat × Nat × Int32
  | 0, i42, u6_42, u4_42, wea_42 =>
    (u6_42, u4_42, wea_42)
  | k42 + 1, i42, u6_42, u4_42, wea_42 =>
    if ((nI i42) &&& ea) = 0 then
      if (m_X3_landOf nc ac nt kd ho pl st (ea ||| (nI i42)) v1) ≤ (m_X3_landOf nc ac nt kd ho pl st (ea ||| (nI i42)) (1 - v1)) then
        m_X3_odds_L42 nc ac nt kd ho pl st ea v1 k42 (i42 + 1) (u6_42 + 1) u4_42 (ea ||| (nI i42))
      else
        m_X3_odds_L42 nc ac nt kd ho pl st ea v1 k42 (i42 + 1) (u6_42 + 1) (u4_42 + 1) (ea ||| (nI i42))
    else
      m_X3_odds_L42 nc ac nt kd ho pl st ea v1 k42 (i42 + 1) u6_42 u4_42 wea_42
theorem m_X3_odds_L42_0 (nc : Nat) (ac : Nat → Int32) (nt : Nat) (kd : Nat → Int32) (ho : Nat → Int32) (pl : Nat → Int32) (st : Nat → Int32) (ea : Int32) (v1 : Int32) (i42 : Nat) (u6_42 : Nat) (u4_42 : Nat) (wea_42 : Int32) : m_X3_odds_L42 nc ac nt kd ho pl st ea v1 0 i42 u6_42 u4_42 wea_42 = 
    (u6_42, u4_42, wea_42) := rfl
theorem m_X3_odds_L42_s (nc : Nat) (ac : Nat → Int32) (nt : Nat) (kd : Nat → Int32) (ho : Nat → Int32) (pl : Nat → Int32) (st : Nat → Int32) (ea : Int32) (v1 : Int32) (i42 : Nat) (u6_42 : Nat) (u4_42 : Nat) (wea_42 : Int32) (k42 : Nat) : m_X3_odds_L42 nc ac nt kd ho pl st ea v1 (k42 + 1) i42 u6_42 u4_42 wea_42 = 
    if ((nI i42) &&& ea) = 0 then
      if (m_X3_landOf nc ac nt kd ho pl st (ea ||| (nI i42)) v1) ≤ (m_X3_landOf nc ac nt kd ho pl st (ea ||| (nI i42)) (1 - v1)) then
        m_X3_odds_L42 nc ac nt kd ho pl st ea v1 k42 (i42 + 1) (u6_42 + 1) u4_42 (ea ||| (nI i42))
      else
        m_X3_odds_L42 nc ac nt kd ho pl st ea v1 k42 (i42 + 1) (u6_42 + 1) (u4_42 + 1) (ea ||| (nI i42))
    else
      m_X3_odds_L42 nc ac nt kd ho pl st ea v1 k42 (i42 + 1) u6_42 u4_42 wea_42 := rfl
def m_X3_odds (nc : Nat) (ac : Nat → Int32) (nt : Nat) (kd : Nat → Int32) (ho : Nat → Int32) (pl : Nat → Int32) (st : Nat → Int32) (ea : Int32) (v1 : Int32) (v2 : Int32) : Int64 :=
  if (m_X3_noHouse v1) = 0 then
    if (m_X3_in v2.toInt64 0 1) = 0 then
      m_X3_lost
    else
      if (nI nt) = 0 then
        m_X3_lost
      else
        (m_X3_share v2 ((m_X3_odds_L42 nc ac nt kd ho pl st ea v1 (2 ^ nt) 0 0 0 ea).2.1) ((m_X3_odds_L42 nc ac nt kd ho pl st ea v1 (2 ^ nt) 0 0 0 ea).1))
  else
    m_X3_lost
set_option maxHeartbeats 4000000 in
set_option maxRecDepth 100000 in
theorem c_X3_odds (l : Launch) (D : va_G) (cI cS : ClassId) (q : Nat → Nat) (hz : Nat) (fa : Int32) (nc : Nat) (ac : Nat → Int32) (nt : Nat) (kd : Nat → Int32) (ho : Nat → Int32) (pl : Nat → Int32) (st : Nat → Int32) (ea : Int32) (ra : Nat) (rs : Nat) (rt : Nat) (nr : Nat) (tr : Int32) (v1 : Int32) (v2 : Int32) (hn : nt ≤ 6) (hc : nc ≤ 6) : Met l yX3_odds wsX3_odds ({ frames := 5, cells := 0, slots := 0, locals := 114 }) (tw_W D cI cS [.ref (q 0), .int v1, .int v2] hz [((q 0), .inr (3, [.int fa, .int (nI nc), .ref (q 1), .int (nI nt), .ref (q 2), .ref (q 3), .ref (q 4), .ref (q 5), .int ea, .int (nI ra), .int (nI rs), .int (nI rt), .ref (q 6), .ref (q 7), .ref (q 8), .ref (q 9), .ref (q 10), .ref (q 11), .int (nI nr), .ref (q 12), .ref (q 13), .ref (q 14), .ref (q 15), .ref (q 16), .ref (q 17), .int tr])), ((q 1), .inl (cI, 6, .inl ac)), ((q 2), .inl (cI, 6, .inl kd)), ((q 3), .inl (cI, 6, .inl ho)), ((q 4), .inl (cI, 6, .inl pl)), ((q 5), .inl (cI, 6, .inl st))]) (va_Ql (fun r (_ : Unit) => r = (m_X3_odds nc ac nt kd ho pl st ea v1 v2)) (tw_B D cI cS (va_A [((q 0), .inr (3, [.int fa, .int (nI nc), .ref (q 1), .int (nI nt), .ref (q 2), .ref (q 3), .ref (q 4), .ref (q 5), .int ea, .int (nI ra), .int (nI rs), .int (nI rt), .ref (q 6), .ref (q 7), .ref (q 8), .ref (q 9), .ref (q 10), .ref (q 11), .int (nI nr), .ref (q 12), .ref (q 13), .ref (q 14), .ref (q 15), .ref (q 16), .ref (q 17), .int tr])), ((q 1), .inl (cI, 6, .inl ac)), ((q 2), .inl (cI, 6, .inl kd)), ((q 3), .inl (cI, 6, .inl ho)), ((q 4), .inl (cI, 6, .inl pl)), ((q 5), .inl (cI, 6, .inl st))] hz) [((q 0), .inr (3, [.int fa, .int (nI nc), .ref (q 1), .int (nI nt), .ref (q 2), .ref (q 3), .ref (q 4), .ref (q 5), .int ea, .int (nI ra), .int (nI rs), .int (nI rt), .ref (q 6), .ref (q 7), .ref (q 8), .ref (q 9), .ref (q 10), .ref (q 11), .int (nI nr), .ref (q 12), .ref (q 13), .ref (q 14), .ref (q 15), .ref (q 16), .ref (q 17), .int tr])), ((q 1), .inl (cI, 6, .inl ac)), ((q 2), .inl (cI, 6, .inl kd)), ((q 3), .inl (cI, 6, .inl ho)), ((q 4), .inl (cI, 6, .inl pl)), ((q 5), .inl (cI, 6, .inl st))]) (va_A [((q 0), .inr (3, [.int fa, .int (nI nc), .ref (q 1), .int (nI nt), .ref (q 2), .ref (q 3), .ref (q 4), .ref (q 5), .int ea, .int (nI ra), .int (nI rs), .int (nI rt), .ref (q 6), .ref (q 7), .ref (q 8), .ref (q 9), .ref (q 10), .ref (q 11), .int (nI nr), .ref (q 12), .ref (q 13), .ref (q 14), .ref (q 15), .ref (q 16), .ref (q 17), .int tr])), ((q 1), .inl (cI, 6, .inl ac)), ((q 2), .inl (cI, 6, .inl kd)), ((q 3), .inl (cI, 6, .inl ho)), ((q 4), .inl (cI, 6, .inl pl)), ((q 5), .inl (cI, 6, .inl st))] hz)) 0 0 (va_A [((q 0), .inr (3, [.int fa, .int (nI nc), .ref (q 1), .int (nI nt), .ref (q 2), .ref (q 3), .ref (q 4), .ref (q 5), .int ea, .int (nI ra), .int (nI rs), .int (nI rt), .ref (q 6), .ref (q 7), .ref (q 8), .ref (q 9), .ref (q 10), .ref (q 11), .int (nI nr), .ref (q 12), .ref (q 13), .ref (q 14), .ref (q 15), .ref (q 16), .ref (q 17), .int tr])), ((q 1), .inl (cI, 6, .inl ac)), ((q 2), .inl (cI, 6, .inl kd)), ((q 3), .inl (cI, 6, .inl ho)), ((q 4), .inl (cI, 6, .inl pl)), ((q 5), .inl (cI, 6, .inl st))] hz) := by
  refine Met.ofW (cc := cX3_odds) (maxL := 9) (ret := (some .long)) (by decide) rfl ?_
  intro p e s m args below meth c s₁ B hml hv
  obtain ⟨rfl, hsz, hP, hK, hD0⟩ := hv
  have hx := B.exec
  have hb := B.bytes
  have hr := B.returns
  have hts := atoms_spec (ws := wsX3_odds) B.pre
  have hown : s.vm.findClass RX3 = some m.cls := findClass_of_methodNamed B.named
  have hlocks := B.notSynchronized
  subst hsz
  have hD := hD0.self (sz := s.heap.size)
  generalize hAe : va_A [((q 0), .inr (3, [.int fa, .int (nI nc), .ref (q 1), .int (nI nt), .ref (q 2), .ref (q 3), .ref (q 4), .ref (q 5), .int ea, .int (nI ra), .int (nI rs), .int (nI rt), .ref (q 6), .ref (q 7), .ref (q 8), .ref (q 9), .ref (q 10), .ref (q 11), .int (nI nr), .ref (q 12), .ref (q 13), .ref (q 14), .ref (q 15), .ref (q 16), .ref (q 17), .int tr])), ((q 1), .inl (cI, 6, .inl ac)), ((q 2), .inl (cI, 6, .inl kd)), ((q 3), .inl (cI, 6, .inl ho)), ((q 4), .inl (cI, 6, .inl pl)), ((q 5), .inl (cI, 6, .inl st))] s.heap.size = A at hD ⊢
  have hA : ∀ q : Nat, s.heap.size ≤ q → A q := fun q h => by rw [← hAe]; exact Or.inr h
  have hS : va_S A s.heap s.heap [] := va_S.rf
  have fl_78 := hts (.fieldLink RX3 78 "TableWarModel" "things" "I") (by decide +kernel)
  have hin_X3 := (show ∀ w ∈ u_ws RX3 TX3 26, w ∈ wsX3_odds from by decide +kernel)
  have fl_129 := hts (.fieldLink RX3 129 "TableWarModel" "eaten" "I") (by decide +kernel)
  have hpw := tw_p64 hn
  have hl := lv_entry ([.ref (q 0), .int v1, .int v2]) (n := 9) (Nat.le_of_ble_eq_true rfl)
  rw [lg_entry_eq]
  generalize (lg_sl ([.ref (q 0), .int v1, .int v2]) ++ List.replicate (9 - (lg_sl ([.ref (q 0), .int v1, .int v2])).length) Slot.unset).toArray = ls at hl ⊢
  have hl : lv_has ls 9 [(0, .ref (q 0)), (1, .int v1), (2, .int v2)] := hl
  refine lv_iload_n hx hb dX3_odds_0 rfl (lv_at hl 1 rfl) ?_
  refine tw_cs (va_runS (As := [.int v1]) (rest := []) ⟨hx, hb, hml, hown, hts⟩ (c_X3_noHouse l D cI cS v1) (va_cwS 1 hts gX3_odds_X3_noHouse rfl rfl rfl (by decide +kernel) ⟨Nat.le_of_ble_eq_true rfl, Nat.le_of_ble_eq_true rfl⟩) ⟨tw_Rb, tw_Rp (hP.sub (ws' := []) [] rfl) hK⟩ rfl rfl hl.1 rfl (lv_room (Nat.le_of_ble_eq_true rfl)) dX3_odds_1 ⟨Nat.zero_le _, Nat.zero_le _⟩) ?_
  refine lv_if_ne (tgt := 24) hx hb dX3_odds_4 (by decide) (fun c_4 => ?_) (fun c_4 => ?_)
  · refine tw_cl (va_runS (As := []) (rest := []) ⟨hx, hb, hml, hown, hts⟩ (c_X3_lost l D cI cS ) (va_cwS 0 hts gX3_odds_X3_lost rfl rfl rfl (by decide +kernel) ⟨Nat.le_of_ble_eq_true rfl, Nat.le_of_ble_eq_true rfl⟩) ⟨tw_Rb, tw_Rp (hP.sub (ws' := []) [] rfl) hK⟩ rfl rfl hl.1 rfl (lv_room (Nat.le_of_ble_eq_true rfl)) dX3_odds_24 ⟨Nat.zero_le _, Nat.zero_le _⟩) ?_
    have hE : (m_X3_odds nc ac nt kd ho pl st ea v1 v2) = m_X3_lost := Eq.symm (by (unfold m_X3_odds; rw [if_neg c_4]) <;> rfl)
    rw [hE]
    exact W.lret hx hb hr (fun t ht hW => ⟨⟨_, (), rfl, rfl, by rw [ht]; exact hP, va_K.moved hW.alike hK, hD⟩, hS.F ht⟩) hS.2.2 dX3_odds_27
  · refine lv_iload_n hx hb dX3_odds_7 rfl (lv_at hl 2 rfl) ?_
    refine lv_i2l (v := v2.toInt64) hx hb dX3_odds_8 rfl ?_
    refine lv_lconst (v := 0) hx hb dX3_odds_9 (by decide) ?_
    refine lv_lconst (v := 1) hx hb dX3_odds_10 (by decide) ?_
    refine tw_cs (va_runS (As := [.long v2.toInt64, .long 0, .long 1]) (rest := []) ⟨hx, hb, hml, hown, hts⟩ (c_X3_in l D cI cS v2.toInt64 0 1) (va_cwS 3 hts gX3_odds_X3_in rfl rfl rfl (by decide +kernel) ⟨Nat.le_of_ble_eq_true rfl, Nat.le_of_ble_eq_true rfl⟩) ⟨tw_Rb, tw_Rp (hP.sub (ws' := []) [] rfl) hK⟩ rfl rfl hl.1 rfl (lv_room (Nat.le_of_ble_eq_true rfl)) dX3_odds_11 ⟨Nat.zero_le _, Nat.zero_le _⟩) ?_
    refine lv_if_eq (tgt := 24) hx hb dX3_odds_14 (by decide) (fun c_14 => ?_) (fun c_14 => ?_)
    · refine tw_cl (va_runS (As := []) (rest := []) ⟨hx, hb, hml, hown, hts⟩ (c_X3_lost l D cI cS ) (va_cwS 0 hts gX3_odds_X3_lost rfl rfl rfl (by decide +kernel) ⟨Nat.le_of_ble_eq_true rfl, Nat.le_of_ble_eq_true rfl⟩) ⟨tw_Rb, tw_Rp (hP.sub (ws' := []) [] rfl) hK⟩ rfl rfl hl.1 rfl (lv_room (Nat.le_of_ble_eq_true rfl)) dX3_odds_24 ⟨Nat.zero_le _, Nat.zero_le _⟩) ?_
      have hE : (m_X3_odds nc ac nt kd ho pl st ea v1 v2) = m_X3_lost := Eq.symm (by (unfold m_X3_odds; rw [if_pos c_4]; rw [if_pos c_14]) <;> rfl)
      rw [hE]
      exact W.lret hx hb hr (fun t ht hW => ⟨⟨_, (), rfl, rfl, by rw [ht]; exact hP, va_K.moved hW.alike hK, hD⟩, hS.F ht⟩) hS.2.2 dX3_odds_27
    · refine lv_aload_n hx hb dX3_odds_17 rfl (lv_at hl 0 rfl) ?_
      refine va_get (ci := 3) (v := .int (nI nt)) (C := RX3) (T := TX3) (N := 26) hx hb hts hin_X3 hown hK hP 0 rfl rfl 3 (by decide) fl_78 (fun _ h9 => h9) rfl dX3_odds_18 ?_
      refine lv_if_ne (tgt := 28) hx hb dX3_odds_21 (by decide) (fun c_21 => ?_) (fun c_21 => ?_)
      · refine lv_aload_n hx hb dX3_odds_28 rfl (lv_at hl 0 rfl) ?_
        refine va_get (ci := 3) (v := .int ea) (C := RX3) (T := TX3) (N := 26) hx hb hts hin_X3 hown hK hP 0 rfl rfl 8 (by decide) fl_129 (fun _ h9 => h9) rfl dX3_odds_29 ?_
        refine lv_istore_n (lv' := [(3, .int ea), (0, .ref (q 0)), (1, .int v1), (2, .int v2)]) hx hb dX3_odds_32 rfl hl (by decide) rfl (fun ls hl => ?_)
        refine lv_lconst (v := 0) hx hb dX3_odds_33 (by decide) ?_
        refine lv_lstore (lv' := [(4, .long 0), (3, .int ea), (0, .ref (q 0)), (1, .int v1), (2, .int v2)]) hx hb dX3_odds_34 hl (by decide) rfl (fun ls hl => ?_)
        refine lv_lconst (v := 0) hx hb dX3_odds_36 (by decide) ?_
        refine lv_lstore (lv' := [(6, .long 0), (4, .long 0), (3, .int ea), (0, .ref (q 0)), (1, .int v1), (2, .int v2)]) hx hb dX3_odds_37 hl (by decide) rfl (fun ls hl => ?_)
        refine lv_iconst (v := 0) hx hb dX3_odds_39 (by decide) ?_
        refine lv_istore (lv' := [(8, .int 0), (6, .long 0), (4, .long 0), (3, .int ea), (0, .ref (q 0)), (1, .int v1), (2, .int v2)]) hx hb dX3_odds_40 hl (by decide) rfl (fun ls hl => ?_)
        refine tw_loopW (σ := Nat × Nat × Int32) (fun k i z ls H locs => i + k = 2 ^ nt ∧ z.1 ≤ i ∧ z.2.1 ≤ i ∧ (0 < i → 0 < z.1) ∧ m_X3_odds_L42 nc ac nt kd ho pl st ea v1 k i z.1 z.2.1 z.2.2 = m_X3_odds_L42 nc ac nt kd ho pl st ea v1 (2 ^ nt) 0 0 0 ea ∧ va_P D vwCl [((q 0), .inr (3, [.int fa, .int (nI nc), .ref (q 1), .int (nI nt), .ref (q 2), .ref (q 3), .ref (q 4), .ref (q 5), .int z.2.2, .int (nI ra), .int (nI rs), .int (nI rt), .ref (q 6), .ref (q 7), .ref (q 8), .ref (q 9), .ref (q 10), .ref (q 11), .int (nI nr), .ref (q 12), .ref (q 13), .ref (q 14), .ref (q 15), .ref (q 16), .ref (q 17), .int tr])), ((q 1), .inl (cI, 6, .inl ac)), ((q 2), .inl (cI, 6, .inl kd)), ((q 3), .inl (cI, 6, .inl ho)), ((q 4), .inl (cI, 6, .inl pl)), ((q 5), .inl (cI, 6, .inl st))] H ∧ va_D A [((q 0), .inr (3, [.int fa, .int (nI nc), .ref (q 1), .int (nI nt), .ref (q 2), .ref (q 3), .ref (q 4), .ref (q 5), .int z.2.2, .int (nI ra), .int (nI rs), .int (nI rt), .ref (q 6), .ref (q 7), .ref (q 8), .ref (q 9), .ref (q 10), .ref (q 11), .int (nI nr), .ref (q 12), .ref (q 13), .ref (q 14), .ref (q 15), .ref (q 16), .ref (q 17), .int tr])), ((q 1), .inl (cI, 6, .inl ac)), ((q 2), .inl (cI, 6, .inl kd)), ((q 3), .inl (cI, 6, .inl ho)), ((q 4), .inl (cI, 6, .inl pl)), ((q 5), .inl (cI, 6, .inl st))] ∧ va_S A s.heap H locs ∧ lv_has ls 9 [(8, .int (nI i)), (6, .long (lN z.1)), (4, .long (lN z.2.1)), (3, .int ea), (0, .ref (q 0)), (1, .int v1), (2, .int v2)]) (2 ^ nt) 0 (0, 0, ea) ⟨Nat.zero_add _, (show 0 ≤ 0 from (Nat.le_refl _)), (show 0 ≤ 0 from (Nat.le_refl _)), (show 0 < 0 → 0 < 0 from (fun h => absurd h (by decide))), rfl, hP, hD, hS, lv_sub hl [0, 1, 2, 3, 4, 5, 6] rfl⟩ ?_ ?_
        · intro i42 z ls H locs hI
          obtain ⟨u6_42, u4_42, wea_42⟩ := z
          obtain ⟨hk42, h6i, h4i, h6p, hm42, hP, hD, hS, hl⟩ := hI
          have hm42 : m_X3_odds_L42 nc ac nt kd ho pl st ea v1 0 i42 u6_42 u4_42 wea_42 = m_X3_odds_L42 nc ac nt kd ho pl st ea v1 (2 ^ nt) 0 0 0 ea := hm42
          have h6i : u6_42 ≤ i42 := h6i
          have h4i : u4_42 ≤ i42 := h4i
          have h6p : 0 < i42 → 0 < u6_42 := h6p
          have hP : va_P D vwCl [((q 0), .inr (3, [.int fa, .int (nI nc), .ref (q 1), .int (nI nt), .ref (q 2), .ref (q 3), .ref (q 4), .ref (q 5), .int wea_42, .int (nI ra), .int (nI rs), .int (nI rt), .ref (q 6), .ref (q 7), .ref (q 8), .ref (q 9), .ref (q 10), .ref (q 11), .int (nI nr), .ref (q 12), .ref (q 13), .ref (q 14), .ref (q 15), .ref (q 16), .ref (q 17), .int tr])), ((q 1), .inl (cI, 6, .inl ac)), ((q 2), .inl (cI, 6, .inl kd)), ((q 3), .inl (cI, 6, .inl ho)), ((q 4), .inl (cI, 6, .inl pl)), ((q 5), .inl (cI, 6, .inl st))] H := hP
          have hD : va_D A [((q 0), .inr (3, [.int fa, .int (nI nc), .ref (q 1), .int (nI nt), .ref (q 2), .ref (q 3), .ref (q 4), .ref (q 5), .int wea_42, .int (nI ra), .int (nI rs), .int (nI rt), .ref (q 6), .ref (q 7), .ref (q 8), .ref (q 9), .ref (q 10), .ref (q 11), .int (nI nr), .ref (q 12), .ref (q 13), .ref (q 14), .ref (q 15), .ref (q 16), .ref (q 17), .int tr])), ((q 1), .inl (cI, 6, .inl ac)), ((q 2), .inl (cI, 6, .inl kd)), ((q 3), .inl (cI, 6, .inl ho)), ((q 4), .inl (cI, 6, .inl pl)), ((q 5), .inl (cI, 6, .inl st))] := hD
          have hl : lv_has ls 9 [(8, .int (nI i42)), (6, .long (lN u6_42)), (4, .long (lN u4_42)), (3, .int ea), (0, .ref (q 0)), (1, .int v1), (2, .int v2)] := hl
          have hm42 : (u6_42, u4_42, wea_42) = m_X3_odds_L42 nc ac nt kd ho pl st ea v1 (2 ^ nt) 0 0 0 ea := hm42
          refine lv_iload hx hb dX3_odds_42 (lv_at hl 0 rfl) ?_
          refine lv_iconst (v := 1) hx hb dX3_odds_44 (by decide) ?_
          refine lv_aload_n hx hb dX3_odds_45 rfl (lv_at hl 4 rfl) ?_
          refine va_get (ci := 3) (v := .int (nI nt)) (C := RX3) (T := TX3) (N := 26) hx hb hts hin_X3 hown hK hP 0 rfl rfl 3 (by decide) fl_78 (fun _ h9 => h9) rfl dX3_odds_46 ?_
          refine lv_ishl hx hb dX3_odds_49 ?_
          refine lv_icmp_ge (tgt := 105) hx hb dX3_odds_50 (by decide) (fun c_50 => ?_) (fun c_50 => absurd (tw_tge (tw_pow nt hn) (show 2 ^ nt ≤ i42 by omega) (show i42 < 2 ^ 31 by omega)) c_50)
          refine lv_aload_n hx hb dX3_odds_105 rfl (lv_at hl 4 rfl) ?_
          refine lv_iload_n hx hb dX3_odds_106 rfl (lv_at hl 3 rfl) ?_
          refine va_put (ci := 3) (v := .int ea) (ty := .int) (C := RX3) (T := TX3) (N := 26) hx hb hts hin_X3 tyX3 tyX3_ok nmX3 hown hK hP hD hS 0 rfl rfl 8 (by decide) fl_129 (fun _ h9 => h9) rfl (by decide +kernel) rfl rfl (Nat.le_of_ble_eq_true rfl) dX3_odds_107 (fun H locs hP hD hS => ?_)
          have hP : va_P D vwCl [((q 0), .inr (3, [.int fa, .int (nI nc), .ref (q 1), .int (nI nt), .ref (q 2), .ref (q 3), .ref (q 4), .ref (q 5), .int ea, .int (nI ra), .int (nI rs), .int (nI rt), .ref (q 6), .ref (q 7), .ref (q 8), .ref (q 9), .ref (q 10), .ref (q 11), .int (nI nr), .ref (q 12), .ref (q 13), .ref (q 14), .ref (q 15), .ref (q 16), .ref (q 17), .int tr])), ((q 1), .inl (cI, 6, .inl ac)), ((q 2), .inl (cI, 6, .inl kd)), ((q 3), .inl (cI, 6, .inl ho)), ((q 4), .inl (cI, 6, .inl pl)), ((q 5), .inl (cI, 6, .inl st))] H := hP
          have hD : va_D A [((q 0), .inr (3, [.int fa, .int (nI nc), .ref (q 1), .int (nI nt), .ref (q 2), .ref (q 3), .ref (q 4), .ref (q 5), .int ea, .int (nI ra), .int (nI rs), .int (nI rt), .ref (q 6), .ref (q 7), .ref (q 8), .ref (q 9), .ref (q 10), .ref (q 11), .int (nI nr), .ref (q 12), .ref (q 13), .ref (q 14), .ref (q 15), .ref (q 16), .ref (q 17), .int tr])), ((q 1), .inl (cI, 6, .inl ac)), ((q 2), .inl (cI, 6, .inl kd)), ((q 3), .inl (cI, 6, .inl ho)), ((q 4), .inl (cI, 6, .inl pl)), ((q 5), .inl (cI, 6, .inl st))] := hD
          refine lv_lload hx hb dX3_odds_110 (lv_at hl 2 rfl) ?_
          refine lv_lload hx hb dX3_odds_112 (lv_at hl 1 rfl) ?_
          refine lv_iload_n hx hb dX3_odds_114 rfl (lv_at hl 6 rfl) ?_
          refine tw_cl (va_runS (As := [.long (lN u4_42), .long (lN u6_42), .int v2]) (rest := []) ⟨hx, hb, hml, hown, hts⟩ (c_X3_share l D cI cS v2 u4_42 u6_42 (by omega) (by omega) (h6p (by have := Nat.two_pow_pos nt; omega))) (va_cwS 3 hts gX3_odds_X3_share rfl rfl rfl (by decide +kernel) ⟨Nat.le_of_ble_eq_true rfl, Nat.le_of_ble_eq_true rfl⟩) ⟨tw_Rb, tw_Rp (hP.sub (ws' := []) [] rfl) hK⟩ rfl rfl hl.1 rfl (lv_room (Nat.le_of_ble_eq_true rfl)) dX3_odds_115 ⟨Nat.zero_le _, Nat.zero_le _⟩) ?_
          have hE : (m_X3_odds nc ac nt kd ho pl st ea v1 v2) = (m_X3_share v2 u4_42 u6_42) := Eq.symm (by (unfold m_X3_odds; rw [if_pos c_4]; rw [if_neg c_14]; rw [if_neg c_21]; rw [← hm42]; (try dsimp only)) <;> rfl)
          rw [hE]
          exact W.lret hx hb hr (fun t ht hW => ⟨⟨_, (), rfl, rfl, by rw [ht]; exact hP, va_K.moved hW.alike hK, hD⟩, hS.F ht⟩) hS.2.2 dX3_odds_118
        · intro k42 i42 z ls H locs ih42 hI
          obtain ⟨u6_42, u4_42, wea_42⟩ := z
          obtain ⟨hk42, h6i, h4i, h6p, hm42, hP, hD, hS, hl⟩ := hI
          have hm42 : m_X3_odds_L42 nc ac nt kd ho pl st ea v1 (k42 + 1) i42 u6_42 u4_42 wea_42 = m_X3_odds_L42 nc ac nt kd ho pl st ea v1 (2 ^ nt) 0 0 0 ea := hm42
          have h6i : u6_42 ≤ i42 := h6i
          have h4i : u4_42 ≤ i42 := h4i
          have h6p : 0 < i42 → 0 < u6_42 := h6p
          have hP : va_P D vwCl [((q 0), .inr (3, [.int fa, .int (nI nc), .ref (q 1), .int (nI nt), .ref (q 2), .ref (q 3), .ref (q 4), .ref (q 5), .int wea_42, .int (nI ra), .int (nI rs), .int (nI rt), .ref (q 6), .ref (q 7), .ref (q 8), .ref (q 9), .ref (q 10), .ref (q 11), .int (nI nr), .ref (q 12), .ref (q 13), .ref (q 14), .ref (q 15), .ref (q 16), .ref (q 17), .int tr])), ((q 1), .inl (cI, 6, .inl ac)), ((q 2), .inl (cI, 6, .inl kd)), ((q 3), .inl (cI, 6, .inl ho)), ((q 4), .inl (cI, 6, .inl pl)), ((q 5), .inl (cI, 6, .inl st))] H := hP
          have hD : va_D A [((q 0), .inr (3, [.int fa, .int (nI nc), .ref (q 1), .int (nI nt), .ref (q 2), .ref (q 3), .ref (q 4), .ref (q 5), .int wea_42, .int (nI ra), .int (nI rs), .int (nI rt), .ref (q 6), .ref (q 7), .ref (q 8), .ref (q 9), .ref (q 10), .ref (q 11), .int (nI nr), .ref (q 12), .ref (q 13), .ref (q 14), .ref (q 15), .ref (q 16), .ref (q 17), .int tr])), ((q 1), .inl (cI, 6, .inl ac)), ((q 2), .inl (cI, 6, .inl kd)), ((q 3), .inl (cI, 6, .inl ho)), ((q 4), .inl (cI, 6, .inl pl)), ((q 5), .inl (cI, 6, .inl st))] := hD
          have hl : lv_has ls 9 [(8, .int (nI i42)), (6, .long (lN u6_42)), (4, .long (lN u4_42)), (3, .int ea), (0, .ref (q 0)), (1, .int v1), (2, .int v2)] := hl
          refine lv_iload hx hb dX3_odds_42 (lv_at hl 0 rfl) ?_
          refine lv_iconst (v := 1) hx hb dX3_odds_44 (by decide) ?_
          refine lv_aload_n hx hb dX3_odds_45 rfl (lv_at hl 4 rfl) ?_
          refine va_get (ci := 3) (v := .int (nI nt)) (C := RX3) (T := TX3) (N := 26) hx hb hts hin_X3 hown hK hP 0 rfl rfl 3 (by decide) fl_78 (fun _ h9 => h9) rfl dX3_odds_46 ?_
          refine lv_ishl hx hb dX3_odds_49 ?_
          refine lv_icmp_ge (tgt := 105) hx hb dX3_odds_50 (by decide) (fun c_50 => absurd c_50 (tw_tlt (tw_pow nt hn) (show i42 < 2 ^ nt by omega) (show 2 ^ nt < 2 ^ 31 by omega))) (fun c_50 => ?_)
          refine lv_iload hx hb dX3_odds_53 (lv_at hl 0 rfl) ?_
          refine lv_iload_n hx hb dX3_odds_55 rfl (lv_at hl 3 rfl) ?_
          refine lv_iand hx hb dX3_odds_56 ?_
          refine lv_if_ne (tgt := 99) hx hb dX3_odds_57 (by decide) (fun c_57 => ?_) (fun c_57 => ?_)
          · refine lv_iinc (v := nI (i42 + 1)) (lv' := [(8, .int (nI (i42 + 1))), (6, .long (lN u6_42)), (4, .long (lN u4_42)), (3, .int ea), (0, .ref (q 0)), (1, .int v1), (2, .int v2)]) hx hb dX3_odds_99 hl (k := 0) rfl (nI_1 _) (by decide) rfl (fun ls hl => ?_)
            refine lv_goto (tgt := 42) hx hb dX3_odds_102 (by decide) ?_
            exact ih42 (u6_42, u4_42, wea_42) ls H _ ⟨by omega, (show u6_42 ≤ (i42 + 1) from (by omega)), (show u4_42 ≤ (i42 + 1) from (by omega)), (show 0 < (i42 + 1) → 0 < u6_42 from (by first | exact fun _ => Nat.succ_pos _ | exact fun _ => odds_pos h6p c_57)), (by (rw [← hm42, m_X3_odds_L42_s]; rw [if_neg c_57]) <;> rfl), hP, hD, hS, lv_sub hl [0, 1, 2, 3, 4, 5, 6] rfl⟩
          · refine lv_aload_n hx hb dX3_odds_60 rfl (lv_at hl 4 rfl) ?_
            refine lv_iload_n hx hb dX3_odds_61 rfl (lv_at hl 3 rfl) ?_
            refine lv_iload hx hb dX3_odds_62 (lv_at hl 0 rfl) ?_
            refine lv_ior hx hb dX3_odds_64 ?_
            refine va_put (ci := 3) (v := .int (ea ||| (nI i42))) (ty := .int) (C := RX3) (T := TX3) (N := 26) hx hb hts hin_X3 tyX3 tyX3_ok nmX3 hown hK hP hD hS 0 rfl rfl 8 (by decide) fl_129 (fun _ h9 => h9) rfl (by decide +kernel) rfl rfl (Nat.le_of_ble_eq_true rfl) dX3_odds_65 (fun H locs hP hD hS => ?_)
            have hP : va_P D vwCl [((q 0), .inr (3, [.int fa, .int (nI nc), .ref (q 1), .int (nI nt), .ref (q 2), .ref (q 3), .ref (q 4), .ref (q 5), .int (ea ||| (nI i42)), .int (nI ra), .int (nI rs), .int (nI rt), .ref (q 6), .ref (q 7), .ref (q 8), .ref (q 9), .ref (q 10), .ref (q 11), .int (nI nr), .ref (q 12), .ref (q 13), .ref (q 14), .ref (q 15), .ref (q 16), .ref (q 17), .int tr])), ((q 1), .inl (cI, 6, .inl ac)), ((q 2), .inl (cI, 6, .inl kd)), ((q 3), .inl (cI, 6, .inl ho)), ((q 4), .inl (cI, 6, .inl pl)), ((q 5), .inl (cI, 6, .inl st))] H := hP
            have hD : va_D A [((q 0), .inr (3, [.int fa, .int (nI nc), .ref (q 1), .int (nI nt), .ref (q 2), .ref (q 3), .ref (q 4), .ref (q 5), .int (ea ||| (nI i42)), .int (nI ra), .int (nI rs), .int (nI rt), .ref (q 6), .ref (q 7), .ref (q 8), .ref (q 9), .ref (q 10), .ref (q 11), .int (nI nr), .ref (q 12), .ref (q 13), .ref (q 14), .ref (q 15), .ref (q 16), .ref (q 17), .int tr])), ((q 1), .inl (cI, 6, .inl ac)), ((q 2), .inl (cI, 6, .inl kd)), ((q 3), .inl (cI, 6, .inl ho)), ((q 4), .inl (cI, 6, .inl pl)), ((q 5), .inl (cI, 6, .inl st))] := hD
            refine lv_lload hx hb dX3_odds_68 (lv_at hl 1 rfl) ?_
            refine lv_lconst (v := 1) hx hb dX3_odds_70 (by decide) ?_
            refine lv_ladd hx hb dX3_odds_71 ?_
            refine tw_topl (show _ = lN (u6_42 + 1) from lN_1 _) ?_
            refine lv_lstore (lv' := [(6, .long (lN (u6_42 + 1))), (8, .int (nI i42)), (4, .long (lN u4_42)), (3, .int ea), (0, .ref (q 0)), (1, .int v1), (2, .int v2)]) hx hb dX3_odds_72 hl (by decide) rfl (fun ls hl => ?_)
            refine lv_lload hx hb dX3_odds_74 (lv_at hl 2 rfl) ?_
            refine lv_aload_n hx hb dX3_odds_76 rfl (lv_at hl 4 rfl) ?_
            refine lv_iload_n hx hb dX3_odds_77 rfl (lv_at hl 5 rfl) ?_
            refine tw_cs (va_runV (As := [.int v1]) (rest := [.long (lN u4_42)]) ⟨hx, hb, hml, hown, hts⟩ (c_X3_landOf l D cI cS q fa nc ac nt kd ho pl st (ea ||| (nI i42)) ra rs rt nr tr v1 (by first | assumption | omega | exact hz60 _ | exact vp_in_nI (by omega) (by decide)) (by first | assumption | omega | exact hz60 _ | exact vp_in_nI (by omega) (by decide))) (cwV 1 hts gX3_odds_X3_landOf rfl rfl rfl (by decide +kernel) ⟨Nat.le_of_ble_eq_true rfl, Nat.le_of_ble_eq_true rfl⟩) ⟨tw_Rb, va_recv hK hP (ci := 3) (q0 := 0) rfl rfl, tw_Rp (hP.sub (ws' := [((q 0), .inr (3, [.int fa, .int (nI nc), .ref (q 1), .int (nI nt), .ref (q 2), .ref (q 3), .ref (q 4), .ref (q 5), .int (ea ||| (nI i42)), .int (nI ra), .int (nI rs), .int (nI rt), .ref (q 6), .ref (q 7), .ref (q 8), .ref (q 9), .ref (q 10), .ref (q 11), .int (nI nr), .ref (q 12), .ref (q 13), .ref (q 14), .ref (q 15), .ref (q 16), .ref (q 17), .int tr])), ((q 1), .inl (cI, 6, .inl ac)), ((q 2), .inl (cI, 6, .inl kd)), ((q 3), .inl (cI, 6, .inl ho)), ((q 4), .inl (cI, 6, .inl pl)), ((q 5), .inl (cI, 6, .inl st))]) [0, 1, 2, 3, 4, 5] rfl) hK⟩ rfl rfl hl.1 rfl (lv_room (Nat.le_of_ble_eq_true rfl)) dX3_odds_78 ⟨Nat.zero_le _, Nat.zero_le _⟩) ?_
            refine lv_aload_n hx hb dX3_odds_81 rfl (lv_at hl 4 rfl) ?_
            refine lv_iconst (v := 1) hx hb dX3_odds_82 (by decide) ?_
            refine lv_iload_n hx hb dX3_odds_83 rfl (lv_at hl 5 rfl) ?_
            refine lv_isub hx hb dX3_odds_84 ?_
            refine tw_cs (va_runV (As := [.int (1 - v1)]) (rest := [.int (m_X3_landOf nc ac nt kd ho pl st (ea ||| (nI i42)) v1), .long (lN u4_42)]) ⟨hx, hb, hml, hown, hts⟩ (c_X3_landOf l D cI cS q fa nc ac nt kd ho pl st (ea ||| (nI i42)) ra rs rt nr tr (1 - v1) (by first | assumption | omega | exact hz60 _ | exact vp_in_nI (by omega) (by decide)) (by first | assumption | omega | exact hz60 _ | exact vp_in_nI (by omega) (by decide))) (cwV 1 hts gX3_odds_X3_landOf rfl rfl rfl (by decide +kernel) ⟨Nat.le_of_ble_eq_true rfl, Nat.le_of_ble_eq_true rfl⟩) ⟨tw_Rb, va_recv hK hP (ci := 3) (q0 := 0) rfl rfl, tw_Rp (hP.sub (ws' := [((q 0), .inr (3, [.int fa, .int (nI nc), .ref (q 1), .int (nI nt), .ref (q 2), .ref (q 3), .ref (q 4), .ref (q 5), .int (ea ||| (nI i42)), .int (nI ra), .int (nI rs), .int (nI rt), .ref (q 6), .ref (q 7), .ref (q 8), .ref (q 9), .ref (q 10), .ref (q 11), .int (nI nr), .ref (q 12), .ref (q 13), .ref (q 14), .ref (q 15), .ref (q 16), .ref (q 17), .int tr])), ((q 1), .inl (cI, 6, .inl ac)), ((q 2), .inl (cI, 6, .inl kd)), ((q 3), .inl (cI, 6, .inl ho)), ((q 4), .inl (cI, 6, .inl pl)), ((q 5), .inl (cI, 6, .inl st))]) [0, 1, 2, 3, 4, 5] rfl) hK⟩ rfl rfl hl.1 rfl (lv_room (Nat.le_of_ble_eq_true rfl)) dX3_odds_85 ⟨Nat.zero_le _, Nat.zero_le _⟩) ?_
            refine lv_icmp_le (tgt := 95) hx hb dX3_odds_88 (by decide) (fun c_88 => ?_) (fun c_88 => ?_)
            · refine lv_lconst (v := 0) hx hb dX3_odds_95 (by decide) ?_
              refine lv_ladd hx hb dX3_odds_96 ?_
              refine tw_topl (show _ = lN u4_42 from (Int64.add_zero _)) ?_
              refine lv_lstore (lv' := [(4, .long (lN u4_42)), (6, .long (lN (u6_42 + 1))), (8, .int (nI i42)), (3, .int ea), (0, .ref (q 0)), (1, .int v1), (2, .int v2)]) hx hb dX3_odds_97 hl (by decide) rfl (fun ls hl => ?_)
              refine lv_iinc (v := nI (i42 + 1)) (lv' := [(8, .int (nI (i42 + 1))), (4, .long (lN u4_42)), (6, .long (lN (u6_42 + 1))), (3, .int ea), (0, .ref (q 0)), (1, .int v1), (2, .int v2)]) hx hb dX3_odds_99 hl (k := 2) rfl (nI_1 _) (by decide) rfl (fun ls hl => ?_)
              refine lv_goto (tgt := 42) hx hb dX3_odds_102 (by decide) ?_
              exact ih42 ((u6_42 + 1), u4_42, ea ||| (nI i42)) ls H _ ⟨by omega, (show (u6_42 + 1) ≤ (i42 + 1) from (by omega)), (show u4_42 ≤ (i42 + 1) from (by omega)), (show 0 < (i42 + 1) → 0 < (u6_42 + 1) from (by first | exact fun _ => Nat.succ_pos _ | exact fun _ => odds_pos h6p c_57)), (by (rw [← hm42, m_X3_odds_L42_s]; rw [if_pos c_57]; rw [if_pos c_88]) <;> rfl), hP, hD, hS, lv_sub hl [0, 2, 1, 3, 4, 5, 6] rfl⟩
            · refine lv_lconst (v := 1) hx hb dX3_odds_91 (by decide) ?_
              refine lv_goto (tgt := 96) hx hb dX3_odds_92 (by decide) ?_
              refine lv_ladd hx hb dX3_odds_96 ?_
              refine tw_topl (show _ = lN (u4_42 + 1) from lN_1 _) ?_
              refine lv_lstore (lv' := [(4, .long (lN (u4_42 + 1))), (6, .long (lN (u6_42 + 1))), (8, .int (nI i42)), (3, .int ea), (0, .ref (q 0)), (1, .int v1), (2, .int v2)]) hx hb dX3_odds_97 hl (by decide) rfl (fun ls hl => ?_)
              refine lv_iinc (v := nI (i42 + 1)) (lv' := [(8, .int (nI (i42 + 1))), (4, .long (lN (u4_42 + 1))), (6, .long (lN (u6_42 + 1))), (3, .int ea), (0, .ref (q 0)), (1, .int v1), (2, .int v2)]) hx hb dX3_odds_99 hl (k := 2) rfl (nI_1 _) (by decide) rfl (fun ls hl => ?_)
              refine lv_goto (tgt := 42) hx hb dX3_odds_102 (by decide) ?_
              exact ih42 ((u6_42 + 1), (u4_42 + 1), ea ||| (nI i42)) ls H _ ⟨by omega, (show (u6_42 + 1) ≤ (i42 + 1) from (by omega)), (show (u4_42 + 1) ≤ (i42 + 1) from (by omega)), (show 0 < (i42 + 1) → 0 < (u6_42 + 1) from (by first | exact fun _ => Nat.succ_pos _ | exact fun _ => odds_pos h6p c_57)), (by (rw [← hm42, m_X3_odds_L42_s]; rw [if_pos c_57]; rw [if_neg c_88]) <;> rfl), hP, hD, hS, lv_sub hl [0, 2, 1, 3, 4, 5, 6] rfl⟩
      · refine tw_cl (va_runS (As := []) (rest := []) ⟨hx, hb, hml, hown, hts⟩ (c_X3_lost l D cI cS ) (va_cwS 0 hts gX3_odds_X3_lost rfl rfl rfl (by decide +kernel) ⟨Nat.le_of_ble_eq_true rfl, Nat.le_of_ble_eq_true rfl⟩) ⟨tw_Rb, tw_Rp (hP.sub (ws' := []) [] rfl) hK⟩ rfl rfl hl.1 rfl (lv_room (Nat.le_of_ble_eq_true rfl)) dX3_odds_24 ⟨Nat.zero_le _, Nat.zero_le _⟩) ?_
        have hE : (m_X3_odds nc ac nt kd ho pl st ea v1 v2) = m_X3_lost := Eq.symm (by (unfold m_X3_odds; rw [if_pos c_4]; rw [if_neg c_14]; rw [if_pos c_21]) <;> rfl)
        rw [hE]
        exact W.lret hx hb hr (fun t ht hW => ⟨⟨_, (), rfl, rfl, by rw [ht]; exact hP, va_K.moved hW.alike hK, hD⟩, hS.F ht⟩) hS.2.2 dX3_odds_27
