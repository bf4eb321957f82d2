def m_J6_bitCount (v0 : Int32) : Int32 :=
  (((((((v0 - (((v0.toUInt32 >>> ((1 : Int32).toUInt32 &&& Int32.toUInt32 31)).toInt32) &&& 1431655765)) &&& 858993459) + ((((v0 - (((v0.toUInt32 >>> ((1 : Int32).toUInt32 &&& Int32.toUInt32 31)).toInt32) &&& 1431655765)).toUInt32 >>> ((2 : Int32).toUInt32 &&& Int32.toUInt32 31)).toInt32) &&& 858993459)) + (((((v0 - (((v0.toUInt32 >>> ((1 : Int32).toUInt32 &&& Int32.toUInt32 31)).toInt32) &&& 1431655765)) &&& 858993459) + ((((v0 - (((v0.toUInt32 >>> ((1 : Int32).toUInt32 &&& Int32.toUInt32 31)).toInt32) &&& 1431655765)).toUInt32 >>> ((2 : Int32).toUInt32 &&& Int32.toUInt32 31)).toInt32) &&& 858993459)).toUInt32 >>> ((4 : Int32).toUInt32 &&& Int32.toUInt32 31)).toInt32)) &&& 252645135) + (((((((v0 - (((v0.toUInt32 >>> ((1 : Int32).toUInt32 &&& Int32.toUInt32 31)).toInt32) &&& 1431655765)) &&& 858993459) + ((((v0 - (((v0.toUInt32 >>> ((1 : Int32).toUInt32 &&& Int32.toUInt32 31)).toInt32) &&& 1431655765)).toUInt32 >>> ((2 : Int32).toUInt32 &&& Int32.toUInt32 31)).toInt32) &&& 858993459)) + (((((v0 - (((v0.toUInt32 >>> ((1 : Int32).toUInt32 &&& Int32.toUInt32 31)).toInt32) &&& 1431655765)) &&& 858993459) + ((((v0 - (((v0.toUInt32 >>> ((1 : Int32).toUInt32 &&& Int32.toUInt32 31)).toInt32) &&& 1431655765)).toUInt32 >>> ((2 : Int32).toUInt32 &&& Int32.toUInt32 31)).toInt32) &&& 858993459)).toUInt32 >>> ((4 : Int32).toUInt32 &&& Int32.toUInt32 31)).toInt32)) &&& 252645135).toUInt32 >>> ((8 : Int32).toUInt32 &&& Int32.toUInt32 31)).toInt32)) + ((((((((v0 - (((v0.toUInt32 >>> ((1 : Int32).toUInt32 &&& Int32.toUInt32 31)).toInt32) &&& 1431655765)) &&& 858993459) + ((((v0 - (((v0.toUInt32 >>> ((1 : Int32).toUInt32 &&& Int32.toUInt32 31)).toInt32) &&& 1431655765)).toUInt32 >>> ((2 : Int32).toUInt32 &&& Int32.toUInt32 31)).toInt32) &&& 858993459)) + (((((v0 - (((v0.toUInt32 >>> ((1 : Int32).toUInt32 &&& Int32.toUInt32 31)).toInt32) &&& 1431655765)) &&& 858993459) + ((((v0 - (((v0.toUInt32 >>> ((1 : Int32).toUInt32 &&& Int32.toUInt32 31)).toInt32) &&& 1431655765)).toUInt32 >>> ((2 : Int32).toUInt32 &&& Int32.toUInt32 31)).toInt32) &&& 858993459)).toUInt32 >>> ((4 : Int32).toUInt32 &&& Int32.toUInt32 31)).toInt32)) &&& 252645135) + (((((((v0 - (((v0.toUInt32 >>> ((1 : Int32).toUInt32 &&& Int32.toUInt32 31)).toInt32) &&& 1431655765)) &&& 858993459) + ((((v0 - (((v0.toUInt32 >>> ((1 : Int32).toUInt32 &&& Int32.toUInt32 31)).toInt32) &&& 1431655765)).toUInt32 >>> ((2 : Int32).toUInt32 &&& Int32.toUInt32 31)).toInt32) &&& 858993459)) + (((((v0 - (((v0.toUInt32 >>> ((1 : Int32).toUInt32 &&& Int32.toUInt32 31)).toInt32) &&& 1431655765)) &&& 858993459) + ((((v0 - (((v0.toUInt32 >>> ((1 : Int32).toUInt32 &&& Int32.toUInt32 31)).toInt32) &&& 1431655765)).toUInt32 >>> ((2 : Int32).toUInt32 &&& Int32.toUInt32 31)).toInt32) &&& 858993459)).toUInt32 >>> ((4 : Int32).toUInt32 &&& Int32.toUInt32 31)).toInt32)) &&& 252645135).toUInt32 >>> ((8 : Int32).toUInt32 &&& Int32.toUInt32 31)).toInt32)).toUInt32 >>> ((16 : Int32).toUInt32 &&& Int32.toUInt32 31)).toInt32)) &&& 63
set_option maxHeartbeats 4000000 in
set_option maxRecDepth 100000 in
theorem c_J6_bitCount (l : Launch) (D : va_G) (cI cS : ClassId)  (v0 : Int32)  : Met l yJ6_bitCount_0f7a4 wsJ6_bitCount_0f7a4 ({ frames := 0, cells := 0, slots := 0, locals := 0 }) (tw_R D cI cS [.int v0] []) (vp_Si (fun r => r = (m_J6_bitCount v0))) 0 0 (fun _ => False) := by
  refine Met.ofW (cc := cJ6_bitCount_0f7a4) (maxL := 1) (ret := (some .int)) (by decide) rfl ?_
  intro p e s m args below meth c s₁ B hml hv
  obtain ⟨rfl, hP, hK⟩ := hv
  have hx := B.exec
  have hb := B.bytes
  have hr := B.returns
  have hts := atoms_spec (ws := wsJ6_bitCount_0f7a4) B.pre
  have hown : s.vm.findClass RJ6 = some m.cls := findClass_of_methodNamed B.named
  have hlocks := B.notSynchronized
  have kl_265 := hts (.constant RJ6 265 (1431655765)) (by decide +kernel)
  have kl_266 := hts (.constant RJ6 266 (858993459)) (by decide +kernel)
  have kl_267 := hts (.constant RJ6 267 (252645135)) (by decide +kernel)
  have hl := lv_entry ([.int v0]) (n := 1) (Nat.le_of_ble_eq_true rfl)
  rw [lg_entry_eq]
  generalize (lg_sl ([.int v0]) ++ List.replicate (1 - (lg_sl ([.int v0])).length) Slot.unset).toArray = ls at hl ⊢
  have hl : lv_has ls 1 [(0, .int v0)] := hl
  refine lv_iload_n hx hb dJ6_bitCount_0f7a4_0 rfl (lv_at hl 0 rfl) ?_
  refine lv_iload_n hx hb dJ6_bitCount_0f7a4_1 rfl (lv_at hl 0 rfl) ?_
  refine lv_iconst (v := 1) hx hb dJ6_bitCount_0f7a4_2 (by decide) ?_
  refine lv_iushr hx hb dJ6_bitCount_0f7a4_3 rfl ?_
  refine lv_ldcw (v := 1431655765) hx hb hown kl_265 dJ6_bitCount_0f7a4_4 ?_
  refine lv_iand hx hb dJ6_bitCount_0f7a4_7 ?_
  refine lv_isub hx hb dJ6_bitCount_0f7a4_8 ?_
  refine lv_istore_n (lv' := [(0, .int (v0 - (((v0.toUInt32 >>> ((1 : Int32).toUInt32 &&& Int32.toUInt32 31)).toInt32) &&& 1431655765)))]) hx hb dJ6_bitCount_0f7a4_9 rfl hl (by decide) rfl (fun ls hl => ?_)
  refine lv_iload_n hx hb dJ6_bitCount_0f7a4_10 rfl (lv_at hl 0 rfl) ?_
  refine lv_ldcw (v := 858993459) hx hb hown kl_266 dJ6_bitCount_0f7a4_11 ?_
  refine lv_iand hx hb dJ6_bitCount_0f7a4_14 ?_
  refine lv_iload_n hx hb dJ6_bitCount_0f7a4_15 rfl (lv_at hl 0 rfl) ?_
  refine lv_iconst (v := 2) hx hb dJ6_bitCount_0f7a4_16 (by decide) ?_
  refine lv_iushr hx hb dJ6_bitCount_0f7a4_17 rfl ?_
  refine lv_ldcw (v := 858993459) hx hb hown kl_266 dJ6_bitCount_0f7a4_18 ?_
  refine lv_iand hx hb dJ6_bitCount_0f7a4_21 ?_
  refine lv_iadd hx hb dJ6_bitCount_0f7a4_22 ?_
  refine lv_istore_n (lv' := [(0, .int (((v0 - (((v0.toUInt32 >>> ((1 : Int32).toUInt32 &&& Int32.toUInt32 31)).toInt32) &&& 1431655765)) &&& 858993459) + ((((v0 - (((v0.toUInt32 >>> ((1 : Int32).toUInt32 &&& Int32.toUInt32 31)).toInt32) &&& 1431655765)).toUInt32 >>> ((2 : Int32).toUInt32 &&& Int32.toUInt32 31)).toInt32) &&& 858993459)))]) hx hb dJ6_bitCount_0f7a4_23 rfl hl (by decide) rfl (fun ls hl => ?_)
  refine lv_iload_n hx hb dJ6_bitCount_0f7a4_24 rfl (lv_at hl 0 rfl) ?_
  refine lv_iload_n hx hb dJ6_bitCount_0f7a4_25 rfl (lv_at hl 0 rfl) ?_
  refine lv_iconst (v := 4) hx hb dJ6_bitCount_0f7a4_26 (by decide) ?_
  refine lv_iushr hx hb dJ6_bitCount_0f7a4_27 rfl ?_
  refine lv_iadd hx hb dJ6_bitCount_0f7a4_28 ?_
  refine lv_ldcw (v := 252645135) hx hb hown kl_267 dJ6_bitCount_0f7a4_29 ?_
  refine lv_iand hx hb dJ6_bitCount_0f7a4_32 ?_
  refine lv_istore_n (lv' := [(0, .int (((((v0 - (((v0.toUInt32 >>> ((1 : Int32).toUInt32 &&& Int32.toUInt32 31)).toInt32) &&& 1431655765)) &&& 858993459) + ((((v0 - (((v0.toUInt32 >>> ((1 : Int32).toUInt32 &&& Int32.toUInt32 31)).toInt32) &&& 1431655765)).toUInt32 >>> ((2 : Int32).toUInt32 &&& Int32.toUInt32 31)).toInt32) &&& 858993459)) + (((((v0 - (((v0.toUInt32 >>> ((1 : Int32).toUInt32 &&& Int32.toUInt32 31)).toInt32) &&& 1431655765)) &&& 858993459) + ((((v0 - (((v0.toUInt32 >>> ((1 : Int32).toUInt32 &&& Int32.toUInt32 31)).toInt32) &&& 1431655765)).toUInt32 >>> ((2 : Int32).toUInt32 &&& Int32.toUInt32 31)).toInt32) &&& 858993459)).toUInt32 >>> ((4 : Int32).toUInt32 &&& Int32.toUInt32 31)).toInt32)) &&& 252645135))]) hx hb dJ6_bitCount_0f7a4_33 rfl hl (by decide) rfl (fun ls hl => ?_)
  refine lv_iload_n hx hb dJ6_bitCount_0f7a4_34 rfl (lv_at hl 0 rfl) ?_
  refine lv_iload_n hx hb dJ6_bitCount_0f7a4_35 rfl (lv_at hl 0 rfl) ?_
  refine lv_bipush (v := 8) hx hb dJ6_bitCount_0f7a4_36 (by decide) ?_
  refine lv_iushr hx hb dJ6_bitCount_0f7a4_38 rfl ?_
  refine lv_iadd hx hb dJ6_bitCount_0f7a4_39 ?_
  refine lv_istore_n (lv' := [(0, .int ((((((v0 - (((v0.toUInt32 >>> ((1 : Int32).toUInt32 &&& Int32.toUInt32 31)).toInt32) &&& 1431655765)) &&& 858993459) + ((((v0 - (((v0.toUInt32 >>> ((1 : Int32).toUInt32 &&& Int32.toUInt32 31)).toInt32) &&& 1431655765)).toUInt32 >>> ((2 : Int32).toUInt32 &&& Int32.toUInt32 31)).toInt32) &&& 858993459)) + (((((v0 - (((v0.toUInt32 >>> ((1 : Int32).toUInt32 &&& Int32.toUInt32 31)).toInt32) &&& 1431655765)) &&& 858993459) + ((((v0 - (((v0.toUInt32 >>> ((1 : Int32).toUInt32 &&& Int32.toUInt32 31)).toInt32) &&& 1431655765)).toUInt32 >>> ((2 : Int32).toUInt32 &&& Int32.toUInt32 31)).toInt32) &&& 858993459)).toUInt32 >>> ((4 : Int32).toUInt32 &&& Int32.toUInt32 31)).toInt32)) &&& 252645135) + (((((((v0 - (((v0.toUInt32 >>> ((1 : Int32).toUInt32 &&& Int32.toUInt32 31)).toInt32) &&& 1431655765)) &&& 858993459) + ((((v0 - (((v0.toUInt32 >>> ((1 : Int32).toUInt32 &&& Int32.toUInt32 31)).toInt32) &&& 1431655765)).toUInt32 >>> ((2 : Int32).toUInt32 &&& Int32.toUInt32 31)).toInt32) &&& 858993459)) + (((((v0 - (((v0.toUInt32 >>> ((1 : Int32).toUInt32 &&& Int32.toUInt32 31)).toInt32) &&& 1431655765)) &&& 858993459) + ((((v0 - (((v0.toUInt32 >>> ((1 : Int32).toUInt32 &&& Int32.toUInt32 31)).toInt32) &&& 1431655765)).toUInt32 >>> ((2 : Int32).toUInt32 &&& Int32.toUInt32 31)).toInt32) &&& 858993459)).toUInt32 >>> ((4 : Int32).toUInt32 &&& Int32.toUInt32 31)).toInt32)) &&& 252645135).toUInt32 >>> ((8 : Int32).toUInt32 &&& Int32.toUInt32 31)).toInt32)))]) hx hb dJ6_bitCount_0f7a4_40 rfl hl (by decide) rfl (fun ls hl => ?_)
  refine lv_iload_n hx hb dJ6_bitCount_0f7a4_41 rfl (lv_at hl 0 rfl) ?_
  refine lv_iload_n hx hb dJ6_bitCount_0f7a4_42 rfl (lv_at hl 0 rfl) ?_
  refine lv_bipush (v := 16) hx hb dJ6_bitCount_0f7a4_43 (by decide) ?_
  refine lv_iushr hx hb dJ6_bitCount_0f7a4_45 rfl ?_
  refine lv_iadd hx hb dJ6_bitCount_0f7a4_46 ?_
  refine lv_istore_n (lv' := [(0, .int (((((((v0 - (((v0.toUInt32 >>> ((1 : Int32).toUInt32 &&& Int32.toUInt32 31)).toInt32) &&& 1431655765)) &&& 858993459) + ((((v0 - (((v0.toUInt32 >>> ((1 : Int32).toUInt32 &&& Int32.toUInt32 31)).toInt32) &&& 1431655765)).toUInt32 >>> ((2 : Int32).toUInt32 &&& Int32.toUInt32 31)).toInt32) &&& 858993459)) + (((((v0 - (((v0.toUInt32 >>> ((1 : Int32).toUInt32 &&& Int32.toUInt32 31)).toInt32) &&& 1431655765)) &&& 858993459) + ((((v0 - (((v0.toUInt32 >>> ((1 : Int32).toUInt32 &&& Int32.toUInt32 31)).toInt32) &&& 1431655765)).toUInt32 >>> ((2 : Int32).toUInt32 &&& Int32.toUInt32 31)).toInt32) &&& 858993459)).toUInt32 >>> ((4 : Int32).toUInt32 &&& Int32.toUInt32 31)).toInt32)) &&& 252645135) + (((((((v0 - (((v0.toUInt32 >>> ((1 : Int32).toUInt32 &&& Int32.toUInt32 31)).toInt32) &&& 1431655765)) &&& 858993459) + ((((v0 - (((v0.toUInt32 >>> ((1 : Int32).toUInt32 &&& Int32.toUInt32 31)).toInt32) &&& 1431655765)).toUInt32 >>> ((2 : Int32).toUInt32 &&& Int32.toUInt32 31)).toInt32) &&& 858993459)) + (((((v0 - (((v0.toUInt32 >>> ((1 : Int32).toUInt32 &&& Int32.toUInt32 31)).toInt32) &&& 1431655765)) &&& 858993459) + ((((v0 - (((v0.toUInt32 >>> ((1 : Int32).toUInt32 &&& Int32.toUInt32 31)).toInt32) &&& 1431655765)).toUInt32 >>> ((2 : Int32).toUInt32 &&& Int32.toUInt32 31)).toInt32) &&& 858993459)).toUInt32 >>> ((4 : Int32).toUInt32 &&& Int32.toUInt32 31)).toInt32)) &&& 252645135).toUInt32 >>> ((8 : Int32).toUInt32 &&& Int32.toUInt32 31)).toInt32)) + ((((((((v0 - (((v0.toUInt32 >>> ((1 : Int32).toUInt32 &&& Int32.toUInt32 31)).toInt32) &&& 1431655765)) &&& 858993459) + ((((v0 - (((v0.toUInt32 >>> ((1 : Int32).toUInt32 &&& Int32.toUInt32 31)).toInt32) &&& 1431655765)).toUInt32 >>> ((2 : Int32).toUInt32 &&& Int32.toUInt32 31)).toInt32) &&& 858993459)) + (((((v0 - (((v0.toUInt32 >>> ((1 : Int32).toUInt32 &&& Int32.toUInt32 31)).toInt32) &&& 1431655765)) &&& 858993459) + ((((v0 - (((v0.toUInt32 >>> ((1 : Int32).toUInt32 &&& Int32.toUInt32 31)).toInt32) &&& 1431655765)).toUInt32 >>> ((2 : Int32).toUInt32 &&& Int32.toUInt32 31)).toInt32) &&& 858993459)).toUInt32 >>> ((4 : Int32).toUInt32 &&& Int32.toUInt32 31)).toInt32)) &&& 252645135) + (((((((v0 - (((v0.toUInt32 >>> ((1 : Int32).toUInt32 &&& Int32.toUInt32 31)).toInt32) &&& 1431655765)) &&& 858993459) + ((((v0 - (((v0.toUInt32 >>> ((1 : Int32).toUInt32 &&& Int32.toUInt32 31)).toInt32) &&& 1431655765)).toUInt32 >>> ((2 : Int32).toUInt32 &&& Int32.toUInt32 31)).toInt32) &&& 858993459)) + (((((v0 - (((v0.toUInt32 >>> ((1 : Int32).toUInt32 &&& Int32.toUInt32 31)).toInt32) &&& 1431655765)) &&& 858993459) + ((((v0 - (((v0.toUInt32 >>> ((1 : Int32).toUInt32 &&& Int32.toUInt32 31)).toInt32) &&& 1431655765)).toUInt32 >>> ((2 : Int32).toUInt32 &&& Int32.toUInt32 31)).toInt32) &&& 858993459)).toUInt32 >>> ((4 : Int32).toUInt32 &&& Int32.toUInt32 31)).toInt32)) &&& 252645135).toUInt32 >>> ((8 : Int32).toUInt32 &&& Int32.toUInt32 31)).toInt32)).toUInt32 >>> ((16 : Int32).toUInt32 &&& Int32.toUInt32 31)).toInt32)))]) hx hb dJ6_bitCount_0f7a4_47 rfl hl (by decide) rfl (fun ls hl => ?_)
  refine lv_iload_n hx hb dJ6_bitCount_0f7a4_48 rfl (lv_at hl 0 rfl) ?_
  refine lv_bipush (v := 63) hx hb dJ6_bitCount_0f7a4_49 (by decide) ?_
  refine lv_iand hx hb dJ6_bitCount_0f7a4_51 ?_
  exact W.iret hx hb hr (fun t ht _ => ⟨_, rfl, (by (unfold m_J6_bitCount) <;> rfl), ht⟩) (fun _ h => nomatch h) dJ6_bitCount_0f7a4_52

def m_X1_isNothing (la : Int32) : Int32 :=
  (if la = (-1) then 1 else 0)
set_option maxHeartbeats 4000000 in
set_option maxRecDepth 100000 in
theorem c_X1_isNothing (l : Launch) (D : va_G) (cI cS : ClassId) (s0 : Nat) (s1 : Nat) (ro : Nat → Int32) (la : Int32) (sz : Int32)  : Met l yX1_isNothing wsX1_isNothing ({ frames := 0, cells := 0, slots := 0, locals := 0 }) (tw_R D cI cS [.ref s0] [(s0, .inr (1, [.ref s1, .int la, .int sz])), (s1, .inl (cI, 60, .inl ro))]) (vp_Si (fun r => r = (m_X1_isNothing la))) 0 0 (fun _ => False) := by
  refine Met.ofW (cc := cX1_isNothing) (maxL := 1) (ret := (some .boolean)) (by decide) rfl ?_
  intro p e s m args below meth c s₁ B hml hv
  obtain ⟨rfl, hP, hK⟩ := hv
  have hx := B.exec
  have hb := B.bytes
  have hr := B.returns
  have hts := atoms_spec (ws := wsX1_isNothing) B.pre
  have hown : s.vm.findClass RX1 = some m.cls := findClass_of_methodNamed B.named
  have hlocks := B.notSynchronized
  have fl_15 := hts (.fieldLink RX1 15 "TableWar$Sheet" "lane" "I") (by decide +kernel)
  have hin_X1 := (show ∀ w ∈ u_ws RX1 TX1 3, w ∈ wsX1_isNothing from by decide +kernel)
  have hl := lv_entry ([.ref s0]) (n := 1) (Nat.le_of_ble_eq_true rfl)
  rw [lg_entry_eq]
  generalize (lg_sl ([.ref s0]) ++ List.replicate (1 - (lg_sl ([.ref s0])).length) Slot.unset).toArray = ls at hl ⊢
  have hl : lv_has ls 1 [(0, .ref s0)] := hl
  refine lv_aload_n hx hb dX1_isNothing_0 rfl (lv_at hl 0 rfl) ?_
  refine va_get (ci := 1) (v := .int la) (C := RX1) (T := TX1) (N := 3) hx hb hts hin_X1 hown hK hP 0 rfl rfl 1 (by decide) fl_15 (fun _ h9 => h9) rfl dX1_isNothing_1 ?_
  refine lv_iconst (v := (-1)) hx hb dX1_isNothing_4 (by decide) ?_
  refine tw_join (fun (y : Int32) => F0 m 13 ls (.int y :: [])) (if la = (-1) then 1 else 0) ?_ (fun J13_0 => ?_)
  · intro y13 hy13
    exact W.zret (ty := .boolean) hx hb hr (by rw [hy13]; (repeat' split) <;> rfl) (fun t ht _ => ⟨_, rfl, (by (unfold m_X1_isNothing; (try rw [← hy13])) <;> rfl), ht⟩) (fun _ h => nomatch h) dX1_isNothing_13
  · refine lv_icmp_ne (tgt := 12) hx hb dX1_isNothing_5 (by decide) (fun c_5 => ?_) (fun c_5 => ?_)
    · refine lv_iconst (v := 0) hx hb dX1_isNothing_12 (by decide) ?_
      exact J13_0 _ (by (rw [if_neg c_5]) <;> rfl)
    · refine lv_iconst (v := 1) hx hb dX1_isNothing_8 (by decide) ?_
      refine lv_goto (tgt := 13) hx hb dX1_isNothing_9 (by decide) ?_
      exact J13_0 _ (by (rw [if_pos c_5]) <;> rfl)

def m_X1_clear  : Int32 × Int32 :=
  ((-1), 0)
set_option maxHeartbeats 4000000 in
set_option maxRecDepth 100000 in
theorem c_X1_clear (l : Launch) (D : va_G) (cI cS : ClassId) (s0 : Nat) (s1 : Nat) (hz : Nat) (ro : Nat → Int32) (la : Int32) (sz : Int32)  : Met l yX1_clear wsX1_clear ({ frames := 0, cells := 0, slots := 0, locals := 0 }) (tw_W D cI cS [.ref s0] hz [(s0, .inr (1, [.ref s1, .int la, .int sz])), (s1, .inl (cI, 60, .inl ro))]) (va_Qv (fun (_ : Unit) => True) (tw_B D cI cS (va_A [(s0, .inr (1, [.ref s1, .int la, .int sz])), (s1, .inl (cI, 60, .inl ro))] hz) [(s0, .inr (1, [.ref s1, .int m_X1_clear.1, .int m_X1_clear.2])), (s1, .inl (cI, 60, .inl ro))]) (va_A [(s0, .inr (1, [.ref s1, .int la, .int sz])), (s1, .inl (cI, 60, .inl ro))] hz)) 0 0 (va_A [(s0, .inr (1, [.ref s1, .int la, .int sz])), (s1, .inl (cI, 60, .inl ro))] hz) := by
  refine Met.ofW (cc := cX1_clear) (maxL := 1) (ret := none) (by decide) rfl ?_
  intro p e s m args below meth c s₁ B hml hv
  obtain ⟨rfl, hsz, hP, hK, hD0⟩ := hv
  have hx := B.exec
  have hb := B.bytes
  have hr := B.returns
  have hts := atoms_spec (ws := wsX1_clear) B.pre
  have hown : s.vm.findClass RX1 = some m.cls := findClass_of_methodNamed B.named
  have hlocks := B.notSynchronized
  subst hsz
  have hD := hD0.self (sz := s.heap.size)
  generalize hAe : va_A [(s0, .inr (1, [.ref s1, .int la, .int sz])), (s1, .inl (cI, 60, .inl ro))] s.heap.size = A at hD ⊢
  have hA : ∀ q : Nat, s.heap.size ≤ q → A q := fun q h => by rw [← hAe]; exact Or.inr h
  have hS : va_S A s.heap s.heap [] := va_S.rf
  have fl_15 := hts (.fieldLink RX1 15 "TableWar$Sheet" "lane" "I") (by decide +kernel)
  have hin_X1 := (show ∀ w ∈ u_ws RX1 TX1 3, w ∈ wsX1_clear from by decide +kernel)
  have fl_19 := hts (.fieldLink RX1 19 "TableWar$Sheet" "size" "I") (by decide +kernel)
  have hl := lv_entry ([.ref s0]) (n := 1) (Nat.le_of_ble_eq_true rfl)
  rw [lg_entry_eq]
  generalize (lg_sl ([.ref s0]) ++ List.replicate (1 - (lg_sl ([.ref s0])).length) Slot.unset).toArray = ls at hl ⊢
  have hl : lv_has ls 1 [(0, .ref s0)] := hl
  refine lv_aload_n hx hb dX1_clear_0 rfl (lv_at hl 0 rfl) ?_
  refine lv_iconst (v := (-1)) hx hb dX1_clear_1 (by decide) ?_
  refine va_put (ci := 1) (v := .int (-1)) (ty := .int) (C := RX1) (T := TX1) (N := 3) hx hb hts hin_X1 tyX1 tyX1_ok nmX1 hown hK hP hD hS 0 rfl rfl 1 (by decide) fl_15 (fun _ h9 => h9) rfl (by decide +kernel) rfl rfl (Nat.le_of_ble_eq_true rfl) dX1_clear_2 (fun H locs hP hD hS => ?_)
  have hP : va_P D vwCl [(s0, .inr (1, [.ref s1, .int (-1), .int sz])), (s1, .inl (cI, 60, .inl ro))] H := hP
  have hD : va_D A [(s0, .inr (1, [.ref s1, .int (-1), .int sz])), (s1, .inl (cI, 60, .inl ro))] := hD
  refine lv_aload_n hx hb dX1_clear_5 rfl (lv_at hl 0 rfl) ?_
  refine lv_iconst (v := 0) hx hb dX1_clear_6 (by decide) ?_
  refine va_put (ci := 1) (v := .int 0) (ty := .int) (C := RX1) (T := TX1) (N := 3) hx hb hts hin_X1 tyX1 tyX1_ok nmX1 hown hK hP hD hS 0 rfl rfl 2 (by decide) fl_19 (fun _ h9 => h9) rfl (by decide +kernel) rfl rfl (Nat.le_of_ble_eq_true rfl) dX1_clear_7 (fun H locs hP hD hS => ?_)
  have hP : va_P D vwCl [(s0, .inr (1, [.ref s1, .int (-1), .int 0])), (s1, .inl (cI, 60, .inl ro))] H := hP
  have hD : va_D A [(s0, .inr (1, [.ref s1, .int (-1), .int 0])), (s1, .inl (cI, 60, .inl ro))] := hD
  have hE : m_X1_clear = ((-1), 0) := Eq.symm (by (unfold m_X1_clear) <;> rfl)
  rw [hE]
  exact W.vret hx hb hr (fun t ht hW => ⟨⟨(), rfl, trivial, by rw [ht]; exact hP, va_K.moved hW.alike hK, hD⟩, hS.F ht⟩) hS.2.2 dX1_clear_10

def m_X1_at (ro : Nat → Int32) (sz : Int32) (v1 : Int32) : Int32 :=
  (if v1 < 0 then 0 else (if sz ≤ v1 then 0 else ro v1.toNatClampNeg))
set_option maxHeartbeats 4000000 in
set_option maxRecDepth 100000 in
theorem c_X1_at (l : Launch) (D : va_G) (cI cS : ClassId) (s0 : Nat) (s1 : Nat) (ro : Nat → Int32) (la : Int32) (sz : Int32) (v1 : Int32) (hz60 : sz.toInt ≤ 60) : Met l yX1_at wsX1_at ({ frames := 0, cells := 0, slots := 0, locals := 0 }) (tw_R D cI cS [.ref s0, .int v1] [(s0, .inr (1, [.ref s1, .int la, .int sz])), (s1, .inl (cI, 60, .inl ro))]) (vp_Si (fun r => r = (m_X1_at ro sz v1))) 0 0 (fun _ => False) := by
  refine Met.ofW (cc := cX1_at) (maxL := 2) (ret := (some .int)) (by decide) rfl ?_
  intro p e s m args below meth c s₁ B hml hv
  obtain ⟨rfl, hP, hK⟩ := hv
  have hx := B.exec
  have hb := B.bytes
  have hr := B.returns
  have hts := atoms_spec (ws := wsX1_at) B.pre
  have hown : s.vm.findClass RX1 = some m.cls := findClass_of_methodNamed B.named
  have hlocks := B.notSynchronized
  have fl_19 := hts (.fieldLink RX1 19 "TableWar$Sheet" "size" "I") (by decide +kernel)
  have hin_X1 := (show ∀ w ∈ u_ws RX1 TX1 3, w ∈ wsX1_at from by decide +kernel)
  have fl_11 := hts (.fieldLink RX1 11 "TableWar$Sheet" "row" "[I") (by decide +kernel)
  have hl := lv_entry ([.ref s0, .int v1]) (n := 2) (Nat.le_of_ble_eq_true rfl)
  rw [lg_entry_eq]
  generalize (lg_sl ([.ref s0, .int v1]) ++ List.replicate (2 - (lg_sl ([.ref s0, .int v1])).length) Slot.unset).toArray = ls at hl ⊢
  have hl : lv_has ls 2 [(0, .ref s0), (1, .int v1)] := hl
  refine lv_iload_n hx hb dX1_at_0 rfl (lv_at hl 1 rfl) ?_
  refine tw_join (fun (y : Int32) => F0 m 22 ls (.int y :: [])) (if v1 < 0 then 0 else (if sz ≤ v1 then 0 else ro v1.toNatClampNeg)) ?_ (fun J22_0 => ?_)
  · intro y22 hy22
    exact W.iret hx hb hr (fun t ht _ => ⟨_, rfl, (by (unfold m_X1_at; (try rw [← hy22])) <;> rfl), ht⟩) (fun _ h => nomatch h) dX1_at_22
  · refine lv_if_lt (tgt := 21) hx hb dX1_at_1 (by decide) (fun c_1 => ?_) (fun c_1 => ?_)
    · refine lv_iconst (v := 0) hx hb dX1_at_21 (by decide) ?_
      exact J22_0 _ (by (rw [if_pos c_1]) <;> rfl)
    · refine lv_iload_n hx hb dX1_at_4 rfl (lv_at hl 1 rfl) ?_
      refine lv_aload_n hx hb dX1_at_5 rfl (lv_at hl 0 rfl) ?_
      refine va_get (ci := 1) (v := .int sz) (C := RX1) (T := TX1) (N := 3) hx hb hts hin_X1 hown hK hP 0 rfl rfl 2 (by decide) fl_19 (fun _ h9 => h9) rfl dX1_at_6 ?_
      refine lv_icmp_ge (tgt := 21) hx hb dX1_at_9 (by decide) (fun c_9 => ?_) (fun c_9 => ?_)
      · refine lv_iconst (v := 0) hx hb dX1_at_21 (by decide) ?_
        exact J22_0 _ (by (rw [if_neg c_1]; rw [if_pos c_9]) <;> rfl)
      · refine lv_aload_n hx hb dX1_at_12 rfl (lv_at hl 0 rfl) ?_
        refine va_get (ci := 1) (v := .ref s1) (C := RX1) (T := TX1) (N := 3) hx hb hts hin_X1 hown hK hP 0 rfl rfl 0 (by decide) fl_11 (fun _ h9 => h9) rfl dX1_at_13 ?_
        refine lv_iload_n hx hb dX1_at_16 rfl (lv_at hl 1 rfl) ?_
        refine va_iald hx hb hK hP 1 0 rfl rfl (tw_in c_1 (Int32.not_le.mp c_9) hz60) dX1_at_17 ?_
        refine lv_goto (tgt := 22) hx hb dX1_at_18 (by decide) ?_
        exact J22_0 _ (by (rw [if_neg c_1]; rw [if_neg c_9]) <;> rfl)

def m_X1_cutToLane (la : Int32) (v1 : Int32) : Int32 :=
  if la = 0 then
    v1.toInt8.toInt32
  else
    if la = 1 then
      v1.toInt16.toInt32
    else
      v1
set_option maxHeartbeats 4000000 in
set_option maxRecDepth 100000 in
theorem c_X1_cutToLane (l : Launch) (D : va_G) (cI cS : ClassId) (s0 : Nat) (s1 : Nat) (ro : Nat → Int32) (la : Int32) (sz : Int32) (v1 : Int32)  : Met l yX1_cutToLane wsX1_cutToLane ({ frames := 0, cells := 0, slots := 0, locals := 0 }) (tw_R D cI cS [.ref s0, .int v1] [(s0, .inr (1, [.ref s1, .int la, .int sz])), (s1, .inl (cI, 60, .inl ro))]) (vp_Si (fun r => r = (m_X1_cutToLane la v1))) 0 0 (fun _ => False) := by
  refine Met.ofW (cc := cX1_cutToLane) (maxL := 2) (ret := (some .int)) (by decide) rfl ?_
  intro p e s m args below meth c s₁ B hml hv
  obtain ⟨rfl, hP, hK⟩ := hv
  have hx := B.exec
  have hb := B.bytes
  have hr := B.returns
  have hts := atoms_spec (ws := wsX1_cutToLane) B.pre
  have hown : s.vm.findClass RX1 = some m.cls := findClass_of_methodNamed B.named
  have hlocks := B.notSynchronized
  have fl_15 := hts (.fieldLink RX1 15 "TableWar$Sheet" "lane" "I") (by decide +kernel)
  have hin_X1 := (show ∀ w ∈ u_ws RX1 TX1 3, w ∈ wsX1_cutToLane from by decide +kernel)
  have hl := lv_entry ([.ref s0, .int v1]) (n := 2) (Nat.le_of_ble_eq_true rfl)
  rw [lg_entry_eq]
  generalize (lg_sl ([.ref s0, .int v1]) ++ List.replicate (2 - (lg_sl ([.ref s0, .int v1])).length) Slot.unset).toArray = ls at hl ⊢
  have hl : lv_has ls 2 [(0, .ref s0), (1, .int v1)] := hl
  refine lv_aload_n hx hb dX1_cutToLane_0 rfl (lv_at hl 0 rfl) ?_
  refine va_get (ci := 1) (v := .int la) (C := RX1) (T := TX1) (N := 3) hx hb hts hin_X1 hown hK hP 0 rfl rfl 1 (by decide) fl_15 (fun _ h9 => h9) rfl dX1_cutToLane_1 ?_
  by_cases c_4_0 : la = 0
  · refine lv_lookup (tgt := 32) hx hb dX1_cutToLane_4 (by decide) (by (rw [c_4_0]) <;> rfl) (by decide) ?_
    refine lv_iload_n hx hb dX1_cutToLane_32 rfl (lv_at hl 1 rfl) ?_
    refine lv_i2b (v := v1.toInt8.toInt32) hx hb dX1_cutToLane_33 rfl ?_
    exact W.iret hx hb hr (fun t ht _ => ⟨_, rfl, (by (unfold m_X1_cutToLane; rw [if_pos c_4_0]) <;> rfl), ht⟩) (fun _ h => nomatch h) dX1_cutToLane_34
  by_cases c_4_1 : la = 1
  · refine lv_lookup (tgt := 35) hx hb dX1_cutToLane_4 (by decide) (by (rw [c_4_1]) <;> rfl) (by decide) ?_
    refine lv_iload_n hx hb dX1_cutToLane_35 rfl (lv_at hl 1 rfl) ?_
    refine lv_i2s (v := v1.toInt16.toInt32) hx hb dX1_cutToLane_36 rfl ?_
    exact W.iret hx hb hr (fun t ht _ => ⟨_, rfl, (by (unfold m_X1_cutToLane; rw [if_neg c_4_0]; rw [if_pos c_4_1]) <;> rfl), ht⟩) (fun _ h => nomatch h) dX1_cutToLane_37
  · refine lv_lookup (tgt := 38) hx hb dX1_cutToLane_4 (by decide) (show Op.lookupswitch.offset [(0, 28), (1, 31)] 34 _ = 34 from by (rw [lv_osw (k := 0) (a := 0) c_4_0 rfl, lv_osw (k := 1) (a := 1) c_4_1 rfl]) <;> rfl) (by decide) ?_
    refine lv_iload_n hx hb dX1_cutToLane_38 rfl (lv_at hl 1 rfl) ?_
    exact W.iret hx hb hr (fun t ht _ => ⟨_, rfl, (by (unfold m_X1_cutToLane; rw [if_neg c_4_0]; rw [if_neg c_4_1]) <;> rfl), ht⟩) (fun _ h => nomatch h) dX1_cutToLane_39

def m_X1_setAt (ro : Nat → Int32) (la : Int32) (sz : Int32) (v1 : Int32) (v2 : Int32) : (Nat → Int32) :=
  if v1 < 0 then
    ro
  else
    if sz ≤ v1 then
      ro
    else
      upd ro v1.toNatClampNeg (m_X1_cutToLane la v2)
set_option maxHeartbeats 4000000 in
set_option maxRecDepth 100000 in
theorem c_X1_setAt (l : Launch) (D : va_G) (cI cS : ClassId) (s0 : Nat) (s1 : Nat) (hz : Nat) (ro : Nat → Int32) (la : Int32) (sz : Int32) (v1 : Int32) (v2 : Int32) (hz60 : sz.toInt ≤ 60) : Met l yX1_setAt wsX1_setAt ({ frames := 1, cells := 0, slots := 0, locals := 21 }) (tw_W D cI cS [.ref s0, .int v1, .int v2] hz [(s0, .inr (1, [.ref s1, .int la, .int sz])), (s1, .inl (cI, 60, .inl ro))]) (va_Qv (fun (_ : Unit) => True) (tw_B D cI cS (va_A [(s0, .inr (1, [.ref s1, .int la, .int sz])), (s1, .inl (cI, 60, .inl ro))] hz) [(s0, .inr (1, [.ref s1, .int la, .int sz])), (s1, .inl (cI, 60, .inl (m_X1_setAt ro la sz v1 v2)))]) (va_A [(s0, .inr (1, [.ref s1, .int la, .int sz])), (s1, .inl (cI, 60, .inl ro))] hz)) 0 0 (va_A [(s0, .inr (1, [.ref s1, .int la, .int sz])), (s1, .inl (cI, 60, .inl ro))] hz) := by
  refine Met.ofW (cc := cX1_setAt) (maxL := 3) (ret := none) (by decide) rfl ?_
  intro p e s m args below meth c s₁ B hml hv
  obtain ⟨rfl, hsz, hP, hK, hD0⟩ := hv
  have hx := B.exec
  have hb := B.bytes
  have hr := B.returns
  have hts := atoms_spec (ws := wsX1_setAt) B.pre
  have hown : s.vm.findClass RX1 = some m.cls := findClass_of_methodNamed B.named
  have hlocks := B.notSynchronized
  subst hsz
  have hD := hD0.self (sz := s.heap.size)
  generalize hAe : va_A [(s0, .inr (1, [.ref s1, .int la, .int sz])), (s1, .inl (cI, 60, .inl ro))] s.heap.size = A at hD ⊢
  have hA : ∀ q : Nat, s.heap.size ≤ q → A q := fun q h => by rw [← hAe]; exact Or.inr h
  have hS : va_S A s.heap s.heap [] := va_S.rf
  have fl_19 := hts (.fieldLink RX1 19 "TableWar$Sheet" "size" "I") (by decide +kernel)
  have hin_X1 := (show ∀ w ∈ u_ws RX1 TX1 3, w ∈ wsX1_setAt from by decide +kernel)
  have fl_11 := hts (.fieldLink RX1 11 "TableWar$Sheet" "row" "[I") (by decide +kernel)
  have hl := lv_entry ([.ref s0, .int v1, .int v2]) (n := 3) (Nat.le_of_ble_eq_true rfl)
  rw [lg_entry_eq]
  generalize (lg_sl ([.ref s0, .int v1, .int v2]) ++ List.replicate (3 - (lg_sl ([.ref s0, .int v1, .int v2])).length) Slot.unset).toArray = ls at hl ⊢
  have hl : lv_has ls 3 [(0, .ref s0), (1, .int v1), (2, .int v2)] := hl
  refine lv_iload_n hx hb dX1_setAt_0 rfl (lv_at hl 1 rfl) ?_
  refine lv_if_lt (tgt := 23) hx hb dX1_setAt_1 (by decide) (fun c_1 => ?_) (fun c_1 => ?_)
  · have hE : (m_X1_setAt ro la sz v1 v2) = ro := Eq.symm (by (unfold m_X1_setAt; rw [if_pos c_1]) <;> rfl)
    rw [hE]
    exact W.vret hx hb hr (fun t ht hW => ⟨⟨(), rfl, trivial, by rw [ht]; exact hP, va_K.moved hW.alike hK, hD⟩, hS.F ht⟩) hS.2.2 dX1_setAt_23
  · refine lv_iload_n hx hb dX1_setAt_4 rfl (lv_at hl 1 rfl) ?_
    refine lv_aload_n hx hb dX1_setAt_5 rfl (lv_at hl 0 rfl) ?_
    refine va_get (ci := 1) (v := .int sz) (C := RX1) (T := TX1) (N := 3) hx hb hts hin_X1 hown hK hP 0 rfl rfl 2 (by decide) fl_19 (fun _ h9 => h9) rfl dX1_setAt_6 ?_
    refine lv_icmp_ge (tgt := 23) hx hb dX1_setAt_9 (by decide) (fun c_9 => ?_) (fun c_9 => ?_)
    · have hE : (m_X1_setAt ro la sz v1 v2) = ro := Eq.symm (by (unfold m_X1_setAt; rw [if_neg c_1]; rw [if_pos c_9]) <;> rfl)
      rw [hE]
      exact W.vret hx hb hr (fun t ht hW => ⟨⟨(), rfl, trivial, by rw [ht]; exact hP, va_K.moved hW.alike hK, hD⟩, hS.F ht⟩) hS.2.2 dX1_setAt_23
    · refine lv_aload_n hx hb dX1_setAt_12 rfl (lv_at hl 0 rfl) ?_
      refine va_get (ci := 1) (v := .ref s1) (C := RX1) (T := TX1) (N := 3) hx hb hts hin_X1 hown hK hP 0 rfl rfl 0 (by decide) fl_11 (fun _ h9 => h9) rfl dX1_setAt_13 ?_
      refine lv_iload_n hx hb dX1_setAt_16 rfl (lv_at hl 1 rfl) ?_
      refine lv_aload_n hx hb dX1_setAt_17 rfl (lv_at hl 0 rfl) ?_
      refine lv_iload_n hx hb dX1_setAt_18 rfl (lv_at hl 2 rfl) ?_
      refine tw_cs (va_runV (As := [.int v2]) (rest := [.int v1, .ref s1]) ⟨hx, hb, hml, hown, hts⟩ (c_X1_cutToLane l D cI cS s0 s1 ro la sz v2) (cwV 1 hts gX1_setAt_X1_cutToLane rfl rfl rfl (by decide +kernel) ⟨Nat.le_of_ble_eq_true rfl, Nat.le_of_ble_eq_true rfl⟩) ⟨tw_Rb, va_recv hK hP (ci := 1) (q0 := 0) rfl rfl, tw_Rp (hP.sub (ws' := [(s0, .inr (1, [.ref s1, .int la, .int sz])), (s1, .inl (cI, 60, .inl ro))]) [0, 1] rfl) hK⟩ rfl rfl hl.1 rfl (lv_room (Nat.le_of_ble_eq_true rfl)) dX1_setAt_19 ⟨Nat.zero_le _, Nat.zero_le _⟩) ?_
      refine va_iast hx hb hK hP hD hS 1 0 rfl rfl (tw_in c_1 (Int32.not_le.mp c_9) hz60) dX1_setAt_22 (fun H locs hP hD hS => ?_)
      have hP : va_P D vwCl [(s0, .inr (1, [.ref s1, .int la, .int sz])), (s1, .inl (cI, 60, .inl (upd ro v1.toNatClampNeg (m_X1_cutToLane la v2))))] H := hP
      have hD : va_D A [(s0, .inr (1, [.ref s1, .int la, .int sz])), (s1, .inl (cI, 60, .inl (upd ro v1.toNatClampNeg (m_X1_cutToLane la v2))))] := hD
      have hE : (m_X1_setAt ro la sz v1 v2) = upd ro v1.toNatClampNeg (m_X1_cutToLane la v2) := Eq.symm (by (unfold m_X1_setAt; rw [if_neg c_1]; rw [if_neg c_9]) <;> rfl)
      rw [hE]
      exact W.vret hx hb hr (fun t ht hW => ⟨⟨(), rfl, trivial, by rw [ht]; exact hP, va_K.moved hW.alike hK, hD⟩, hS.F ht⟩) hS.2.2 dX1_setAt_23

def m_X1_hasCells (sz : Int32) (v1 : Int32) (v2 : Int32) : Int32 :=
  (if v1 < 0 then 0 else (if sz < v1 then 0 else (if (sz - v1) < v2 then 0 else 1)))
set_option maxHeartbeats 4000000 in
set_option maxRecDepth 100000 in
theorem c_X1_hasCells (l : Launch) (D : va_G) (cI cS : ClassId) (s0 : Nat) (s1 : Nat) (ro : Nat → Int32) (la : Int32) (sz : Int32) (v1 : Int32) (v2 : Int32)  : Met l yX1_hasCells wsX1_hasCells ({ frames := 0, cells := 0, slots := 0, locals := 0 }) (tw_R D cI cS [.ref s0, .int v1, .int v2] [(s0, .inr (1, [.ref s1, .int la, .int sz])), (s1, .inl (cI, 60, .inl ro))]) (vp_Si (fun r => r = (m_X1_hasCells sz v1 v2))) 0 0 (fun _ => False) := by
  refine Met.ofW (cc := cX1_hasCells) (maxL := 3) (ret := (some .boolean)) (by decide) rfl ?_
  intro p e s m args below meth c s₁ B hml hv
  obtain ⟨rfl, hP, hK⟩ := hv
  have hx := B.exec
  have hb := B.bytes
  have hr := B.returns
  have hts := atoms_spec (ws := wsX1_hasCells) B.pre
  have hown : s.vm.findClass RX1 = some m.cls := findClass_of_methodNamed B.named
  have hlocks := B.notSynchronized
  have fl_19 := hts (.fieldLink RX1 19 "TableWar$Sheet" "size" "I") (by decide +kernel)
  have hin_X1 := (show ∀ w ∈ u_ws RX1 TX1 3, w ∈ wsX1_hasCells from by decide +kernel)
  have hl := lv_entry ([.ref s0, .int v1, .int v2]) (n := 3) (Nat.le_of_ble_eq_true rfl)
  rw [lg_entry_eq]
  generalize (lg_sl ([.ref s0, .int v1, .int v2]) ++ List.replicate (3 - (lg_sl ([.ref s0, .int v1, .int v2])).length) Slot.unset).toArray = ls at hl ⊢
  have hl : lv_has ls 3 [(0, .ref s0), (1, .int v1), (2, .int v2)] := hl
  refine lv_iload_n hx hb dX1_hasCells_0 rfl (lv_at hl 1 rfl) ?_
  refine tw_join (fun (y : Int32) => F0 m 27 ls (.int y :: [])) (if v1 < 0 then 0 else (if sz < v1 then 0 else (if (sz - v1) < v2 then 0 else 1))) ?_ (fun J27_0 => ?_)
  · intro y27 hy27
    exact W.zret (ty := .boolean) hx hb hr (by rw [hy27]; (repeat' split) <;> rfl) (fun t ht _ => ⟨_, rfl, (by (unfold m_X1_hasCells; (try rw [← hy27])) <;> rfl), ht⟩) (fun _ h => nomatch h) dX1_hasCells_27
  · refine lv_if_lt (tgt := 26) hx hb dX1_hasCells_1 (by decide) (fun c_1 => ?_) (fun c_1 => ?_)
    · refine lv_iconst (v := 0) hx hb dX1_hasCells_26 (by decide) ?_
      exact J27_0 _ (by (rw [if_pos c_1]) <;> rfl)
    · refine lv_iload_n hx hb dX1_hasCells_4 rfl (lv_at hl 1 rfl) ?_
      refine lv_aload_n hx hb dX1_hasCells_5 rfl (lv_at hl 0 rfl) ?_
      refine va_get (ci := 1) (v := .int sz) (C := RX1) (T := TX1) (N := 3) hx hb hts hin_X1 hown hK hP 0 rfl rfl 2 (by decide) fl_19 (fun _ h9 => h9) rfl dX1_hasCells_6 ?_
      refine lv_icmp_gt (tgt := 26) hx hb dX1_hasCells_9 (by decide) (fun c_9 => ?_) (fun c_9 => ?_)
      · refine lv_iconst (v := 0) hx hb dX1_hasCells_26 (by decide) ?_
        exact J27_0 _ (by (rw [if_neg c_1]; rw [if_pos c_9]) <;> rfl)
      · refine lv_iload_n hx hb dX1_hasCells_12 rfl (lv_at hl 2 rfl) ?_
        refine lv_aload_n hx hb dX1_hasCells_13 rfl (lv_at hl 0 rfl) ?_
        refine va_get (ci := 1) (v := .int sz) (C := RX1) (T := TX1) (N := 3) hx hb hts hin_X1 hown hK hP 0 rfl rfl 2 (by decide) fl_19 (fun _ h9 => h9) rfl dX1_hasCells_14 ?_
        refine lv_iload_n hx hb dX1_hasCells_17 rfl (lv_at hl 1 rfl) ?_
        refine lv_isub hx hb dX1_hasCells_18 ?_
        refine lv_icmp_gt (tgt := 26) hx hb dX1_hasCells_19 (by decide) (fun c_19 => ?_) (fun c_19 => ?_)
        · refine lv_iconst (v := 0) hx hb dX1_hasCells_26 (by decide) ?_
          exact J27_0 _ (by (rw [if_neg c_1]; rw [if_neg c_9]; rw [if_pos c_19]) <;> rfl)
        · refine lv_iconst (v := 1) hx hb dX1_hasCells_22 (by decide) ?_
          refine lv_goto (tgt := 27) hx hb dX1_hasCells_23 (by decide) ?_
          exact J27_0 _ (by (rw [if_neg c_1]; rw [if_neg c_9]; rw [if_neg c_19]) <;> rfl)

def m_X1_faultOfCells (la : Int32) (sz : Int32) (v1 : Int32) (v2 : Int32) (v3 : Int32) : Int32 :=
  if (m_X1_isNothing la) = 0 then
    if la = v1 then
      if 0 ≤ v3 then
        (if (m_X1_hasCells sz v2 v3) = 0 then 3 else 0)
      else
        4
    else
      2
  else
    1
set_option maxHeartbeats 4000000 in
set_option maxRecDepth 100000 in
theorem c_X1_faultOfCells (l : Launch) (D : va_G) (cI cS : ClassId) (s0 : Nat) (s1 : Nat) (ro : Nat → Int32) (la : Int32) (sz : Int32) (v1 : Int32) (v2 : Int32) (v3 : Int32)  : Met l yX1_faultOfCells wsX1_faultOfCells ({ frames := 1, cells := 0, slots := 0, locals := 22 }) (tw_R D cI cS [.ref s0, .int v1, .int v2, .int v3] [(s0, .inr (1, [.ref s1, .int la, .int sz])), (s1, .inl (cI, 60, .inl ro))]) (vp_Si (fun r => r = (m_X1_faultOfCells la sz v1 v2 v3))) 0 0 (fun _ => False) := by
  refine Met.ofW (cc := cX1_faultOfCells) (maxL := 4) (ret := (some .int)) (by decide) rfl ?_
  intro p e s m args below meth c s₁ B hml hv
  obtain ⟨rfl, hP, hK⟩ := hv
  have hx := B.exec
  have hb := B.bytes
  have hr := B.returns
  have hts := atoms_spec (ws := wsX1_faultOfCells) B.pre
  have hown : s.vm.findClass RX1 = some m.cls := findClass_of_methodNamed B.named
  have hlocks := B.notSynchronized
  have fl_15 := hts (.fieldLink RX1 15 "TableWar$Sheet" "lane" "I") (by decide +kernel)
  have hin_X1 := (show ∀ w ∈ u_ws RX1 TX1 3, w ∈ wsX1_faultOfCells from by decide +kernel)
  have hl := lv_entry ([.ref s0, .int v1, .int v2, .int v3]) (n := 4) (Nat.le_of_ble_eq_true rfl)
  rw [lg_entry_eq]
  generalize (lg_sl ([.ref s0, .int v1, .int v2, .int v3]) ++ List.replicate (4 - (lg_sl ([.ref s0, .int v1, .int v2, .int v3])).length) Slot.unset).toArray = ls at hl ⊢
  have hl : lv_has ls 4 [(0, .ref s0), (1, .int v1), (2, .int v2), (3, .int v3)] := hl
  refine lv_aload_n hx hb dX1_faultOfCells_0 rfl (lv_at hl 0 rfl) ?_
  refine tw_cs (va_runV (As := []) (rest := []) ⟨hx, hb, hml, hown, hts⟩ (c_X1_isNothing l D cI cS s0 s1 ro la sz) (cwV 0 hts gX1_faultOfCells_X1_isNothing rfl rfl rfl (by decide +kernel) ⟨Nat.le_of_ble_eq_true rfl, Nat.le_of_ble_eq_true rfl⟩) ⟨tw_Rb, va_recv hK hP (ci := 1) (q0 := 0) rfl rfl, tw_Rp (hP.sub (ws' := [(s0, .inr (1, [.ref s1, .int la, .int sz])), (s1, .inl (cI, 60, .inl ro))]) [0, 1] rfl) hK⟩ rfl rfl hl.1 rfl (lv_room (Nat.le_of_ble_eq_true rfl)) dX1_faultOfCells_1 ⟨Nat.zero_le _, Nat.zero_le _⟩) ?_
  refine lv_if_eq (tgt := 9) hx hb dX1_faultOfCells_4 (by decide) (fun c_4 => ?_) (fun c_4 => ?_)
  · refine lv_aload_n hx hb dX1_faultOfCells_9 rfl (lv_at hl 0 rfl) ?_
    refine va_get (ci := 1) (v := .int la) (C := RX1) (T := TX1) (N := 3) hx hb hts hin_X1 hown hK hP 0 rfl rfl 1 (by decide) fl_15 (fun _ h9 => h9) rfl dX1_faultOfCells_10 ?_
    refine lv_iload_n hx hb dX1_faultOfCells_13 rfl (lv_at hl 1 rfl) ?_
    refine lv_icmp_eq (tgt := 19) hx hb dX1_faultOfCells_14 (by decide) (fun c_14 => ?_) (fun c_14 => ?_)
    · refine lv_iload_n hx hb dX1_faultOfCells_19 rfl (lv_at hl 3 rfl) ?_
      refine lv_if_ge (tgt := 25) hx hb dX1_faultOfCells_20 (by decide) (fun c_20 => ?_) (fun c_20 => ?_)
      · refine lv_aload_n hx hb dX1_faultOfCells_25 rfl (lv_at hl 0 rfl) ?_
        refine lv_iload_n hx hb dX1_faultOfCells_26 rfl (lv_at hl 2 rfl) ?_
        refine lv_iload_n hx hb dX1_faultOfCells_27 rfl (lv_at hl 3 rfl) ?_
        refine tw_cs (va_runV (As := [.int v2, .int v3]) (rest := []) ⟨hx, hb, hml, hown, hts⟩ (c_X1_hasCells l D cI cS s0 s1 ro la sz v2 v3) (cwV 2 hts gX1_faultOfCells_X1_hasCells rfl rfl rfl (by decide +kernel) ⟨Nat.le_of_ble_eq_true rfl, Nat.le_of_ble_eq_true rfl⟩) ⟨tw_Rb, va_recv hK hP (ci := 1) (q0 := 0) rfl rfl, tw_Rp (hP.sub (ws' := [(s0, .inr (1, [.ref s1, .int la, .int sz])), (s1, .inl (cI, 60, .inl ro))]) [0, 1] rfl) hK⟩ rfl rfl hl.1 rfl (lv_room (Nat.le_of_ble_eq_true rfl)) dX1_faultOfCells_28 ⟨Nat.zero_le _, Nat.zero_le _⟩) ?_
        refine tw_join (fun (y : Int32) => F0 m 39 ls (.int y :: [])) (if (m_X1_hasCells sz v2 v3) = 0 then 3 else 0) ?_ (fun J39_0 => ?_)
        · intro y39 hy39
          exact W.iret hx hb hr (fun t ht _ => ⟨_, rfl, (by (unfold m_X1_faultOfCells; rw [if_pos c_4]; rw [if_pos c_14]; rw [if_pos c_20]; (try rw [← hy39])) <;> rfl), ht⟩) (fun _ h => nomatch h) dX1_faultOfCells_39
        · refine lv_if_eq (tgt := 38) hx hb dX1_faultOfCells_31 (by decide) (fun c_31 => ?_) (fun c_31 => ?_)
          · refine lv_iconst (v := 3) hx hb dX1_faultOfCells_38 (by decide) ?_
            exact J39_0 _ (by (rw [if_pos c_31]) <;> rfl)
          · refine lv_iconst (v := 0) hx hb dX1_faultOfCells_34 (by decide) ?_
            refine lv_goto (tgt := 39) hx hb dX1_faultOfCells_35 (by decide) ?_
            exact J39_0 _ (by (rw [if_neg c_31]) <;> rfl)
      · refine lv_iconst (v := 4) hx hb dX1_faultOfCells_23 (by decide) ?_
        exact W.iret hx hb hr (fun t ht _ => ⟨_, rfl, (by (unfold m_X1_faultOfCells; rw [if_pos c_4]; rw [if_pos c_14]; rw [if_neg c_20]) <;> rfl), ht⟩) (fun _ h => nomatch h) dX1_faultOfCells_24
    · refine lv_iconst (v := 2) hx hb dX1_faultOfCells_17 (by decide) ?_
      exact W.iret hx hb hr (fun t ht _ => ⟨_, rfl, (by (unfold m_X1_faultOfCells; rw [if_pos c_4]; rw [if_neg c_14]) <;> rfl), ht⟩) (fun _ h => nomatch h) dX1_faultOfCells_18
  · refine lv_iconst (v := 1) hx hb dX1_faultOfCells_7 (by decide) ?_
    exact W.iret hx hb hr (fun t ht _ => ⟨_, rfl, (by (unfold m_X1_faultOfCells; rw [if_neg c_4]) <;> rfl), ht⟩) (fun _ h => nomatch h) dX1_faultOfCells_8
