def m_X0_goodChoice_L5 (ac : Nat → Int32) (kd : Nat → Int32) (ho : Nat → Int32) (pl : Nat → Int32) (st : Nat → Int32) (nc : Nat) (nt : Nat) (ea : Int32) (v1 : Int32) : Nat → Nat → Int32 → Int32
  | 0, i5, u2_5 =>
    u2_5
  | k5 + 1, i5, u2_5 =>
    if (m_X0_canMove ho pl nc ea v1 i5) = 0 then
      m_X0_goodChoice_L5 ac kd ho pl st nc nt ea v1 k5 (i5 + 1) u2_5
    else
      m_X0_goodChoice_L5 ac kd ho pl st nc nt ea v1 k5 (i5 + 1) (if u2_5 < (m_X0_choiceOf (m_X0_leadOf ac kd ho ((m_X0_doAct pl ea (nI (i5 / 3)) (nI (i5 % 3))).1) st nc nt ((m_X0_doAct pl ea (nI (i5 / 3)) (nI (i5 % 3))).2) v1) (nI i5)) then (m_X0_choiceOf (m_X0_leadOf ac kd ho ((m_X0_doAct pl ea (nI (i5 / 3)) (nI (i5 % 3))).1) st nc nt ((m_X0_doAct pl ea (nI (i5 / 3)) (nI (i5 % 3))).2) v1) (nI i5)) else u2_5)
theorem m_X0_goodChoice_L5_0 (ac : Nat → Int32) (kd : Nat → Int32) (ho : Nat → Int32) (pl : Nat → Int32) (st : Nat → Int32) (nc : Nat) (nt : Nat) (ea : Int32) (v1 : Int32) (i5 : Nat) (u2_5 : Int32) : m_X0_goodChoice_L5 ac kd ho pl st nc nt ea v1 0 i5 u2_5 = 
    u2_5 := rfl
theorem m_X0_goodChoice_L5_s (ac : Nat → Int32) (kd : Nat → Int32) (ho : Nat → Int32) (pl : Nat → Int32) (st : Nat → Int32) (nc : Nat) (nt : Nat) (ea : Int32) (v1 : Int32) (i5 : Nat) (u2_5 : Int32) (k5 : Nat) : m_X0_goodChoice_L5 ac kd ho pl st nc nt ea v1 (k5 + 1) i5 u2_5 = 
    if (m_X0_canMove ho pl nc ea v1 i5) = 0 then
      m_X0_goodChoice_L5 ac kd ho pl st nc nt ea v1 k5 (i5 + 1) u2_5
    else
      m_X0_goodChoice_L5 ac kd ho pl st nc nt ea v1 k5 (i5 + 1) (if u2_5 < (m_X0_choiceOf (m_X0_leadOf ac kd ho ((m_X0_doAct pl ea (nI (i5 / 3)) (nI (i5 % 3))).1) st nc nt ((m_X0_doAct pl ea (nI (i5 / 3)) (nI (i5 % 3))).2) v1) (nI i5)) then (m_X0_choiceOf (m_X0_leadOf ac kd ho ((m_X0_doAct pl ea (nI (i5 / 3)) (nI (i5 % 3))).1) st nc nt ((m_X0_doAct pl ea (nI (i5 / 3)) (nI (i5 % 3))).2) v1) (nI i5)) else u2_5) := rfl
def m_X0_goodChoice (ac : Nat → Int32) (kd : Nat → Int32) (ho : Nat → Int32) (pl : Nat → Int32) (st : Nat → Int32) (nc : Nat) (nt : Nat) (ea : Int32) (v1 : Int32) : Int32 :=
  (m_X0_goodChoice_L5 ac kd ho pl st nc nt ea v1 (nt * 3) 0 (-9))
set_option maxHeartbeats 4000000 in
set_option maxRecDepth 100000 in
theorem c_X0_goodChoice (l : Launch) (D : va_G) (cI cS : ClassId) (b0 : Nat) (b1 : Nat) (b2 : Nat) (b3 : Nat) (b4 : Nat) (b5 : Nat) (hz : Nat) (ac : Nat → Int32) (kd : Nat → Int32) (ho : Nat → Int32) (pl : Nat → Int32) (st : Nat → Int32) (nc : Nat) (nt : Nat) (ea : Int32) (v1 : Int32) (hn : nt ≤ 6) (hc : nc ≤ 6) : Met l yX0_goodChoice wsX0_goodChoice ({ frames := 4, cells := 0, slots := 0, locals := 89 }) (tw_W D cI cS [.ref b0, .int v1] hz [(b0, .inr (0, [.ref b1, .ref b2, .ref b3, .ref b4, .ref b5, .int (nI nc), .int (nI nt), .int ea])), (b1, .inl (cI, 6, .inl ac)), (b2, .inl (cI, 6, .inl kd)), (b3, .inl (cI, 6, .inl ho)), (b4, .inl (cI, 6, .inl pl)), (b5, .inl (cI, 6, .inl st))]) (va_Qi (fun r (_ : Unit) => r = (m_X0_goodChoice ac kd ho pl st nc nt ea v1)) (tw_B D cI cS (va_A [(b0, .inr (0, [.ref b1, .ref b2, .ref b3, .ref b4, .ref b5, .int (nI nc), .int (nI nt), .int ea])), (b1, .inl (cI, 6, .inl ac)), (b2, .inl (cI, 6, .inl kd)), (b3, .inl (cI, 6, .inl ho)), (b4, .inl (cI, 6, .inl pl)), (b5, .inl (cI, 6, .inl st))] hz) [(b0, .inr (0, [.ref b1, .ref b2, .ref b3, .ref b4, .ref b5, .int (nI nc), .int (nI nt), .int ea])), (b1, .inl (cI, 6, .inl ac)), (b2, .inl (cI, 6, .inl kd)), (b3, .inl (cI, 6, .inl ho)), (b4, .inl (cI, 6, .inl pl)), (b5, .inl (cI, 6, .inl st))]) (va_A [(b0, .inr (0, [.ref b1, .ref b2, .ref b3, .ref b4, .ref b5, .int (nI nc), .int (nI nt), .int ea])), (b1, .inl (cI, 6, .inl ac)), (b2, .inl (cI, 6, .inl kd)), (b3, .inl (cI, 6, .inl ho)), (b4, .inl (cI, 6, .inl pl)), (b5, .inl (cI, 6, .inl st))] hz)) 0 0 (va_A [(b0, .inr (0, [.ref b1, .ref b2, .ref b3, .ref b4, .ref b5, .int (nI nc), .int (nI nt), .int ea])), (b1, .inl (cI, 6, .inl ac)), (b2, .inl (cI, 6, .inl kd)), (b3, .inl (cI, 6, .inl ho)), (b4, .inl (cI, 6, .inl pl)), (b5, .inl (cI, 6, .inl st))] hz) := by
  refine Met.ofW (cc := cX0_goodChoice) (maxL := 4) (ret := (some .int)) (by decide) rfl ?_
  intro p e s m args below meth c s₁ B hml hv
  obtain ⟨rfl, hsz, hP, hK, hD0⟩ := hv
  have hx := B.exec
  have hb := B.bytes
  have hr := B.returns
  have hts := atoms_spec (ws := wsX0_goodChoice) B.pre
  have hown : s.vm.findClass RX0 = some m.cls := findClass_of_methodNamed B.named
  have hlocks := B.notSynchronized
  subst hsz
  have hD := hD0.self (sz := s.heap.size)
  generalize hAe : va_A [(b0, .inr (0, [.ref b1, .ref b2, .ref b3, .ref b4, .ref b5, .int (nI nc), .int (nI nt), .int ea])), (b1, .inl (cI, 6, .inl ac)), (b2, .inl (cI, 6, .inl kd)), (b3, .inl (cI, 6, .inl ho)), (b4, .inl (cI, 6, .inl pl)), (b5, .inl (cI, 6, .inl st))] s.heap.size = A at hD ⊢
  have hA : ∀ q : Nat, s.heap.size ≤ q → A q := fun q h => by rw [← hAe]; exact Or.inr h
  have hS : va_S A s.heap s.heap [] := va_S.rf
  have fl_37 := hts (.fieldLink RX0 37 "TableWar$Cloth" "things" "I") (by decide +kernel)
  have hin_X0 := (show ∀ w ∈ u_ws RX0 TX0 8, w ∈ wsX0_goodChoice from by decide +kernel)
  have mlk_max := hts (.methodLink RX0 103 Lib.Math.max.name) (by decide +kernel)
  have mst_max := hts (.static Lib.Math.max.name) (by decide +kernel)
  have min_max := hts (.initialized "java/lang/Math") (by decide +kernel)
  have mcd_max := hts (.code Lib.Math.max.name Lib.Math.max.code 2 (some .int)) (by decide +kernel)
  have hl := lv_entry ([.ref b0, .int v1]) (n := 4) (Nat.le_of_ble_eq_true rfl)
  rw [lg_entry_eq]
  generalize (lg_sl ([.ref b0, .int v1]) ++ List.replicate (4 - (lg_sl ([.ref b0, .int v1])).length) Slot.unset).toArray = ls at hl ⊢
  have hl : lv_has ls 4 [(0, .ref b0), (1, .int v1)] := hl
  refine lv_bipush (v := (-9)) hx hb dX0_goodChoice_0 (by decide) ?_
  refine lv_istore_n (lv' := [(2, .int (-9)), (0, .ref b0), (1, .int v1)]) hx hb dX0_goodChoice_2 rfl hl (by decide) rfl (fun ls hl => ?_)
  refine lv_iconst (v := 0) hx hb dX0_goodChoice_3 (by decide) ?_
  refine lv_istore_n (lv' := [(3, .int 0), (2, .int (-9)), (0, .ref b0), (1, .int v1)]) hx hb dX0_goodChoice_4 rfl hl (by decide) rfl (fun ls hl => ?_)
  refine tw_loopW (σ := Int32) (fun k i z ls H locs => i + k = nt * 3 ∧ m_X0_goodChoice_L5 ac kd ho pl st nc nt ea v1 k i z = m_X0_goodChoice_L5 ac kd ho pl st nc nt ea v1 (nt * 3) 0 (-9) ∧ va_P D vwCl [(b0, .inr (0, [.ref b1, .ref b2, .ref b3, .ref b4, .ref b5, .int (nI nc), .int (nI nt), .int ea])), (b1, .inl (cI, 6, .inl ac)), (b2, .inl (cI, 6, .inl kd)), (b3, .inl (cI, 6, .inl ho)), (b4, .inl (cI, 6, .inl pl)), (b5, .inl (cI, 6, .inl st))] H ∧ va_D A [(b0, .inr (0, [.ref b1, .ref b2, .ref b3, .ref b4, .ref b5, .int (nI nc), .int (nI nt), .int ea])), (b1, .inl (cI, 6, .inl ac)), (b2, .inl (cI, 6, .inl kd)), (b3, .inl (cI, 6, .inl ho)), (b4, .inl (cI, 6, .inl pl)), (b5, .inl (cI, 6, .inl st))] ∧ va_S A s.heap H locs ∧ lv_has ls 4 [(3, .int (nI i)), (2, .int z), (0, .ref b0), (1, .int v1)]) (nt * 3) 0 (-9) ⟨Nat.zero_add _, rfl, hP, hD, hS, lv_sub hl [0, 1, 2, 3] rfl⟩ ?_ ?_
  · intro i5 u2_5 ls H locs hI
    obtain ⟨hk5, hm5, hP, hD, hS, hl⟩ := hI
    have hm5 : m_X0_goodChoice_L5 ac kd ho pl st nc nt ea v1 0 i5 u2_5 = m_X0_goodChoice_L5 ac kd ho pl st nc nt ea v1 (nt * 3) 0 (-9) := hm5
    have hP : va_P D vwCl [(b0, .inr (0, [.ref b1, .ref b2, .ref b3, .ref b4, .ref b5, .int (nI nc), .int (nI nt), .int ea])), (b1, .inl (cI, 6, .inl ac)), (b2, .inl (cI, 6, .inl kd)), (b3, .inl (cI, 6, .inl ho)), (b4, .inl (cI, 6, .inl pl)), (b5, .inl (cI, 6, .inl st))] H := hP
    have hD : va_D A [(b0, .inr (0, [.ref b1, .ref b2, .ref b3, .ref b4, .ref b5, .int (nI nc), .int (nI nt), .int ea])), (b1, .inl (cI, 6, .inl ac)), (b2, .inl (cI, 6, .inl kd)), (b3, .inl (cI, 6, .inl ho)), (b4, .inl (cI, 6, .inl pl)), (b5, .inl (cI, 6, .inl st))] := hD
    have hl : lv_has ls 4 [(3, .int (nI i5)), (2, .int u2_5), (0, .ref b0), (1, .int v1)] := hl
    have hm5 : u2_5 = m_X0_goodChoice_L5 ac kd ho pl st nc nt ea v1 (nt * 3) 0 (-9) := hm5
    refine lv_iload_n hx hb dX0_goodChoice_5 rfl (lv_at hl 0 rfl) ?_
    refine lv_aload_n hx hb dX0_goodChoice_6 rfl (lv_at hl 2 rfl) ?_
    refine va_get (ci := 0) (v := .int (nI nt)) (C := RX0) (T := TX0) (N := 8) hx hb hts hin_X0 hown hK hP 0 rfl rfl 6 (by decide) fl_37 (fun _ h9 => h9) rfl dX0_goodChoice_7 ?_
    refine lv_iconst (v := 3) hx hb dX0_goodChoice_10 (by decide) ?_
    refine lv_imul hx hb dX0_goodChoice_11 ?_
    refine lv_icmp_ge (tgt := 64) hx hb dX0_goodChoice_12 (by decide) (fun c_12 => ?_) (fun c_12 => absurd (tw_tge (pk_mul nt 3) (show nt * 3 ≤ i5 by omega) (show i5 < 2 ^ 31 by omega)) c_12)
    refine lv_iload_n hx hb dX0_goodChoice_64 rfl (lv_at hl 1 rfl) ?_
    have hE : (m_X0_goodChoice ac kd ho pl st nc nt ea v1) = u2_5 := Eq.symm (by (unfold m_X0_goodChoice; rw [← hm5]) <;> rfl)
    rw [hE]
    exact W.iret hx hb hr (fun t ht hW => ⟨⟨_, (), rfl, rfl, by rw [ht]; exact hP, va_K.moved hW.alike hK, hD⟩, hS.F ht⟩) hS.2.2 dX0_goodChoice_65
  · intro k5 i5 u2_5 ls H locs ih5 hI
    obtain ⟨hk5, hm5, hP, hD, hS, hl⟩ := hI
    have hm5 : m_X0_goodChoice_L5 ac kd ho pl st nc nt ea v1 (k5 + 1) i5 u2_5 = m_X0_goodChoice_L5 ac kd ho pl st nc nt ea v1 (nt * 3) 0 (-9) := hm5
    have hP : va_P D vwCl [(b0, .inr (0, [.ref b1, .ref b2, .ref b3, .ref b4, .ref b5, .int (nI nc), .int (nI nt), .int ea])), (b1, .inl (cI, 6, .inl ac)), (b2, .inl (cI, 6, .inl kd)), (b3, .inl (cI, 6, .inl ho)), (b4, .inl (cI, 6, .inl pl)), (b5, .inl (cI, 6, .inl st))] H := hP
    have hD : va_D A [(b0, .inr (0, [.ref b1, .ref b2, .ref b3, .ref b4, .ref b5, .int (nI nc), .int (nI nt), .int ea])), (b1, .inl (cI, 6, .inl ac)), (b2, .inl (cI, 6, .inl kd)), (b3, .inl (cI, 6, .inl ho)), (b4, .inl (cI, 6, .inl pl)), (b5, .inl (cI, 6, .inl st))] := hD
    have hl : lv_has ls 4 [(3, .int (nI i5)), (2, .int u2_5), (0, .ref b0), (1, .int v1)] := hl
    refine lv_iload_n hx hb dX0_goodChoice_5 rfl (lv_at hl 0 rfl) ?_
    refine lv_aload_n hx hb dX0_goodChoice_6 rfl (lv_at hl 2 rfl) ?_
    refine va_get (ci := 0) (v := .int (nI nt)) (C := RX0) (T := TX0) (N := 8) hx hb hts hin_X0 hown hK hP 0 rfl rfl 6 (by decide) fl_37 (fun _ h9 => h9) rfl dX0_goodChoice_7 ?_
    refine lv_iconst (v := 3) hx hb dX0_goodChoice_10 (by decide) ?_
    refine lv_imul hx hb dX0_goodChoice_11 ?_
    refine lv_icmp_ge (tgt := 64) hx hb dX0_goodChoice_12 (by decide) (fun c_12 => absurd c_12 (tw_tlt (pk_mul nt 3) (show i5 < nt * 3 by omega) (show nt * 3 < 2 ^ 31 by omega))) (fun c_12 => ?_)
    refine lv_aload_n hx hb dX0_goodChoice_15 rfl (lv_at hl 2 rfl) ?_
    refine lv_iload_n hx hb dX0_goodChoice_16 rfl (lv_at hl 3 rfl) ?_
    refine lv_iload_n hx hb dX0_goodChoice_17 rfl (lv_at hl 0 rfl) ?_
    refine tw_cs (va_runV (As := [.int v1, .int (nI i5)]) (rest := []) ⟨hx, hb, hml, hown, hts⟩ (c_X0_canMove l D cI cS b0 b1 b2 b3 b4 b5 ac kd ho pl st nc nt ea v1 i5 (by first | assumption | omega | exact hz60 _ | exact vp_in_nI (by omega) (by decide))) (cwV 2 hts gX0_goodChoice_X0_canMove rfl rfl rfl (by decide +kernel) ⟨Nat.le_of_ble_eq_true rfl, Nat.le_of_ble_eq_true rfl⟩) ⟨tw_Rb, va_recv hK hP (ci := 0) (q0 := 0) rfl rfl, tw_Rp (hP.sub (ws' := [(b0, .inr (0, [.ref b1, .ref b2, .ref b3, .ref b4, .ref b5, .int (nI nc), .int (nI nt), .int ea])), (b1, .inl (cI, 6, .inl ac)), (b2, .inl (cI, 6, .inl kd)), (b3, .inl (cI, 6, .inl ho)), (b4, .inl (cI, 6, .inl pl)), (b5, .inl (cI, 6, .inl st))]) [0, 1, 2, 3, 4, 5] rfl) hK⟩ rfl rfl hl.1 rfl (lv_room (Nat.le_of_ble_eq_true rfl)) dX0_goodChoice_18 ⟨Nat.zero_le _, Nat.zero_le _⟩) ?_
    refine lv_if_eq (tgt := 58) hx hb dX0_goodChoice_21 (by decide) (fun c_21 => ?_) (fun c_21 => ?_)
    · refine lv_iinc (v := nI (i5 + 1)) (lv' := [(3, .int (nI (i5 + 1))), (2, .int u2_5), (0, .ref b0), (1, .int v1)]) hx hb dX0_goodChoice_58 hl (k := 0) rfl (nI_1 _) (by decide) rfl (fun ls hl => ?_)
      refine lv_goto (tgt := 5) hx hb dX0_goodChoice_61 (by decide) ?_
      exact ih5 u2_5 ls H _ ⟨by omega, (by (rw [← hm5, m_X0_goodChoice_L5_s]; rw [if_pos c_21]) <;> rfl), hP, hD, hS, lv_sub hl [0, 1, 2, 3] rfl⟩
    · refine lv_aload_n hx hb dX0_goodChoice_24 rfl (lv_at hl 2 rfl) ?_
      refine lv_iload_n hx hb dX0_goodChoice_25 rfl (lv_at hl 0 rfl) ?_
      refine lv_iconst (v := 3) hx hb dX0_goodChoice_26 (by decide) ?_
      refine lv_idiv hx hb dX0_goodChoice_27 (by decide) ?_
      refine tw_top (show _ = nI (i5 / 3) from tw_d3 (by omega)) ?_
      refine lv_iload_n hx hb dX0_goodChoice_28 rfl (lv_at hl 0 rfl) ?_
      refine lv_iconst (v := 3) hx hb dX0_goodChoice_29 (by decide) ?_
      refine lv_irem hx hb dX0_goodChoice_30 (by decide) ?_
      refine tw_top (show _ = nI (i5 % 3) from tw_r3 (by omega)) ?_
      refine tw_wv (ws := [(b0, .inr (0, [.ref b1, .ref b2, .ref b3, .ref b4, .ref b5, .int (nI nc), .int (nI nt), .int ea])), (b1, .inl (cI, 6, .inl ac)), (b2, .inl (cI, 6, .inl kd)), (b3, .inl (cI, 6, .inl ho)), (b4, .inl (cI, 6, .inl pl)), (b5, .inl (cI, 6, .inl st))]) (wc := [(b0, .inr (0, [.ref b1, .ref b2, .ref b3, .ref b4, .ref b5, .int (nI nc), .int (nI nt), .int ea])), (b1, .inl (cI, 6, .inl ac)), (b2, .inl (cI, 6, .inl kd)), (b3, .inl (cI, 6, .inl ho)), (b4, .inl (cI, 6, .inl pl)), (b5, .inl (cI, 6, .inl st))]) (wr := []) (w1 := [(b0, .inr (0, [.ref b1, .ref b2, .ref b3, .ref b4, .ref b5, .int (nI nc), .int (nI nt), .int ((m_X0_doAct pl ea (nI (i5 / 3)) (nI (i5 % 3))).2)])), (b1, .inl (cI, 6, .inl ac)), (b2, .inl (cI, 6, .inl kd)), (b3, .inl (cI, 6, .inl ho)), (b4, .inl (cI, 6, .inl ((m_X0_doAct pl ea (nI (i5 / 3)) (nI (i5 % 3))).1))), (b5, .inl (cI, 6, .inl st))]) (ws' := [(b0, .inr (0, [.ref b1, .ref b2, .ref b3, .ref b4, .ref b5, .int (nI nc), .int (nI nt), .int ((m_X0_doAct pl ea (nI (i5 / 3)) (nI (i5 % 3))).2)])), (b1, .inl (cI, 6, .inl ac)), (b2, .inl (cI, 6, .inl kd)), (b3, .inl (cI, 6, .inl ho)), (b4, .inl (cI, 6, .inl ((m_X0_doAct pl ea (nI (i5 / 3)) (nI (i5 % 3))).1))), (b5, .inl (cI, 6, .inl st))]) (va_runV (As := [.int (nI (i5 / 3)), .int (nI (i5 % 3))]) (rest := []) ⟨hx, hb, hml, hown, hts⟩ (c_X0_doAct l D cI cS b0 b1 b2 b3 b4 b5 _ ac kd ho pl st nc nt ea (nI (i5 / 3)) (nI (i5 % 3)) (by first | assumption | omega | exact hz60 _ | exact vp_in_nI (by omega) (by decide))) (cwV 2 hts gX0_goodChoice_X0_doAct rfl rfl rfl (by decide +kernel) ⟨Nat.le_of_ble_eq_true rfl, Nat.le_of_ble_eq_true rfl⟩) ⟨tw_Wb, va_recv hK hP (ci := 0) (q0 := 0) rfl rfl, tw_Wp (hP.sub (ws' := [(b0, .inr (0, [.ref b1, .ref b2, .ref b3, .ref b4, .ref b5, .int (nI nc), .int (nI nt), .int ea])), (b1, .inl (cI, 6, .inl ac)), (b2, .inl (cI, 6, .inl kd)), (b3, .inl (cI, 6, .inl ho)), (b4, .inl (cI, 6, .inl pl)), (b5, .inl (cI, 6, .inl st))]) [0, 1, 2, 3, 4, 5] rfl) hK (hD.sub (ws' := [(b0, .inr (0, [.ref b1, .ref b2, .ref b3, .ref b4, .ref b5, .int (nI nc), .int (nI nt), .int ea])), (b1, .inl (cI, 6, .inl ac)), (b2, .inl (cI, 6, .inl kd)), (b3, .inl (cI, 6, .inl ho)), (b4, .inl (cI, 6, .inl pl)), (b5, .inl (cI, 6, .inl st))]) [0, 1, 2, 3, 4, 5] (by decide) rfl)⟩ rfl rfl hl.1 rfl (lv_room (Nat.le_of_ble_eq_true rfl)) dX0_goodChoice_31 ⟨Nat.zero_le _, Nat.zero_le _⟩) hP hD hS hA [0, 1, 2, 3, 4, 5] [] [0, 1, 2, 3, 4, 5] rfl rfl (by decide) (by decide) rfl (by decide) (fun H locs hP hD hS => ?_)
      refine lv_iload_n hx hb dX0_goodChoice_34 rfl (lv_at hl 1 rfl) ?_
      refine lv_aload_n hx hb dX0_goodChoice_35 rfl (lv_at hl 2 rfl) ?_
      refine lv_iload_n hx hb dX0_goodChoice_36 rfl (lv_at hl 3 rfl) ?_
      refine tw_cs (va_runV (As := [.int v1]) (rest := [.int u2_5]) ⟨hx, hb, hml, hown, hts⟩ (c_X0_leadOf l D cI cS b0 b1 b2 b3 b4 b5 ac kd ho ((m_X0_doAct pl ea (nI (i5 / 3)) (nI (i5 % 3))).1) st nc nt ((m_X0_doAct pl ea (nI (i5 / 3)) (nI (i5 % 3))).2) v1 (by first | assumption | omega | exact hz60 _ | exact vp_in_nI (by omega) (by decide)) (by first | assumption | omega | exact hz60 _ | exact vp_in_nI (by omega) (by decide))) (cwV 1 hts gX0_goodChoice_X0_leadOf rfl rfl rfl (by decide +kernel) ⟨Nat.le_of_ble_eq_true rfl, Nat.le_of_ble_eq_true rfl⟩) ⟨tw_Rb, va_recv hK hP (ci := 0) (q0 := 0) rfl rfl, tw_Rp (hP.sub (ws' := [(b0, .inr (0, [.ref b1, .ref b2, .ref b3, .ref b4, .ref b5, .int (nI nc), .int (nI nt), .int ((m_X0_doAct pl ea (nI (i5 / 3)) (nI (i5 % 3))).2)])), (b1, .inl (cI, 6, .inl ac)), (b2, .inl (cI, 6, .inl kd)), (b3, .inl (cI, 6, .inl ho)), (b4, .inl (cI, 6, .inl ((m_X0_doAct pl ea (nI (i5 / 3)) (nI (i5 % 3))).1))), (b5, .inl (cI, 6, .inl st))]) [0, 1, 2, 3, 4, 5] rfl) hK⟩ rfl rfl hl.1 rfl (lv_room (Nat.le_of_ble_eq_true rfl)) dX0_goodChoice_37 ⟨Nat.zero_le _, Nat.zero_le _⟩) ?_
      refine lv_iload_n hx hb dX0_goodChoice_40 rfl (lv_at hl 0 rfl) ?_
      refine tw_cs (va_runS (As := [.int (m_X0_leadOf ac kd ho ((m_X0_doAct pl ea (nI (i5 / 3)) (nI (i5 % 3))).1) st nc nt ((m_X0_doAct pl ea (nI (i5 / 3)) (nI (i5 % 3))).2) v1), .int (nI i5)]) (rest := [.int u2_5]) ⟨hx, hb, hml, hown, hts⟩ (c_X0_choiceOf l D cI cS (m_X0_leadOf ac kd ho ((m_X0_doAct pl ea (nI (i5 / 3)) (nI (i5 % 3))).1) st nc nt ((m_X0_doAct pl ea (nI (i5 / 3)) (nI (i5 % 3))).2) v1) (nI i5)) (va_cwS 2 hts gX0_goodChoice_X0_choiceOf rfl rfl rfl (by decide +kernel) ⟨Nat.le_of_ble_eq_true rfl, Nat.le_of_ble_eq_true rfl⟩) ⟨tw_Rb, tw_Rp (hP.sub (ws' := []) [] rfl) hK⟩ rfl rfl hl.1 rfl (lv_room (Nat.le_of_ble_eq_true rfl)) dX0_goodChoice_41 ⟨Nat.zero_le _, Nat.zero_le _⟩) ?_
      refine va_mmax hx hb (hml.trans hl.1.symm) hown mlk_max mst_max min_max mcd_max (Nat.le_of_ble_eq_true rfl) (Nat.le_of_ble_eq_true rfl) (Nat.zero_le _) (Nat.zero_le _) dX0_goodChoice_44 ?_
      refine lv_istore_n (lv' := [(2, .int (if u2_5 < (m_X0_choiceOf (m_X0_leadOf ac kd ho ((m_X0_doAct pl ea (nI (i5 / 3)) (nI (i5 % 3))).1) st nc nt ((m_X0_doAct pl ea (nI (i5 / 3)) (nI (i5 % 3))).2) v1) (nI i5)) then (m_X0_choiceOf (m_X0_leadOf ac kd ho ((m_X0_doAct pl ea (nI (i5 / 3)) (nI (i5 % 3))).1) st nc nt ((m_X0_doAct pl ea (nI (i5 / 3)) (nI (i5 % 3))).2) v1) (nI i5)) else u2_5)), (3, .int (nI i5)), (0, .ref b0), (1, .int v1)]) hx hb dX0_goodChoice_47 rfl hl (by decide) rfl (fun ls hl => ?_)
      refine lv_aload_n hx hb dX0_goodChoice_48 rfl (lv_at hl 2 rfl) ?_
      refine lv_iload_n hx hb dX0_goodChoice_49 rfl (lv_at hl 1 rfl) ?_
      refine lv_iconst (v := 3) hx hb dX0_goodChoice_50 (by decide) ?_
      refine lv_idiv hx hb dX0_goodChoice_51 (by decide) ?_
      refine tw_top (show _ = nI (i5 / 3) from tw_d3 (by omega)) ?_
      refine lv_iload_n hx hb dX0_goodChoice_52 rfl (lv_at hl 1 rfl) ?_
      refine lv_iconst (v := 3) hx hb dX0_goodChoice_53 (by decide) ?_
      refine lv_irem hx hb dX0_goodChoice_54 (by decide) ?_
      refine tw_top (show _ = nI (i5 % 3) from tw_r3 (by omega)) ?_
      refine tw_wv (ws := [(b0, .inr (0, [.ref b1, .ref b2, .ref b3, .ref b4, .ref b5, .int (nI nc), .int (nI nt), .int ((m_X0_doAct pl ea (nI (i5 / 3)) (nI (i5 % 3))).2)])), (b1, .inl (cI, 6, .inl ac)), (b2, .inl (cI, 6, .inl kd)), (b3, .inl (cI, 6, .inl ho)), (b4, .inl (cI, 6, .inl ((m_X0_doAct pl ea (nI (i5 / 3)) (nI (i5 % 3))).1))), (b5, .inl (cI, 6, .inl st))]) (wc := [(b0, .inr (0, [.ref b1, .ref b2, .ref b3, .ref b4, .ref b5, .int (nI nc), .int (nI nt), .int ((m_X0_doAct pl ea (nI (i5 / 3)) (nI (i5 % 3))).2)])), (b1, .inl (cI, 6, .inl ac)), (b2, .inl (cI, 6, .inl kd)), (b3, .inl (cI, 6, .inl ho)), (b4, .inl (cI, 6, .inl ((m_X0_doAct pl ea (nI (i5 / 3)) (nI (i5 % 3))).1))), (b5, .inl (cI, 6, .inl st))]) (wr := []) (w1 := [(b0, .inr (0, [.ref b1, .ref b2, .ref b3, .ref b4, .ref b5, .int (nI nc), .int (nI nt), .int ((m_X0_undoAct ((m_X0_doAct pl ea (nI (i5 / 3)) (nI (i5 % 3))).1) ((m_X0_doAct pl ea (nI (i5 / 3)) (nI (i5 % 3))).2) (nI (i5 / 3)) (nI (i5 % 3))).2)])), (b1, .inl (cI, 6, .inl ac)), (b2, .inl (cI, 6, .inl kd)), (b3, .inl (cI, 6, .inl ho)), (b4, .inl (cI, 6, .inl ((m_X0_undoAct ((m_X0_doAct pl ea (nI (i5 / 3)) (nI (i5 % 3))).1) ((m_X0_doAct pl ea (nI (i5 / 3)) (nI (i5 % 3))).2) (nI (i5 / 3)) (nI (i5 % 3))).1))), (b5, .inl (cI, 6, .inl st))]) (ws' := [(b0, .inr (0, [.ref b1, .ref b2, .ref b3, .ref b4, .ref b5, .int (nI nc), .int (nI nt), .int ((m_X0_undoAct ((m_X0_doAct pl ea (nI (i5 / 3)) (nI (i5 % 3))).1) ((m_X0_doAct pl ea (nI (i5 / 3)) (nI (i5 % 3))).2) (nI (i5 / 3)) (nI (i5 % 3))).2)])), (b1, .inl (cI, 6, .inl ac)), (b2, .inl (cI, 6, .inl kd)), (b3, .inl (cI, 6, .inl ho)), (b4, .inl (cI, 6, .inl ((m_X0_undoAct ((m_X0_doAct pl ea (nI (i5 / 3)) (nI (i5 % 3))).1) ((m_X0_doAct pl ea (nI (i5 / 3)) (nI (i5 % 3))).2) (nI (i5 / 3)) (nI (i5 % 3))).1))), (b5, .inl (cI, 6, .inl st))]) (va_runV (As := [.int (nI (i5 / 3)), .int (nI (i5 % 3))]) (rest := []) ⟨hx, hb, hml, hown, hts⟩ (c_X0_undoAct l D cI cS b0 b1 b2 b3 b4 b5 _ ac kd ho ((m_X0_doAct pl ea (nI (i5 / 3)) (nI (i5 % 3))).1) st nc nt ((m_X0_doAct pl ea (nI (i5 / 3)) (nI (i5 % 3))).2) (nI (i5 / 3)) (nI (i5 % 3)) (by first | assumption | omega | exact hz60 _ | exact vp_in_nI (by omega) (by decide))) (cwV 2 hts gX0_goodChoice_X0_undoAct rfl rfl rfl (by decide +kernel) ⟨Nat.le_of_ble_eq_true rfl, Nat.le_of_ble_eq_true rfl⟩) ⟨tw_Wb, va_recv hK hP (ci := 0) (q0 := 0) rfl rfl, tw_Wp (hP.sub (ws' := [(b0, .inr (0, [.ref b1, .ref b2, .ref b3, .ref b4, .ref b5, .int (nI nc), .int (nI nt), .int ((m_X0_doAct pl ea (nI (i5 / 3)) (nI (i5 % 3))).2)])), (b1, .inl (cI, 6, .inl ac)), (b2, .inl (cI, 6, .inl kd)), (b3, .inl (cI, 6, .inl ho)), (b4, .inl (cI, 6, .inl ((m_X0_doAct pl ea (nI (i5 / 3)) (nI (i5 % 3))).1))), (b5, .inl (cI, 6, .inl st))]) [0, 1, 2, 3, 4, 5] rfl) hK (hD.sub (ws' := [(b0, .inr (0, [.ref b1, .ref b2, .ref b3, .ref b4, .ref b5, .int (nI nc), .int (nI nt), .int ((m_X0_doAct pl ea (nI (i5 / 3)) (nI (i5 % 3))).2)])), (b1, .inl (cI, 6, .inl ac)), (b2, .inl (cI, 6, .inl kd)), (b3, .inl (cI, 6, .inl ho)), (b4, .inl (cI, 6, .inl ((m_X0_doAct pl ea (nI (i5 / 3)) (nI (i5 % 3))).1))), (b5, .inl (cI, 6, .inl st))]) [0, 1, 2, 3, 4, 5] (by decide) rfl)⟩ rfl rfl hl.1 rfl (lv_room (Nat.le_of_ble_eq_true rfl)) dX0_goodChoice_55 ⟨Nat.zero_le _, Nat.zero_le _⟩) hP hD hS hA [0, 1, 2, 3, 4, 5] [] [0, 1, 2, 3, 4, 5] rfl rfl (by decide) (by decide) rfl (by decide) (fun H locs hP hD hS => ?_)
      have hu := undo_do (show i5 / 3 < 32 by omega) (canMove_canDo c_21)
      have hP : va_P D vwCl [(b0, .inr (0, [.ref b1, .ref b2, .ref b3, .ref b4, .ref b5, .int (nI nc), .int (nI nt), .int ea])), (b1, .inl (cI, 6, .inl ac)), (b2, .inl (cI, 6, .inl kd)), (b3, .inl (cI, 6, .inl ho)), (b4, .inl (cI, 6, .inl pl)), (b5, .inl (cI, 6, .inl st))] H := (by rw [hu] at hP; exact hP)
      have hD : va_D A [(b0, .inr (0, [.ref b1, .ref b2, .ref b3, .ref b4, .ref b5, .int (nI nc), .int (nI nt), .int ea])), (b1, .inl (cI, 6, .inl ac)), (b2, .inl (cI, 6, .inl kd)), (b3, .inl (cI, 6, .inl ho)), (b4, .inl (cI, 6, .inl pl)), (b5, .inl (cI, 6, .inl st))] := (by rw [hu] at hD; exact hD)
      refine lv_iinc (v := nI (i5 + 1)) (lv' := [(3, .int (nI (i5 + 1))), (2, .int (if u2_5 < (m_X0_choiceOf (m_X0_leadOf ac kd ho ((m_X0_doAct pl ea (nI (i5 / 3)) (nI (i5 % 3))).1) st nc nt ((m_X0_doAct pl ea (nI (i5 / 3)) (nI (i5 % 3))).2) v1) (nI i5)) then (m_X0_choiceOf (m_X0_leadOf ac kd ho ((m_X0_doAct pl ea (nI (i5 / 3)) (nI (i5 % 3))).1) st nc nt ((m_X0_doAct pl ea (nI (i5 / 3)) (nI (i5 % 3))).2) v1) (nI i5)) else u2_5)), (0, .ref b0), (1, .int v1)]) hx hb dX0_goodChoice_58 hl (k := 1) rfl (nI_1 _) (by decide) rfl (fun ls hl => ?_)
      refine lv_goto (tgt := 5) hx hb dX0_goodChoice_61 (by decide) ?_
      exact ih5 (if u2_5 < (m_X0_choiceOf (m_X0_leadOf ac kd ho ((m_X0_doAct pl ea (nI (i5 / 3)) (nI (i5 % 3))).1) st nc nt ((m_X0_doAct pl ea (nI (i5 / 3)) (nI (i5 % 3))).2) v1) (nI i5)) then (m_X0_choiceOf (m_X0_leadOf ac kd ho ((m_X0_doAct pl ea (nI (i5 / 3)) (nI (i5 % 3))).1) st nc nt ((m_X0_doAct pl ea (nI (i5 / 3)) (nI (i5 % 3))).2) v1) (nI i5)) else u2_5) ls H _ ⟨by omega, (by (rw [← hm5, m_X0_goodChoice_L5_s]; rw [if_neg c_21]) <;> rfl), hP, hD, hS, lv_sub hl [0, 1, 2, 3] rfl⟩

def m_X0_safeChoice_L5 (ac : Nat → Int32) (kd : Nat → Int32) (ho : Nat → Int32) (pl : Nat → Int32) (st : Nat → Int32) (nc : Nat) (nt : Nat) (ea : Int32) (v1 : Int32) : Nat → Nat → Int32 → Int32
  | 0, i5, u2_5 =>
    u2_5
  | k5 + 1, i5, u2_5 =>
    if (m_X0_canMove ho pl nc ea v1 i5) = 0 then
      m_X0_safeChoice_L5 ac kd ho pl st nc nt ea v1 k5 (i5 + 1) u2_5
    else
      m_X0_safeChoice_L5 ac kd ho pl st nc nt ea v1 k5 (i5 + 1) (if u2_5 < (m_X0_choiceOf (if (m_X0_goodChoice ac kd ho ((m_X0_doAct pl ea (nI (i5 / 3)) (nI (i5 % 3))).1) st nc nt ((m_X0_doAct pl ea (nI (i5 / 3)) (nI (i5 % 3))).2) (1 - v1)) = (-9) then (m_X0_leadOf ac kd ho ((m_X0_doAct pl ea (nI (i5 / 3)) (nI (i5 % 3))).1) st nc nt ((m_X0_doAct pl ea (nI (i5 / 3)) (nI (i5 % 3))).2) v1) else 200 - (m_X0_leadOfChoice (m_X0_goodChoice ac kd ho ((m_X0_doAct pl ea (nI (i5 / 3)) (nI (i5 % 3))).1) st nc nt ((m_X0_doAct pl ea (nI (i5 / 3)) (nI (i5 % 3))).2) (1 - v1)))) (nI i5)) then (m_X0_choiceOf (if (m_X0_goodChoice ac kd ho ((m_X0_doAct pl ea (nI (i5 / 3)) (nI (i5 % 3))).1) st nc nt ((m_X0_doAct pl ea (nI (i5 / 3)) (nI (i5 % 3))).2) (1 - v1)) = (-9) then (m_X0_leadOf ac kd ho ((m_X0_doAct pl ea (nI (i5 / 3)) (nI (i5 % 3))).1) st nc nt ((m_X0_doAct pl ea (nI (i5 / 3)) (nI (i5 % 3))).2) v1) else 200 - (m_X0_leadOfChoice (m_X0_goodChoice ac kd ho ((m_X0_doAct pl ea (nI (i5 / 3)) (nI (i5 % 3))).1) st nc nt ((m_X0_doAct pl ea (nI (i5 / 3)) (nI (i5 % 3))).2) (1 - v1)))) (nI i5)) else u2_5)
theorem m_X0_safeChoice_L5_0 (ac : Nat → Int32) (kd : Nat → Int32) (ho : Nat → Int32) (pl : Nat → Int32) (st : Nat → Int32) (nc : Nat) (nt : Nat) (ea : Int32) (v1 : Int32) (i5 : Nat) (u2_5 : Int32) : m_X0_safeChoice_L5 ac kd ho pl st nc nt ea v1 0 i5 u2_5 = 
    u2_5 := rfl
theorem m_X0_safeChoice_L5_s (ac : Nat → Int32) (kd : Nat → Int32) (ho : Nat → Int32) (pl : Nat → Int32) (st : Nat → Int32) (nc : Nat) (nt : Nat) (ea : Int32) (v1 : Int32) (i5 : Nat) (u2_5 : Int32) (k5 : Nat) : m_X0_safeChoice_L5 ac kd ho pl st nc nt ea v1 (k5 + 1) i5 u2_5 = 
    if (m_X0_canMove ho pl nc ea v1 i5) = 0 then
      m_X0_safeChoice_L5 ac kd ho pl st nc nt ea v1 k5 (i5 + 1) u2_5
    else
      m_X0_safeChoice_L5 ac kd ho pl st nc nt ea v1 k5 (i5 + 1) (if u2_5 < (m_X0_choiceOf (if (m_X0_goodChoice ac kd ho ((m_X0_doAct pl ea (nI (i5 / 3)) (nI (i5 % 3))).1) st nc nt ((m_X0_doAct pl ea (nI (i5 / 3)) (nI (i5 % 3))).2) (1 - v1)) = (-9) then (m_X0_leadOf ac kd ho ((m_X0_doAct pl ea (nI (i5 / 3)) (nI (i5 % 3))).1) st nc nt ((m_X0_doAct pl ea (nI (i5 / 3)) (nI (i5 % 3))).2) v1) else 200 - (m_X0_leadOfChoice (m_X0_goodChoice ac kd ho ((m_X0_doAct pl ea (nI (i5 / 3)) (nI (i5 % 3))).1) st nc nt ((m_X0_doAct pl ea (nI (i5 / 3)) (nI (i5 % 3))).2) (1 - v1)))) (nI i5)) then (m_X0_choiceOf (if (m_X0_goodChoice ac kd ho ((m_X0_doAct pl ea (nI (i5 / 3)) (nI (i5 % 3))).1) st nc nt ((m_X0_doAct pl ea (nI (i5 / 3)) (nI (i5 % 3))).2) (1 - v1)) = (-9) then (m_X0_leadOf ac kd ho ((m_X0_doAct pl ea (nI (i5 / 3)) (nI (i5 % 3))).1) st nc nt ((m_X0_doAct pl ea (nI (i5 / 3)) (nI (i5 % 3))).2) v1) else 200 - (m_X0_leadOfChoice (m_X0_goodChoice ac kd ho ((m_X0_doAct pl ea (nI (i5 / 3)) (nI (i5 % 3))).1) st nc nt ((m_X0_doAct pl ea (nI (i5 / 3)) (nI (i5 % 3))).2) (1 - v1)))) (nI i5)) else u2_5) := rfl
def m_X0_safeChoice (ac : Nat → Int32) (kd : Nat → Int32) (ho : Nat → Int32) (pl : Nat → Int32) (st : Nat → Int32) (nc : Nat) (nt : Nat) (ea : Int32) (v1 : Int32) : Int32 :=
  (m_X0_safeChoice_L5 ac kd ho pl st nc nt ea v1 (nt * 3) 0 (-9))
set_option maxHeartbeats 4000000 in
set_option maxRecDepth 100000 in
theorem c_X0_safeChoice (l : Launch) (D : va_G) (cI cS : ClassId) (b0 : Nat) (b1 : Nat) (b2 : Nat) (b3 : Nat) (b4 : Nat) (b5 : Nat) (hz : Nat) (ac : Nat → Int32) (kd : Nat → Int32) (ho : Nat → Int32) (pl : Nat → Int32) (st : Nat → Int32) (nc : Nat) (nt : Nat) (ea : Int32) (v1 : Int32) (hn : nt ≤ 6) (hc : nc ≤ 6) : Met l yX0_safeChoice wsX0_safeChoice ({ frames := 5, cells := 0, slots := 0, locals := 112 }) (tw_W D cI cS [.ref b0, .int v1] hz [(b0, .inr (0, [.ref b1, .ref b2, .ref b3, .ref b4, .ref b5, .int (nI nc), .int (nI nt), .int ea])), (b1, .inl (cI, 6, .inl ac)), (b2, .inl (cI, 6, .inl kd)), (b3, .inl (cI, 6, .inl ho)), (b4, .inl (cI, 6, .inl pl)), (b5, .inl (cI, 6, .inl st))]) (va_Qi (fun r (_ : Unit) => r = (m_X0_safeChoice ac kd ho pl st nc nt ea v1)) (tw_B D cI cS (va_A [(b0, .inr (0, [.ref b1, .ref b2, .ref b3, .ref b4, .ref b5, .int (nI nc), .int (nI nt), .int ea])), (b1, .inl (cI, 6, .inl ac)), (b2, .inl (cI, 6, .inl kd)), (b3, .inl (cI, 6, .inl ho)), (b4, .inl (cI, 6, .inl pl)), (b5, .inl (cI, 6, .inl st))] hz) [(b0, .inr (0, [.ref b1, .ref b2, .ref b3, .ref b4, .ref b5, .int (nI nc), .int (nI nt), .int ea])), (b1, .inl (cI, 6, .inl ac)), (b2, .inl (cI, 6, .inl kd)), (b3, .inl (cI, 6, .inl ho)), (b4, .inl (cI, 6, .inl pl)), (b5, .inl (cI, 6, .inl st))]) (va_A [(b0, .inr (0, [.ref b1, .ref b2, .ref b3, .ref b4, .ref b5, .int (nI nc), .int (nI nt), .int ea])), (b1, .inl (cI, 6, .inl ac)), (b2, .inl (cI, 6, .inl kd)), (b3, .inl (cI, 6, .inl ho)), (b4, .inl (cI, 6, .inl pl)), (b5, .inl (cI, 6, .inl st))] hz)) 0 0 (va_A [(b0, .inr (0, [.ref b1, .ref b2, .ref b3, .ref b4, .ref b5, .int (nI nc), .int (nI nt), .int ea])), (b1, .inl (cI, 6, .inl ac)), (b2, .inl (cI, 6, .inl kd)), (b3, .inl (cI, 6, .inl ho)), (b4, .inl (cI, 6, .inl pl)), (b5, .inl (cI, 6, .inl st))] hz) := by
  refine Met.ofW (cc := cX0_safeChoice) (maxL := 6) (ret := (some .int)) (by decide) rfl ?_
  intro p e s m args below meth c s₁ B hml hv
  obtain ⟨rfl, hsz, hP, hK, hD0⟩ := hv
  have hx := B.exec
  have hb := B.bytes
  have hr := B.returns
  have hts := atoms_spec (ws := wsX0_safeChoice) B.pre
  have hown : s.vm.findClass RX0 = some m.cls := findClass_of_methodNamed B.named
  have hlocks := B.notSynchronized
  subst hsz
  have hD := hD0.self (sz := s.heap.size)
  generalize hAe : va_A [(b0, .inr (0, [.ref b1, .ref b2, .ref b3, .ref b4, .ref b5, .int (nI nc), .int (nI nt), .int ea])), (b1, .inl (cI, 6, .inl ac)), (b2, .inl (cI, 6, .inl kd)), (b3, .inl (cI, 6, .inl ho)), (b4, .inl (cI, 6, .inl pl)), (b5, .inl (cI, 6, .inl st))] s.heap.size = A at hD ⊢
  have hA : ∀ q : Nat, s.heap.size ≤ q → A q := fun q h => by rw [← hAe]; exact Or.inr h
  have hS : va_S A s.heap s.heap [] := va_S.rf
  have fl_37 := hts (.fieldLink RX0 37 "TableWar$Cloth" "things" "I") (by decide +kernel)
  have hin_X0 := (show ∀ w ∈ u_ws RX0 TX0 8, w ∈ wsX0_safeChoice from by decide +kernel)
  have mlk_max := hts (.methodLink RX0 103 Lib.Math.max.name) (by decide +kernel)
  have mst_max := hts (.static Lib.Math.max.name) (by decide +kernel)
  have min_max := hts (.initialized "java/lang/Math") (by decide +kernel)
  have mcd_max := hts (.code Lib.Math.max.name Lib.Math.max.code 2 (some .int)) (by decide +kernel)
  have hl := lv_entry ([.ref b0, .int v1]) (n := 6) (Nat.le_of_ble_eq_true rfl)
  rw [lg_entry_eq]
  generalize (lg_sl ([.ref b0, .int v1]) ++ List.replicate (6 - (lg_sl ([.ref b0, .int v1])).length) Slot.unset).toArray = ls at hl ⊢
  have hl : lv_has ls 6 [(0, .ref b0), (1, .int v1)] := hl
  refine lv_bipush (v := (-9)) hx hb dX0_safeChoice_0 (by decide) ?_
  refine lv_istore_n (lv' := [(2, .int (-9)), (0, .ref b0), (1, .int v1)]) hx hb dX0_safeChoice_2 rfl hl (by decide) rfl (fun ls hl => ?_)
  refine lv_iconst (v := 0) hx hb dX0_safeChoice_3 (by decide) ?_
  refine lv_istore_n (lv' := [(3, .int 0), (2, .int (-9)), (0, .ref b0), (1, .int v1)]) hx hb dX0_safeChoice_4 rfl hl (by decide) rfl (fun ls hl => ?_)
  refine tw_loopW (σ := Int32) (fun k i z ls H locs => i + k = nt * 3 ∧ m_X0_safeChoice_L5 ac kd ho pl st nc nt ea v1 k i z = m_X0_safeChoice_L5 ac kd ho pl st nc nt ea v1 (nt * 3) 0 (-9) ∧ va_P D vwCl [(b0, .inr (0, [.ref b1, .ref b2, .ref b3, .ref b4, .ref b5, .int (nI nc), .int (nI nt), .int ea])), (b1, .inl (cI, 6, .inl ac)), (b2, .inl (cI, 6, .inl kd)), (b3, .inl (cI, 6, .inl ho)), (b4, .inl (cI, 6, .inl pl)), (b5, .inl (cI, 6, .inl st))] H ∧ va_D A [(b0, .inr (0, [.ref b1, .ref b2, .ref b3, .ref b4, .ref b5, .int (nI nc), .int (nI nt), .int ea])), (b1, .inl (cI, 6, .inl ac)), (b2, .inl (cI, 6, .inl kd)), (b3, .inl (cI, 6, .inl ho)), (b4, .inl (cI, 6, .inl pl)), (b5, .inl (cI, 6, .inl st))] ∧ va_S A s.heap H locs ∧ lv_has ls 6 [(3, .int (nI i)), (2, .int z), (0, .ref b0), (1, .int v1)]) (nt * 3) 0 (-9) ⟨Nat.zero_add _, rfl, hP, hD, hS, lv_sub hl [0, 1, 2, 3] rfl⟩ ?_ ?_
  · intro i5 u2_5 ls H locs hI
    obtain ⟨hk5, hm5, hP, hD, hS, hl⟩ := hI
    have hm5 : m_X0_safeChoice_L5 ac kd ho pl st nc nt ea v1 0 i5 u2_5 = m_X0_safeChoice_L5 ac kd ho pl st nc nt ea v1 (nt * 3) 0 (-9) := hm5
    have hP : va_P D vwCl [(b0, .inr (0, [.ref b1, .ref b2, .ref b3, .ref b4, .ref b5, .int (nI nc), .int (nI nt), .int ea])), (b1, .inl (cI, 6, .inl ac)), (b2, .inl (cI, 6, .inl kd)), (b3, .inl (cI, 6, .inl ho)), (b4, .inl (cI, 6, .inl pl)), (b5, .inl (cI, 6, .inl st))] H := hP
    have hD : va_D A [(b0, .inr (0, [.ref b1, .ref b2, .ref b3, .ref b4, .ref b5, .int (nI nc), .int (nI nt), .int ea])), (b1, .inl (cI, 6, .inl ac)), (b2, .inl (cI, 6, .inl kd)), (b3, .inl (cI, 6, .inl ho)), (b4, .inl (cI, 6, .inl pl)), (b5, .inl (cI, 6, .inl st))] := hD
    have hl : lv_has ls 6 [(3, .int (nI i5)), (2, .int u2_5), (0, .ref b0), (1, .int v1)] := hl
    have hm5 : u2_5 = m_X0_safeChoice_L5 ac kd ho pl st nc nt ea v1 (nt * 3) 0 (-9) := hm5
    refine lv_iload_n hx hb dX0_safeChoice_5 rfl (lv_at hl 0 rfl) ?_
    refine lv_aload_n hx hb dX0_safeChoice_6 rfl (lv_at hl 2 rfl) ?_
    refine va_get (ci := 0) (v := .int (nI nt)) (C := RX0) (T := TX0) (N := 8) hx hb hts hin_X0 hown hK hP 0 rfl rfl 6 (by decide) fl_37 (fun _ h9 => h9) rfl dX0_safeChoice_7 ?_
    refine lv_iconst (v := 3) hx hb dX0_safeChoice_10 (by decide) ?_
    refine lv_imul hx hb dX0_safeChoice_11 ?_
    refine lv_icmp_ge (tgt := 96) hx hb dX0_safeChoice_12 (by decide) (fun c_12 => ?_) (fun c_12 => absurd (tw_tge (pk_mul nt 3) (show nt * 3 ≤ i5 by omega) (show i5 < 2 ^ 31 by omega)) c_12)
    refine lv_iload_n hx hb dX0_safeChoice_96 rfl (lv_at hl 1 rfl) ?_
    have hE : (m_X0_safeChoice ac kd ho pl st nc nt ea v1) = u2_5 := Eq.symm (by (unfold m_X0_safeChoice; rw [← hm5]) <;> rfl)
    rw [hE]
    exact W.iret hx hb hr (fun t ht hW => ⟨⟨_, (), rfl, rfl, by rw [ht]; exact hP, va_K.moved hW.alike hK, hD⟩, hS.F ht⟩) hS.2.2 dX0_safeChoice_97
  · intro k5 i5 u2_5 ls H locs ih5 hI
    obtain ⟨hk5, hm5, hP, hD, hS, hl⟩ := hI
    have hm5 : m_X0_safeChoice_L5 ac kd ho pl st nc nt ea v1 (k5 + 1) i5 u2_5 = m_X0_safeChoice_L5 ac kd ho pl st nc nt ea v1 (nt * 3) 0 (-9) := hm5
    have hP : va_P D vwCl [(b0, .inr (0, [.ref b1, .ref b2, .ref b3, .ref b4, .ref b5, .int (nI nc), .int (nI nt), .int ea])), (b1, .inl (cI, 6, .inl ac)), (b2, .inl (cI, 6, .inl kd)), (b3, .inl (cI, 6, .inl ho)), (b4, .inl (cI, 6, .inl pl)), (b5, .inl (cI, 6, .inl st))] H := hP
    have hD : va_D A [(b0, .inr (0, [.ref b1, .ref b2, .ref b3, .ref b4, .ref b5, .int (nI nc), .int (nI nt), .int ea])), (b1, .inl (cI, 6, .inl ac)), (b2, .inl (cI, 6, .inl kd)), (b3, .inl (cI, 6, .inl ho)), (b4, .inl (cI, 6, .inl pl)), (b5, .inl (cI, 6, .inl st))] := hD
    have hl : lv_has ls 6 [(3, .int (nI i5)), (2, .int u2_5), (0, .ref b0), (1, .int v1)] := hl
    refine lv_iload_n hx hb dX0_safeChoice_5 rfl (lv_at hl 0 rfl) ?_
    refine lv_aload_n hx hb dX0_safeChoice_6 rfl (lv_at hl 2 rfl) ?_
    refine va_get (ci := 0) (v := .int (nI nt)) (C := RX0) (T := TX0) (N := 8) hx hb hts hin_X0 hown hK hP 0 rfl rfl 6 (by decide) fl_37 (fun _ h9 => h9) rfl dX0_safeChoice_7 ?_
    refine lv_iconst (v := 3) hx hb dX0_safeChoice_10 (by decide) ?_
    refine lv_imul hx hb dX0_safeChoice_11 ?_
    refine lv_icmp_ge (tgt := 96) hx hb dX0_safeChoice_12 (by decide) (fun c_12 => absurd c_12 (tw_tlt (pk_mul nt 3) (show i5 < nt * 3 by omega) (show nt * 3 < 2 ^ 31 by omega))) (fun c_12 => ?_)
    refine lv_aload_n hx hb dX0_safeChoice_15 rfl (lv_at hl 2 rfl) ?_
    refine lv_iload_n hx hb dX0_safeChoice_16 rfl (lv_at hl 3 rfl) ?_
    refine lv_iload_n hx hb dX0_safeChoice_17 rfl (lv_at hl 0 rfl) ?_
    refine tw_cs (va_runV (As := [.int v1, .int (nI i5)]) (rest := []) ⟨hx, hb, hml, hown, hts⟩ (c_X0_canMove l D cI cS b0 b1 b2 b3 b4 b5 ac kd ho pl st nc nt ea v1 i5 (by first | assumption | omega | exact hz60 _ | exact vp_in_nI (by omega) (by decide))) (cwV 2 hts gX0_safeChoice_X0_canMove rfl rfl rfl (by decide +kernel) ⟨Nat.le_of_ble_eq_true rfl, Nat.le_of_ble_eq_true rfl⟩) ⟨tw_Rb, va_recv hK hP (ci := 0) (q0 := 0) rfl rfl, tw_Rp (hP.sub (ws' := [(b0, .inr (0, [.ref b1, .ref b2, .ref b3, .ref b4, .ref b5, .int (nI nc), .int (nI nt), .int ea])), (b1, .inl (cI, 6, .inl ac)), (b2, .inl (cI, 6, .inl kd)), (b3, .inl (cI, 6, .inl ho)), (b4, .inl (cI, 6, .inl pl)), (b5, .inl (cI, 6, .inl st))]) [0, 1, 2, 3, 4, 5] rfl) hK⟩ rfl rfl hl.1 rfl (lv_room (Nat.le_of_ble_eq_true rfl)) dX0_safeChoice_18 ⟨Nat.zero_le _, Nat.zero_le _⟩) ?_
    refine lv_if_eq (tgt := 90) hx hb dX0_safeChoice_21 (by decide) (fun c_21 => ?_) (fun c_21 => ?_)
    · refine lv_iinc (v := nI (i5 + 1)) (lv' := [(3, .int (nI (i5 + 1))), (2, .int u2_5), (0, .ref b0), (1, .int v1)]) hx hb dX0_safeChoice_90 hl (k := 0) rfl (nI_1 _) (by decide) rfl (fun ls hl => ?_)
      refine lv_goto (tgt := 5) hx hb dX0_safeChoice_93 (by decide) ?_
      exact ih5 u2_5 ls H _ ⟨by omega, (by (rw [← hm5, m_X0_safeChoice_L5_s]; rw [if_pos c_21]) <;> rfl), hP, hD, hS, lv_sub hl [0, 1, 2, 3] rfl⟩
    · refine lv_aload_n hx hb dX0_safeChoice_24 rfl (lv_at hl 2 rfl) ?_
      refine lv_iload_n hx hb dX0_safeChoice_25 rfl (lv_at hl 0 rfl) ?_
      refine lv_iconst (v := 3) hx hb dX0_safeChoice_26 (by decide) ?_
      refine lv_idiv hx hb dX0_safeChoice_27 (by decide) ?_
      refine tw_top (show _ = nI (i5 / 3) from tw_d3 (by omega)) ?_
      refine lv_iload_n hx hb dX0_safeChoice_28 rfl (lv_at hl 0 rfl) ?_
      refine lv_iconst (v := 3) hx hb dX0_safeChoice_29 (by decide) ?_
      refine lv_irem hx hb dX0_safeChoice_30 (by decide) ?_
      refine tw_top (show _ = nI (i5 % 3) from tw_r3 (by omega)) ?_
      refine tw_wv (ws := [(b0, .inr (0, [.ref b1, .ref b2, .ref b3, .ref b4, .ref b5, .int (nI nc), .int (nI nt), .int ea])), (b1, .inl (cI, 6, .inl ac)), (b2, .inl (cI, 6, .inl kd)), (b3, .inl (cI, 6, .inl ho)), (b4, .inl (cI, 6, .inl pl)), (b5, .inl (cI, 6, .inl st))]) (wc := [(b0, .inr (0, [.ref b1, .ref b2, .ref b3, .ref b4, .ref b5, .int (nI nc), .int (nI nt), .int ea])), (b1, .inl (cI, 6, .inl ac)), (b2, .inl (cI, 6, .inl kd)), (b3, .inl (cI, 6, .inl ho)), (b4, .inl (cI, 6, .inl pl)), (b5, .inl (cI, 6, .inl st))]) (wr := []) (w1 := [(b0, .inr (0, [.ref b1, .ref b2, .ref b3, .ref b4, .ref b5, .int (nI nc), .int (nI nt), .int ((m_X0_doAct pl ea (nI (i5 / 3)) (nI (i5 % 3))).2)])), (b1, .inl (cI, 6, .inl ac)), (b2, .inl (cI, 6, .inl kd)), (b3, .inl (cI, 6, .inl ho)), (b4, .inl (cI, 6, .inl ((m_X0_doAct pl ea (nI (i5 / 3)) (nI (i5 % 3))).1))), (b5, .inl (cI, 6, .inl st))]) (ws' := [(b0, .inr (0, [.ref b1, .ref b2, .ref b3, .ref b4, .ref b5, .int (nI nc), .int (nI nt), .int ((m_X0_doAct pl ea (nI (i5 / 3)) (nI (i5 % 3))).2)])), (b1, .inl (cI, 6, .inl ac)), (b2, .inl (cI, 6, .inl kd)), (b3, .inl (cI, 6, .inl ho)), (b4, .inl (cI, 6, .inl ((m_X0_doAct pl ea (nI (i5 / 3)) (nI (i5 % 3))).1))), (b5, .inl (cI, 6, .inl st))]) (va_runV (As := [.int (nI (i5 / 3)), .int (nI (i5 % 3))]) (rest := []) ⟨hx, hb, hml, hown, hts⟩ (c_X0_doAct l D cI cS b0 b1 b2 b3 b4 b5 _ ac kd ho pl st nc nt ea (nI (i5 / 3)) (nI (i5 % 3)) (by first | assumption | omega | exact hz60 _ | exact vp_in_nI (by omega) (by decide))) (cwV 2 hts gX0_safeChoice_X0_doAct rfl rfl rfl (by decide +kernel) ⟨Nat.le_of_ble_eq_true rfl, Nat.le_of_ble_eq_true rfl⟩) ⟨tw_Wb, va_recv hK hP (ci := 0) (q0 := 0) rfl rfl, tw_Wp (hP.sub (ws' := [(b0, .inr (0, [.ref b1, .ref b2, .ref b3, .ref b4, .ref b5, .int (nI nc), .int (nI nt), .int ea])), (b1, .inl (cI, 6, .inl ac)), (b2, .inl (cI, 6, .inl kd)), (b3, .inl (cI, 6, .inl ho)), (b4, .inl (cI, 6, .inl pl)), (b5, .inl (cI, 6, .inl st))]) [0, 1, 2, 3, 4, 5] rfl) hK (hD.sub (ws' := [(b0, .inr (0, [.ref b1, .ref b2, .ref b3, .ref b4, .ref b5, .int (nI nc), .int (nI nt), .int ea])), (b1, .inl (cI, 6, .inl ac)), (b2, .inl (cI, 6, .inl kd)), (b3, .inl (cI, 6, .inl ho)), (b4, .inl (cI, 6, .inl pl)), (b5, .inl (cI, 6, .inl st))]) [0, 1, 2, 3, 4, 5] (by decide) rfl)⟩ rfl rfl hl.1 rfl (lv_room (Nat.le_of_ble_eq_true rfl)) dX0_safeChoice_31 ⟨Nat.zero_le _, Nat.zero_le _⟩) hP hD hS hA [0, 1, 2, 3, 4, 5] [] [0, 1, 2, 3, 4, 5] rfl rfl (by decide) (by decide) rfl (by decide) (fun H locs hP hD hS => ?_)
      refine lv_aload_n hx hb dX0_safeChoice_34 rfl (lv_at hl 2 rfl) ?_
      refine lv_iconst (v := 1) hx hb dX0_safeChoice_35 (by decide) ?_
      refine lv_iload_n hx hb dX0_safeChoice_36 rfl (lv_at hl 3 rfl) ?_
      refine lv_isub hx hb dX0_safeChoice_37 ?_
      refine tw_wi (v := (m_X0_goodChoice ac kd ho ((m_X0_doAct pl ea (nI (i5 / 3)) (nI (i5 % 3))).1) st nc nt ((m_X0_doAct pl ea (nI (i5 / 3)) (nI (i5 % 3))).2) (1 - v1))) (ws := [(b0, .inr (0, [.ref b1, .ref b2, .ref b3, .ref b4, .ref b5, .int (nI nc), .int (nI nt), .int ((m_X0_doAct pl ea (nI (i5 / 3)) (nI (i5 % 3))).2)])), (b1, .inl (cI, 6, .inl ac)), (b2, .inl (cI, 6, .inl kd)), (b3, .inl (cI, 6, .inl ho)), (b4, .inl (cI, 6, .inl ((m_X0_doAct pl ea (nI (i5 / 3)) (nI (i5 % 3))).1))), (b5, .inl (cI, 6, .inl st))]) (wc := [(b0, .inr (0, [.ref b1, .ref b2, .ref b3, .ref b4, .ref b5, .int (nI nc), .int (nI nt), .int ((m_X0_doAct pl ea (nI (i5 / 3)) (nI (i5 % 3))).2)])), (b1, .inl (cI, 6, .inl ac)), (b2, .inl (cI, 6, .inl kd)), (b3, .inl (cI, 6, .inl ho)), (b4, .inl (cI, 6, .inl ((m_X0_doAct pl ea (nI (i5 / 3)) (nI (i5 % 3))).1))), (b5, .inl (cI, 6, .inl st))]) (wr := []) (w1 := [(b0, .inr (0, [.ref b1, .ref b2, .ref b3, .ref b4, .ref b5, .int (nI nc), .int (nI nt), .int ((m_X0_doAct pl ea (nI (i5 / 3)) (nI (i5 % 3))).2)])), (b1, .inl (cI, 6, .inl ac)), (b2, .inl (cI, 6, .inl kd)), (b3, .inl (cI, 6, .inl ho)), (b4, .inl (cI, 6, .inl ((m_X0_doAct pl ea (nI (i5 / 3)) (nI (i5 % 3))).1))), (b5, .inl (cI, 6, .inl st))]) (ws' := [(b0, .inr (0, [.ref b1, .ref b2, .ref b3, .ref b4, .ref b5, .int (nI nc), .int (nI nt), .int ((m_X0_doAct pl ea (nI (i5 / 3)) (nI (i5 % 3))).2)])), (b1, .inl (cI, 6, .inl ac)), (b2, .inl (cI, 6, .inl kd)), (b3, .inl (cI, 6, .inl ho)), (b4, .inl (cI, 6, .inl ((m_X0_doAct pl ea (nI (i5 / 3)) (nI (i5 % 3))).1))), (b5, .inl (cI, 6, .inl st))]) (va_runV (As := [.int (1 - v1)]) (rest := []) ⟨hx, hb, hml, hown, hts⟩ (c_X0_goodChoice l D cI cS b0 b1 b2 b3 b4 b5 _ ac kd ho ((m_X0_doAct pl ea (nI (i5 / 3)) (nI (i5 % 3))).1) st nc nt ((m_X0_doAct pl ea (nI (i5 / 3)) (nI (i5 % 3))).2) (1 - v1) (by first | assumption | omega | exact hz60 _ | exact vp_in_nI (by omega) (by decide)) (by first | assumption | omega | exact hz60 _ | exact vp_in_nI (by omega) (by decide))) (cwV 1 hts gX0_safeChoice_X0_goodChoice rfl rfl rfl (by decide +kernel) ⟨Nat.le_of_ble_eq_true rfl, Nat.le_of_ble_eq_true rfl⟩) ⟨tw_Wb, va_recv hK hP (ci := 0) (q0 := 0) rfl rfl, tw_Wp (hP.sub (ws' := [(b0, .inr (0, [.ref b1, .ref b2, .ref b3, .ref b4, .ref b5, .int (nI nc), .int (nI nt), .int ((m_X0_doAct pl ea (nI (i5 / 3)) (nI (i5 % 3))).2)])), (b1, .inl (cI, 6, .inl ac)), (b2, .inl (cI, 6, .inl kd)), (b3, .inl (cI, 6, .inl ho)), (b4, .inl (cI, 6, .inl ((m_X0_doAct pl ea (nI (i5 / 3)) (nI (i5 % 3))).1))), (b5, .inl (cI, 6, .inl st))]) [0, 1, 2, 3, 4, 5] rfl) hK (hD.sub (ws' := [(b0, .inr (0, [.ref b1, .ref b2, .ref b3, .ref b4, .ref b5, .int (nI nc), .int (nI nt), .int ((m_X0_doAct pl ea (nI (i5 / 3)) (nI (i5 % 3))).2)])), (b1, .inl (cI, 6, .inl ac)), (b2, .inl (cI, 6, .inl kd)), (b3, .inl (cI, 6, .inl ho)), (b4, .inl (cI, 6, .inl ((m_X0_doAct pl ea (nI (i5 / 3)) (nI (i5 % 3))).1))), (b5, .inl (cI, 6, .inl st))]) [0, 1, 2, 3, 4, 5] (by decide) rfl)⟩ rfl rfl hl.1 rfl (lv_room (Nat.le_of_ble_eq_true rfl)) dX0_safeChoice_38 ⟨Nat.zero_le _, Nat.zero_le _⟩) hP hD hS hA [0, 1, 2, 3, 4, 5] [] [0, 1, 2, 3, 4, 5] rfl rfl (by decide) (by decide) rfl (by decide) (fun H locs hP hD hS => ?_)
      refine lv_topi (fun x4 ex4 => ?_)
      refine lv_istore (lv' := [(4, .int x4), (3, .int (nI i5)), (2, .int u2_5), (0, .ref b0), (1, .int v1)]) hx hb dX0_safeChoice_41 hl (by decide) rfl (fun ls hl => ?_)
      refine lv_iload hx hb dX0_safeChoice_43 (lv_at hl 0 rfl) ?_
      refine lv_bipush (v := (-9)) hx hb dX0_safeChoice_45 (by decide) ?_
      refine tw_join (fun (y : Int32) => F0 m 67 ls (.int y :: [])) (if x4 = (-9) then (m_X0_leadOf ac kd ho ((m_X0_doAct pl ea (nI (i5 / 3)) (nI (i5 % 3))).1) st nc nt ((m_X0_doAct pl ea (nI (i5 / 3)) (nI (i5 % 3))).2) v1) else 200 - (m_X0_leadOfChoice x4)) ?_ (fun J67_0 => ?_)
      · intro y67 hy67
        refine lv_istore (lv' := [(5, .int y67), (4, .int x4), (3, .int (nI i5)), (2, .int u2_5), (0, .ref b0), (1, .int v1)]) hx hb dX0_safeChoice_67 hl (by decide) rfl (fun ls hl => ?_)
        refine lv_iload_n hx hb dX0_safeChoice_69 rfl (lv_at hl 3 rfl) ?_
        refine lv_iload hx hb dX0_safeChoice_70 (lv_at hl 0 rfl) ?_
        refine lv_iload_n hx hb dX0_safeChoice_72 rfl (lv_at hl 2 rfl) ?_
        refine tw_cs (va_runS (As := [.int y67, .int (nI i5)]) (rest := [.int u2_5]) ⟨hx, hb, hml, hown, hts⟩ (c_X0_choiceOf l D cI cS y67 (nI i5)) (va_cwS 2 hts gX0_safeChoice_X0_choiceOf rfl rfl rfl (by decide +kernel) ⟨Nat.le_of_ble_eq_true rfl, Nat.le_of_ble_eq_true rfl⟩) ⟨tw_Rb, tw_Rp (hP.sub (ws' := []) [] rfl) hK⟩ rfl rfl hl.1 rfl (lv_room (Nat.le_of_ble_eq_true rfl)) dX0_safeChoice_73 ⟨Nat.zero_le _, Nat.zero_le _⟩) ?_
        refine va_mmax hx hb (hml.trans hl.1.symm) hown mlk_max mst_max min_max mcd_max (Nat.le_of_ble_eq_true rfl) (Nat.le_of_ble_eq_true rfl) (Nat.zero_le _) (Nat.zero_le _) dX0_safeChoice_76 ?_
        refine lv_istore_n (lv' := [(2, .int (if u2_5 < (m_X0_choiceOf y67 (nI i5)) then (m_X0_choiceOf y67 (nI i5)) else u2_5)), (5, .int y67), (4, .int x4), (3, .int (nI i5)), (0, .ref b0), (1, .int v1)]) hx hb dX0_safeChoice_79 rfl hl (by decide) rfl (fun ls hl => ?_)
        refine lv_aload_n hx hb dX0_safeChoice_80 rfl (lv_at hl 4 rfl) ?_
        refine lv_iload_n hx hb dX0_safeChoice_81 rfl (lv_at hl 3 rfl) ?_
        refine lv_iconst (v := 3) hx hb dX0_safeChoice_82 (by decide) ?_
        refine lv_idiv hx hb dX0_safeChoice_83 (by decide) ?_
        refine tw_top (show _ = nI (i5 / 3) from tw_d3 (by omega)) ?_
        refine lv_iload_n hx hb dX0_safeChoice_84 rfl (lv_at hl 3 rfl) ?_
        refine lv_iconst (v := 3) hx hb dX0_safeChoice_85 (by decide) ?_
        refine lv_irem hx hb dX0_safeChoice_86 (by decide) ?_
        refine tw_top (show _ = nI (i5 % 3) from tw_r3 (by omega)) ?_
        refine tw_wv (ws := [(b0, .inr (0, [.ref b1, .ref b2, .ref b3, .ref b4, .ref b5, .int (nI nc), .int (nI nt), .int ((m_X0_doAct pl ea (nI (i5 / 3)) (nI (i5 % 3))).2)])), (b1, .inl (cI, 6, .inl ac)), (b2, .inl (cI, 6, .inl kd)), (b3, .inl (cI, 6, .inl ho)), (b4, .inl (cI, 6, .inl ((m_X0_doAct pl ea (nI (i5 / 3)) (nI (i5 % 3))).1))), (b5, .inl (cI, 6, .inl st))]) (wc := [(b0, .inr (0, [.ref b1, .ref b2, .ref b3, .ref b4, .ref b5, .int (nI nc), .int (nI nt), .int ((m_X0_doAct pl ea (nI (i5 / 3)) (nI (i5 % 3))).2)])), (b1, .inl (cI, 6, .inl ac)), (b2, .inl (cI, 6, .inl kd)), (b3, .inl (cI, 6, .inl ho)), (b4, .inl (cI, 6, .inl ((m_X0_doAct pl ea (nI (i5 / 3)) (nI (i5 % 3))).1))), (b5, .inl (cI, 6, .inl st))]) (wr := []) (w1 := [(b0, .inr (0, [.ref b1, .ref b2, .ref b3, .ref b4, .ref b5, .int (nI nc), .int (nI nt), .int ((m_X0_undoAct ((m_X0_doAct pl ea (nI (i5 / 3)) (nI (i5 % 3))).1) ((m_X0_doAct pl ea (nI (i5 / 3)) (nI (i5 % 3))).2) (nI (i5 / 3)) (nI (i5 % 3))).2)])), (b1, .inl (cI, 6, .inl ac)), (b2, .inl (cI, 6, .inl kd)), (b3, .inl (cI, 6, .inl ho)), (b4, .inl (cI, 6, .inl ((m_X0_undoAct ((m_X0_doAct pl ea (nI (i5 / 3)) (nI (i5 % 3))).1) ((m_X0_doAct pl ea (nI (i5 / 3)) (nI (i5 % 3))).2) (nI (i5 / 3)) (nI (i5 % 3))).1))), (b5, .inl (cI, 6, .inl st))]) (ws' := [(b0, .inr (0, [.ref b1, .ref b2, .ref b3, .ref b4, .ref b5, .int (nI nc), .int (nI nt), .int ((m_X0_undoAct ((m_X0_doAct pl ea (nI (i5 / 3)) (nI (i5 % 3))).1) ((m_X0_doAct pl ea (nI (i5 / 3)) (nI (i5 % 3))).2) (nI (i5 / 3)) (nI (i5 % 3))).2)])), (b1, .inl (cI, 6, .inl ac)), (b2, .inl (cI, 6, .inl kd)), (b3, .inl (cI, 6, .inl ho)), (b4, .inl (cI, 6, .inl ((m_X0_undoAct ((m_X0_doAct pl ea (nI (i5 / 3)) (nI (i5 % 3))).1) ((m_X0_doAct pl ea (nI (i5 / 3)) (nI (i5 % 3))).2) (nI (i5 / 3)) (nI (i5 % 3))).1))), (b5, .inl (cI, 6, .inl st))]) (va_runV (As := [.int (nI (i5 / 3)), .int (nI (i5 % 3))]) (rest := []) ⟨hx, hb, hml, hown, hts⟩ (c_X0_undoAct l D cI cS b0 b1 b2 b3 b4 b5 _ ac kd ho ((m_X0_doAct pl ea (nI (i5 / 3)) (nI (i5 % 3))).1) st nc nt ((m_X0_doAct pl ea (nI (i5 / 3)) (nI (i5 % 3))).2) (nI (i5 / 3)) (nI (i5 % 3)) (by first | assumption | omega | exact hz60 _ | exact vp_in_nI (by omega) (by decide))) (cwV 2 hts gX0_safeChoice_X0_undoAct rfl rfl rfl (by decide +kernel) ⟨Nat.le_of_ble_eq_true rfl, Nat.le_of_ble_eq_true rfl⟩) ⟨tw_Wb, va_recv hK hP (ci := 0) (q0 := 0) rfl rfl, tw_Wp (hP.sub (ws' := [(b0, .inr (0, [.ref b1, .ref b2, .ref b3, .ref b4, .ref b5, .int (nI nc), .int (nI nt), .int ((m_X0_doAct pl ea (nI (i5 / 3)) (nI (i5 % 3))).2)])), (b1, .inl (cI, 6, .inl ac)), (b2, .inl (cI, 6, .inl kd)), (b3, .inl (cI, 6, .inl ho)), (b4, .inl (cI, 6, .inl ((m_X0_doAct pl ea (nI (i5 / 3)) (nI (i5 % 3))).1))), (b5, .inl (cI, 6, .inl st))]) [0, 1, 2, 3, 4, 5] rfl) hK (hD.sub (ws' := [(b0, .inr (0, [.ref b1, .ref b2, .ref b3, .ref b4, .ref b5, .int (nI nc), .int (nI nt), .int ((m_X0_doAct pl ea (nI (i5 / 3)) (nI (i5 % 3))).2)])), (b1, .inl (cI, 6, .inl ac)), (b2, .inl (cI, 6, .inl kd)), (b3, .inl (cI, 6, .inl ho)), (b4, .inl (cI, 6, .inl ((m_X0_doAct pl ea (nI (i5 / 3)) (nI (i5 % 3))).1))), (b5, .inl (cI, 6, .inl st))]) [0, 1, 2, 3, 4, 5] (by decide) rfl)⟩ rfl rfl hl.1 rfl (lv_room (Nat.le_of_ble_eq_true rfl)) dX0_safeChoice_87 ⟨Nat.zero_le _, Nat.zero_le _⟩) hP hD hS hA [0, 1, 2, 3, 4, 5] [] [0, 1, 2, 3, 4, 5] rfl rfl (by decide) (by decide) rfl (by decide) (fun H locs hP hD hS => ?_)
        have hu := undo_do (show i5 / 3 < 32 by omega) (canMove_canDo c_21)
        have hP : va_P D vwCl [(b0, .inr (0, [.ref b1, .ref b2, .ref b3, .ref b4, .ref b5, .int (nI nc), .int (nI nt), .int ea])), (b1, .inl (cI, 6, .inl ac)), (b2, .inl (cI, 6, .inl kd)), (b3, .inl (cI, 6, .inl ho)), (b4, .inl (cI, 6, .inl pl)), (b5, .inl (cI, 6, .inl st))] H := (by rw [hu] at hP; exact hP)
        have hD : va_D A [(b0, .inr (0, [.ref b1, .ref b2, .ref b3, .ref b4, .ref b5, .int (nI nc), .int (nI nt), .int ea])), (b1, .inl (cI, 6, .inl ac)), (b2, .inl (cI, 6, .inl kd)), (b3, .inl (cI, 6, .inl ho)), (b4, .inl (cI, 6, .inl pl)), (b5, .inl (cI, 6, .inl st))] := (by rw [hu] at hD; exact hD)
        refine lv_iinc (v := nI (i5 + 1)) (lv' := [(3, .int (nI (i5 + 1))), (2, .int (if u2_5 < (m_X0_choiceOf y67 (nI i5)) then (m_X0_choiceOf y67 (nI i5)) else u2_5)), (5, .int y67), (4, .int x4), (0, .ref b0), (1, .int v1)]) hx hb dX0_safeChoice_90 hl (k := 3) rfl (nI_1 _) (by decide) rfl (fun ls hl => ?_)
        refine lv_goto (tgt := 5) hx hb dX0_safeChoice_93 (by decide) ?_
        exact ih5 (if u2_5 < (m_X0_choiceOf y67 (nI i5)) then (m_X0_choiceOf y67 (nI i5)) else u2_5) ls H _ ⟨by omega, (by (rw [← hm5, m_X0_safeChoice_L5_s]; rw [if_neg c_21]; (try rw [← ex4]); (try rw [← hy67])) <;> rfl), hP, hD, hS, lv_sub hl [0, 1, 4, 5] rfl⟩
      · refine lv_icmp_ne (tgt := 58) hx hb dX0_safeChoice_47 (by decide) (fun c_47 => ?_) (fun c_47 => ?_)
        · refine lv_sipush (v := 200) hx hb dX0_safeChoice_58 (by decide) ?_
          refine lv_iload hx hb dX0_safeChoice_61 (lv_at hl 0 rfl) ?_
          refine tw_cs (va_runS (As := [.int x4]) (rest := [.int 200]) ⟨hx, hb, hml, hown, hts⟩ (c_X0_leadOfChoice l D cI cS x4) (va_cwS 1 hts gX0_safeChoice_X0_leadOfChoice rfl rfl rfl (by decide +kernel) ⟨Nat.le_of_ble_eq_true rfl, Nat.le_of_ble_eq_true rfl⟩) ⟨tw_Rb, tw_Rp (hP.sub (ws' := []) [] rfl) hK⟩ rfl rfl hl.1 rfl (lv_room (Nat.le_of_ble_eq_true rfl)) dX0_safeChoice_63 ⟨Nat.zero_le _, Nat.zero_le _⟩) ?_
          refine lv_isub hx hb dX0_safeChoice_66 ?_
          exact J67_0 _ (by (rw [if_neg c_47]) <;> rfl)
        · refine lv_aload_n hx hb dX0_safeChoice_50 rfl (lv_at hl 3 rfl) ?_
          refine lv_iload_n hx hb dX0_safeChoice_51 rfl (lv_at hl 4 rfl) ?_
          refine tw_cs (va_runV (As := [.int v1]) (rest := []) ⟨hx, hb, hml, hown, hts⟩ (c_X0_leadOf l D cI cS b0 b1 b2 b3 b4 b5 ac kd ho ((m_X0_doAct pl ea (nI (i5 / 3)) (nI (i5 % 3))).1) st nc nt ((m_X0_doAct pl ea (nI (i5 / 3)) (nI (i5 % 3))).2) v1 (by first | assumption | omega | exact hz60 _ | exact vp_in_nI (by omega) (by decide)) (by first | assumption | omega | exact hz60 _ | exact vp_in_nI (by omega) (by decide))) (cwV 1 hts gX0_safeChoice_X0_leadOf rfl rfl rfl (by decide +kernel) ⟨Nat.le_of_ble_eq_true rfl, Nat.le_of_ble_eq_true rfl⟩) ⟨tw_Rb, va_recv hK hP (ci := 0) (q0 := 0) rfl rfl, tw_Rp (hP.sub (ws' := [(b0, .inr (0, [.ref b1, .ref b2, .ref b3, .ref b4, .ref b5, .int (nI nc), .int (nI nt), .int ((m_X0_doAct pl ea (nI (i5 / 3)) (nI (i5 % 3))).2)])), (b1, .inl (cI, 6, .inl ac)), (b2, .inl (cI, 6, .inl kd)), (b3, .inl (cI, 6, .inl ho)), (b4, .inl (cI, 6, .inl ((m_X0_doAct pl ea (nI (i5 / 3)) (nI (i5 % 3))).1))), (b5, .inl (cI, 6, .inl st))]) [0, 1, 2, 3, 4, 5] rfl) hK⟩ rfl rfl hl.1 rfl (lv_room (Nat.le_of_ble_eq_true rfl)) dX0_safeChoice_52 ⟨Nat.zero_le _, Nat.zero_le _⟩) ?_
          refine lv_goto (tgt := 67) hx hb dX0_safeChoice_55 (by decide) ?_
          exact J67_0 _ (by (rw [if_pos c_47]) <;> rfl)

def m_X0_countSetsWithLead_L10 (ac : Nat → Int32) (kd : Nat → Int32) (ho : Nat → Int32) (pl : Nat → Int32) (st : Nat → Int32) (nc : Nat) (nt : Nat) (ea : Int32) (v1 : Int32) : Nat → Nat → Int32 → Int32 → Int32 × Int32
  | 0, i10, u3_10, wea_10 =>
    (u3_10, wea_10)
  | k10 + 1, i10, u3_10, wea_10 =>
    if (m_X0_leadOf ac kd ho pl st nc nt (ea ||| (nI i10)) v1) ≤ 100 then
      m_X0_countSetsWithLead_L10 ac kd ho pl st nc nt ea v1 k10 (i10 + 1) u3_10 (ea ||| (nI i10))
    else
      m_X0_countSetsWithLead_L10 ac kd ho pl st nc nt ea v1 k10 (i10 + 1) (u3_10 + 1) (ea ||| (nI i10))
theorem m_X0_countSetsWithLead_L10_0 (ac : Nat → Int32) (kd : Nat → Int32) (ho : Nat → Int32) (pl : Nat → Int32) (st : Nat → Int32) (nc : Nat) (nt : Nat) (ea : Int32) (v1 : Int32) (i10 : Nat) (u3_10 : Int32) (wea_10 : Int32) : m_X0_countSetsWithLead_L10 ac kd ho pl st nc nt ea v1 0 i10 u3_10 wea_10 = 
    (u3_10, wea_10) := rfl
theorem m_X0_countSetsWithLead_L10_s (ac : Nat → Int32) (kd : Nat → Int32) (ho : Nat → Int32) (pl : Nat → Int32) (st : Nat → Int32) (nc : Nat) (nt : Nat) (ea : Int32) (v1 : Int32) (i10 : Nat) (u3_10 : Int32) (wea_10 : Int32) (k10 : Nat) : m_X0_countSetsWithLead_L10 ac kd ho pl st nc nt ea v1 (k10 + 1) i10 u3_10 wea_10 = 
    if (m_X0_leadOf ac kd ho pl st nc nt (ea ||| (nI i10)) v1) ≤ 100 then
      m_X0_countSetsWithLead_L10 ac kd ho pl st nc nt ea v1 k10 (i10 + 1) u3_10 (ea ||| (nI i10))
    else
      m_X0_countSetsWithLead_L10 ac kd ho pl st nc nt ea v1 k10 (i10 + 1) (u3_10 + 1) (ea ||| (nI i10)) := rfl
def m_X0_countSetsWithLead (ac : Nat → Int32) (kd : Nat → Int32) (ho : Nat → Int32) (pl : Nat → Int32) (st : Nat → Int32) (nc : Nat) (nt : Nat) (ea : Int32) (v1 : Int32) : Int32 :=
  ((m_X0_countSetsWithLead_L10 ac kd ho pl st nc nt ea v1 (2 ^ nt) 0 0 ea).1)
set_option maxHeartbeats 4000000 in
set_option maxRecDepth 100000 in
theorem c_X0_countSetsWithLead (l : Launch) (D : va_G) (cI cS : ClassId) (b0 : Nat) (b1 : Nat) (b2 : Nat) (b3 : Nat) (b4 : Nat) (b5 : Nat) (hz : Nat) (ac : Nat → Int32) (kd : Nat → Int32) (ho : Nat → Int32) (pl : Nat → Int32) (st : Nat → Int32) (nc : Nat) (nt : Nat) (ea : Int32) (v1 : Int32) (hn : nt ≤ 6) (hc : nc ≤ 6) : Met l yX0_countSetsWithLead wsX0_countSetsWithLead ({ frames := 4, cells := 0, slots := 0, locals := 89 }) (tw_W D cI cS [.ref b0, .int v1] hz [(b0, .inr (0, [.ref b1, .ref b2, .ref b3, .ref b4, .ref b5, .int (nI nc), .int (nI nt), .int ea])), (b1, .inl (cI, 6, .inl ac)), (b2, .inl (cI, 6, .inl kd)), (b3, .inl (cI, 6, .inl ho)), (b4, .inl (cI, 6, .inl pl)), (b5, .inl (cI, 6, .inl st))]) (va_Qi (fun r (_ : Unit) => r = (m_X0_countSetsWithLead ac kd ho pl st nc nt ea v1)) (tw_B D cI cS (va_A [(b0, .inr (0, [.ref b1, .ref b2, .ref b3, .ref b4, .ref b5, .int (nI nc), .int (nI nt), .int ea])), (b1, .inl (cI, 6, .inl ac)), (b2, .inl (cI, 6, .inl kd)), (b3, .inl (cI, 6, .inl ho)), (b4, .inl (cI, 6, .inl pl)), (b5, .inl (cI, 6, .inl st))] hz) [(b0, .inr (0, [.ref b1, .ref b2, .ref b3, .ref b4, .ref b5, .int (nI nc), .int (nI nt), .int ea])), (b1, .inl (cI, 6, .inl ac)), (b2, .inl (cI, 6, .inl kd)), (b3, .inl (cI, 6, .inl ho)), (b4, .inl (cI, 6, .inl pl)), (b5, .inl (cI, 6, .inl st))]) (va_A [(b0, .inr (0, [.ref b1, .ref b2, .ref b3, .ref b4, .ref b5, .int (nI nc), .int (nI nt), .int ea])), (b1, .inl (cI, 6, .inl ac)), (b2, .inl (cI, 6, .inl kd)), (b3, .inl (cI, 6, .inl ho)), (b4, .inl (cI, 6, .inl pl)), (b5, .inl (cI, 6, .inl st))] hz)) 0 0 (va_A [(b0, .inr (0, [.ref b1, .ref b2, .ref b3, .ref b4, .ref b5, .int (nI nc), .int (nI nt), .int ea])), (b1, .inl (cI, 6, .inl ac)), (b2, .inl (cI, 6, .inl kd)), (b3, .inl (cI, 6, .inl ho)), (b4, .inl (cI, 6, .inl pl)), (b5, .inl (cI, 6, .inl st))] hz) := by
  refine Met.ofW (cc := cX0_countSetsWithLead) (maxL := 5) (ret := (some .int)) (by decide) rfl ?_
  intro p e s m args below meth c s₁ B hml hv
  obtain ⟨rfl, hsz, hP, hK, hD0⟩ := hv
  have hx := B.exec
  have hb := B.bytes
  have hr := B.returns
  have hts := atoms_spec (ws := wsX0_countSetsWithLead) B.pre
  have hown : s.vm.findClass RX0 = some m.cls := findClass_of_methodNamed B.named
  have hlocks := B.notSynchronized
  subst hsz
  have hD := hD0.self (sz := s.heap.size)
  generalize hAe : va_A [(b0, .inr (0, [.ref b1, .ref b2, .ref b3, .ref b4, .ref b5, .int (nI nc), .int (nI nt), .int ea])), (b1, .inl (cI, 6, .inl ac)), (b2, .inl (cI, 6, .inl kd)), (b3, .inl (cI, 6, .inl ho)), (b4, .inl (cI, 6, .inl pl)), (b5, .inl (cI, 6, .inl st))] s.heap.size = A at hD ⊢
  have hA : ∀ q : Nat, s.heap.size ≤ q → A q := fun q h => by rw [← hAe]; exact Or.inr h
  have hS : va_S A s.heap s.heap [] := va_S.rf
  have fl_40 := hts (.fieldLink RX0 40 "TableWar$Cloth" "eaten" "I") (by decide +kernel)
  have hin_X0 := (show ∀ w ∈ u_ws RX0 TX0 8, w ∈ wsX0_countSetsWithLead from by decide +kernel)
  have fl_37 := hts (.fieldLink RX0 37 "TableWar$Cloth" "things" "I") (by decide +kernel)
  have hpw := tw_p64 hn
  have hl := lv_entry ([.ref b0, .int v1]) (n := 5) (Nat.le_of_ble_eq_true rfl)
  rw [lg_entry_eq]
  generalize (lg_sl ([.ref b0, .int v1]) ++ List.replicate (5 - (lg_sl ([.ref b0, .int v1])).length) Slot.unset).toArray = ls at hl ⊢
  have hl : lv_has ls 5 [(0, .ref b0), (1, .int v1)] := hl
  refine lv_aload_n hx hb dX0_countSetsWithLead_0 rfl (lv_at hl 0 rfl) ?_
  refine va_get (ci := 0) (v := .int ea) (C := RX0) (T := TX0) (N := 8) hx hb hts hin_X0 hown hK hP 0 rfl rfl 7 (by decide) fl_40 (fun _ h9 => h9) rfl dX0_countSetsWithLead_1 ?_
  refine lv_istore_n (lv' := [(2, .int ea), (0, .ref b0), (1, .int v1)]) hx hb dX0_countSetsWithLead_4 rfl hl (by decide) rfl (fun ls hl => ?_)
  refine lv_iconst (v := 0) hx hb dX0_countSetsWithLead_5 (by decide) ?_
  refine lv_istore_n (lv' := [(3, .int 0), (2, .int ea), (0, .ref b0), (1, .int v1)]) hx hb dX0_countSetsWithLead_6 rfl hl (by decide) rfl (fun ls hl => ?_)
  refine lv_iconst (v := 0) hx hb dX0_countSetsWithLead_7 (by decide) ?_
  refine lv_istore (lv' := [(4, .int 0), (3, .int 0), (2, .int ea), (0, .ref b0), (1, .int v1)]) hx hb dX0_countSetsWithLead_8 hl (by decide) rfl (fun ls hl => ?_)
  refine tw_loopW (σ := Int32 × Int32) (fun k i z ls H locs => i + k = 2 ^ nt ∧ m_X0_countSetsWithLead_L10 ac kd ho pl st nc nt ea v1 k i z.1 z.2 = m_X0_countSetsWithLead_L10 ac kd ho pl st nc nt ea v1 (2 ^ nt) 0 0 ea ∧ va_P D vwCl [(b0, .inr (0, [.ref b1, .ref b2, .ref b3, .ref b4, .ref b5, .int (nI nc), .int (nI nt), .int z.2])), (b1, .inl (cI, 6, .inl ac)), (b2, .inl (cI, 6, .inl kd)), (b3, .inl (cI, 6, .inl ho)), (b4, .inl (cI, 6, .inl pl)), (b5, .inl (cI, 6, .inl st))] H ∧ va_D A [(b0, .inr (0, [.ref b1, .ref b2, .ref b3, .ref b4, .ref b5, .int (nI nc), .int (nI nt), .int z.2])), (b1, .inl (cI, 6, .inl ac)), (b2, .inl (cI, 6, .inl kd)), (b3, .inl (cI, 6, .inl ho)), (b4, .inl (cI, 6, .inl pl)), (b5, .inl (cI, 6, .inl st))] ∧ va_S A s.heap H locs ∧ lv_has ls 5 [(4, .int (nI i)), (3, .int z.1), (2, .int ea), (0, .ref b0), (1, .int v1)]) (2 ^ nt) 0 (0, ea) ⟨Nat.zero_add _, rfl, hP, hD, hS, lv_sub hl [0, 1, 2, 3, 4] rfl⟩ ?_ ?_
  · intro i10 z ls H locs hI
    obtain ⟨u3_10, wea_10⟩ := z
    obtain ⟨hk10, hm10, hP, hD, hS, hl⟩ := hI
    have hm10 : m_X0_countSetsWithLead_L10 ac kd ho pl st nc nt ea v1 0 i10 u3_10 wea_10 = m_X0_countSetsWithLead_L10 ac kd ho pl st nc nt ea v1 (2 ^ nt) 0 0 ea := hm10
    have hP : va_P D vwCl [(b0, .inr (0, [.ref b1, .ref b2, .ref b3, .ref b4, .ref b5, .int (nI nc), .int (nI nt), .int wea_10])), (b1, .inl (cI, 6, .inl ac)), (b2, .inl (cI, 6, .inl kd)), (b3, .inl (cI, 6, .inl ho)), (b4, .inl (cI, 6, .inl pl)), (b5, .inl (cI, 6, .inl st))] H := hP
    have hD : va_D A [(b0, .inr (0, [.ref b1, .ref b2, .ref b3, .ref b4, .ref b5, .int (nI nc), .int (nI nt), .int wea_10])), (b1, .inl (cI, 6, .inl ac)), (b2, .inl (cI, 6, .inl kd)), (b3, .inl (cI, 6, .inl ho)), (b4, .inl (cI, 6, .inl pl)), (b5, .inl (cI, 6, .inl st))] := hD
    have hl : lv_has ls 5 [(4, .int (nI i10)), (3, .int u3_10), (2, .int ea), (0, .ref b0), (1, .int v1)] := hl
    have hm10 : (u3_10, wea_10) = m_X0_countSetsWithLead_L10 ac kd ho pl st nc nt ea v1 (2 ^ nt) 0 0 ea := hm10
    refine lv_iload hx hb dX0_countSetsWithLead_10 (lv_at hl 0 rfl) ?_
    refine lv_iconst (v := 1) hx hb dX0_countSetsWithLead_12 (by decide) ?_
    refine lv_aload_n hx hb dX0_countSetsWithLead_13 rfl (lv_at hl 3 rfl) ?_
    refine va_get (ci := 0) (v := .int (nI nt)) (C := RX0) (T := TX0) (N := 8) hx hb hts hin_X0 hown hK hP 0 rfl rfl 6 (by decide) fl_37 (fun _ h9 => h9) rfl dX0_countSetsWithLead_14 ?_
    refine lv_ishl hx hb dX0_countSetsWithLead_17 ?_
    refine lv_icmp_ge (tgt := 48) hx hb dX0_countSetsWithLead_18 (by decide) (fun c_18 => ?_) (fun c_18 => absurd (tw_tge (tw_pow nt hn) (show 2 ^ nt ≤ i10 by omega) (show i10 < 2 ^ 31 by omega)) c_18)
    refine lv_aload_n hx hb dX0_countSetsWithLead_48 rfl (lv_at hl 3 rfl) ?_
    refine lv_iload_n hx hb dX0_countSetsWithLead_49 rfl (lv_at hl 2 rfl) ?_
    refine va_put (ci := 0) (v := .int ea) (ty := .int) (C := RX0) (T := TX0) (N := 8) hx hb hts hin_X0 tyX0 tyX0_ok nmX0 hown hK hP hD hS 0 rfl rfl 7 (by decide) fl_40 (fun _ h9 => h9) rfl (by decide +kernel) rfl rfl (Nat.le_of_ble_eq_true rfl) dX0_countSetsWithLead_50 (fun H locs hP hD hS => ?_)
    have hP : va_P D vwCl [(b0, .inr (0, [.ref b1, .ref b2, .ref b3, .ref b4, .ref b5, .int (nI nc), .int (nI nt), .int ea])), (b1, .inl (cI, 6, .inl ac)), (b2, .inl (cI, 6, .inl kd)), (b3, .inl (cI, 6, .inl ho)), (b4, .inl (cI, 6, .inl pl)), (b5, .inl (cI, 6, .inl st))] H := hP
    have hD : va_D A [(b0, .inr (0, [.ref b1, .ref b2, .ref b3, .ref b4, .ref b5, .int (nI nc), .int (nI nt), .int ea])), (b1, .inl (cI, 6, .inl ac)), (b2, .inl (cI, 6, .inl kd)), (b3, .inl (cI, 6, .inl ho)), (b4, .inl (cI, 6, .inl pl)), (b5, .inl (cI, 6, .inl st))] := hD
    refine lv_iload_n hx hb dX0_countSetsWithLead_53 rfl (lv_at hl 1 rfl) ?_
    have hE : (m_X0_countSetsWithLead ac kd ho pl st nc nt ea v1) = u3_10 := Eq.symm (by (unfold m_X0_countSetsWithLead; rw [← hm10]; (try dsimp only)) <;> rfl)
    rw [hE]
    exact W.iret hx hb hr (fun t ht hW => ⟨⟨_, (), rfl, rfl, by rw [ht]; exact hP, va_K.moved hW.alike hK, hD⟩, hS.F ht⟩) hS.2.2 dX0_countSetsWithLead_54
  · intro k10 i10 z ls H locs ih10 hI
    obtain ⟨u3_10, wea_10⟩ := z
    obtain ⟨hk10, hm10, hP, hD, hS, hl⟩ := hI
    have hm10 : m_X0_countSetsWithLead_L10 ac kd ho pl st nc nt ea v1 (k10 + 1) i10 u3_10 wea_10 = m_X0_countSetsWithLead_L10 ac kd ho pl st nc nt ea v1 (2 ^ nt) 0 0 ea := hm10
    have hP : va_P D vwCl [(b0, .inr (0, [.ref b1, .ref b2, .ref b3, .ref b4, .ref b5, .int (nI nc), .int (nI nt), .int wea_10])), (b1, .inl (cI, 6, .inl ac)), (b2, .inl (cI, 6, .inl kd)), (b3, .inl (cI, 6, .inl ho)), (b4, .inl (cI, 6, .inl pl)), (b5, .inl (cI, 6, .inl st))] H := hP
    have hD : va_D A [(b0, .inr (0, [.ref b1, .ref b2, .ref b3, .ref b4, .ref b5, .int (nI nc), .int (nI nt), .int wea_10])), (b1, .inl (cI, 6, .inl ac)), (b2, .inl (cI, 6, .inl kd)), (b3, .inl (cI, 6, .inl ho)), (b4, .inl (cI, 6, .inl pl)), (b5, .inl (cI, 6, .inl st))] := hD
    have hl : lv_has ls 5 [(4, .int (nI i10)), (3, .int u3_10), (2, .int ea), (0, .ref b0), (1, .int v1)] := hl
    refine lv_iload hx hb dX0_countSetsWithLead_10 (lv_at hl 0 rfl) ?_
    refine lv_iconst (v := 1) hx hb dX0_countSetsWithLead_12 (by decide) ?_
    refine lv_aload_n hx hb dX0_countSetsWithLead_13 rfl (lv_at hl 3 rfl) ?_
    refine va_get (ci := 0) (v := .int (nI nt)) (C := RX0) (T := TX0) (N := 8) hx hb hts hin_X0 hown hK hP 0 rfl rfl 6 (by decide) fl_37 (fun _ h9 => h9) rfl dX0_countSetsWithLead_14 ?_
    refine lv_ishl hx hb dX0_countSetsWithLead_17 ?_
    refine lv_icmp_ge (tgt := 48) hx hb dX0_countSetsWithLead_18 (by decide) (fun c_18 => absurd c_18 (tw_tlt (tw_pow nt hn) (show i10 < 2 ^ nt by omega) (show 2 ^ nt < 2 ^ 31 by omega))) (fun c_18 => ?_)
    refine lv_aload_n hx hb dX0_countSetsWithLead_21 rfl (lv_at hl 3 rfl) ?_
    refine lv_iload_n hx hb dX0_countSetsWithLead_22 rfl (lv_at hl 2 rfl) ?_
    refine lv_iload hx hb dX0_countSetsWithLead_23 (lv_at hl 0 rfl) ?_
    refine lv_ior hx hb dX0_countSetsWithLead_25 ?_
    refine va_put (ci := 0) (v := .int (ea ||| (nI i10))) (ty := .int) (C := RX0) (T := TX0) (N := 8) hx hb hts hin_X0 tyX0 tyX0_ok nmX0 hown hK hP hD hS 0 rfl rfl 7 (by decide) fl_40 (fun _ h9 => h9) rfl (by decide +kernel) rfl rfl (Nat.le_of_ble_eq_true rfl) dX0_countSetsWithLead_26 (fun H locs hP hD hS => ?_)
    have hP : va_P D vwCl [(b0, .inr (0, [.ref b1, .ref b2, .ref b3, .ref b4, .ref b5, .int (nI nc), .int (nI nt), .int (ea ||| (nI i10))])), (b1, .inl (cI, 6, .inl ac)), (b2, .inl (cI, 6, .inl kd)), (b3, .inl (cI, 6, .inl ho)), (b4, .inl (cI, 6, .inl pl)), (b5, .inl (cI, 6, .inl st))] H := hP
    have hD : va_D A [(b0, .inr (0, [.ref b1, .ref b2, .ref b3, .ref b4, .ref b5, .int (nI nc), .int (nI nt), .int (ea ||| (nI i10))])), (b1, .inl (cI, 6, .inl ac)), (b2, .inl (cI, 6, .inl kd)), (b3, .inl (cI, 6, .inl ho)), (b4, .inl (cI, 6, .inl pl)), (b5, .inl (cI, 6, .inl st))] := hD
    refine lv_aload_n hx hb dX0_countSetsWithLead_29 rfl (lv_at hl 3 rfl) ?_
    refine lv_iload_n hx hb dX0_countSetsWithLead_30 rfl (lv_at hl 4 rfl) ?_
    refine tw_cs (va_runV (As := [.int v1]) (rest := []) ⟨hx, hb, hml, hown, hts⟩ (c_X0_leadOf l D cI cS b0 b1 b2 b3 b4 b5 ac kd ho pl st nc nt (ea ||| (nI i10)) v1 (by first | assumption | omega | exact hz60 _ | exact vp_in_nI (by omega) (by decide)) (by first | assumption | omega | exact hz60 _ | exact vp_in_nI (by omega) (by decide))) (cwV 1 hts gX0_countSetsWithLead_X0_leadOf rfl rfl rfl (by decide +kernel) ⟨Nat.le_of_ble_eq_true rfl, Nat.le_of_ble_eq_true rfl⟩) ⟨tw_Rb, va_recv hK hP (ci := 0) (q0 := 0) rfl rfl, tw_Rp (hP.sub (ws' := [(b0, .inr (0, [.ref b1, .ref b2, .ref b3, .ref b4, .ref b5, .int (nI nc), .int (nI nt), .int (ea ||| (nI i10))])), (b1, .inl (cI, 6, .inl ac)), (b2, .inl (cI, 6, .inl kd)), (b3, .inl (cI, 6, .inl ho)), (b4, .inl (cI, 6, .inl pl)), (b5, .inl (cI, 6, .inl st))]) [0, 1, 2, 3, 4, 5] rfl) hK⟩ rfl rfl hl.1 rfl (lv_room (Nat.le_of_ble_eq_true rfl)) dX0_countSetsWithLead_31 ⟨Nat.zero_le _, Nat.zero_le _⟩) ?_
    refine lv_bipush (v := 100) hx hb dX0_countSetsWithLead_34 (by decide) ?_
    refine lv_icmp_le (tgt := 42) hx hb dX0_countSetsWithLead_36 (by decide) (fun c_36 => ?_) (fun c_36 => ?_)
    · refine lv_iinc (v := nI (i10 + 1)) (lv' := [(4, .int (nI (i10 + 1))), (3, .int u3_10), (2, .int ea), (0, .ref b0), (1, .int v1)]) hx hb dX0_countSetsWithLead_42 hl (k := 0) rfl (nI_1 _) (by decide) rfl (fun ls hl => ?_)
      refine lv_goto (tgt := 10) hx hb dX0_countSetsWithLead_45 (by decide) ?_
      exact ih10 (u3_10, ea ||| (nI i10)) ls H _ ⟨by omega, (by (rw [← hm10, m_X0_countSetsWithLead_L10_s]; rw [if_pos c_36]) <;> rfl), hP, hD, hS, lv_sub hl [0, 1, 2, 3, 4] rfl⟩
    · refine lv_iinc (v := u3_10 + 1) (lv' := [(3, .int (u3_10 + 1)), (4, .int (nI i10)), (2, .int ea), (0, .ref b0), (1, .int v1)]) hx hb dX0_countSetsWithLead_39 hl (k := 1) rfl rfl (by decide) rfl (fun ls hl => ?_)
      refine lv_iinc (v := nI (i10 + 1)) (lv' := [(4, .int (nI (i10 + 1))), (3, .int (u3_10 + 1)), (2, .int ea), (0, .ref b0), (1, .int v1)]) hx hb dX0_countSetsWithLead_42 hl (k := 1) rfl (nI_1 _) (by decide) rfl (fun ls hl => ?_)
      refine lv_goto (tgt := 10) hx hb dX0_countSetsWithLead_45 (by decide) ?_
      exact ih10 (u3_10 + 1, ea ||| (nI i10)) ls H _ ⟨by omega, (by (rw [← hm10, m_X0_countSetsWithLead_L10_s]; rw [if_neg c_36]) <;> rfl), hP, hD, hS, lv_sub hl [0, 1, 2, 3, 4] rfl⟩

def m_X0_fewestSteps_L36 (kd : Nat → Int32) (ho : Nat → Int32) (pl : Nat → Int32) (st : Nat → Int32) (ea : Int32) (v1 : Int32) (v2 : Int32) (i16 : Nat) : Nat → Nat → Int32 → Int32 → Int32 × Int32
  | 0, i36, u7_36, u6_36 =>
    (u7_36, u6_36)
  | k36 + 1, i36, u7_36, u6_36 =>
    if (((nI i16) >>> ((nI i36) &&& 31)) &&& 1) = 1 then
      if (ho i36) = v1 then
        if (m_X0_isEaten ea (nI i36)) = 0 then
          m_X0_fewestSteps_L36 kd ho pl st ea v1 v2 i16 k36 (i36 + 1) (u7_36 + (if 0 ≤ ((pl i36) - v2) then ((pl i36) - v2) else 0 - ((pl i36) - v2))) (u6_36 + (m_X0_mightOf kd st ea (nI i36)))
        else
          m_X0_fewestSteps_L36 kd ho pl st ea v1 v2 i16 k36 (i36 + 1) u7_36 u6_36
      else
        m_X0_fewestSteps_L36 kd ho pl st ea v1 v2 i16 k36 (i36 + 1) u7_36 u6_36
    else
      m_X0_fewestSteps_L36 kd ho pl st ea v1 v2 i16 k36 (i36 + 1) u7_36 u6_36
theorem m_X0_fewestSteps_L36_0 (kd : Nat → Int32) (ho : Nat → Int32) (pl : Nat → Int32) (st : Nat → Int32) (ea : Int32) (v1 : Int32) (v2 : Int32) (i16 : Nat) (i36 : Nat) (u7_36 : Int32) (u6_36 : Int32) : m_X0_fewestSteps_L36 kd ho pl st ea v1 v2 i16 0 i36 u7_36 u6_36 = 
    (u7_36, u6_36) := rfl
theorem m_X0_fewestSteps_L36_s (kd : Nat → Int32) (ho : Nat → Int32) (pl : Nat → Int32) (st : Nat → Int32) (ea : Int32) (v1 : Int32) (v2 : Int32) (i16 : Nat) (i36 : Nat) (u7_36 : Int32) (u6_36 : Int32) (k36 : Nat) : m_X0_fewestSteps_L36 kd ho pl st ea v1 v2 i16 (k36 + 1) i36 u7_36 u6_36 = 
    if (((nI i16) >>> ((nI i36) &&& 31)) &&& 1) = 1 then
      if (ho i36) = v1 then
        if (m_X0_isEaten ea (nI i36)) = 0 then
          m_X0_fewestSteps_L36 kd ho pl st ea v1 v2 i16 k36 (i36 + 1) (u7_36 + (if 0 ≤ ((pl i36) - v2) then ((pl i36) - v2) else 0 - ((pl i36) - v2))) (u6_36 + (m_X0_mightOf kd st ea (nI i36)))
        else
          m_X0_fewestSteps_L36 kd ho pl st ea v1 v2 i16 k36 (i36 + 1) u7_36 u6_36
      else
        m_X0_fewestSteps_L36 kd ho pl st ea v1 v2 i16 k36 (i36 + 1) u7_36 u6_36
    else
      m_X0_fewestSteps_L36 kd ho pl st ea v1 v2 i16 k36 (i36 + 1) u7_36 u6_36 := rfl
def m_X0_fewestSteps_L16 (kd : Nat → Int32) (ho : Nat → Int32) (pl : Nat → Int32) (st : Nat → Int32) (nt : Nat) (ea : Int32) (v1 : Int32) (v2 : Int32) : Nat → Nat → Int32 → Int32
  | 0, i16, u4_16 =>
    u4_16
  | k16 + 1, i16, u4_16 =>
    if ((m_X0_fewestSteps_L36 kd ho pl st ea v1 v2 i16 nt 0 0 0).2) ≤ (m_X0_mightIn kd ho pl st nt ea (1 - v1) v2) then
      m_X0_fewestSteps_L16 kd ho pl st nt ea v1 v2 k16 (i16 + 1) u4_16
    else
      if u4_16 = (-9) then
        m_X0_fewestSteps_L16 kd ho pl st nt ea v1 v2 k16 (i16 + 1) ((m_X0_fewestSteps_L36 kd ho pl st ea v1 v2 i16 nt 0 0 0).1)
      else
        if u4_16 ≤ ((m_X0_fewestSteps_L36 kd ho pl st ea v1 v2 i16 nt 0 0 0).1) then
          m_X0_fewestSteps_L16 kd ho pl st nt ea v1 v2 k16 (i16 + 1) u4_16
        else
          m_X0_fewestSteps_L16 kd ho pl st nt ea v1 v2 k16 (i16 + 1) ((m_X0_fewestSteps_L36 kd ho pl st ea v1 v2 i16 nt 0 0 0).1)
theorem m_X0_fewestSteps_L16_0 (kd : Nat → Int32) (ho : Nat → Int32) (pl : Nat → Int32) (st : Nat → Int32) (nt : Nat) (ea : Int32) (v1 : Int32) (v2 : Int32) (i16 : Nat) (u4_16 : Int32) : m_X0_fewestSteps_L16 kd ho pl st nt ea v1 v2 0 i16 u4_16 = 
    u4_16 := rfl
theorem m_X0_fewestSteps_L16_s (kd : Nat → Int32) (ho : Nat → Int32) (pl : Nat → Int32) (st : Nat → Int32) (nt : Nat) (ea : Int32) (v1 : Int32) (v2 : Int32) (i16 : Nat) (u4_16 : Int32) (k16 : Nat) : m_X0_fewestSteps_L16 kd ho pl st nt ea v1 v2 (k16 + 1) i16 u4_16 = 
    if ((m_X0_fewestSteps_L36 kd ho pl st ea v1 v2 i16 nt 0 0 0).2) ≤ (m_X0_mightIn kd ho pl st nt ea (1 - v1) v2) then
      m_X0_fewestSteps_L16 kd ho pl st nt ea v1 v2 k16 (i16 + 1) u4_16
    else
      if u4_16 = (-9) then
        m_X0_fewestSteps_L16 kd ho pl st nt ea v1 v2 k16 (i16 + 1) ((m_X0_fewestSteps_L36 kd ho pl st ea v1 v2 i16 nt 0 0 0).1)
      else
        if u4_16 ≤ ((m_X0_fewestSteps_L36 kd ho pl st ea v1 v2 i16 nt 0 0 0).1) then
          m_X0_fewestSteps_L16 kd ho pl st nt ea v1 v2 k16 (i16 + 1) u4_16
        else
          m_X0_fewestSteps_L16 kd ho pl st nt ea v1 v2 k16 (i16 + 1) ((m_X0_fewestSteps_L36 kd ho pl st ea v1 v2 i16 nt 0 0 0).1) := rfl
def m_X0_fewestSteps (kd : Nat → Int32) (ho : Nat → Int32) (pl : Nat → Int32) (st : Nat → Int32) (nt : Nat) (ea : Int32) (v1 : Int32) (v2 : Int32) : Int32 :=
  (m_X0_fewestSteps_L16 kd ho pl st nt ea v1 v2 (2 ^ nt) 0 (-9))
set_option maxHeartbeats 4000000 in
set_option maxRecDepth 100000 in
theorem c_X0_fewestSteps (l : Launch) (D : va_G) (cI cS : ClassId) (b0 : Nat) (b1 : Nat) (b2 : Nat) (b3 : Nat) (b4 : Nat) (b5 : Nat) (ac : Nat → Int32) (kd : Nat → Int32) (ho : Nat → Int32) (pl : Nat → Int32) (st : Nat → Int32) (nc : Nat) (nt : Nat) (ea : Int32) (v1 : Int32) (v2 : Int32) (hn : nt ≤ 6) : Met l yX0_fewestSteps wsX0_fewestSteps ({ frames := 3, cells := 0, slots := 0, locals := 66 }) (tw_R D cI cS [.ref b0, .int v1, .int v2] [(b0, .inr (0, [.ref b1, .ref b2, .ref b3, .ref b4, .ref b5, .int (nI nc), .int (nI nt), .int ea])), (b1, .inl (cI, 6, .inl ac)), (b2, .inl (cI, 6, .inl kd)), (b3, .inl (cI, 6, .inl ho)), (b4, .inl (cI, 6, .inl pl)), (b5, .inl (cI, 6, .inl st))]) (vp_Si (fun r => r = (m_X0_fewestSteps kd ho pl st nt ea v1 v2))) 0 0 (fun _ => False) := by
  refine Met.ofW (cc := cX0_fewestSteps) (maxL := 9) (ret := (some .int)) (by decide) rfl ?_
  intro p e s m args below meth c s₁ B hml hv
  obtain ⟨rfl, hP, hK⟩ := hv
  have hx := B.exec
  have hb := B.bytes
  have hr := B.returns
  have hts := atoms_spec (ws := wsX0_fewestSteps) B.pre
  have hown : s.vm.findClass RX0 = some m.cls := findClass_of_methodNamed B.named
  have hlocks := B.notSynchronized
  have fl_37 := hts (.fieldLink RX0 37 "TableWar$Cloth" "things" "I") (by decide +kernel)
  have hin_X0 := (show ∀ w ∈ u_ws RX0 TX0 8, w ∈ wsX0_fewestSteps from by decide +kernel)
  have fl_18 := hts (.fieldLink RX0 18 "TableWar$Cloth" "house" "[I") (by decide +kernel)
  have fl_21 := hts (.fieldLink RX0 21 "TableWar$Cloth" "place" "[I") (by decide +kernel)
  have mlk_abs := hts (.methodLink RX0 118 Lib.Math.abs.name) (by decide +kernel)
  have mst_abs := hts (.static Lib.Math.abs.name) (by decide +kernel)
  have min_abs := hts (.initialized "java/lang/Math") (by decide +kernel)
  have mcd_abs := hts (.code Lib.Math.abs.name Lib.Math.abs.code 1 (some .int)) (by decide +kernel)
  have hpw := tw_p64 hn
  have hl := lv_entry ([.ref b0, .int v1, .int v2]) (n := 9) (Nat.le_of_ble_eq_true rfl)
  rw [lg_entry_eq]
  generalize (lg_sl ([.ref b0, .int v1, .int v2]) ++ List.replicate (9 - (lg_sl ([.ref b0, .int v1, .int v2])).length) Slot.unset).toArray = ls at hl ⊢
  have hl : lv_has ls 9 [(0, .ref b0), (1, .int v1), (2, .int v2)] := hl
  refine lv_aload_n hx hb dX0_fewestSteps_0 rfl (lv_at hl 0 rfl) ?_
  refine lv_iconst (v := 1) hx hb dX0_fewestSteps_1 (by decide) ?_
  refine lv_iload_n hx hb dX0_fewestSteps_2 rfl (lv_at hl 1 rfl) ?_
  refine lv_isub hx hb dX0_fewestSteps_3 ?_
  refine lv_iload_n hx hb dX0_fewestSteps_4 rfl (lv_at hl 2 rfl) ?_
  refine tw_cs (va_runV (As := [.int (1 - v1), .int v2]) (rest := []) ⟨hx, hb, hml, hown, hts⟩ (c_X0_mightIn l D cI cS b0 b1 b2 b3 b4 b5 ac kd ho pl st nc nt ea (1 - v1) v2 (by first | assumption | omega | exact hz60 _ | exact vp_in_nI (by omega) (by decide))) (cwV 2 hts gX0_fewestSteps_X0_mightIn rfl rfl rfl (by decide +kernel) ⟨Nat.le_of_ble_eq_true rfl, Nat.le_of_ble_eq_true rfl⟩) ⟨tw_Rb, va_recv hK hP (ci := 0) (q0 := 0) rfl rfl, tw_Rp (hP.sub (ws' := [(b0, .inr (0, [.ref b1, .ref b2, .ref b3, .ref b4, .ref b5, .int (nI nc), .int (nI nt), .int ea])), (b1, .inl (cI, 6, .inl ac)), (b2, .inl (cI, 6, .inl kd)), (b3, .inl (cI, 6, .inl ho)), (b4, .inl (cI, 6, .inl pl)), (b5, .inl (cI, 6, .inl st))]) [0, 1, 2, 3, 4, 5] rfl) hK⟩ rfl rfl hl.1 rfl (lv_room (Nat.le_of_ble_eq_true rfl)) dX0_fewestSteps_5 ⟨Nat.zero_le _, Nat.zero_le _⟩) ?_
  refine lv_istore_n (lv' := [(3, .int (m_X0_mightIn kd ho pl st nt ea (1 - v1) v2)), (0, .ref b0), (1, .int v1), (2, .int v2)]) hx hb dX0_fewestSteps_8 rfl hl (by decide) rfl (fun ls hl => ?_)
  refine lv_bipush (v := (-9)) hx hb dX0_fewestSteps_9 (by decide) ?_
  refine lv_istore (lv' := [(4, .int (-9)), (3, .int (m_X0_mightIn kd ho pl st nt ea (1 - v1) v2)), (0, .ref b0), (1, .int v1), (2, .int v2)]) hx hb dX0_fewestSteps_11 hl (by decide) rfl (fun ls hl => ?_)
  refine lv_iconst (v := 0) hx hb dX0_fewestSteps_13 (by decide) ?_
  refine lv_istore (lv' := [(5, .int 0), (4, .int (-9)), (3, .int (m_X0_mightIn kd ho pl st nt ea (1 - v1) v2)), (0, .ref b0), (1, .int v1), (2, .int v2)]) hx hb dX0_fewestSteps_14 hl (by decide) rfl (fun ls hl => ?_)
  refine tw_loopR (σ := Int32) (fun k i z ls => i + k = 2 ^ nt ∧ m_X0_fewestSteps_L16 kd ho pl st nt ea v1 v2 k i z = m_X0_fewestSteps_L16 kd ho pl st nt ea v1 v2 (2 ^ nt) 0 (-9) ∧ lv_has ls 9 [(5, .int (nI i)), (4, .int z), (3, .int (m_X0_mightIn kd ho pl st nt ea (1 - v1) v2)), (0, .ref b0), (1, .int v1), (2, .int v2)]) (2 ^ nt) 0 (-9) ⟨Nat.zero_add _, rfl, lv_sub hl [0, 1, 2, 3, 4, 5] rfl⟩ ?_ ?_
  · intro i16 u4_16 ls hI
    obtain ⟨hk16, hm16, hl⟩ := hI
    have hm16 : m_X0_fewestSteps_L16 kd ho pl st nt ea v1 v2 0 i16 u4_16 = m_X0_fewestSteps_L16 kd ho pl st nt ea v1 v2 (2 ^ nt) 0 (-9) := hm16
    have hl : lv_has ls 9 [(5, .int (nI i16)), (4, .int u4_16), (3, .int (m_X0_mightIn kd ho pl st nt ea (1 - v1) v2)), (0, .ref b0), (1, .int v1), (2, .int v2)] := hl
    have hm16 : u4_16 = m_X0_fewestSteps_L16 kd ho pl st nt ea v1 v2 (2 ^ nt) 0 (-9) := hm16
    refine lv_iload hx hb dX0_fewestSteps_16 (lv_at hl 0 rfl) ?_
    refine lv_iconst (v := 1) hx hb dX0_fewestSteps_18 (by decide) ?_
    refine lv_aload_n hx hb dX0_fewestSteps_19 rfl (lv_at hl 3 rfl) ?_
    refine va_get (ci := 0) (v := .int (nI nt)) (C := RX0) (T := TX0) (N := 8) hx hb hts hin_X0 hown hK hP 0 rfl rfl 6 (by decide) fl_37 (fun _ h9 => h9) rfl dX0_fewestSteps_20 ?_
    refine lv_ishl hx hb dX0_fewestSteps_23 ?_
    refine lv_icmp_ge (tgt := 140) hx hb dX0_fewestSteps_24 (by decide) (fun c_24 => ?_) (fun c_24 => absurd (tw_tge (tw_pow nt hn) (show 2 ^ nt ≤ i16 by omega) (show i16 < 2 ^ 31 by omega)) c_24)
    refine lv_iload hx hb dX0_fewestSteps_140 (lv_at hl 1 rfl) ?_
    exact W.iret hx hb hr (fun t ht _ => ⟨_, rfl, (by (unfold m_X0_fewestSteps; rw [← hm16]) <;> rfl), ht⟩) (fun _ h => nomatch h) dX0_fewestSteps_142
  · intro k16 i16 u4_16 ls ih16 hI
    obtain ⟨hk16, hm16, hl⟩ := hI
    have hm16 : m_X0_fewestSteps_L16 kd ho pl st nt ea v1 v2 (k16 + 1) i16 u4_16 = m_X0_fewestSteps_L16 kd ho pl st nt ea v1 v2 (2 ^ nt) 0 (-9) := hm16
    have hl : lv_has ls 9 [(5, .int (nI i16)), (4, .int u4_16), (3, .int (m_X0_mightIn kd ho pl st nt ea (1 - v1) v2)), (0, .ref b0), (1, .int v1), (2, .int v2)] := hl
    refine lv_iload hx hb dX0_fewestSteps_16 (lv_at hl 0 rfl) ?_
    refine lv_iconst (v := 1) hx hb dX0_fewestSteps_18 (by decide) ?_
    refine lv_aload_n hx hb dX0_fewestSteps_19 rfl (lv_at hl 3 rfl) ?_
    refine va_get (ci := 0) (v := .int (nI nt)) (C := RX0) (T := TX0) (N := 8) hx hb hts hin_X0 hown hK hP 0 rfl rfl 6 (by decide) fl_37 (fun _ h9 => h9) rfl dX0_fewestSteps_20 ?_
    refine lv_ishl hx hb dX0_fewestSteps_23 ?_
    refine lv_icmp_ge (tgt := 140) hx hb dX0_fewestSteps_24 (by decide) (fun c_24 => absurd c_24 (tw_tlt (tw_pow nt hn) (show i16 < 2 ^ nt by omega) (show 2 ^ nt < 2 ^ 31 by omega))) (fun c_24 => ?_)
    refine lv_iconst (v := 0) hx hb dX0_fewestSteps_27 (by decide) ?_
    refine lv_istore (lv' := [(6, .int 0), (5, .int (nI i16)), (4, .int u4_16), (3, .int (m_X0_mightIn kd ho pl st nt ea (1 - v1) v2)), (0, .ref b0), (1, .int v1), (2, .int v2)]) hx hb dX0_fewestSteps_28 hl (by decide) rfl (fun ls hl => ?_)
    refine lv_iconst (v := 0) hx hb dX0_fewestSteps_30 (by decide) ?_
    refine lv_istore (lv' := [(7, .int 0), (6, .int 0), (5, .int (nI i16)), (4, .int u4_16), (3, .int (m_X0_mightIn kd ho pl st nt ea (1 - v1) v2)), (0, .ref b0), (1, .int v1), (2, .int v2)]) hx hb dX0_fewestSteps_31 hl (by decide) rfl (fun ls hl => ?_)
    refine lv_iconst (v := 0) hx hb dX0_fewestSteps_33 (by decide) ?_
    refine lv_istore (lv' := [(8, .int 0), (7, .int 0), (6, .int 0), (5, .int (nI i16)), (4, .int u4_16), (3, .int (m_X0_mightIn kd ho pl st nt ea (1 - v1) v2)), (0, .ref b0), (1, .int v1), (2, .int v2)]) hx hb dX0_fewestSteps_34 hl (by decide) rfl (fun ls hl => ?_)
    refine tw_loopR (σ := Int32 × Int32) (fun k i z ls => i + k = nt ∧ m_X0_fewestSteps_L36 kd ho pl st ea v1 v2 i16 k i z.1 z.2 = m_X0_fewestSteps_L36 kd ho pl st ea v1 v2 i16 nt 0 0 0 ∧ lv_has ls 9 [(8, .int (nI i)), (7, .int z.1), (6, .int z.2), (5, .int (nI i16)), (4, .int u4_16), (3, .int (m_X0_mightIn kd ho pl st nt ea (1 - v1) v2)), (0, .ref b0), (1, .int v1), (2, .int v2)]) nt 0 (0, 0) ⟨Nat.zero_add _, rfl, lv_sub hl [0, 1, 2, 3, 4, 5, 6, 7, 8] rfl⟩ ?_ ?_
    · intro i36 z ls hI
      obtain ⟨u7_36, u6_36⟩ := z
      obtain ⟨hk36, hm36, hl⟩ := hI
      have hm36 : m_X0_fewestSteps_L36 kd ho pl st ea v1 v2 i16 0 i36 u7_36 u6_36 = m_X0_fewestSteps_L36 kd ho pl st ea v1 v2 i16 nt 0 0 0 := hm36
      have hl : lv_has ls 9 [(8, .int (nI i36)), (7, .int u7_36), (6, .int u6_36), (5, .int (nI i16)), (4, .int u4_16), (3, .int (m_X0_mightIn kd ho pl st nt ea (1 - v1) v2)), (0, .ref b0), (1, .int v1), (2, .int v2)] := hl
      have hm36 : (u7_36, u6_36) = m_X0_fewestSteps_L36 kd ho pl st ea v1 v2 i16 nt 0 0 0 := hm36
      refine lv_iload hx hb dX0_fewestSteps_36 (lv_at hl 0 rfl) ?_
      refine lv_aload_n hx hb dX0_fewestSteps_38 rfl (lv_at hl 6 rfl) ?_
      refine va_get (ci := 0) (v := .int (nI nt)) (C := RX0) (T := TX0) (N := 8) hx hb hts hin_X0 hown hK hP 0 rfl rfl 6 (by decide) fl_37 (fun _ h9 => h9) rfl dX0_fewestSteps_39 ?_
      refine lv_icmp_ge (tgt := 110) hx hb dX0_fewestSteps_42 (by decide) (fun c_42 => ?_) (fun c_42 => absurd (tw_tge rfl (show nt ≤ i36 by omega) (show i36 < 2 ^ 31 by omega)) c_42)
      refine lv_iload hx hb dX0_fewestSteps_110 (lv_at hl 2 rfl) ?_
      refine lv_iload_n hx hb dX0_fewestSteps_112 rfl (lv_at hl 5 rfl) ?_
      refine lv_icmp_le (tgt := 134) hx hb dX0_fewestSteps_113 (by decide) (fun c_113 => ?_) (fun c_113 => ?_)
      · refine lv_iinc (v := nI (i16 + 1)) (lv' := [(5, .int (nI (i16 + 1))), (8, .int (nI i36)), (7, .int u7_36), (6, .int u6_36), (4, .int u4_16), (3, .int (m_X0_mightIn kd ho pl st nt ea (1 - v1) v2)), (0, .ref b0), (1, .int v1), (2, .int v2)]) hx hb dX0_fewestSteps_134 hl (k := 3) rfl (nI_1 _) (by decide) rfl (fun ls hl => ?_)
        refine lv_goto (tgt := 16) hx hb dX0_fewestSteps_137 (by decide) ?_
        exact ih16 u4_16 ls ⟨by omega, (by (rw [← hm16, m_X0_fewestSteps_L16_s]; rw [← hm36]; (try dsimp only); rw [if_pos c_113]) <;> rfl), lv_sub hl [0, 4, 5, 6, 7, 8] rfl⟩
      · refine lv_iload hx hb dX0_fewestSteps_116 (lv_at hl 4 rfl) ?_
        refine lv_bipush (v := (-9)) hx hb dX0_fewestSteps_118 (by decide) ?_
        refine lv_icmp_eq (tgt := 130) hx hb dX0_fewestSteps_120 (by decide) (fun c_120 => ?_) (fun c_120 => ?_)
        · refine lv_iload hx hb dX0_fewestSteps_130 (lv_at hl 1 rfl) ?_
          refine lv_istore (lv' := [(4, .int u7_36), (8, .int (nI i36)), (7, .int u7_36), (6, .int u6_36), (5, .int (nI i16)), (3, .int (m_X0_mightIn kd ho pl st nt ea (1 - v1) v2)), (0, .ref b0), (1, .int v1), (2, .int v2)]) hx hb dX0_fewestSteps_132 hl (by decide) rfl (fun ls hl => ?_)
          refine lv_iinc (v := nI (i16 + 1)) (lv' := [(5, .int (nI (i16 + 1))), (4, .int u7_36), (8, .int (nI i36)), (7, .int u7_36), (6, .int u6_36), (3, .int (m_X0_mightIn kd ho pl st nt ea (1 - v1) v2)), (0, .ref b0), (1, .int v1), (2, .int v2)]) hx hb dX0_fewestSteps_134 hl (k := 4) rfl (nI_1 _) (by decide) rfl (fun ls hl => ?_)
          refine lv_goto (tgt := 16) hx hb dX0_fewestSteps_137 (by decide) ?_
          exact ih16 u7_36 ls ⟨by omega, (by (rw [← hm16, m_X0_fewestSteps_L16_s]; rw [← hm36]; (try dsimp only); rw [if_neg c_113]; rw [if_pos c_120]) <;> rfl), lv_sub hl [0, 1, 5, 6, 7, 8] rfl⟩
        · refine lv_iload hx hb dX0_fewestSteps_123 (lv_at hl 1 rfl) ?_
          refine lv_iload hx hb dX0_fewestSteps_125 (lv_at hl 4 rfl) ?_
          refine lv_icmp_ge (tgt := 134) hx hb dX0_fewestSteps_127 (by decide) (fun c_127 => ?_) (fun c_127 => ?_)
          · refine lv_iinc (v := nI (i16 + 1)) (lv' := [(5, .int (nI (i16 + 1))), (8, .int (nI i36)), (7, .int u7_36), (6, .int u6_36), (4, .int u4_16), (3, .int (m_X0_mightIn kd ho pl st nt ea (1 - v1) v2)), (0, .ref b0), (1, .int v1), (2, .int v2)]) hx hb dX0_fewestSteps_134 hl (k := 3) rfl (nI_1 _) (by decide) rfl (fun ls hl => ?_)
            refine lv_goto (tgt := 16) hx hb dX0_fewestSteps_137 (by decide) ?_
            exact ih16 u4_16 ls ⟨by omega, (by (rw [← hm16, m_X0_fewestSteps_L16_s]; rw [← hm36]; (try dsimp only); rw [if_neg c_113]; rw [if_neg c_120]; rw [if_pos c_127]) <;> rfl), lv_sub hl [0, 4, 5, 6, 7, 8] rfl⟩
          · refine lv_iload hx hb dX0_fewestSteps_130 (lv_at hl 1 rfl) ?_
            refine lv_istore (lv' := [(4, .int u7_36), (8, .int (nI i36)), (7, .int u7_36), (6, .int u6_36), (5, .int (nI i16)), (3, .int (m_X0_mightIn kd ho pl st nt ea (1 - v1) v2)), (0, .ref b0), (1, .int v1), (2, .int v2)]) hx hb dX0_fewestSteps_132 hl (by decide) rfl (fun ls hl => ?_)
            refine lv_iinc (v := nI (i16 + 1)) (lv' := [(5, .int (nI (i16 + 1))), (4, .int u7_36), (8, .int (nI i36)), (7, .int u7_36), (6, .int u6_36), (3, .int (m_X0_mightIn kd ho pl st nt ea (1 - v1) v2)), (0, .ref b0), (1, .int v1), (2, .int v2)]) hx hb dX0_fewestSteps_134 hl (k := 4) rfl (nI_1 _) (by decide) rfl (fun ls hl => ?_)
            refine lv_goto (tgt := 16) hx hb dX0_fewestSteps_137 (by decide) ?_
            exact ih16 u7_36 ls ⟨by omega, (by (rw [← hm16, m_X0_fewestSteps_L16_s]; rw [← hm36]; (try dsimp only); rw [if_neg c_113]; rw [if_neg c_120]; rw [if_neg c_127]) <;> rfl), lv_sub hl [0, 1, 5, 6, 7, 8] rfl⟩
    · intro k36 i36 z ls ih36 hI
      obtain ⟨u7_36, u6_36⟩ := z
      obtain ⟨hk36, hm36, hl⟩ := hI
      have hm36 : m_X0_fewestSteps_L36 kd ho pl st ea v1 v2 i16 (k36 + 1) i36 u7_36 u6_36 = m_X0_fewestSteps_L36 kd ho pl st ea v1 v2 i16 nt 0 0 0 := hm36
      have hl : lv_has ls 9 [(8, .int (nI i36)), (7, .int u7_36), (6, .int u6_36), (5, .int (nI i16)), (4, .int u4_16), (3, .int (m_X0_mightIn kd ho pl st nt ea (1 - v1) v2)), (0, .ref b0), (1, .int v1), (2, .int v2)] := hl
      refine lv_iload hx hb dX0_fewestSteps_36 (lv_at hl 0 rfl) ?_
      refine lv_aload_n hx hb dX0_fewestSteps_38 rfl (lv_at hl 6 rfl) ?_
      refine va_get (ci := 0) (v := .int (nI nt)) (C := RX0) (T := TX0) (N := 8) hx hb hts hin_X0 hown hK hP 0 rfl rfl 6 (by decide) fl_37 (fun _ h9 => h9) rfl dX0_fewestSteps_39 ?_
      refine lv_icmp_ge (tgt := 110) hx hb dX0_fewestSteps_42 (by decide) (fun c_42 => absurd c_42 (tw_tlt rfl (show i36 < nt by omega) (show nt < 2 ^ 31 by omega))) (fun c_42 => ?_)
      refine lv_iload hx hb dX0_fewestSteps_45 (lv_at hl 3 rfl) ?_
      refine lv_iload hx hb dX0_fewestSteps_47 (lv_at hl 0 rfl) ?_
      refine lv_ishr hx hb dX0_fewestSteps_49 ?_
      refine lv_iconst (v := 1) hx hb dX0_fewestSteps_50 (by decide) ?_
      refine lv_iand hx hb dX0_fewestSteps_51 ?_
      refine lv_iconst (v := 1) hx hb dX0_fewestSteps_52 (by decide) ?_
      refine lv_icmp_ne (tgt := 104) hx hb dX0_fewestSteps_53 (by decide) (fun c_53 => ?_) (fun c_53 => ?_)
      · refine lv_iinc (v := nI (i36 + 1)) (lv' := [(8, .int (nI (i36 + 1))), (7, .int u7_36), (6, .int u6_36), (5, .int (nI i16)), (4, .int u4_16), (3, .int (m_X0_mightIn kd ho pl st nt ea (1 - v1) v2)), (0, .ref b0), (1, .int v1), (2, .int v2)]) hx hb dX0_fewestSteps_104 hl (k := 0) rfl (nI_1 _) (by decide) rfl (fun ls hl => ?_)
        refine lv_goto (tgt := 36) hx hb dX0_fewestSteps_107 (by decide) ?_
        exact ih36 (u7_36, u6_36) ls ⟨by omega, (by (rw [← hm36, m_X0_fewestSteps_L36_s]; rw [if_neg c_53]) <;> rfl), lv_sub hl [0, 1, 2, 3, 4, 5, 6, 7, 8] rfl⟩
      · refine lv_aload_n hx hb dX0_fewestSteps_56 rfl (lv_at hl 6 rfl) ?_
        refine va_get (ci := 0) (v := .ref b3) (C := RX0) (T := TX0) (N := 8) hx hb hts hin_X0 hown hK hP 0 rfl rfl 2 (by decide) fl_18 (fun _ h9 => h9) rfl dX0_fewestSteps_57 ?_
        refine lv_iload hx hb dX0_fewestSteps_60 (lv_at hl 0 rfl) ?_
        refine va_iald hx hb hK hP 3 0 rfl rfl (vp_in_nI (show i36 < 6 by omega) (by decide)) dX0_fewestSteps_62 ?_
        refine tw_top (show _ = ho i36 from by rw [nI_clamp (by omega)]) ?_
        refine lv_iload_n hx hb dX0_fewestSteps_63 rfl (lv_at hl 7 rfl) ?_
        refine lv_icmp_ne (tgt := 104) hx hb dX0_fewestSteps_64 (by decide) (fun c_64 => ?_) (fun c_64 => ?_)
        · refine lv_iinc (v := nI (i36 + 1)) (lv' := [(8, .int (nI (i36 + 1))), (7, .int u7_36), (6, .int u6_36), (5, .int (nI i16)), (4, .int u4_16), (3, .int (m_X0_mightIn kd ho pl st nt ea (1 - v1) v2)), (0, .ref b0), (1, .int v1), (2, .int v2)]) hx hb dX0_fewestSteps_104 hl (k := 0) rfl (nI_1 _) (by decide) rfl (fun ls hl => ?_)
          refine lv_goto (tgt := 36) hx hb dX0_fewestSteps_107 (by decide) ?_
          exact ih36 (u7_36, u6_36) ls ⟨by omega, (by (rw [← hm36, m_X0_fewestSteps_L36_s]; rw [if_pos c_53]; rw [if_neg c_64]) <;> rfl), lv_sub hl [0, 1, 2, 3, 4, 5, 6, 7, 8] rfl⟩
        · refine lv_aload_n hx hb dX0_fewestSteps_67 rfl (lv_at hl 6 rfl) ?_
          refine lv_iload hx hb dX0_fewestSteps_68 (lv_at hl 0 rfl) ?_
          refine tw_cs (va_runV (As := [.int (nI i36)]) (rest := []) ⟨hx, hb, hml, hown, hts⟩ (c_X0_isEaten l D cI cS b0 b1 b2 b3 b4 b5 ac kd ho pl st nc nt ea (nI i36)) (cwV 1 hts gX0_fewestSteps_X0_isEaten rfl rfl rfl (by decide +kernel) ⟨Nat.le_of_ble_eq_true rfl, Nat.le_of_ble_eq_true rfl⟩) ⟨tw_Rb, va_recv hK hP (ci := 0) (q0 := 0) rfl rfl, tw_Rp (hP.sub (ws' := [(b0, .inr (0, [.ref b1, .ref b2, .ref b3, .ref b4, .ref b5, .int (nI nc), .int (nI nt), .int ea])), (b1, .inl (cI, 6, .inl ac)), (b2, .inl (cI, 6, .inl kd)), (b3, .inl (cI, 6, .inl ho)), (b4, .inl (cI, 6, .inl pl)), (b5, .inl (cI, 6, .inl st))]) [0, 1, 2, 3, 4, 5] rfl) hK⟩ rfl rfl hl.1 rfl (lv_room (Nat.le_of_ble_eq_true rfl)) dX0_fewestSteps_70 ⟨Nat.zero_le _, Nat.zero_le _⟩) ?_
          refine lv_if_ne (tgt := 104) hx hb dX0_fewestSteps_73 (by decide) (fun c_73 => ?_) (fun c_73 => ?_)
          · refine lv_iinc (v := nI (i36 + 1)) (lv' := [(8, .int (nI (i36 + 1))), (7, .int u7_36), (6, .int u6_36), (5, .int (nI i16)), (4, .int u4_16), (3, .int (m_X0_mightIn kd ho pl st nt ea (1 - v1) v2)), (0, .ref b0), (1, .int v1), (2, .int v2)]) hx hb dX0_fewestSteps_104 hl (k := 0) rfl (nI_1 _) (by decide) rfl (fun ls hl => ?_)
            refine lv_goto (tgt := 36) hx hb dX0_fewestSteps_107 (by decide) ?_
            exact ih36 (u7_36, u6_36) ls ⟨by omega, (by (rw [← hm36, m_X0_fewestSteps_L36_s]; rw [if_pos c_53]; rw [if_pos c_64]; rw [if_neg c_73]) <;> rfl), lv_sub hl [0, 1, 2, 3, 4, 5, 6, 7, 8] rfl⟩
          · refine lv_iload hx hb dX0_fewestSteps_76 (lv_at hl 2 rfl) ?_
            refine lv_aload_n hx hb dX0_fewestSteps_78 rfl (lv_at hl 6 rfl) ?_
            refine lv_iload hx hb dX0_fewestSteps_79 (lv_at hl 0 rfl) ?_
            refine tw_cs (va_runV (As := [.int (nI i36)]) (rest := [.int u6_36]) ⟨hx, hb, hml, hown, hts⟩ (c_X0_mightOf l D cI cS b0 b1 b2 b3 b4 b5 ac kd ho pl st nc nt ea (nI i36) (by first | assumption | omega | exact hz60 _ | exact vp_in_nI (by omega) (by decide))) (cwV 1 hts gX0_fewestSteps_X0_mightOf rfl rfl rfl (by decide +kernel) ⟨Nat.le_of_ble_eq_true rfl, Nat.le_of_ble_eq_true rfl⟩) ⟨tw_Rb, va_recv hK hP (ci := 0) (q0 := 0) rfl rfl, tw_Rp (hP.sub (ws' := [(b0, .inr (0, [.ref b1, .ref b2, .ref b3, .ref b4, .ref b5, .int (nI nc), .int (nI nt), .int ea])), (b1, .inl (cI, 6, .inl ac)), (b2, .inl (cI, 6, .inl kd)), (b3, .inl (cI, 6, .inl ho)), (b4, .inl (cI, 6, .inl pl)), (b5, .inl (cI, 6, .inl st))]) [0, 1, 2, 3, 4, 5] rfl) hK⟩ rfl rfl hl.1 rfl (lv_room (Nat.le_of_ble_eq_true rfl)) dX0_fewestSteps_81 ⟨Nat.zero_le _, Nat.zero_le _⟩) ?_
            refine lv_iadd hx hb dX0_fewestSteps_84 ?_
            refine lv_istore (lv' := [(6, .int (u6_36 + (m_X0_mightOf kd st ea (nI i36)))), (8, .int (nI i36)), (7, .int u7_36), (5, .int (nI i16)), (4, .int u4_16), (3, .int (m_X0_mightIn kd ho pl st nt ea (1 - v1) v2)), (0, .ref b0), (1, .int v1), (2, .int v2)]) hx hb dX0_fewestSteps_85 hl (by decide) rfl (fun ls hl => ?_)
            refine lv_iload hx hb dX0_fewestSteps_87 (lv_at hl 2 rfl) ?_
            refine lv_aload_n hx hb dX0_fewestSteps_89 rfl (lv_at hl 6 rfl) ?_
            refine va_get (ci := 0) (v := .ref b4) (C := RX0) (T := TX0) (N := 8) hx hb hts hin_X0 hown hK hP 0 rfl rfl 3 (by decide) fl_21 (fun _ h9 => h9) rfl dX0_fewestSteps_90 ?_
            refine lv_iload hx hb dX0_fewestSteps_93 (lv_at hl 1 rfl) ?_
            refine va_iald hx hb hK hP 4 0 rfl rfl (vp_in_nI (show i36 < 6 by omega) (by decide)) dX0_fewestSteps_95 ?_
            refine tw_top (show _ = pl i36 from by rw [nI_clamp (by omega)]) ?_
            refine lv_iload_n hx hb dX0_fewestSteps_96 rfl (lv_at hl 8 rfl) ?_
            refine lv_isub hx hb dX0_fewestSteps_97 ?_
            refine va_mabs hx hb (hml.trans hl.1.symm) hown mlk_abs mst_abs min_abs mcd_abs (Nat.le_of_ble_eq_true rfl) (Nat.le_of_ble_eq_true rfl) (Nat.zero_le _) (Nat.zero_le _) dX0_fewestSteps_98 ?_
            refine lv_iadd hx hb dX0_fewestSteps_101 ?_
            refine lv_istore (lv' := [(7, .int (u7_36 + (if 0 ≤ ((pl i36) - v2) then ((pl i36) - v2) else 0 - ((pl i36) - v2)))), (6, .int (u6_36 + (m_X0_mightOf kd st ea (nI i36)))), (8, .int (nI i36)), (5, .int (nI i16)), (4, .int u4_16), (3, .int (m_X0_mightIn kd ho pl st nt ea (1 - v1) v2)), (0, .ref b0), (1, .int v1), (2, .int v2)]) hx hb dX0_fewestSteps_102 hl (by decide) rfl (fun ls hl => ?_)
            refine lv_iinc (v := nI (i36 + 1)) (lv' := [(8, .int (nI (i36 + 1))), (7, .int (u7_36 + (if 0 ≤ ((pl i36) - v2) then ((pl i36) - v2) else 0 - ((pl i36) - v2)))), (6, .int (u6_36 + (m_X0_mightOf kd st ea (nI i36)))), (5, .int (nI i16)), (4, .int u4_16), (3, .int (m_X0_mightIn kd ho pl st nt ea (1 - v1) v2)), (0, .ref b0), (1, .int v1), (2, .int v2)]) hx hb dX0_fewestSteps_104 hl (k := 2) rfl (nI_1 _) (by decide) rfl (fun ls hl => ?_)
            refine lv_goto (tgt := 36) hx hb dX0_fewestSteps_107 (by decide) ?_
            exact ih36 (u7_36 + (if 0 ≤ ((pl i36) - v2) then ((pl i36) - v2) else 0 - ((pl i36) - v2)), u6_36 + (m_X0_mightOf kd st ea (nI i36))) ls ⟨by omega, (by (rw [← hm36, m_X0_fewestSteps_L36_s]; rw [if_pos c_53]; rw [if_pos c_64]; rw [if_pos c_73]) <;> rfl), lv_sub hl [0, 1, 2, 3, 4, 5, 6, 7, 8] rfl⟩

def m_X0_setPart (kd : Nat → Int32) (ho : Nat → Int32) (pl : Nat → Int32) (st : Nat → Int32) (nt : Nat) (v1 : Int32) (v2 : Int32) : (Nat → Int32) × (Nat → Int32) × (Nat → Int32) × (Nat → Int32) :=
  if (nI nt) < 6 then
    if v1 = 0 then
      (upd kd nt v2, ho, pl, st)
    else
      if v1 = 1 then
        (kd, upd ho nt v2, pl, st)
      else
        if v1 = 2 then
          (kd, ho, upd pl nt v2, st)
        else
          (kd, ho, pl, upd st nt v2)
  else
    (kd, ho, pl, st)
set_option maxHeartbeats 4000000 in
set_option maxRecDepth 100000 in
theorem c_X0_setPart (l : Launch) (D : va_G) (cI cS : ClassId) (b0 : Nat) (b1 : Nat) (b2 : Nat) (b3 : Nat) (b4 : Nat) (b5 : Nat) (hz : Nat) (ac : Nat → Int32) (kd : Nat → Int32) (ho : Nat → Int32) (pl : Nat → Int32) (st : Nat → Int32) (nc : Nat) (nt : Nat) (ea : Int32) (v1 : Int32) (v2 : Int32) (hn : nt ≤ 6) : Met l yX0_setPart wsX0_setPart ({ frames := 0, cells := 0, slots := 0, locals := 0 }) (tw_W D cI cS [.ref b0, .int v1, .int v2] hz [(b0, .inr (0, [.ref b1, .ref b2, .ref b3, .ref b4, .ref b5, .int (nI nc), .int (nI nt), .int ea])), (b1, .inl (cI, 6, .inl ac)), (b2, .inl (cI, 6, .inl kd)), (b3, .inl (cI, 6, .inl ho)), (b4, .inl (cI, 6, .inl pl)), (b5, .inl (cI, 6, .inl st))]) (va_Qv (fun (_ : Unit) => True) (tw_B D cI cS (va_A [(b0, .inr (0, [.ref b1, .ref b2, .ref b3, .ref b4, .ref b5, .int (nI nc), .int (nI nt), .int ea])), (b1, .inl (cI, 6, .inl ac)), (b2, .inl (cI, 6, .inl kd)), (b3, .inl (cI, 6, .inl ho)), (b4, .inl (cI, 6, .inl pl)), (b5, .inl (cI, 6, .inl st))] hz) [(b0, .inr (0, [.ref b1, .ref b2, .ref b3, .ref b4, .ref b5, .int (nI nc), .int (nI nt), .int ea])), (b1, .inl (cI, 6, .inl ac)), (b2, .inl (cI, 6, .inl ((m_X0_setPart kd ho pl st nt v1 v2).1))), (b3, .inl (cI, 6, .inl ((m_X0_setPart kd ho pl st nt v1 v2).2.1))), (b4, .inl (cI, 6, .inl ((m_X0_setPart kd ho pl st nt v1 v2).2.2.1))), (b5, .inl (cI, 6, .inl ((m_X0_setPart kd ho pl st nt v1 v2).2.2.2)))]) (va_A [(b0, .inr (0, [.ref b1, .ref b2, .ref b3, .ref b4, .ref b5, .int (nI nc), .int (nI nt), .int ea])), (b1, .inl (cI, 6, .inl ac)), (b2, .inl (cI, 6, .inl kd)), (b3, .inl (cI, 6, .inl ho)), (b4, .inl (cI, 6, .inl pl)), (b5, .inl (cI, 6, .inl st))] hz)) 0 0 (va_A [(b0, .inr (0, [.ref b1, .ref b2, .ref b3, .ref b4, .ref b5, .int (nI nc), .int (nI nt), .int ea])), (b1, .inl (cI, 6, .inl ac)), (b2, .inl (cI, 6, .inl kd)), (b3, .inl (cI, 6, .inl ho)), (b4, .inl (cI, 6, .inl pl)), (b5, .inl (cI, 6, .inl st))] hz) := by
  refine Met.ofW (cc := cX0_setPart) (maxL := 3) (ret := none) (by decide) rfl ?_
  intro p e s m args below meth c s₁ B hml hv
  obtain ⟨rfl, hsz, hP, hK, hD0⟩ := hv
  have hx := B.exec
  have hb := B.bytes
  have hr := B.returns
  have hts := atoms_spec (ws := wsX0_setPart) B.pre
  have hown : s.vm.findClass RX0 = some m.cls := findClass_of_methodNamed B.named
  have hlocks := B.notSynchronized
  subst hsz
  have hD := hD0.self (sz := s.heap.size)
  generalize hAe : va_A [(b0, .inr (0, [.ref b1, .ref b2, .ref b3, .ref b4, .ref b5, .int (nI nc), .int (nI nt), .int ea])), (b1, .inl (cI, 6, .inl ac)), (b2, .inl (cI, 6, .inl kd)), (b3, .inl (cI, 6, .inl ho)), (b4, .inl (cI, 6, .inl pl)), (b5, .inl (cI, 6, .inl st))] s.heap.size = A at hD ⊢
  have hA : ∀ q : Nat, s.heap.size ≤ q → A q := fun q h => by rw [← hAe]; exact Or.inr h
  have hS : va_S A s.heap s.heap [] := va_S.rf
  have fl_37 := hts (.fieldLink RX0 37 "TableWar$Cloth" "things" "I") (by decide +kernel)
  have hin_X0 := (show ∀ w ∈ u_ws RX0 TX0 8, w ∈ wsX0_setPart from by decide +kernel)
  have fl_15 := hts (.fieldLink RX0 15 "TableWar$Cloth" "kind" "[I") (by decide +kernel)
  have fl_18 := hts (.fieldLink RX0 18 "TableWar$Cloth" "house" "[I") (by decide +kernel)
  have fl_21 := hts (.fieldLink RX0 21 "TableWar$Cloth" "place" "[I") (by decide +kernel)
  have fl_24 := hts (.fieldLink RX0 24 "TableWar$Cloth" "strength" "[I") (by decide +kernel)
  have hl := lv_entry ([.ref b0, .int v1, .int v2]) (n := 3) (Nat.le_of_ble_eq_true rfl)
  rw [lg_entry_eq]
  generalize (lg_sl ([.ref b0, .int v1, .int v2]) ++ List.replicate (3 - (lg_sl ([.ref b0, .int v1, .int v2])).length) Slot.unset).toArray = ls at hl ⊢
  have hl : lv_has ls 3 [(0, .ref b0), (1, .int v1), (2, .int v2)] := hl
  refine lv_aload_n hx hb dX0_setPart_0 rfl (lv_at hl 0 rfl) ?_
  refine va_get (ci := 0) (v := .int (nI nt)) (C := RX0) (T := TX0) (N := 8) hx hb hts hin_X0 hown hK hP 0 rfl rfl 6 (by decide) fl_37 (fun _ h9 => h9) rfl dX0_setPart_1 ?_
  refine lv_bipush (v := 6) hx hb dX0_setPart_4 (by decide) ?_
  refine lv_icmp_lt (tgt := 10) hx hb dX0_setPart_6 (by decide) (fun c_6 => ?_) (fun c_6 => ?_)
  · have hlt : nt < 6 := (nI_ltI (b := 6) (by omega) (by decide)).mp c_6
    refine lv_iload_n hx hb dX0_setPart_10 rfl (lv_at hl 1 rfl) ?_
    by_cases c_11_0 : v1 = 0
    · refine lv_tableIn (tgt := 36) hx hb dX0_setPart_11 (by (rw [c_11_0]) <;> decide) (by (rw [c_11_0]) <;> decide) (by (rw [c_11_0]) <;> rfl) (by decide) ?_
      refine lv_aload_n hx hb dX0_setPart_36 rfl (lv_at hl 0 rfl) ?_
      refine va_get (ci := 0) (v := .ref b2) (C := RX0) (T := TX0) (N := 8) hx hb hts hin_X0 hown hK hP 0 rfl rfl 1 (by decide) fl_15 (fun _ h9 => h9) rfl dX0_setPart_37 ?_
      refine lv_aload_n hx hb dX0_setPart_40 rfl (lv_at hl 0 rfl) ?_
      refine va_get (ci := 0) (v := .int (nI nt)) (C := RX0) (T := TX0) (N := 8) hx hb hts hin_X0 hown hK hP 0 rfl rfl 6 (by decide) fl_37 (fun _ h9 => h9) rfl dX0_setPart_41 ?_
      refine lv_iload_n hx hb dX0_setPart_44 rfl (lv_at hl 2 rfl) ?_
      refine va_iast hx hb hK hP hD hS 2 0 rfl rfl (vp_in_nI (show nt < 6 by omega) (by decide)) dX0_setPart_45 (fun H locs hP hD hS => ?_)
      rw [nI_clamp (show nt < 2 ^ 31 by omega)] at hP hD
      have hP : va_P D vwCl [(b0, .inr (0, [.ref b1, .ref b2, .ref b3, .ref b4, .ref b5, .int (nI nc), .int (nI nt), .int ea])), (b1, .inl (cI, 6, .inl ac)), (b2, .inl (cI, 6, .inl (upd kd nt v2))), (b3, .inl (cI, 6, .inl ho)), (b4, .inl (cI, 6, .inl pl)), (b5, .inl (cI, 6, .inl st))] H := hP
      have hD : va_D A [(b0, .inr (0, [.ref b1, .ref b2, .ref b3, .ref b4, .ref b5, .int (nI nc), .int (nI nt), .int ea])), (b1, .inl (cI, 6, .inl ac)), (b2, .inl (cI, 6, .inl (upd kd nt v2))), (b3, .inl (cI, 6, .inl ho)), (b4, .inl (cI, 6, .inl pl)), (b5, .inl (cI, 6, .inl st))] := hD
      refine lv_goto (tgt := 85) hx hb dX0_setPart_46 (by decide) ?_
      have hE : (m_X0_setPart kd ho pl st nt v1 v2) = (upd kd nt v2, ho, pl, st) := Eq.symm (by (unfold m_X0_setPart; rw [if_pos c_6]; rw [if_pos c_11_0]) <;> rfl)
      rw [hE]
      exact W.vret hx hb hr (fun t ht hW => ⟨⟨(), rfl, trivial, by rw [ht]; exact hP, va_K.moved hW.alike hK, hD⟩, hS.F ht⟩) hS.2.2 dX0_setPart_85
    by_cases c_11_1 : v1 = 1
    · refine lv_tableIn (tgt := 49) hx hb dX0_setPart_11 (by (rw [c_11_1]) <;> decide) (by (rw [c_11_1]) <;> decide) (by (rw [c_11_1]) <;> rfl) (by decide) ?_
      refine lv_aload_n hx hb dX0_setPart_49 rfl (lv_at hl 0 rfl) ?_
      refine va_get (ci := 0) (v := .ref b3) (C := RX0) (T := TX0) (N := 8) hx hb hts hin_X0 hown hK hP 0 rfl rfl 2 (by decide) fl_18 (fun _ h9 => h9) rfl dX0_setPart_50 ?_
      refine lv_aload_n hx hb dX0_setPart_53 rfl (lv_at hl 0 rfl) ?_
      refine va_get (ci := 0) (v := .int (nI nt)) (C := RX0) (T := TX0) (N := 8) hx hb hts hin_X0 hown hK hP 0 rfl rfl 6 (by decide) fl_37 (fun _ h9 => h9) rfl dX0_setPart_54 ?_
      refine lv_iload_n hx hb dX0_setPart_57 rfl (lv_at hl 2 rfl) ?_
      refine va_iast hx hb hK hP hD hS 3 0 rfl rfl (vp_in_nI (show nt < 6 by omega) (by decide)) dX0_setPart_58 (fun H locs hP hD hS => ?_)
      rw [nI_clamp (show nt < 2 ^ 31 by omega)] at hP hD
      have hP : va_P D vwCl [(b0, .inr (0, [.ref b1, .ref b2, .ref b3, .ref b4, .ref b5, .int (nI nc), .int (nI nt), .int ea])), (b1, .inl (cI, 6, .inl ac)), (b2, .inl (cI, 6, .inl kd)), (b3, .inl (cI, 6, .inl (upd ho nt v2))), (b4, .inl (cI, 6, .inl pl)), (b5, .inl (cI, 6, .inl st))] H := hP
      have hD : va_D A [(b0, .inr (0, [.ref b1, .ref b2, .ref b3, .ref b4, .ref b5, .int (nI nc), .int (nI nt), .int ea])), (b1, .inl (cI, 6, .inl ac)), (b2, .inl (cI, 6, .inl kd)), (b3, .inl (cI, 6, .inl (upd ho nt v2))), (b4, .inl (cI, 6, .inl pl)), (b5, .inl (cI, 6, .inl st))] := hD
      refine lv_goto (tgt := 85) hx hb dX0_setPart_59 (by decide) ?_
      have hE : (m_X0_setPart kd ho pl st nt v1 v2) = (kd, upd ho nt v2, pl, st) := Eq.symm (by (unfold m_X0_setPart; rw [if_pos c_6]; rw [if_neg c_11_0]; rw [if_pos c_11_1]) <;> rfl)
      rw [hE]
      exact W.vret hx hb hr (fun t ht hW => ⟨⟨(), rfl, trivial, by rw [ht]; exact hP, va_K.moved hW.alike hK, hD⟩, hS.F ht⟩) hS.2.2 dX0_setPart_85
    by_cases c_11_2 : v1 = 2
    · refine lv_tableIn (tgt := 62) hx hb dX0_setPart_11 (by (rw [c_11_2]) <;> decide) (by (rw [c_11_2]) <;> decide) (by (rw [c_11_2]) <;> rfl) (by decide) ?_
      refine lv_aload_n hx hb dX0_setPart_62 rfl (lv_at hl 0 rfl) ?_
      refine va_get (ci := 0) (v := .ref b4) (C := RX0) (T := TX0) (N := 8) hx hb hts hin_X0 hown hK hP 0 rfl rfl 3 (by decide) fl_21 (fun _ h9 => h9) rfl dX0_setPart_63 ?_
      refine lv_aload_n hx hb dX0_setPart_66 rfl (lv_at hl 0 rfl) ?_
      refine va_get (ci := 0) (v := .int (nI nt)) (C := RX0) (T := TX0) (N := 8) hx hb hts hin_X0 hown hK hP 0 rfl rfl 6 (by decide) fl_37 (fun _ h9 => h9) rfl dX0_setPart_67 ?_
      refine lv_iload_n hx hb dX0_setPart_70 rfl (lv_at hl 2 rfl) ?_
      refine va_iast hx hb hK hP hD hS 4 0 rfl rfl (vp_in_nI (show nt < 6 by omega) (by decide)) dX0_setPart_71 (fun H locs hP hD hS => ?_)
      rw [nI_clamp (show nt < 2 ^ 31 by omega)] at hP hD
      have hP : va_P D vwCl [(b0, .inr (0, [.ref b1, .ref b2, .ref b3, .ref b4, .ref b5, .int (nI nc), .int (nI nt), .int ea])), (b1, .inl (cI, 6, .inl ac)), (b2, .inl (cI, 6, .inl kd)), (b3, .inl (cI, 6, .inl ho)), (b4, .inl (cI, 6, .inl (upd pl nt v2))), (b5, .inl (cI, 6, .inl st))] H := hP
      have hD : va_D A [(b0, .inr (0, [.ref b1, .ref b2, .ref b3, .ref b4, .ref b5, .int (nI nc), .int (nI nt), .int ea])), (b1, .inl (cI, 6, .inl ac)), (b2, .inl (cI, 6, .inl kd)), (b3, .inl (cI, 6, .inl ho)), (b4, .inl (cI, 6, .inl (upd pl nt v2))), (b5, .inl (cI, 6, .inl st))] := hD
      refine lv_goto (tgt := 85) hx hb dX0_setPart_72 (by decide) ?_
      have hE : (m_X0_setPart kd ho pl st nt v1 v2) = (kd, ho, upd pl nt v2, st) := Eq.symm (by (unfold m_X0_setPart; rw [if_pos c_6]; rw [if_neg c_11_0]; rw [if_neg c_11_1]; rw [if_pos c_11_2]) <;> rfl)
      rw [hE]
      exact W.vret hx hb hr (fun t ht hW => ⟨⟨(), rfl, trivial, by rw [ht]; exact hP, va_K.moved hW.alike hK, hD⟩, hS.F ht⟩) hS.2.2 dX0_setPart_85
    · have tc_11_0 := lv_neT c_11_0 (a := 0) rfl
      have tc_11_1 := lv_neT c_11_1 (a := 1) rfl
      have tc_11_2 := lv_neT c_11_2 (a := 2) rfl
      refine lv_tableOut (tgt := 75) hx hb dX0_setPart_11 (by omega) (by decide) ?_
      refine lv_aload_n hx hb dX0_setPart_75 rfl (lv_at hl 0 rfl) ?_
      refine va_get (ci := 0) (v := .ref b5) (C := RX0) (T := TX0) (N := 8) hx hb hts hin_X0 hown hK hP 0 rfl rfl 4 (by decide) fl_24 (fun _ h9 => h9) rfl dX0_setPart_76 ?_
      refine lv_aload_n hx hb dX0_setPart_79 rfl (lv_at hl 0 rfl) ?_
      refine va_get (ci := 0) (v := .int (nI nt)) (C := RX0) (T := TX0) (N := 8) hx hb hts hin_X0 hown hK hP 0 rfl rfl 6 (by decide) fl_37 (fun _ h9 => h9) rfl dX0_setPart_80 ?_
      refine lv_iload_n hx hb dX0_setPart_83 rfl (lv_at hl 2 rfl) ?_
      refine va_iast hx hb hK hP hD hS 5 0 rfl rfl (vp_in_nI (show nt < 6 by omega) (by decide)) dX0_setPart_84 (fun H locs hP hD hS => ?_)
      rw [nI_clamp (show nt < 2 ^ 31 by omega)] at hP hD
      have hP : va_P D vwCl [(b0, .inr (0, [.ref b1, .ref b2, .ref b3, .ref b4, .ref b5, .int (nI nc), .int (nI nt), .int ea])), (b1, .inl (cI, 6, .inl ac)), (b2, .inl (cI, 6, .inl kd)), (b3, .inl (cI, 6, .inl ho)), (b4, .inl (cI, 6, .inl pl)), (b5, .inl (cI, 6, .inl (upd st nt v2)))] H := hP
      have hD : va_D A [(b0, .inr (0, [.ref b1, .ref b2, .ref b3, .ref b4, .ref b5, .int (nI nc), .int (nI nt), .int ea])), (b1, .inl (cI, 6, .inl ac)), (b2, .inl (cI, 6, .inl kd)), (b3, .inl (cI, 6, .inl ho)), (b4, .inl (cI, 6, .inl pl)), (b5, .inl (cI, 6, .inl (upd st nt v2)))] := hD
      have hE : (m_X0_setPart kd ho pl st nt v1 v2) = (kd, ho, pl, upd st nt v2) := Eq.symm (by (unfold m_X0_setPart; rw [if_pos c_6]; rw [if_neg c_11_0]; rw [if_neg c_11_1]; rw [if_neg c_11_2]) <;> rfl)
      rw [hE]
      exact W.vret hx hb hr (fun t ht hW => ⟨⟨(), rfl, trivial, by rw [ht]; exact hP, va_K.moved hW.alike hK, hD⟩, hS.F ht⟩) hS.2.2 dX0_setPart_85
  · have hE : (m_X0_setPart kd ho pl st nt v1 v2) = (kd, ho, pl, st) := Eq.symm (by (unfold m_X0_setPart; rw [if_neg c_6]) <;> rfl)
    rw [hE]
    exact W.vret hx hb hr (fun t ht hW => ⟨⟨(), rfl, trivial, by rw [ht]; exact hP, va_K.moved hW.alike hK, hD⟩, hS.F ht⟩) hS.2.2 dX0_setPart_9

def m_X0_readThing_L3 (nc : Nat) (nt : Nat) (ro : Nat → Int32) (sz : Int32) (v2 : Int32) (nn : Nat) : Nat → Nat → (Nat → Int32) → (Nat → Int32) → (Nat → Int32) → (Nat → Int32) → (Int32 × (Nat → Int32) × (Nat → Int32) × (Nat → Int32) × (Nat → Int32))
  | 0, i3, wkd_3, who_3, wpl_3, wst_3 =>
    (nI nn, wkd_3, who_3, wpl_3, wst_3)
  | k3 + 1, i3, wkd_3, who_3, wpl_3, wst_3 =>
    if (if (nI i3) = 0 then (m_X0_kindOfLetter (m_X1_at ro sz (v2 + (nI i3)))) else (m_X1_at ro sz (v2 + (nI i3))) - 48) < 0 then
      (nI i3, wkd_3, who_3, wpl_3, wst_3)
    else
      if (if (nI i3) = 0 then (m_X0_kindOfLetter (m_X1_at ro sz (v2 + (nI i3)))) else (m_X1_at ro sz (v2 + (nI i3))) - 48) < (m_X0_boundOfPart nc (nI i3)) then
        m_X0_readThing_L3 nc nt ro sz v2 nn k3 (i3 + 1) ((m_X0_setPart wkd_3 who_3 wpl_3 wst_3 nt (nI i3) (if (nI i3) = 0 then (m_X0_kindOfLetter (m_X1_at ro sz (v2 + (nI i3)))) else (m_X1_at ro sz (v2 + (nI i3))) - 48)).1) ((m_X0_setPart wkd_3 who_3 wpl_3 wst_3 nt (nI i3) (if (nI i3) = 0 then (m_X0_kindOfLetter (m_X1_at ro sz (v2 + (nI i3)))) else (m_X1_at ro sz (v2 + (nI i3))) - 48)).2.1) ((m_X0_setPart wkd_3 who_3 wpl_3 wst_3 nt (nI i3) (if (nI i3) = 0 then (m_X0_kindOfLetter (m_X1_at ro sz (v2 + (nI i3)))) else (m_X1_at ro sz (v2 + (nI i3))) - 48)).2.2.1) ((m_X0_setPart wkd_3 who_3 wpl_3 wst_3 nt (nI i3) (if (nI i3) = 0 then (m_X0_kindOfLetter (m_X1_at ro sz (v2 + (nI i3)))) else (m_X1_at ro sz (v2 + (nI i3))) - 48)).2.2.2)
      else
        (nI i3, wkd_3, who_3, wpl_3, wst_3)
theorem m_X0_readThing_L3_0 (nc : Nat) (nt : Nat) (ro : Nat → Int32) (sz : Int32) (v2 : Int32) (nn : Nat) (i3 : Nat) (wkd_3 : Nat → Int32) (who_3 : Nat → Int32) (wpl_3 : Nat → Int32) (wst_3 : Nat → Int32) : m_X0_readThing_L3 nc nt ro sz v2 nn 0 i3 wkd_3 who_3 wpl_3 wst_3 = 
    (nI nn, wkd_3, who_3, wpl_3, wst_3) := rfl
theorem m_X0_readThing_L3_s (nc : Nat) (nt : Nat) (ro : Nat → Int32) (sz : Int32) (v2 : Int32) (nn : Nat) (i3 : Nat) (wkd_3 : Nat → Int32) (who_3 : Nat → Int32) (wpl_3 : Nat → Int32) (wst_3 : Nat → Int32) (k3 : Nat) : m_X0_readThing_L3 nc nt ro sz v2 nn (k3 + 1) i3 wkd_3 who_3 wpl_3 wst_3 = 
    if (if (nI i3) = 0 then (m_X0_kindOfLetter (m_X1_at ro sz (v2 + (nI i3)))) else (m_X1_at ro sz (v2 + (nI i3))) - 48) < 0 then
      (nI i3, wkd_3, who_3, wpl_3, wst_3)
    else
      if (if (nI i3) = 0 then (m_X0_kindOfLetter (m_X1_at ro sz (v2 + (nI i3)))) else (m_X1_at ro sz (v2 + (nI i3))) - 48) < (m_X0_boundOfPart nc (nI i3)) then
        m_X0_readThing_L3 nc nt ro sz v2 nn k3 (i3 + 1) ((m_X0_setPart wkd_3 who_3 wpl_3 wst_3 nt (nI i3) (if (nI i3) = 0 then (m_X0_kindOfLetter (m_X1_at ro sz (v2 + (nI i3)))) else (m_X1_at ro sz (v2 + (nI i3))) - 48)).1) ((m_X0_setPart wkd_3 who_3 wpl_3 wst_3 nt (nI i3) (if (nI i3) = 0 then (m_X0_kindOfLetter (m_X1_at ro sz (v2 + (nI i3)))) else (m_X1_at ro sz (v2 + (nI i3))) - 48)).2.1) ((m_X0_setPart wkd_3 who_3 wpl_3 wst_3 nt (nI i3) (if (nI i3) = 0 then (m_X0_kindOfLetter (m_X1_at ro sz (v2 + (nI i3)))) else (m_X1_at ro sz (v2 + (nI i3))) - 48)).2.2.1) ((m_X0_setPart wkd_3 who_3 wpl_3 wst_3 nt (nI i3) (if (nI i3) = 0 then (m_X0_kindOfLetter (m_X1_at ro sz (v2 + (nI i3)))) else (m_X1_at ro sz (v2 + (nI i3))) - 48)).2.2.2)
      else
        (nI i3, wkd_3, who_3, wpl_3, wst_3) := rfl
def m_X0_readThing (kd : Nat → Int32) (ho : Nat → Int32) (pl : Nat → Int32) (st : Nat → Int32) (nc : Nat) (nt : Nat) (ro : Nat → Int32) (sz : Int32) (v2 : Int32) (nn : Nat) : Int32 × (Nat → Int32) × (Nat → Int32) × (Nat → Int32) × (Nat → Int32) :=
  m_X0_readThing_L3 nc nt ro sz v2 nn nn 0 kd ho pl st
set_option maxHeartbeats 4000000 in
set_option maxRecDepth 100000 in
theorem c_X0_readThing (l : Launch) (D : va_G) (cI cS : ClassId) (b0 : Nat) (b1 : Nat) (b2 : Nat) (b3 : Nat) (b4 : Nat) (b5 : Nat) (s0 : Nat) (s1 : Nat) (hz : Nat) (ac : Nat → Int32) (kd : Nat → Int32) (ho : Nat → Int32) (pl : Nat → Int32) (st : Nat → Int32) (nc : Nat) (nt : Nat) (ea : Int32) (ro : Nat → Int32) (la : Int32) (sz : Int32) (v2 : Int32) (nn : Nat) (hn : nt ≤ 6) (hz60 : sz.toInt ≤ 60) (hnn : nn ≤ 4) : Met l yX0_readThing wsX0_readThing ({ frames := 1, cells := 0, slots := 0, locals := 22 }) (tw_W D cI cS [.ref b0, .ref s0, .int v2, .int (nI nn)] hz [(b0, .inr (0, [.ref b1, .ref b2, .ref b3, .ref b4, .ref b5, .int (nI nc), .int (nI nt), .int ea])), (b1, .inl (cI, 6, .inl ac)), (b2, .inl (cI, 6, .inl kd)), (b3, .inl (cI, 6, .inl ho)), (b4, .inl (cI, 6, .inl pl)), (b5, .inl (cI, 6, .inl st)), (s0, .inr (1, [.ref s1, .int la, .int sz])), (s1, .inl (cI, 60, .inl ro))]) (va_Qi (fun r (_ : Unit) => r = (m_X0_readThing kd ho pl st nc nt ro sz v2 nn).1) (tw_B D cI cS (va_A [(b0, .inr (0, [.ref b1, .ref b2, .ref b3, .ref b4, .ref b5, .int (nI nc), .int (nI nt), .int ea])), (b1, .inl (cI, 6, .inl ac)), (b2, .inl (cI, 6, .inl kd)), (b3, .inl (cI, 6, .inl ho)), (b4, .inl (cI, 6, .inl pl)), (b5, .inl (cI, 6, .inl st)), (s0, .inr (1, [.ref s1, .int la, .int sz])), (s1, .inl (cI, 60, .inl ro))] hz) [(b0, .inr (0, [.ref b1, .ref b2, .ref b3, .ref b4, .ref b5, .int (nI nc), .int (nI nt), .int ea])), (b1, .inl (cI, 6, .inl ac)), (b2, .inl (cI, 6, .inl ((m_X0_readThing kd ho pl st nc nt ro sz v2 nn).2.1))), (b3, .inl (cI, 6, .inl ((m_X0_readThing kd ho pl st nc nt ro sz v2 nn).2.2.1))), (b4, .inl (cI, 6, .inl ((m_X0_readThing kd ho pl st nc nt ro sz v2 nn).2.2.2.1))), (b5, .inl (cI, 6, .inl ((m_X0_readThing kd ho pl st nc nt ro sz v2 nn).2.2.2.2))), (s0, .inr (1, [.ref s1, .int la, .int sz])), (s1, .inl (cI, 60, .inl ro))]) (va_A [(b0, .inr (0, [.ref b1, .ref b2, .ref b3, .ref b4, .ref b5, .int (nI nc), .int (nI nt), .int ea])), (b1, .inl (cI, 6, .inl ac)), (b2, .inl (cI, 6, .inl kd)), (b3, .inl (cI, 6, .inl ho)), (b4, .inl (cI, 6, .inl pl)), (b5, .inl (cI, 6, .inl st)), (s0, .inr (1, [.ref s1, .int la, .int sz])), (s1, .inl (cI, 60, .inl ro))] hz)) 0 0 (va_A [(b0, .inr (0, [.ref b1, .ref b2, .ref b3, .ref b4, .ref b5, .int (nI nc), .int (nI nt), .int ea])), (b1, .inl (cI, 6, .inl ac)), (b2, .inl (cI, 6, .inl kd)), (b3, .inl (cI, 6, .inl ho)), (b4, .inl (cI, 6, .inl pl)), (b5, .inl (cI, 6, .inl st)), (s0, .inr (1, [.ref s1, .int la, .int sz])), (s1, .inl (cI, 60, .inl ro))] hz) := by
  refine Met.ofW (cc := cX0_readThing) (maxL := 7) (ret := (some .int)) (by decide) rfl ?_
  intro p e s m args below meth c s₁ B hml hv
  obtain ⟨rfl, hsz, hP, hK, hD0⟩ := hv
  have hx := B.exec
  have hb := B.bytes
  have hr := B.returns
  have hts := atoms_spec (ws := wsX0_readThing) B.pre
  have hown : s.vm.findClass RX0 = some m.cls := findClass_of_methodNamed B.named
  have hlocks := B.notSynchronized
  subst hsz
  have hD := hD0.self (sz := s.heap.size)
  generalize hAe : va_A [(b0, .inr (0, [.ref b1, .ref b2, .ref b3, .ref b4, .ref b5, .int (nI nc), .int (nI nt), .int ea])), (b1, .inl (cI, 6, .inl ac)), (b2, .inl (cI, 6, .inl kd)), (b3, .inl (cI, 6, .inl ho)), (b4, .inl (cI, 6, .inl pl)), (b5, .inl (cI, 6, .inl st)), (s0, .inr (1, [.ref s1, .int la, .int sz])), (s1, .inl (cI, 60, .inl ro))] s.heap.size = A at hD ⊢
  have hA : ∀ q : Nat, s.heap.size ≤ q → A q := fun q h => by rw [← hAe]; exact Or.inr h
  have hS : va_S A s.heap s.heap [] := va_S.rf
  have hl := lv_entry ([.ref b0, .ref s0, .int v2, .int (nI nn)]) (n := 7) (Nat.le_of_ble_eq_true rfl)
  rw [lg_entry_eq]
  generalize (lg_sl ([.ref b0, .ref s0, .int v2, .int (nI nn)]) ++ List.replicate (7 - (lg_sl ([.ref b0, .ref s0, .int v2, .int (nI nn)])).length) Slot.unset).toArray = ls at hl ⊢
  have hl : lv_has ls 7 [(0, .ref b0), (1, .ref s0), (2, .int v2), (3, .int (nI nn))] := hl
  refine lv_iconst (v := 0) hx hb dX0_readThing_0 (by decide) ?_
  refine lv_istore (lv' := [(4, .int 0), (0, .ref b0), (1, .ref s0), (2, .int v2), (3, .int (nI nn))]) hx hb dX0_readThing_1 hl (by decide) rfl (fun ls hl => ?_)
  refine tw_loopW (σ := (Nat → Int32) × (Nat → Int32) × (Nat → Int32) × (Nat → Int32)) (fun k i z ls H locs => i + k = nn ∧ (m_X0_readThing kd ho pl st nc nt ro sz v2 nn) = m_X0_readThing_L3 nc nt ro sz v2 nn k i z.1 z.2.1 z.2.2.1 z.2.2.2 ∧ va_P D vwCl [(b0, .inr (0, [.ref b1, .ref b2, .ref b3, .ref b4, .ref b5, .int (nI nc), .int (nI nt), .int ea])), (b1, .inl (cI, 6, .inl ac)), (b2, .inl (cI, 6, .inl z.1)), (b3, .inl (cI, 6, .inl z.2.1)), (b4, .inl (cI, 6, .inl z.2.2.1)), (b5, .inl (cI, 6, .inl z.2.2.2)), (s0, .inr (1, [.ref s1, .int la, .int sz])), (s1, .inl (cI, 60, .inl ro))] H ∧ va_D A [(b0, .inr (0, [.ref b1, .ref b2, .ref b3, .ref b4, .ref b5, .int (nI nc), .int (nI nt), .int ea])), (b1, .inl (cI, 6, .inl ac)), (b2, .inl (cI, 6, .inl z.1)), (b3, .inl (cI, 6, .inl z.2.1)), (b4, .inl (cI, 6, .inl z.2.2.1)), (b5, .inl (cI, 6, .inl z.2.2.2)), (s0, .inr (1, [.ref s1, .int la, .int sz])), (s1, .inl (cI, 60, .inl ro))] ∧ va_S A s.heap H locs ∧ lv_has ls 7 [(4, .int (nI i)), (0, .ref b0), (1, .ref s0), (2, .int v2), (3, .int (nI nn))]) nn 0 (kd, ho, pl, st) ⟨Nat.zero_add _, (by (unfold m_X0_readThing) <;> rfl), hP, hD, hS, lv_sub hl [0, 1, 2, 3, 4] rfl⟩ ?_ ?_
  · intro i3 z ls H locs hI
    obtain ⟨wkd_3, who_3, wpl_3, wst_3⟩ := z
    obtain ⟨hk3, hm3, hP, hD, hS, hl⟩ := hI
    have hm3 : (m_X0_readThing kd ho pl st nc nt ro sz v2 nn) = m_X0_readThing_L3 nc nt ro sz v2 nn 0 i3 wkd_3 who_3 wpl_3 wst_3 := hm3
    have hP : va_P D vwCl [(b0, .inr (0, [.ref b1, .ref b2, .ref b3, .ref b4, .ref b5, .int (nI nc), .int (nI nt), .int ea])), (b1, .inl (cI, 6, .inl ac)), (b2, .inl (cI, 6, .inl wkd_3)), (b3, .inl (cI, 6, .inl who_3)), (b4, .inl (cI, 6, .inl wpl_3)), (b5, .inl (cI, 6, .inl wst_3)), (s0, .inr (1, [.ref s1, .int la, .int sz])), (s1, .inl (cI, 60, .inl ro))] H := hP
    have hD : va_D A [(b0, .inr (0, [.ref b1, .ref b2, .ref b3, .ref b4, .ref b5, .int (nI nc), .int (nI nt), .int ea])), (b1, .inl (cI, 6, .inl ac)), (b2, .inl (cI, 6, .inl wkd_3)), (b3, .inl (cI, 6, .inl who_3)), (b4, .inl (cI, 6, .inl wpl_3)), (b5, .inl (cI, 6, .inl wst_3)), (s0, .inr (1, [.ref s1, .int la, .int sz])), (s1, .inl (cI, 60, .inl ro))] := hD
    have hl : lv_has ls 7 [(4, .int (nI i3)), (0, .ref b0), (1, .ref s0), (2, .int v2), (3, .int (nI nn))] := hl
    refine lv_iload hx hb dX0_readThing_3 (lv_at hl 0 rfl) ?_
    refine lv_iload_n hx hb dX0_readThing_5 rfl (lv_at hl 4 rfl) ?_
    refine lv_icmp_ge (tgt := 72) hx hb dX0_readThing_6 (by decide) (fun c_6 => ?_) (fun c_6 => absurd (tw_tge rfl (show nn ≤ i3 by omega) (show i3 < 2 ^ 31 by omega)) c_6)
    refine lv_iload_n hx hb dX0_readThing_72 rfl (lv_at hl 4 rfl) ?_
    have hE : (m_X0_readThing kd ho pl st nc nt ro sz v2 nn) = (nI nn, wkd_3, who_3, wpl_3, wst_3) := Eq.symm (by (rw [hm3, m_X0_readThing_L3_0]) <;> rfl)
    rw [hE]
    exact W.iret hx hb hr (fun t ht hW => ⟨⟨_, (), rfl, rfl, by rw [ht]; exact hP, va_K.moved hW.alike hK, hD⟩, hS.F ht⟩) hS.2.2 dX0_readThing_73
  · intro k3 i3 z ls H locs ih3 hI
    obtain ⟨wkd_3, who_3, wpl_3, wst_3⟩ := z
    obtain ⟨hk3, hm3, hP, hD, hS, hl⟩ := hI
    have hm3 : (m_X0_readThing kd ho pl st nc nt ro sz v2 nn) = m_X0_readThing_L3 nc nt ro sz v2 nn (k3 + 1) i3 wkd_3 who_3 wpl_3 wst_3 := hm3
    have hP : va_P D vwCl [(b0, .inr (0, [.ref b1, .ref b2, .ref b3, .ref b4, .ref b5, .int (nI nc), .int (nI nt), .int ea])), (b1, .inl (cI, 6, .inl ac)), (b2, .inl (cI, 6, .inl wkd_3)), (b3, .inl (cI, 6, .inl who_3)), (b4, .inl (cI, 6, .inl wpl_3)), (b5, .inl (cI, 6, .inl wst_3)), (s0, .inr (1, [.ref s1, .int la, .int sz])), (s1, .inl (cI, 60, .inl ro))] H := hP
    have hD : va_D A [(b0, .inr (0, [.ref b1, .ref b2, .ref b3, .ref b4, .ref b5, .int (nI nc), .int (nI nt), .int ea])), (b1, .inl (cI, 6, .inl ac)), (b2, .inl (cI, 6, .inl wkd_3)), (b3, .inl (cI, 6, .inl who_3)), (b4, .inl (cI, 6, .inl wpl_3)), (b5, .inl (cI, 6, .inl wst_3)), (s0, .inr (1, [.ref s1, .int la, .int sz])), (s1, .inl (cI, 60, .inl ro))] := hD
    have hl : lv_has ls 7 [(4, .int (nI i3)), (0, .ref b0), (1, .ref s0), (2, .int v2), (3, .int (nI nn))] := hl
    refine lv_iload hx hb dX0_readThing_3 (lv_at hl 0 rfl) ?_
    refine lv_iload_n hx hb dX0_readThing_5 rfl (lv_at hl 4 rfl) ?_
    refine lv_icmp_ge (tgt := 72) hx hb dX0_readThing_6 (by decide) (fun c_6 => absurd c_6 (tw_tlt rfl (show i3 < nn by omega) (show nn < 2 ^ 31 by omega))) (fun c_6 => ?_)
    refine lv_aload_n hx hb dX0_readThing_9 rfl (lv_at hl 2 rfl) ?_
    refine lv_iload_n hx hb dX0_readThing_10 rfl (lv_at hl 3 rfl) ?_
    refine lv_iload hx hb dX0_readThing_11 (lv_at hl 0 rfl) ?_
    refine lv_iadd hx hb dX0_readThing_13 ?_
    refine tw_cs (va_runV (As := [.int (v2 + (nI i3))]) (rest := []) ⟨hx, hb, hml, hown, hts⟩ (c_X1_at l D cI cS s0 s1 ro la sz (v2 + (nI i3)) (by first | assumption | omega | exact hz60 _ | exact vp_in_nI (by omega) (by decide))) (cwV 1 hts gX0_readThing_X1_at rfl rfl rfl (by decide +kernel) ⟨Nat.le_of_ble_eq_true rfl, Nat.le_of_ble_eq_true rfl⟩) ⟨tw_Rb, va_recv hK hP (ci := 1) (q0 := 6) rfl rfl, tw_Rp (hP.sub (ws' := [(s0, .inr (1, [.ref s1, .int la, .int sz])), (s1, .inl (cI, 60, .inl ro))]) [6, 7] rfl) hK⟩ rfl rfl hl.1 rfl (lv_room (Nat.le_of_ble_eq_true rfl)) dX0_readThing_14 ⟨Nat.zero_le _, Nat.zero_le _⟩) ?_
    refine lv_topi (fun x5 ex5 => ?_)
    refine lv_istore (lv' := [(5, .int x5), (4, .int (nI i3)), (0, .ref b0), (1, .ref s0), (2, .int v2), (3, .int (nI nn))]) hx hb dX0_readThing_17 hl (by decide) rfl (fun ls hl => ?_)
    refine lv_iload hx hb dX0_readThing_19 (lv_at hl 1 rfl) ?_
    refine tw_join (fun (y : Int32) => F0 m 37 ls (.int y :: [])) (if (nI i3) = 0 then (m_X0_kindOfLetter x5) else x5 - 48) ?_ (fun J37_0 => ?_)
    · intro y37 hy37
      refine lv_istore (lv' := [(6, .int y37), (5, .int x5), (4, .int (nI i3)), (0, .ref b0), (1, .ref s0), (2, .int v2), (3, .int (nI nn))]) hx hb dX0_readThing_37 hl (by decide) rfl (fun ls hl => ?_)
      refine lv_iload hx hb dX0_readThing_39 (lv_at hl 0 rfl) ?_
      refine lv_if_lt (tgt := 55) hx hb dX0_readThing_41 (by decide) (fun c_41 => ?_) (fun c_41 => ?_)
      · refine lv_iload hx hb dX0_readThing_55 (lv_at hl 2 rfl) ?_
        have hE : (m_X0_readThing kd ho pl st nc nt ro sz v2 nn) = (nI i3, wkd_3, who_3, wpl_3, wst_3) := Eq.symm (by (rw [hm3, m_X0_readThing_L3_s]; (try rw [← ex5]); (try rw [← hy37]); rw [if_pos c_41]) <;> rfl)
        rw [hE]
        exact W.iret hx hb hr (fun t ht hW => ⟨⟨_, (), rfl, rfl, by rw [ht]; exact hP, va_K.moved hW.alike hK, hD⟩, hS.F ht⟩) hS.2.2 dX0_readThing_57
      · refine lv_iload hx hb dX0_readThing_44 (lv_at hl 0 rfl) ?_
        refine lv_aload_n hx hb dX0_readThing_46 rfl (lv_at hl 3 rfl) ?_
        refine lv_iload hx hb dX0_readThing_47 (lv_at hl 2 rfl) ?_
        refine tw_cs (va_runV (As := [.int (nI i3)]) (rest := [.int y37]) ⟨hx, hb, hml, hown, hts⟩ (c_X0_boundOfPart l D cI cS b0 b1 b2 b3 b4 b5 ac wkd_3 who_3 wpl_3 wst_3 nc nt ea (nI i3)) (cwV 1 hts gX0_readThing_X0_boundOfPart rfl rfl rfl (by decide +kernel) ⟨Nat.le_of_ble_eq_true rfl, Nat.le_of_ble_eq_true rfl⟩) ⟨tw_Rb, va_recv hK hP (ci := 0) (q0 := 0) rfl rfl, tw_Rp (hP.sub (ws' := [(b0, .inr (0, [.ref b1, .ref b2, .ref b3, .ref b4, .ref b5, .int (nI nc), .int (nI nt), .int ea])), (b1, .inl (cI, 6, .inl ac)), (b2, .inl (cI, 6, .inl wkd_3)), (b3, .inl (cI, 6, .inl who_3)), (b4, .inl (cI, 6, .inl wpl_3)), (b5, .inl (cI, 6, .inl wst_3))]) [0, 1, 2, 3, 4, 5] rfl) hK⟩ rfl rfl hl.1 rfl (lv_room (Nat.le_of_ble_eq_true rfl)) dX0_readThing_49 ⟨Nat.zero_le _, Nat.zero_le _⟩) ?_
        refine lv_icmp_lt (tgt := 58) hx hb dX0_readThing_52 (by decide) (fun c_52 => ?_) (fun c_52 => ?_)
        · refine lv_aload_n hx hb dX0_readThing_58 rfl (lv_at hl 3 rfl) ?_
          refine lv_iload hx hb dX0_readThing_59 (lv_at hl 2 rfl) ?_
          refine lv_iload hx hb dX0_readThing_61 (lv_at hl 0 rfl) ?_
          refine tw_wv (ws := [(b0, .inr (0, [.ref b1, .ref b2, .ref b3, .ref b4, .ref b5, .int (nI nc), .int (nI nt), .int ea])), (b1, .inl (cI, 6, .inl ac)), (b2, .inl (cI, 6, .inl wkd_3)), (b3, .inl (cI, 6, .inl who_3)), (b4, .inl (cI, 6, .inl wpl_3)), (b5, .inl (cI, 6, .inl wst_3)), (s0, .inr (1, [.ref s1, .int la, .int sz])), (s1, .inl (cI, 60, .inl ro))]) (wc := [(b0, .inr (0, [.ref b1, .ref b2, .ref b3, .ref b4, .ref b5, .int (nI nc), .int (nI nt), .int ea])), (b1, .inl (cI, 6, .inl ac)), (b2, .inl (cI, 6, .inl wkd_3)), (b3, .inl (cI, 6, .inl who_3)), (b4, .inl (cI, 6, .inl wpl_3)), (b5, .inl (cI, 6, .inl wst_3))]) (wr := [(s0, .inr (1, [.ref s1, .int la, .int sz])), (s1, .inl (cI, 60, .inl ro))]) (w1 := [(b0, .inr (0, [.ref b1, .ref b2, .ref b3, .ref b4, .ref b5, .int (nI nc), .int (nI nt), .int ea])), (b1, .inl (cI, 6, .inl ac)), (b2, .inl (cI, 6, .inl ((m_X0_setPart wkd_3 who_3 wpl_3 wst_3 nt (nI i3) y37).1))), (b3, .inl (cI, 6, .inl ((m_X0_setPart wkd_3 who_3 wpl_3 wst_3 nt (nI i3) y37).2.1))), (b4, .inl (cI, 6, .inl ((m_X0_setPart wkd_3 who_3 wpl_3 wst_3 nt (nI i3) y37).2.2.1))), (b5, .inl (cI, 6, .inl ((m_X0_setPart wkd_3 who_3 wpl_3 wst_3 nt (nI i3) y37).2.2.2)))]) (ws' := [(b0, .inr (0, [.ref b1, .ref b2, .ref b3, .ref b4, .ref b5, .int (nI nc), .int (nI nt), .int ea])), (b1, .inl (cI, 6, .inl ac)), (b2, .inl (cI, 6, .inl ((m_X0_setPart wkd_3 who_3 wpl_3 wst_3 nt (nI i3) y37).1))), (b3, .inl (cI, 6, .inl ((m_X0_setPart wkd_3 who_3 wpl_3 wst_3 nt (nI i3) y37).2.1))), (b4, .inl (cI, 6, .inl ((m_X0_setPart wkd_3 who_3 wpl_3 wst_3 nt (nI i3) y37).2.2.1))), (b5, .inl (cI, 6, .inl ((m_X0_setPart wkd_3 who_3 wpl_3 wst_3 nt (nI i3) y37).2.2.2))), (s0, .inr (1, [.ref s1, .int la, .int sz])), (s1, .inl (cI, 60, .inl ro))]) (va_runV (As := [.int (nI i3), .int y37]) (rest := []) ⟨hx, hb, hml, hown, hts⟩ (c_X0_setPart l D cI cS b0 b1 b2 b3 b4 b5 _ ac wkd_3 who_3 wpl_3 wst_3 nc nt ea (nI i3) y37 (by first | assumption | omega | exact hz60 _ | exact vp_in_nI (by omega) (by decide))) (cwV 2 hts gX0_readThing_X0_setPart rfl rfl rfl (by decide +kernel) ⟨Nat.le_of_ble_eq_true rfl, Nat.le_of_ble_eq_true rfl⟩) ⟨tw_Wb, va_recv hK hP (ci := 0) (q0 := 0) rfl rfl, tw_Wp (hP.sub (ws' := [(b0, .inr (0, [.ref b1, .ref b2, .ref b3, .ref b4, .ref b5, .int (nI nc), .int (nI nt), .int ea])), (b1, .inl (cI, 6, .inl ac)), (b2, .inl (cI, 6, .inl wkd_3)), (b3, .inl (cI, 6, .inl who_3)), (b4, .inl (cI, 6, .inl wpl_3)), (b5, .inl (cI, 6, .inl wst_3))]) [0, 1, 2, 3, 4, 5] rfl) hK (hD.sub (ws' := [(b0, .inr (0, [.ref b1, .ref b2, .ref b3, .ref b4, .ref b5, .int (nI nc), .int (nI nt), .int ea])), (b1, .inl (cI, 6, .inl ac)), (b2, .inl (cI, 6, .inl wkd_3)), (b3, .inl (cI, 6, .inl who_3)), (b4, .inl (cI, 6, .inl wpl_3)), (b5, .inl (cI, 6, .inl wst_3))]) [0, 1, 2, 3, 4, 5] (by decide) rfl)⟩ rfl rfl hl.1 rfl (lv_room (Nat.le_of_ble_eq_true rfl)) dX0_readThing_63 ⟨Nat.zero_le _, Nat.zero_le _⟩) hP hD hS hA [0, 1, 2, 3, 4, 5] [6, 7] [2, 3, 4, 5, 6, 7, 0, 1] rfl rfl (by decide) (by decide) rfl (by decide) (fun H locs hP hD hS => ?_)
          refine lv_iinc (v := nI (i3 + 1)) (lv' := [(4, .int (nI (i3 + 1))), (6, .int y37), (5, .int x5), (0, .ref b0), (1, .ref s0), (2, .int v2), (3, .int (nI nn))]) hx hb dX0_readThing_66 hl (k := 2) rfl (nI_1 _) (by decide) rfl (fun ls hl => ?_)
          refine lv_goto (tgt := 3) hx hb dX0_readThing_69 (by decide) ?_
          exact ih3 ((m_X0_setPart wkd_3 who_3 wpl_3 wst_3 nt (nI i3) y37).1, (m_X0_setPart wkd_3 who_3 wpl_3 wst_3 nt (nI i3) y37).2.1, (m_X0_setPart wkd_3 who_3 wpl_3 wst_3 nt (nI i3) y37).2.2.1, (m_X0_setPart wkd_3 who_3 wpl_3 wst_3 nt (nI i3) y37).2.2.2) ls H _ ⟨by omega, (by (rw [hm3, m_X0_readThing_L3_s]; (try rw [← ex5]); (try rw [← hy37]); rw [if_neg c_41]; rw [if_pos c_52]) <;> rfl), hP, hD, hS, lv_sub hl [0, 3, 4, 5, 6] rfl⟩
        · refine lv_iload hx hb dX0_readThing_55 (lv_at hl 2 rfl) ?_
          have hE : (m_X0_readThing kd ho pl st nc nt ro sz v2 nn) = (nI i3, wkd_3, who_3, wpl_3, wst_3) := Eq.symm (by (rw [hm3, m_X0_readThing_L3_s]; (try rw [← ex5]); (try rw [← hy37]); rw [if_neg c_41]; rw [if_neg c_52]) <;> rfl)
          rw [hE]
          exact W.iret hx hb hr (fun t ht hW => ⟨⟨_, (), rfl, rfl, by rw [ht]; exact hP, va_K.moved hW.alike hK, hD⟩, hS.F ht⟩) hS.2.2 dX0_readThing_57
    · refine lv_if_ne (tgt := 32) hx hb dX0_readThing_21 (by decide) (fun c_21 => ?_) (fun c_21 => ?_)
      · refine lv_iload hx hb dX0_readThing_32 (lv_at hl 0 rfl) ?_
        refine lv_bipush (v := 48) hx hb dX0_readThing_34 (by decide) ?_
        refine lv_isub hx hb dX0_readThing_36 ?_
        exact J37_0 _ (by (rw [if_neg c_21]) <;> rfl)
      · refine lv_iload hx hb dX0_readThing_24 (lv_at hl 0 rfl) ?_
        refine tw_cs (va_runS (As := [.int x5]) (rest := []) ⟨hx, hb, hml, hown, hts⟩ (c_X0_kindOfLetter l D cI cS x5) (va_cwS 1 hts gX0_readThing_X0_kindOfLetter rfl rfl rfl (by decide +kernel) ⟨Nat.le_of_ble_eq_true rfl, Nat.le_of_ble_eq_true rfl⟩) ⟨tw_Rb, tw_Rp (hP.sub (ws' := []) [] rfl) hK⟩ rfl rfl hl.1 rfl (lv_room (Nat.le_of_ble_eq_true rfl)) dX0_readThing_26 ⟨Nat.zero_le _, Nat.zero_le _⟩) ?_
        refine lv_goto (tgt := 37) hx hb dX0_readThing_29 (by decide) ?_
        exact J37_0 _ (by (rw [if_pos c_21]) <;> rfl)

def m_X0_readText_L111 (ro : Nat → Int32) (sz : Int32) (v2 : Int32) (nn : Nat) (wac_100 : Nat → Int32) (wnc_100 : Nat) : Nat → Nat → (Nat → Int32) → (Nat → Int32) → (Nat → Int32) → (Nat → Int32) → Nat → (Int32 × (Nat → Int32) × (Nat → Int32) × (Nat → Int32) × (Nat → Int32) × (Nat → Int32) × Nat × Nat × Int32)
  | 0, u4_111, wkd_111, who_111, wpl_111, wst_111, wnt_111 =>
    (0, fun _ => 0, fun _ => 0, fun _ => 0, fun _ => 0, fun _ => 0, 0, 0, 0)
  | k111 + 1, u4_111, wkd_111, who_111, wpl_111, wst_111, wnt_111 =>
    if (nI nn) ≤ (nI u4_111) then
      ((if (nI wnt_111) ≤ 0 then nI nn else (-9)), wac_100, wkd_111, who_111, wpl_111, wst_111, wnc_100, wnt_111, 0)
    else
      if (nI wnt_111) = 6 then
        (nI u4_111, wac_100, wkd_111, who_111, wpl_111, wst_111, wnc_100, wnt_111, 0)
      else
        if (m_X1_at ro sz (v2 + (nI u4_111))) = 59 then
          if 4 ≤ ((m_X0_readThing wkd_111 who_111 wpl_111 wst_111 wnc_100 wnt_111 ro sz ((v2 + (nI u4_111)) + 1) (min 4 (nn - u4_111 - 1))).1) then
            m_X0_readText_L111 ro sz v2 nn wac_100 wnc_100 k111 (u4_111 + 5) ((m_X0_readThing wkd_111 who_111 wpl_111 wst_111 wnc_100 wnt_111 ro sz ((v2 + (nI u4_111)) + 1) (min 4 (nn - u4_111 - 1))).2.1) ((m_X0_readThing wkd_111 who_111 wpl_111 wst_111 wnc_100 wnt_111 ro sz ((v2 + (nI u4_111)) + 1) (min 4 (nn - u4_111 - 1))).2.2.1) ((m_X0_readThing wkd_111 who_111 wpl_111 wst_111 wnc_100 wnt_111 ro sz ((v2 + (nI u4_111)) + 1) (min 4 (nn - u4_111 - 1))).2.2.2.1) ((m_X0_readThing wkd_111 who_111 wpl_111 wst_111 wnc_100 wnt_111 ro sz ((v2 + (nI u4_111)) + 1) (min 4 (nn - u4_111 - 1))).2.2.2.2) (wnt_111 + 1)
          else
            (((nI u4_111) + 1) + ((m_X0_readThing wkd_111 who_111 wpl_111 wst_111 wnc_100 wnt_111 ro sz ((v2 + (nI u4_111)) + 1) (min 4 (nn - u4_111 - 1))).1), wac_100, (m_X0_readThing wkd_111 who_111 wpl_111 wst_111 wnc_100 wnt_111 ro sz ((v2 + (nI u4_111)) + 1) (min 4 (nn - u4_111 - 1))).2.1, (m_X0_readThing wkd_111 who_111 wpl_111 wst_111 wnc_100 wnt_111 ro sz ((v2 + (nI u4_111)) + 1) (min 4 (nn - u4_111 - 1))).2.2.1, (m_X0_readThing wkd_111 who_111 wpl_111 wst_111 wnc_100 wnt_111 ro sz ((v2 + (nI u4_111)) + 1) (min 4 (nn - u4_111 - 1))).2.2.2.1, (m_X0_readThing wkd_111 who_111 wpl_111 wst_111 wnc_100 wnt_111 ro sz ((v2 + (nI u4_111)) + 1) (min 4 (nn - u4_111 - 1))).2.2.2.2, wnc_100, wnt_111, 0)
        else
          (nI u4_111, wac_100, wkd_111, who_111, wpl_111, wst_111, wnc_100, wnt_111, 0)
theorem m_X0_readText_L111_0 (ro : Nat → Int32) (sz : Int32) (v2 : Int32) (nn : Nat) (wac_100 : Nat → Int32) (wnc_100 : Nat) (u4_111 : Nat) (wkd_111 : Nat → Int32) (who_111 : Nat → Int32) (wpl_111 : Nat → Int32) (wst_111 : Nat → Int32) (wnt_111 : Nat) : m_X0_readText_L111 ro sz v2 nn wac_100 wnc_100 0 u4_111 wkd_111 who_111 wpl_111 wst_111 wnt_111 = 
    (0, fun _ => 0, fun _ => 0, fun _ => 0, fun _ => 0, fun _ => 0, 0, 0, 0) := rfl
theorem m_X0_readText_L111_s (ro : Nat → Int32) (sz : Int32) (v2 : Int32) (nn : Nat) (wac_100 : Nat → Int32) (wnc_100 : Nat) (u4_111 : Nat) (wkd_111 : Nat → Int32) (who_111 : Nat → Int32) (wpl_111 : Nat → Int32) (wst_111 : Nat → Int32) (wnt_111 : Nat) (k111 : Nat) : m_X0_readText_L111 ro sz v2 nn wac_100 wnc_100 (k111 + 1) u4_111 wkd_111 who_111 wpl_111 wst_111 wnt_111 = 
    if (nI nn) ≤ (nI u4_111) then
      ((if (nI wnt_111) ≤ 0 then nI nn else (-9)), wac_100, wkd_111, who_111, wpl_111, wst_111, wnc_100, wnt_111, 0)
    else
      if (nI wnt_111) = 6 then
        (nI u4_111, wac_100, wkd_111, who_111, wpl_111, wst_111, wnc_100, wnt_111, 0)
      else
        if (m_X1_at ro sz (v2 + (nI u4_111))) = 59 then
          if 4 ≤ ((m_X0_readThing wkd_111 who_111 wpl_111 wst_111 wnc_100 wnt_111 ro sz ((v2 + (nI u4_111)) + 1) (min 4 (nn - u4_111 - 1))).1) then
            m_X0_readText_L111 ro sz v2 nn wac_100 wnc_100 k111 (u4_111 + 5) ((m_X0_readThing wkd_111 who_111 wpl_111 wst_111 wnc_100 wnt_111 ro sz ((v2 + (nI u4_111)) + 1) (min 4 (nn - u4_111 - 1))).2.1) ((m_X0_readThing wkd_111 who_111 wpl_111 wst_111 wnc_100 wnt_111 ro sz ((v2 + (nI u4_111)) + 1) (min 4 (nn - u4_111 - 1))).2.2.1) ((m_X0_readThing wkd_111 who_111 wpl_111 wst_111 wnc_100 wnt_111 ro sz ((v2 + (nI u4_111)) + 1) (min 4 (nn - u4_111 - 1))).2.2.2.1) ((m_X0_readThing wkd_111 who_111 wpl_111 wst_111 wnc_100 wnt_111 ro sz ((v2 + (nI u4_111)) + 1) (min 4 (nn - u4_111 - 1))).2.2.2.2) (wnt_111 + 1)
          else
            (((nI u4_111) + 1) + ((m_X0_readThing wkd_111 who_111 wpl_111 wst_111 wnc_100 wnt_111 ro sz ((v2 + (nI u4_111)) + 1) (min 4 (nn - u4_111 - 1))).1), wac_100, (m_X0_readThing wkd_111 who_111 wpl_111 wst_111 wnc_100 wnt_111 ro sz ((v2 + (nI u4_111)) + 1) (min 4 (nn - u4_111 - 1))).2.1, (m_X0_readThing wkd_111 who_111 wpl_111 wst_111 wnc_100 wnt_111 ro sz ((v2 + (nI u4_111)) + 1) (min 4 (nn - u4_111 - 1))).2.2.1, (m_X0_readThing wkd_111 who_111 wpl_111 wst_111 wnc_100 wnt_111 ro sz ((v2 + (nI u4_111)) + 1) (min 4 (nn - u4_111 - 1))).2.2.2.1, (m_X0_readThing wkd_111 who_111 wpl_111 wst_111 wnc_100 wnt_111 ro sz ((v2 + (nI u4_111)) + 1) (min 4 (nn - u4_111 - 1))).2.2.2.2, wnc_100, wnt_111, 0)
        else
          (nI u4_111, wac_100, wkd_111, who_111, wpl_111, wst_111, wnc_100, wnt_111, 0) := rfl
def m_X0_readText_X100 (kd : Nat → Int32) (ho : Nat → Int32) (pl : Nat → Int32) (st : Nat → Int32) (ro : Nat → Int32) (sz : Int32) (v2 : Int32) (nn : Nat) (u4_100 : Nat) (wac_100 : Nat → Int32) (wnc_100 : Nat) : Int32 × (Nat → Int32) × (Nat → Int32) × (Nat → Int32) × (Nat → Int32) × (Nat → Int32) × Nat × Nat × Int32 :=
  if 2 ≤ (nI wnc_100) then
    m_X0_readText_L111 ro sz v2 nn wac_100 wnc_100 7 u4_100 kd ho pl st 0
  else
    (nI u4_100, wac_100, kd, ho, pl, st, wnc_100, 0, 0)
def m_X0_readText_L35 (kd : Nat → Int32) (ho : Nat → Int32) (pl : Nat → Int32) (st : Nat → Int32) (ro : Nat → Int32) (sz : Int32) (v2 : Int32) (nn : Nat) : Nat → Nat → (Nat → Int32) → Nat → (Int32 × (Nat → Int32) × (Nat → Int32) × (Nat → Int32) × (Nat → Int32) × (Nat → Int32) × Nat × Nat × Int32)
  | 0, i35, wac_35, wnc_35 =>
    m_X0_readText_X100 kd ho pl st ro sz v2 nn i35 wac_35 wnc_35
  | k35 + 1, i35, wac_35, wnc_35 =>
    if 6 ≤ (nI wnc_35) then
      m_X0_readText_X100 kd ho pl st ro sz v2 nn i35 wac_35 wnc_35
    else
      if (m_X0_isDigit (m_X1_at ro sz (v2 + (nI i35)))) = 0 then
        m_X0_readText_X100 kd ho pl st ro sz v2 nn i35 wac_35 wnc_35
      else
        m_X0_readText_L35 kd ho pl st ro sz v2 nn k35 (i35 + 1) (upd wac_35 wnc_35 ((m_X1_at ro sz (v2 + (nI i35))) - 48)) (wnc_35 + 1)
theorem m_X0_readText_L35_0 (kd : Nat → Int32) (ho : Nat → Int32) (pl : Nat → Int32) (st : Nat → Int32) (ro : Nat → Int32) (sz : Int32) (v2 : Int32) (nn : Nat) (i35 : Nat) (wac_35 : Nat → Int32) (wnc_35 : Nat) : m_X0_readText_L35 kd ho pl st ro sz v2 nn 0 i35 wac_35 wnc_35 = 
    m_X0_readText_X100 kd ho pl st ro sz v2 nn i35 wac_35 wnc_35 := rfl
theorem m_X0_readText_L35_s (kd : Nat → Int32) (ho : Nat → Int32) (pl : Nat → Int32) (st : Nat → Int32) (ro : Nat → Int32) (sz : Int32) (v2 : Int32) (nn : Nat) (i35 : Nat) (wac_35 : Nat → Int32) (wnc_35 : Nat) (k35 : Nat) : m_X0_readText_L35 kd ho pl st ro sz v2 nn (k35 + 1) i35 wac_35 wnc_35 = 
    if 6 ≤ (nI wnc_35) then
      m_X0_readText_X100 kd ho pl st ro sz v2 nn i35 wac_35 wnc_35
    else
      if (m_X0_isDigit (m_X1_at ro sz (v2 + (nI i35)))) = 0 then
        m_X0_readText_X100 kd ho pl st ro sz v2 nn i35 wac_35 wnc_35
      else
        m_X0_readText_L35 kd ho pl st ro sz v2 nn k35 (i35 + 1) (upd wac_35 wnc_35 ((m_X1_at ro sz (v2 + (nI i35))) - 48)) (wnc_35 + 1) := rfl
def m_X0_readText (ac : Nat → Int32) (kd : Nat → Int32) (ho : Nat → Int32) (pl : Nat → Int32) (st : Nat → Int32) (ro : Nat → Int32) (sz : Int32) (v2 : Int32) (nn : Nat) : Int32 × (Nat → Int32) × (Nat → Int32) × (Nat → Int32) × (Nat → Int32) × (Nat → Int32) × Nat × Nat × Int32 :=
  if (nI nn) < 1 then
    (0, ac, kd, ho, pl, st, 0, 0, 0)
  else
    if (m_X1_at ro sz v2) = 116 then
      m_X0_readText_L35 kd ho pl st ro sz v2 nn (nn - 1) 1 ac 0
    else
      (0, ac, kd, ho, pl, st, 0, 0, 0)
set_option maxHeartbeats 4000000 in
set_option maxRecDepth 100000 in
theorem c_X0_readText (l : Launch) (D : va_G) (cI cS : ClassId) (b0 : Nat) (b1 : Nat) (b2 : Nat) (b3 : Nat) (b4 : Nat) (b5 : Nat) (s0 : Nat) (s1 : Nat) (hz : Nat) (ac : Nat → Int32) (kd : Nat → Int32) (ho : Nat → Int32) (pl : Nat → Int32) (st : Nat → Int32) (nc : Nat) (nt : Nat) (ea : Int32) (ro : Nat → Int32) (la : Int32) (sz : Int32) (v2 : Int32) (nn : Nat) (hz60 : sz.toInt ≤ 60) (hnn : nn ≤ 60) : Met l yX0_readText wsX0_readText ({ frames := 2, cells := 0, slots := 0, locals := 48 }) (tw_W D cI cS [.ref b0, .ref s0, .int v2, .int (nI nn)] hz [(b0, .inr (0, [.ref b1, .ref b2, .ref b3, .ref b4, .ref b5, .int (nI nc), .int (nI nt), .int ea])), (b1, .inl (cI, 6, .inl ac)), (b2, .inl (cI, 6, .inl kd)), (b3, .inl (cI, 6, .inl ho)), (b4, .inl (cI, 6, .inl pl)), (b5, .inl (cI, 6, .inl st)), (s0, .inr (1, [.ref s1, .int la, .int sz])), (s1, .inl (cI, 60, .inl ro))]) (va_Qi (fun r (_ : Unit) => r = (m_X0_readText ac kd ho pl st ro sz v2 nn).1) (tw_B D cI cS (va_A [(b0, .inr (0, [.ref b1, .ref b2, .ref b3, .ref b4, .ref b5, .int (nI nc), .int (nI nt), .int ea])), (b1, .inl (cI, 6, .inl ac)), (b2, .inl (cI, 6, .inl kd)), (b3, .inl (cI, 6, .inl ho)), (b4, .inl (cI, 6, .inl pl)), (b5, .inl (cI, 6, .inl st)), (s0, .inr (1, [.ref s1, .int la, .int sz])), (s1, .inl (cI, 60, .inl ro))] hz) [(b0, .inr (0, [.ref b1, .ref b2, .ref b3, .ref b4, .ref b5, .int (nI ((m_X0_readText ac kd ho pl st ro sz v2 nn).2.2.2.2.2.2.1)), .int (nI ((m_X0_readText ac kd ho pl st ro sz v2 nn).2.2.2.2.2.2.2.1)), .int ((m_X0_readText ac kd ho pl st ro sz v2 nn).2.2.2.2.2.2.2.2)])), (b1, .inl (cI, 6, .inl ((m_X0_readText ac kd ho pl st ro sz v2 nn).2.1))), (b2, .inl (cI, 6, .inl ((m_X0_readText ac kd ho pl st ro sz v2 nn).2.2.1))), (b3, .inl (cI, 6, .inl ((m_X0_readText ac kd ho pl st ro sz v2 nn).2.2.2.1))), (b4, .inl (cI, 6, .inl ((m_X0_readText ac kd ho pl st ro sz v2 nn).2.2.2.2.1))), (b5, .inl (cI, 6, .inl ((m_X0_readText ac kd ho pl st ro sz v2 nn).2.2.2.2.2.1))), (s0, .inr (1, [.ref s1, .int la, .int sz])), (s1, .inl (cI, 60, .inl ro))]) (va_A [(b0, .inr (0, [.ref b1, .ref b2, .ref b3, .ref b4, .ref b5, .int (nI nc), .int (nI nt), .int ea])), (b1, .inl (cI, 6, .inl ac)), (b2, .inl (cI, 6, .inl kd)), (b3, .inl (cI, 6, .inl ho)), (b4, .inl (cI, 6, .inl pl)), (b5, .inl (cI, 6, .inl st)), (s0, .inr (1, [.ref s1, .int la, .int sz])), (s1, .inl (cI, 60, .inl ro))] hz)) 0 0 (va_A [(b0, .inr (0, [.ref b1, .ref b2, .ref b3, .ref b4, .ref b5, .int (nI nc), .int (nI nt), .int ea])), (b1, .inl (cI, 6, .inl ac)), (b2, .inl (cI, 6, .inl kd)), (b3, .inl (cI, 6, .inl ho)), (b4, .inl (cI, 6, .inl pl)), (b5, .inl (cI, 6, .inl st)), (s0, .inr (1, [.ref s1, .int la, .int sz])), (s1, .inl (cI, 60, .inl ro))] hz) := by
  refine Met.ofW (cc := cX0_readText) (maxL := 6) (ret := (some .int)) (by decide) rfl ?_
  intro p e s m args below meth c s₁ B hml hv
  obtain ⟨rfl, hsz, hP, hK, hD0⟩ := hv
  have hx := B.exec
  have hb := B.bytes
  have hr := B.returns
  have hts := atoms_spec (ws := wsX0_readText) B.pre
  have hown : s.vm.findClass RX0 = some m.cls := findClass_of_methodNamed B.named
  have hlocks := B.notSynchronized
  subst hsz
  have hD := hD0.self (sz := s.heap.size)
  generalize hAe : va_A [(b0, .inr (0, [.ref b1, .ref b2, .ref b3, .ref b4, .ref b5, .int (nI nc), .int (nI nt), .int ea])), (b1, .inl (cI, 6, .inl ac)), (b2, .inl (cI, 6, .inl kd)), (b3, .inl (cI, 6, .inl ho)), (b4, .inl (cI, 6, .inl pl)), (b5, .inl (cI, 6, .inl st)), (s0, .inr (1, [.ref s1, .int la, .int sz])), (s1, .inl (cI, 60, .inl ro))] s.heap.size = A at hD ⊢
  have hA : ∀ q : Nat, s.heap.size ≤ q → A q := fun q h => by rw [← hAe]; exact Or.inr h
  have hS : va_S A s.heap s.heap [] := va_S.rf
  have fl_40 := hts (.fieldLink RX0 40 "TableWar$Cloth" "eaten" "I") (by decide +kernel)
  have hin_X0 := (show ∀ w ∈ u_ws RX0 TX0 8, w ∈ wsX0_readText from by decide +kernel)
  have fl_33 := hts (.fieldLink RX0 33 "TableWar$Cloth" "cells" "I") (by decide +kernel)
  have fl_37 := hts (.fieldLink RX0 37 "TableWar$Cloth" "things" "I") (by decide +kernel)
  have mlk_min := hts (.methodLink RX0 53 Lib.Math.min.name) (by decide +kernel)
  have mst_min := hts (.static Lib.Math.min.name) (by decide +kernel)
  have min_min := hts (.initialized "java/lang/Math") (by decide +kernel)
  have mcd_min := hts (.code Lib.Math.min.name Lib.Math.min.code 2 (some .int)) (by decide +kernel)
  have fl_9 := hts (.fieldLink RX0 9 "TableWar$Cloth" "acresOf" "[I") (by decide +kernel)
  have hl := lv_entry ([.ref b0, .ref s0, .int v2, .int (nI nn)]) (n := 6) (Nat.le_of_ble_eq_true rfl)
  rw [lg_entry_eq]
  generalize (lg_sl ([.ref b0, .ref s0, .int v2, .int (nI nn)]) ++ List.replicate (6 - (lg_sl ([.ref b0, .ref s0, .int v2, .int (nI nn)])).length) Slot.unset).toArray = ls at hl ⊢
  have hl : lv_has ls 6 [(0, .ref b0), (1, .ref s0), (2, .int v2), (3, .int (nI nn))] := hl
  refine lv_aload_n hx hb dX0_readText_0 rfl (lv_at hl 0 rfl) ?_
  refine lv_iconst (v := 0) hx hb dX0_readText_1 (by decide) ?_
  refine va_put (ci := 0) (v := .int 0) (ty := .int) (C := RX0) (T := TX0) (N := 8) hx hb hts hin_X0 tyX0 tyX0_ok nmX0 hown hK hP hD hS 0 rfl rfl 7 (by decide) fl_40 (fun _ h9 => h9) rfl (by decide +kernel) rfl rfl (Nat.le_of_ble_eq_true rfl) dX0_readText_2 (fun H locs hP hD hS => ?_)
  have hP : va_P D vwCl [(b0, .inr (0, [.ref b1, .ref b2, .ref b3, .ref b4, .ref b5, .int (nI nc), .int (nI nt), .int 0])), (b1, .inl (cI, 6, .inl ac)), (b2, .inl (cI, 6, .inl kd)), (b3, .inl (cI, 6, .inl ho)), (b4, .inl (cI, 6, .inl pl)), (b5, .inl (cI, 6, .inl st)), (s0, .inr (1, [.ref s1, .int la, .int sz])), (s1, .inl (cI, 60, .inl ro))] H := hP
  have hD : va_D A [(b0, .inr (0, [.ref b1, .ref b2, .ref b3, .ref b4, .ref b5, .int (nI nc), .int (nI nt), .int 0])), (b1, .inl (cI, 6, .inl ac)), (b2, .inl (cI, 6, .inl kd)), (b3, .inl (cI, 6, .inl ho)), (b4, .inl (cI, 6, .inl pl)), (b5, .inl (cI, 6, .inl st)), (s0, .inr (1, [.ref s1, .int la, .int sz])), (s1, .inl (cI, 60, .inl ro))] := hD
  refine lv_aload_n hx hb dX0_readText_5 rfl (lv_at hl 0 rfl) ?_
  refine lv_iconst (v := 0) hx hb dX0_readText_6 (by decide) ?_
  refine tw_top (show _ = nI 0 from rfl) ?_
  refine va_put (ci := 0) (v := .int (nI 0)) (ty := .int) (C := RX0) (T := TX0) (N := 8) hx hb hts hin_X0 tyX0 tyX0_ok nmX0 hown hK hP hD hS 0 rfl rfl 5 (by decide) fl_33 (fun _ h9 => h9) rfl (by decide +kernel) rfl rfl (Nat.le_of_ble_eq_true rfl) dX0_readText_7 (fun H locs hP hD hS => ?_)
  have hP : va_P D vwCl [(b0, .inr (0, [.ref b1, .ref b2, .ref b3, .ref b4, .ref b5, .int (nI 0), .int (nI nt), .int 0])), (b1, .inl (cI, 6, .inl ac)), (b2, .inl (cI, 6, .inl kd)), (b3, .inl (cI, 6, .inl ho)), (b4, .inl (cI, 6, .inl pl)), (b5, .inl (cI, 6, .inl st)), (s0, .inr (1, [.ref s1, .int la, .int sz])), (s1, .inl (cI, 60, .inl ro))] H := hP
  have hD : va_D A [(b0, .inr (0, [.ref b1, .ref b2, .ref b3, .ref b4, .ref b5, .int (nI 0), .int (nI nt), .int 0])), (b1, .inl (cI, 6, .inl ac)), (b2, .inl (cI, 6, .inl kd)), (b3, .inl (cI, 6, .inl ho)), (b4, .inl (cI, 6, .inl pl)), (b5, .inl (cI, 6, .inl st)), (s0, .inr (1, [.ref s1, .int la, .int sz])), (s1, .inl (cI, 60, .inl ro))] := hD
  refine lv_aload_n hx hb dX0_readText_10 rfl (lv_at hl 0 rfl) ?_
  refine lv_iconst (v := 0) hx hb dX0_readText_11 (by decide) ?_
  refine tw_top (show _ = nI 0 from rfl) ?_
  refine va_put (ci := 0) (v := .int (nI 0)) (ty := .int) (C := RX0) (T := TX0) (N := 8) hx hb hts hin_X0 tyX0 tyX0_ok nmX0 hown hK hP hD hS 0 rfl rfl 6 (by decide) fl_37 (fun _ h9 => h9) rfl (by decide +kernel) rfl rfl (Nat.le_of_ble_eq_true rfl) dX0_readText_12 (fun H locs hP hD hS => ?_)
  have hP : va_P D vwCl [(b0, .inr (0, [.ref b1, .ref b2, .ref b3, .ref b4, .ref b5, .int (nI 0), .int (nI 0), .int 0])), (b1, .inl (cI, 6, .inl ac)), (b2, .inl (cI, 6, .inl kd)), (b3, .inl (cI, 6, .inl ho)), (b4, .inl (cI, 6, .inl pl)), (b5, .inl (cI, 6, .inl st)), (s0, .inr (1, [.ref s1, .int la, .int sz])), (s1, .inl (cI, 60, .inl ro))] H := hP
  have hD : va_D A [(b0, .inr (0, [.ref b1, .ref b2, .ref b3, .ref b4, .ref b5, .int (nI 0), .int (nI 0), .int 0])), (b1, .inl (cI, 6, .inl ac)), (b2, .inl (cI, 6, .inl kd)), (b3, .inl (cI, 6, .inl ho)), (b4, .inl (cI, 6, .inl pl)), (b5, .inl (cI, 6, .inl st)), (s0, .inr (1, [.ref s1, .int la, .int sz])), (s1, .inl (cI, 60, .inl ro))] := hD
  refine lv_iload_n hx hb dX0_readText_15 rfl (lv_at hl 3 rfl) ?_
  refine lv_iconst (v := 1) hx hb dX0_readText_16 (by decide) ?_
  refine lv_icmp_lt (tgt := 30) hx hb dX0_readText_17 (by decide) (fun c_17 => ?_) (fun c_17 => ?_)
  · refine lv_iconst (v := 0) hx hb dX0_readText_30 (by decide) ?_
    have hE : (m_X0_readText ac kd ho pl st ro sz v2 nn) = (0, ac, kd, ho, pl, st, 0, 0, 0) := Eq.symm (by (unfold m_X0_readText; rw [if_pos c_17]) <;> rfl)
    rw [hE]
    exact W.iret hx hb hr (fun t ht hW => ⟨⟨_, (), rfl, rfl, by rw [ht]; exact hP, va_K.moved hW.alike hK, hD⟩, hS.F ht⟩) hS.2.2 dX0_readText_31
  · refine lv_aload_n hx hb dX0_readText_20 rfl (lv_at hl 1 rfl) ?_
    refine lv_iload_n hx hb dX0_readText_21 rfl (lv_at hl 2 rfl) ?_
    refine tw_cs (va_runV (As := [.int v2]) (rest := []) ⟨hx, hb, hml, hown, hts⟩ (c_X1_at l D cI cS s0 s1 ro la sz v2 (by first | assumption | omega | exact hz60 _ | exact vp_in_nI (by omega) (by decide))) (cwV 1 hts gX0_readText_X1_at rfl rfl rfl (by decide +kernel) ⟨Nat.le_of_ble_eq_true rfl, Nat.le_of_ble_eq_true rfl⟩) ⟨tw_Rb, va_recv hK hP (ci := 1) (q0 := 6) rfl rfl, tw_Rp (hP.sub (ws' := [(s0, .inr (1, [.ref s1, .int la, .int sz])), (s1, .inl (cI, 60, .inl ro))]) [6, 7] rfl) hK⟩ rfl rfl hl.1 rfl (lv_room (Nat.le_of_ble_eq_true rfl)) dX0_readText_22 ⟨Nat.zero_le _, Nat.zero_le _⟩) ?_
    refine lv_bipush (v := 116) hx hb dX0_readText_25 (by decide) ?_
    refine lv_icmp_eq (tgt := 32) hx hb dX0_readText_27 (by decide) (fun c_27 => ?_) (fun c_27 => ?_)
    · have hge : 1 ≤ nn := Nat.not_lt.mp (fun q => c_17 (nI_lt (b := 1) q (by decide)))
      refine lv_iconst (v := 1) hx hb dX0_readText_32 (by decide) ?_
      refine lv_istore (lv' := [(4, .int 1), (0, .ref b0), (1, .ref s0), (2, .int v2), (3, .int (nI nn))]) hx hb dX0_readText_33 hl (by decide) rfl (fun ls hl => ?_)
      refine tw_cutW (pc0 := 100) (σ := Nat × (Nat → Int32) × Nat) (fun z ls H locs => z.2.2 ≤ 6 ∧ z.1 ≤ nn ∧ (m_X0_readText ac kd ho pl st ro sz v2 nn) = m_X0_readText_X100 kd ho pl st ro sz v2 nn z.1 z.2.1 z.2.2 ∧ va_P D vwCl [(b0, .inr (0, [.ref b1, .ref b2, .ref b3, .ref b4, .ref b5, .int (nI z.2.2), .int (nI 0), .int 0])), (b1, .inl (cI, 6, .inl z.2.1)), (b2, .inl (cI, 6, .inl kd)), (b3, .inl (cI, 6, .inl ho)), (b4, .inl (cI, 6, .inl pl)), (b5, .inl (cI, 6, .inl st)), (s0, .inr (1, [.ref s1, .int la, .int sz])), (s1, .inl (cI, 60, .inl ro))] H ∧ va_D A [(b0, .inr (0, [.ref b1, .ref b2, .ref b3, .ref b4, .ref b5, .int (nI z.2.2), .int (nI 0), .int 0])), (b1, .inl (cI, 6, .inl z.2.1)), (b2, .inl (cI, 6, .inl kd)), (b3, .inl (cI, 6, .inl ho)), (b4, .inl (cI, 6, .inl pl)), (b5, .inl (cI, 6, .inl st)), (s0, .inr (1, [.ref s1, .int la, .int sz])), (s1, .inl (cI, 60, .inl ro))] ∧ va_S A s.heap H locs ∧ lv_has ls 6 [(4, .int (nI z.1)), (0, .ref b0), (1, .ref s0), (2, .int v2), (3, .int (nI nn))]) ?_ (fun K100 => ?_)
      · intro z ls H locs hI
        obtain ⟨u4_100, wac_100, wnc_100⟩ := z
        obtain ⟨hc6, hu100, hx100, hP, hD, hS, hl⟩ := hI
        have hc6 : wnc_100 ≤ 6 := hc6
        have hu100 : u4_100 ≤ nn := hu100
        have hx100 : (m_X0_readText ac kd ho pl st ro sz v2 nn) = m_X0_readText_X100 kd ho pl st ro sz v2 nn u4_100 wac_100 wnc_100 := hx100
        have hP : va_P D vwCl [(b0, .inr (0, [.ref b1, .ref b2, .ref b3, .ref b4, .ref b5, .int (nI wnc_100), .int (nI 0), .int 0])), (b1, .inl (cI, 6, .inl wac_100)), (b2, .inl (cI, 6, .inl kd)), (b3, .inl (cI, 6, .inl ho)), (b4, .inl (cI, 6, .inl pl)), (b5, .inl (cI, 6, .inl st)), (s0, .inr (1, [.ref s1, .int la, .int sz])), (s1, .inl (cI, 60, .inl ro))] H := hP
        have hD : va_D A [(b0, .inr (0, [.ref b1, .ref b2, .ref b3, .ref b4, .ref b5, .int (nI wnc_100), .int (nI 0), .int 0])), (b1, .inl (cI, 6, .inl wac_100)), (b2, .inl (cI, 6, .inl kd)), (b3, .inl (cI, 6, .inl ho)), (b4, .inl (cI, 6, .inl pl)), (b5, .inl (cI, 6, .inl st)), (s0, .inr (1, [.ref s1, .int la, .int sz])), (s1, .inl (cI, 60, .inl ro))] := hD
        have hl : lv_has ls 6 [(4, .int (nI u4_100)), (0, .ref b0), (1, .ref s0), (2, .int v2), (3, .int (nI nn))] := hl
        refine lv_aload_n hx hb dX0_readText_100 rfl (lv_at hl 1 rfl) ?_
        refine va_get (ci := 0) (v := .int (nI wnc_100)) (C := RX0) (T := TX0) (N := 8) hx hb hts hin_X0 hown hK hP 0 rfl rfl 5 (by decide) fl_33 (fun _ h9 => h9) rfl dX0_readText_101 ?_
        refine lv_iconst (v := 2) hx hb dX0_readText_104 (by decide) ?_
        refine lv_icmp_ge (tgt := 111) hx hb dX0_readText_105 (by decide) (fun c_105 => ?_) (fun c_105 => ?_)
        · refine tw_loopW (σ := Nat × (Nat → Int32) × (Nat → Int32) × (Nat → Int32) × (Nat → Int32) × Nat) (fun k i z ls H locs => z.2.2.2.2.2 + k = 7 ∧ z.2.2.2.2.2 ≤ 6 ∧ z.1 ≤ 65 ∧ (m_X0_readText ac kd ho pl st ro sz v2 nn) = m_X0_readText_L111 ro sz v2 nn wac_100 wnc_100 k z.1 z.2.1 z.2.2.1 z.2.2.2.1 z.2.2.2.2.1 z.2.2.2.2.2 ∧ va_P D vwCl [(b0, .inr (0, [.ref b1, .ref b2, .ref b3, .ref b4, .ref b5, .int (nI wnc_100), .int (nI z.2.2.2.2.2), .int 0])), (b1, .inl (cI, 6, .inl wac_100)), (b2, .inl (cI, 6, .inl z.2.1)), (b3, .inl (cI, 6, .inl z.2.2.1)), (b4, .inl (cI, 6, .inl z.2.2.2.1)), (b5, .inl (cI, 6, .inl z.2.2.2.2.1)), (s0, .inr (1, [.ref s1, .int la, .int sz])), (s1, .inl (cI, 60, .inl ro))] H ∧ va_D A [(b0, .inr (0, [.ref b1, .ref b2, .ref b3, .ref b4, .ref b5, .int (nI wnc_100), .int (nI z.2.2.2.2.2), .int 0])), (b1, .inl (cI, 6, .inl wac_100)), (b2, .inl (cI, 6, .inl z.2.1)), (b3, .inl (cI, 6, .inl z.2.2.1)), (b4, .inl (cI, 6, .inl z.2.2.2.1)), (b5, .inl (cI, 6, .inl z.2.2.2.2.1)), (s0, .inr (1, [.ref s1, .int la, .int sz])), (s1, .inl (cI, 60, .inl ro))] ∧ va_S A s.heap H locs ∧ lv_has ls 6 [(4, .int (nI z.1)), (0, .ref b0), (1, .ref s0), (2, .int v2), (3, .int (nI nn))]) 7 0 (u4_100, kd, ho, pl, st, 0) ⟨(show 0 + 7 = 7 from rfl), (show 0 ≤ 6 from (by decide)), (show u4_100 ≤ 65 from (by omega)), (by (rw [hx100]; unfold m_X0_readText_X100; rw [if_pos c_105]) <;> rfl), hP, hD, hS, lv_sub hl [0, 1, 2, 3, 4] rfl⟩ ?_ ?_
          · intro i111 z ls H locs hI
            obtain ⟨u4_111, wkd_111, who_111, wpl_111, wst_111, wnt_111⟩ := z
            obtain ⟨hf, hn6, hu65, hm111, hP, hD, hS, hl⟩ := hI
            have hm111 : (m_X0_readText ac kd ho pl st ro sz v2 nn) = m_X0_readText_L111 ro sz v2 nn wac_100 wnc_100 0 u4_111 wkd_111 who_111 wpl_111 wst_111 wnt_111 := hm111
            have hf : wnt_111 + 0 = 7 := hf
            have hn6 : wnt_111 ≤ 6 := hn6
            have hu65 : u4_111 ≤ 65 := hu65
            have hP : va_P D vwCl [(b0, .inr (0, [.ref b1, .ref b2, .ref b3, .ref b4, .ref b5, .int (nI wnc_100), .int (nI wnt_111), .int 0])), (b1, .inl (cI, 6, .inl wac_100)), (b2, .inl (cI, 6, .inl wkd_111)), (b3, .inl (cI, 6, .inl who_111)), (b4, .inl (cI, 6, .inl wpl_111)), (b5, .inl (cI, 6, .inl wst_111)), (s0, .inr (1, [.ref s1, .int la, .int sz])), (s1, .inl (cI, 60, .inl ro))] H := hP
            have hD : va_D A [(b0, .inr (0, [.ref b1, .ref b2, .ref b3, .ref b4, .ref b5, .int (nI wnc_100), .int (nI wnt_111), .int 0])), (b1, .inl (cI, 6, .inl wac_100)), (b2, .inl (cI, 6, .inl wkd_111)), (b3, .inl (cI, 6, .inl who_111)), (b4, .inl (cI, 6, .inl wpl_111)), (b5, .inl (cI, 6, .inl wst_111)), (s0, .inr (1, [.ref s1, .int la, .int sz])), (s1, .inl (cI, 60, .inl ro))] := hD
            have hl : lv_has ls 6 [(4, .int (nI u4_111)), (0, .ref b0), (1, .ref s0), (2, .int v2), (3, .int (nI nn))] := hl
            exact absurd hf (by omega)
          · intro k111 i111 z ls H locs ih111 hI
            obtain ⟨u4_111, wkd_111, who_111, wpl_111, wst_111, wnt_111⟩ := z
            obtain ⟨hf, hn6, hu65, hm111, hP, hD, hS, hl⟩ := hI
            have hm111 : (m_X0_readText ac kd ho pl st ro sz v2 nn) = m_X0_readText_L111 ro sz v2 nn wac_100 wnc_100 (k111 + 1) u4_111 wkd_111 who_111 wpl_111 wst_111 wnt_111 := hm111
            have hf : wnt_111 + (k111 + 1) = 7 := hf
            have hn6 : wnt_111 ≤ 6 := hn6
            have hu65 : u4_111 ≤ 65 := hu65
            have hP : va_P D vwCl [(b0, .inr (0, [.ref b1, .ref b2, .ref b3, .ref b4, .ref b5, .int (nI wnc_100), .int (nI wnt_111), .int 0])), (b1, .inl (cI, 6, .inl wac_100)), (b2, .inl (cI, 6, .inl wkd_111)), (b3, .inl (cI, 6, .inl who_111)), (b4, .inl (cI, 6, .inl wpl_111)), (b5, .inl (cI, 6, .inl wst_111)), (s0, .inr (1, [.ref s1, .int la, .int sz])), (s1, .inl (cI, 60, .inl ro))] H := hP
            have hD : va_D A [(b0, .inr (0, [.ref b1, .ref b2, .ref b3, .ref b4, .ref b5, .int (nI wnc_100), .int (nI wnt_111), .int 0])), (b1, .inl (cI, 6, .inl wac_100)), (b2, .inl (cI, 6, .inl wkd_111)), (b3, .inl (cI, 6, .inl who_111)), (b4, .inl (cI, 6, .inl wpl_111)), (b5, .inl (cI, 6, .inl wst_111)), (s0, .inr (1, [.ref s1, .int la, .int sz])), (s1, .inl (cI, 60, .inl ro))] := hD
            have hl : lv_has ls 6 [(4, .int (nI u4_111)), (0, .ref b0), (1, .ref s0), (2, .int v2), (3, .int (nI nn))] := hl
            refine lv_iload hx hb dX0_readText_111 (lv_at hl 0 rfl) ?_
            refine lv_iload_n hx hb dX0_readText_113 rfl (lv_at hl 4 rfl) ?_
            refine lv_icmp_ge (tgt := 195) hx hb dX0_readText_114 (by decide) (fun c_114 => ?_) (fun c_114 => ?_)
            · refine lv_aload_n hx hb dX0_readText_195 rfl (lv_at hl 1 rfl) ?_
              refine va_get (ci := 0) (v := .int (nI wnt_111)) (C := RX0) (T := TX0) (N := 8) hx hb hts hin_X0 hown hK hP 0 rfl rfl 6 (by decide) fl_37 (fun _ h9 => h9) rfl dX0_readText_196 ?_
              refine tw_join (fun (y : Int32) => F0 m 208 ls (.int y :: [])) (if (nI wnt_111) ≤ 0 then nI nn else (-9)) ?_ (fun J208_0 => ?_)
              · intro y208 hy208
                have hE : (m_X0_readText ac kd ho pl st ro sz v2 nn) = (y208, wac_100, wkd_111, who_111, wpl_111, wst_111, wnc_100, wnt_111, 0) := Eq.symm (by (rw [hm111, m_X0_readText_L111_s]; rw [if_pos c_114]; (try rw [← hy208])) <;> rfl)
                rw [hE]
                exact W.iret hx hb hr (fun t ht hW => ⟨⟨_, (), rfl, rfl, by rw [ht]; exact hP, va_K.moved hW.alike hK, hD⟩, hS.F ht⟩) hS.2.2 dX0_readText_208
              · refine lv_if_le (tgt := 207) hx hb dX0_readText_199 (by decide) (fun c_199 => ?_) (fun c_199 => ?_)
                · refine lv_iload_n hx hb dX0_readText_207 rfl (lv_at hl 4 rfl) ?_
                  exact J208_0 _ (by (rw [if_pos c_199]) <;> rfl)
                · refine lv_bipush (v := (-9)) hx hb dX0_readText_202 (by decide) ?_
                  refine lv_goto (tgt := 208) hx hb dX0_readText_204 (by decide) ?_
                  exact J208_0 _ (by (rw [if_neg c_199]) <;> rfl)
            · have hu : u4_111 < nn := Nat.lt_of_not_le (fun q => c_114 (nI_le q (by omega)))
              refine lv_aload_n hx hb dX0_readText_117 rfl (lv_at hl 1 rfl) ?_
              refine va_get (ci := 0) (v := .int (nI wnt_111)) (C := RX0) (T := TX0) (N := 8) hx hb hts hin_X0 hown hK hP 0 rfl rfl 6 (by decide) fl_37 (fun _ h9 => h9) rfl dX0_readText_118 ?_
              refine lv_bipush (v := 6) hx hb dX0_readText_121 (by decide) ?_
              refine lv_icmp_eq (tgt := 139) hx hb dX0_readText_123 (by decide) (fun c_123 => ?_) (fun c_123 => ?_)
              · refine lv_iload hx hb dX0_readText_139 (lv_at hl 0 rfl) ?_
                have hE : (m_X0_readText ac kd ho pl st ro sz v2 nn) = (nI u4_111, wac_100, wkd_111, who_111, wpl_111, wst_111, wnc_100, wnt_111, 0) := Eq.symm (by (rw [hm111, m_X0_readText_L111_s]; rw [if_neg c_114]; rw [if_pos c_123]) <;> rfl)
                rw [hE]
                exact W.iret hx hb hr (fun t ht hW => ⟨⟨_, (), rfl, rfl, by rw [ht]; exact hP, va_K.moved hW.alike hK, hD⟩, hS.F ht⟩) hS.2.2 dX0_readText_141
              · have hne : wnt_111 ≠ 6 := fun q => c_123 (by rw [q]; rfl)
                refine lv_aload_n hx hb dX0_readText_126 rfl (lv_at hl 2 rfl) ?_
                refine lv_iload_n hx hb dX0_readText_127 rfl (lv_at hl 3 rfl) ?_
                refine lv_iload hx hb dX0_readText_128 (lv_at hl 0 rfl) ?_
                refine lv_iadd hx hb dX0_readText_130 ?_
                refine tw_cs (va_runV (As := [.int (v2 + (nI u4_111))]) (rest := []) ⟨hx, hb, hml, hown, hts⟩ (c_X1_at l D cI cS s0 s1 ro la sz (v2 + (nI u4_111)) (by first | assumption | omega | exact hz60 _ | exact vp_in_nI (by omega) (by decide))) (cwV 1 hts gX0_readText_X1_at rfl rfl rfl (by decide +kernel) ⟨Nat.le_of_ble_eq_true rfl, Nat.le_of_ble_eq_true rfl⟩) ⟨tw_Rb, va_recv hK hP (ci := 1) (q0 := 6) rfl rfl, tw_Rp (hP.sub (ws' := [(s0, .inr (1, [.ref s1, .int la, .int sz])), (s1, .inl (cI, 60, .inl ro))]) [6, 7] rfl) hK⟩ rfl rfl hl.1 rfl (lv_room (Nat.le_of_ble_eq_true rfl)) dX0_readText_131 ⟨Nat.zero_le _, Nat.zero_le _⟩) ?_
                refine lv_bipush (v := 59) hx hb dX0_readText_134 (by decide) ?_
                refine lv_icmp_eq (tgt := 142) hx hb dX0_readText_136 (by decide) (fun c_136 => ?_) (fun c_136 => ?_)
                · refine lv_aload_n hx hb dX0_readText_142 rfl (lv_at hl 1 rfl) ?_
                  refine lv_aload_n hx hb dX0_readText_143 rfl (lv_at hl 2 rfl) ?_
                  refine lv_iload_n hx hb dX0_readText_144 rfl (lv_at hl 3 rfl) ?_
                  refine lv_iload hx hb dX0_readText_145 (lv_at hl 0 rfl) ?_
                  refine lv_iadd hx hb dX0_readText_147 ?_
                  refine lv_iconst (v := 1) hx hb dX0_readText_148 (by decide) ?_
                  refine lv_iadd hx hb dX0_readText_149 ?_
                  refine lv_iconst (v := 4) hx hb dX0_readText_150 (by decide) ?_
                  refine lv_iload_n hx hb dX0_readText_151 rfl (lv_at hl 4 rfl) ?_
                  refine lv_iload hx hb dX0_readText_152 (lv_at hl 0 rfl) ?_
                  refine lv_isub hx hb dX0_readText_154 ?_
                  refine lv_iconst (v := 1) hx hb dX0_readText_155 (by decide) ?_
                  refine lv_isub hx hb dX0_readText_156 ?_
                  refine va_mmin hx hb (hml.trans hl.1.symm) hown mlk_min mst_min min_min mcd_min (Nat.le_of_ble_eq_true rfl) (Nat.le_of_ble_eq_true rfl) (Nat.zero_le _) (Nat.zero_le _) dX0_readText_157 ?_
                  refine tw_top (show _ = nI (min 4 (nn - u4_111 - 1)) from tw_min4 hu hnn) ?_
                  refine tw_wi (v := (m_X0_readThing wkd_111 who_111 wpl_111 wst_111 wnc_100 wnt_111 ro sz ((v2 + (nI u4_111)) + 1) (min 4 (nn - u4_111 - 1))).1) (ws := [(b0, .inr (0, [.ref b1, .ref b2, .ref b3, .ref b4, .ref b5, .int (nI wnc_100), .int (nI wnt_111), .int 0])), (b1, .inl (cI, 6, .inl wac_100)), (b2, .inl (cI, 6, .inl wkd_111)), (b3, .inl (cI, 6, .inl who_111)), (b4, .inl (cI, 6, .inl wpl_111)), (b5, .inl (cI, 6, .inl wst_111)), (s0, .inr (1, [.ref s1, .int la, .int sz])), (s1, .inl (cI, 60, .inl ro))]) (wc := [(b0, .inr (0, [.ref b1, .ref b2, .ref b3, .ref b4, .ref b5, .int (nI wnc_100), .int (nI wnt_111), .int 0])), (b1, .inl (cI, 6, .inl wac_100)), (b2, .inl (cI, 6, .inl wkd_111)), (b3, .inl (cI, 6, .inl who_111)), (b4, .inl (cI, 6, .inl wpl_111)), (b5, .inl (cI, 6, .inl wst_111)), (s0, .inr (1, [.ref s1, .int la, .int sz])), (s1, .inl (cI, 60, .inl ro))]) (wr := []) (w1 := [(b0, .inr (0, [.ref b1, .ref b2, .ref b3, .ref b4, .ref b5, .int (nI wnc_100), .int (nI wnt_111), .int 0])), (b1, .inl (cI, 6, .inl wac_100)), (b2, .inl (cI, 6, .inl ((m_X0_readThing wkd_111 who_111 wpl_111 wst_111 wnc_100 wnt_111 ro sz ((v2 + (nI u4_111)) + 1) (min 4 (nn - u4_111 - 1))).2.1))), (b3, .inl (cI, 6, .inl ((m_X0_readThing wkd_111 who_111 wpl_111 wst_111 wnc_100 wnt_111 ro sz ((v2 + (nI u4_111)) + 1) (min 4 (nn - u4_111 - 1))).2.2.1))), (b4, .inl (cI, 6, .inl ((m_X0_readThing wkd_111 who_111 wpl_111 wst_111 wnc_100 wnt_111 ro sz ((v2 + (nI u4_111)) + 1) (min 4 (nn - u4_111 - 1))).2.2.2.1))), (b5, .inl (cI, 6, .inl ((m_X0_readThing wkd_111 who_111 wpl_111 wst_111 wnc_100 wnt_111 ro sz ((v2 + (nI u4_111)) + 1) (min 4 (nn - u4_111 - 1))).2.2.2.2))), (s0, .inr (1, [.ref s1, .int la, .int sz])), (s1, .inl (cI, 60, .inl ro))]) (ws' := [(b0, .inr (0, [.ref b1, .ref b2, .ref b3, .ref b4, .ref b5, .int (nI wnc_100), .int (nI wnt_111), .int 0])), (b1, .inl (cI, 6, .inl wac_100)), (b2, .inl (cI, 6, .inl ((m_X0_readThing wkd_111 who_111 wpl_111 wst_111 wnc_100 wnt_111 ro sz ((v2 + (nI u4_111)) + 1) (min 4 (nn - u4_111 - 1))).2.1))), (b3, .inl (cI, 6, .inl ((m_X0_readThing wkd_111 who_111 wpl_111 wst_111 wnc_100 wnt_111 ro sz ((v2 + (nI u4_111)) + 1) (min 4 (nn - u4_111 - 1))).2.2.1))), (b4, .inl (cI, 6, .inl ((m_X0_readThing wkd_111 who_111 wpl_111 wst_111 wnc_100 wnt_111 ro sz ((v2 + (nI u4_111)) + 1) (min 4 (nn - u4_111 - 1))).2.2.2.1))), (b5, .inl (cI, 6, .inl ((m_X0_readThing wkd_111 who_111 wpl_111 wst_111 wnc_100 wnt_111 ro sz ((v2 + (nI u4_111)) + 1) (min 4 (nn - u4_111 - 1))).2.2.2.2))), (s0, .inr (1, [.ref s1, .int la, .int sz])), (s1, .inl (cI, 60, .inl ro))]) (va_runV (As := [.ref s0, .int ((v2 + (nI u4_111)) + 1), .int (nI (min 4 (nn - u4_111 - 1)))]) (rest := []) ⟨hx, hb, hml, hown, hts⟩ (c_X0_readThing l D cI cS b0 b1 b2 b3 b4 b5 s0 s1 _ wac_100 wkd_111 who_111 wpl_111 wst_111 wnc_100 wnt_111 0 ro la sz ((v2 + (nI u4_111)) + 1) (min 4 (nn - u4_111 - 1)) (by first | assumption | omega | exact hz60 _ | exact vp_in_nI (by omega) (by decide)) (by first | assumption | omega | exact hz60 _ | exact vp_in_nI (by omega) (by decide)) (by first | assumption | omega | exact hz60 _ | exact vp_in_nI (by omega) (by decide))) (cwV 3 hts gX0_readText_X0_readThing rfl rfl rfl (by decide +kernel) ⟨Nat.le_of_ble_eq_true rfl, Nat.le_of_ble_eq_true rfl⟩) ⟨tw_Wb, va_recv hK hP (ci := 0) (q0 := 0) rfl rfl, tw_Wp (hP.sub (ws' := [(b0, .inr (0, [.ref b1, .ref b2, .ref b3, .ref b4, .ref b5, .int (nI wnc_100), .int (nI wnt_111), .int 0])), (b1, .inl (cI, 6, .inl wac_100)), (b2, .inl (cI, 6, .inl wkd_111)), (b3, .inl (cI, 6, .inl who_111)), (b4, .inl (cI, 6, .inl wpl_111)), (b5, .inl (cI, 6, .inl wst_111)), (s0, .inr (1, [.ref s1, .int la, .int sz])), (s1, .inl (cI, 60, .inl ro))]) [0, 1, 2, 3, 4, 5, 6, 7] rfl) hK (hD.sub (ws' := [(b0, .inr (0, [.ref b1, .ref b2, .ref b3, .ref b4, .ref b5, .int (nI wnc_100), .int (nI wnt_111), .int 0])), (b1, .inl (cI, 6, .inl wac_100)), (b2, .inl (cI, 6, .inl wkd_111)), (b3, .inl (cI, 6, .inl who_111)), (b4, .inl (cI, 6, .inl wpl_111)), (b5, .inl (cI, 6, .inl wst_111)), (s0, .inr (1, [.ref s1, .int la, .int sz])), (s1, .inl (cI, 60, .inl ro))]) [0, 1, 2, 3, 4, 5, 6, 7] (by decide) rfl)⟩ rfl rfl hl.1 rfl (lv_room (Nat.le_of_ble_eq_true rfl)) dX0_readText_160 ⟨Nat.zero_le _, Nat.zero_le _⟩) hP hD hS hA [0, 1, 2, 3, 4, 5, 6, 7] [] [0, 1, 2, 3, 4, 5, 6, 7] rfl rfl (by decide) (by decide) rfl (by decide) (fun H locs hP hD hS => ?_)
                  refine lv_topi (fun x5 ex5 => ?_)
                  refine lv_istore (lv' := [(5, .int x5), (4, .int (nI u4_111)), (0, .ref b0), (1, .ref s0), (2, .int v2), (3, .int (nI nn))]) hx hb dX0_readText_163 hl (by decide) rfl (fun ls hl => ?_)
                  refine lv_iload hx hb dX0_readText_165 (lv_at hl 0 rfl) ?_
                  refine lv_iconst (v := 4) hx hb dX0_readText_167 (by decide) ?_
                  refine lv_icmp_ge (tgt := 179) hx hb dX0_readText_168 (by decide) (fun c_168 => ?_) (fun c_168 => ?_)
                  · refine lv_aload_n hx hb dX0_readText_179 rfl (lv_at hl 2 rfl) ?_
                    refine lv_dup hx hb dX0_readText_180 rfl ?_
                    refine va_get (ci := 0) (v := .int (nI wnt_111)) (C := RX0) (T := TX0) (N := 8) hx hb hts hin_X0 hown hK hP 0 rfl rfl 6 (by decide) fl_37 (fun _ h9 => h9) rfl dX0_readText_181 ?_
                    refine lv_iconst (v := 1) hx hb dX0_readText_184 (by decide) ?_
                    refine lv_iadd hx hb dX0_readText_185 ?_
                    refine tw_top (nI_1 wnt_111) ?_
                    refine va_put (ci := 0) (v := .int (nI (wnt_111 + 1))) (ty := .int) (C := RX0) (T := TX0) (N := 8) hx hb hts hin_X0 tyX0 tyX0_ok nmX0 hown hK hP hD hS 0 rfl rfl 6 (by decide) fl_37 (fun _ h9 => h9) rfl (by decide +kernel) rfl rfl (Nat.le_of_ble_eq_true rfl) dX0_readText_186 (fun H locs hP hD hS => ?_)
                    have hP : va_P D vwCl [(b0, .inr (0, [.ref b1, .ref b2, .ref b3, .ref b4, .ref b5, .int (nI wnc_100), .int (nI (wnt_111 + 1)), .int 0])), (b1, .inl (cI, 6, .inl wac_100)), (b2, .inl (cI, 6, .inl ((m_X0_readThing wkd_111 who_111 wpl_111 wst_111 wnc_100 wnt_111 ro sz ((v2 + (nI u4_111)) + 1) (min 4 (nn - u4_111 - 1))).2.1))), (b3, .inl (cI, 6, .inl ((m_X0_readThing wkd_111 who_111 wpl_111 wst_111 wnc_100 wnt_111 ro sz ((v2 + (nI u4_111)) + 1) (min 4 (nn - u4_111 - 1))).2.2.1))), (b4, .inl (cI, 6, .inl ((m_X0_readThing wkd_111 who_111 wpl_111 wst_111 wnc_100 wnt_111 ro sz ((v2 + (nI u4_111)) + 1) (min 4 (nn - u4_111 - 1))).2.2.2.1))), (b5, .inl (cI, 6, .inl ((m_X0_readThing wkd_111 who_111 wpl_111 wst_111 wnc_100 wnt_111 ro sz ((v2 + (nI u4_111)) + 1) (min 4 (nn - u4_111 - 1))).2.2.2.2))), (s0, .inr (1, [.ref s1, .int la, .int sz])), (s1, .inl (cI, 60, .inl ro))] H := hP
                    have hD : va_D A [(b0, .inr (0, [.ref b1, .ref b2, .ref b3, .ref b4, .ref b5, .int (nI wnc_100), .int (nI (wnt_111 + 1)), .int 0])), (b1, .inl (cI, 6, .inl wac_100)), (b2, .inl (cI, 6, .inl ((m_X0_readThing wkd_111 who_111 wpl_111 wst_111 wnc_100 wnt_111 ro sz ((v2 + (nI u4_111)) + 1) (min 4 (nn - u4_111 - 1))).2.1))), (b3, .inl (cI, 6, .inl ((m_X0_readThing wkd_111 who_111 wpl_111 wst_111 wnc_100 wnt_111 ro sz ((v2 + (nI u4_111)) + 1) (min 4 (nn - u4_111 - 1))).2.2.1))), (b4, .inl (cI, 6, .inl ((m_X0_readThing wkd_111 who_111 wpl_111 wst_111 wnc_100 wnt_111 ro sz ((v2 + (nI u4_111)) + 1) (min 4 (nn - u4_111 - 1))).2.2.2.1))), (b5, .inl (cI, 6, .inl ((m_X0_readThing wkd_111 who_111 wpl_111 wst_111 wnc_100 wnt_111 ro sz ((v2 + (nI u4_111)) + 1) (min 4 (nn - u4_111 - 1))).2.2.2.2))), (s0, .inr (1, [.ref s1, .int la, .int sz])), (s1, .inl (cI, 60, .inl ro))] := hD
                    refine lv_iinc (v := nI (u4_111 + 5)) (lv' := [(4, .int (nI (u4_111 + 5))), (5, .int x5), (0, .ref b0), (1, .ref s0), (2, .int v2), (3, .int (nI nn))]) hx hb dX0_readText_189 hl (k := 1) rfl (nI_add _ _) (by decide) rfl (fun ls hl => ?_)
                    refine lv_goto (tgt := 111) hx hb dX0_readText_192 (by decide) ?_
                    exact ih111 ((u4_111 + 5), (m_X0_readThing wkd_111 who_111 wpl_111 wst_111 wnc_100 wnt_111 ro sz ((v2 + (nI u4_111)) + 1) (min 4 (nn - u4_111 - 1))).2.1, (m_X0_readThing wkd_111 who_111 wpl_111 wst_111 wnc_100 wnt_111 ro sz ((v2 + (nI u4_111)) + 1) (min 4 (nn - u4_111 - 1))).2.2.1, (m_X0_readThing wkd_111 who_111 wpl_111 wst_111 wnc_100 wnt_111 ro sz ((v2 + (nI u4_111)) + 1) (min 4 (nn - u4_111 - 1))).2.2.2.1, (m_X0_readThing wkd_111 who_111 wpl_111 wst_111 wnc_100 wnt_111 ro sz ((v2 + (nI u4_111)) + 1) (min 4 (nn - u4_111 - 1))).2.2.2.2, (wnt_111 + 1)) ls H _ ⟨(show (wnt_111 + 1) + k111 = 7 from (by omega)), (show (wnt_111 + 1) ≤ 6 from (by omega)), (show (u4_111 + 5) ≤ 65 from (by omega)), (by (rw [hm111, m_X0_readText_L111_s]; rw [if_neg c_114]; rw [if_neg c_123]; rw [if_pos c_136]; (try rw [← ex5]); rw [if_pos c_168]) <;> rfl), hP, hD, hS, lv_sub hl [0, 2, 3, 4, 5] rfl⟩
                  · refine lv_iload hx hb dX0_readText_171 (lv_at hl 1 rfl) ?_
                    refine lv_iconst (v := 1) hx hb dX0_readText_173 (by decide) ?_
                    refine lv_iadd hx hb dX0_readText_174 ?_
                    refine lv_iload hx hb dX0_readText_175 (lv_at hl 0 rfl) ?_
                    refine lv_iadd hx hb dX0_readText_177 ?_
                    have hE : (m_X0_readText ac kd ho pl st ro sz v2 nn) = (((nI u4_111) + 1) + x5, wac_100, (m_X0_readThing wkd_111 who_111 wpl_111 wst_111 wnc_100 wnt_111 ro sz ((v2 + (nI u4_111)) + 1) (min 4 (nn - u4_111 - 1))).2.1, (m_X0_readThing wkd_111 who_111 wpl_111 wst_111 wnc_100 wnt_111 ro sz ((v2 + (nI u4_111)) + 1) (min 4 (nn - u4_111 - 1))).2.2.1, (m_X0_readThing wkd_111 who_111 wpl_111 wst_111 wnc_100 wnt_111 ro sz ((v2 + (nI u4_111)) + 1) (min 4 (nn - u4_111 - 1))).2.2.2.1, (m_X0_readThing wkd_111 who_111 wpl_111 wst_111 wnc_100 wnt_111 ro sz ((v2 + (nI u4_111)) + 1) (min 4 (nn - u4_111 - 1))).2.2.2.2, wnc_100, wnt_111, 0) := Eq.symm (by (rw [hm111, m_X0_readText_L111_s]; rw [if_neg c_114]; rw [if_neg c_123]; rw [if_pos c_136]; (try rw [← ex5]); rw [if_neg c_168]) <;> rfl)
                    rw [hE]
                    exact W.iret hx hb hr (fun t ht hW => ⟨⟨_, (), rfl, rfl, by rw [ht]; exact hP, va_K.moved hW.alike hK, hD⟩, hS.F ht⟩) hS.2.2 dX0_readText_178
                · refine lv_iload hx hb dX0_readText_139 (lv_at hl 0 rfl) ?_
                  have hE : (m_X0_readText ac kd ho pl st ro sz v2 nn) = (nI u4_111, wac_100, wkd_111, who_111, wpl_111, wst_111, wnc_100, wnt_111, 0) := Eq.symm (by (rw [hm111, m_X0_readText_L111_s]; rw [if_neg c_114]; rw [if_neg c_123]; rw [if_neg c_136]) <;> rfl)
                  rw [hE]
                  exact W.iret hx hb hr (fun t ht hW => ⟨⟨_, (), rfl, rfl, by rw [ht]; exact hP, va_K.moved hW.alike hK, hD⟩, hS.F ht⟩) hS.2.2 dX0_readText_141
        · refine lv_iload hx hb dX0_readText_108 (lv_at hl 0 rfl) ?_
          have hE : (m_X0_readText ac kd ho pl st ro sz v2 nn) = (nI u4_100, wac_100, kd, ho, pl, st, wnc_100, 0, 0) := Eq.symm (by (rw [hx100]; unfold m_X0_readText_X100; rw [if_neg c_105]) <;> rfl)
          rw [hE]
          exact W.iret hx hb hr (fun t ht hW => ⟨⟨_, (), rfl, rfl, by rw [ht]; exact hP, va_K.moved hW.alike hK, hD⟩, hS.F ht⟩) hS.2.2 dX0_readText_110
      · refine tw_loopW (σ := (Nat → Int32) × Nat) (fun k i z ls H locs => i + k = nn ∧ z.2 ≤ 6 ∧ (m_X0_readText ac kd ho pl st ro sz v2 nn) = m_X0_readText_L35 kd ho pl st ro sz v2 nn k i z.1 z.2 ∧ va_P D vwCl [(b0, .inr (0, [.ref b1, .ref b2, .ref b3, .ref b4, .ref b5, .int (nI z.2), .int (nI 0), .int 0])), (b1, .inl (cI, 6, .inl z.1)), (b2, .inl (cI, 6, .inl kd)), (b3, .inl (cI, 6, .inl ho)), (b4, .inl (cI, 6, .inl pl)), (b5, .inl (cI, 6, .inl st)), (s0, .inr (1, [.ref s1, .int la, .int sz])), (s1, .inl (cI, 60, .inl ro))] H ∧ va_D A [(b0, .inr (0, [.ref b1, .ref b2, .ref b3, .ref b4, .ref b5, .int (nI z.2), .int (nI 0), .int 0])), (b1, .inl (cI, 6, .inl z.1)), (b2, .inl (cI, 6, .inl kd)), (b3, .inl (cI, 6, .inl ho)), (b4, .inl (cI, 6, .inl pl)), (b5, .inl (cI, 6, .inl st)), (s0, .inr (1, [.ref s1, .int la, .int sz])), (s1, .inl (cI, 60, .inl ro))] ∧ va_S A s.heap H locs ∧ lv_has ls 6 [(4, .int (nI i)), (0, .ref b0), (1, .ref s0), (2, .int v2), (3, .int (nI nn))]) (nn - 1) 1 (ac, 0) ⟨(by omega), (show 0 ≤ 6 from (by decide)), (by (unfold m_X0_readText; rw [if_neg c_17]; rw [if_pos c_27]) <;> rfl), hP, hD, hS, lv_sub hl [0, 1, 2, 3, 4] rfl⟩ ?_ ?_
        · intro i35 z ls H locs hI
          obtain ⟨wac_35, wnc_35⟩ := z
          obtain ⟨hk35, hnc, hm35, hP, hD, hS, hl⟩ := hI
          have hm35 : (m_X0_readText ac kd ho pl st ro sz v2 nn) = m_X0_readText_L35 kd ho pl st ro sz v2 nn 0 i35 wac_35 wnc_35 := hm35
          have hnc : wnc_35 ≤ 6 := hnc
          have hP : va_P D vwCl [(b0, .inr (0, [.ref b1, .ref b2, .ref b3, .ref b4, .ref b5, .int (nI wnc_35), .int (nI 0), .int 0])), (b1, .inl (cI, 6, .inl wac_35)), (b2, .inl (cI, 6, .inl kd)), (b3, .inl (cI, 6, .inl ho)), (b4, .inl (cI, 6, .inl pl)), (b5, .inl (cI, 6, .inl st)), (s0, .inr (1, [.ref s1, .int la, .int sz])), (s1, .inl (cI, 60, .inl ro))] H := hP
          have hD : va_D A [(b0, .inr (0, [.ref b1, .ref b2, .ref b3, .ref b4, .ref b5, .int (nI wnc_35), .int (nI 0), .int 0])), (b1, .inl (cI, 6, .inl wac_35)), (b2, .inl (cI, 6, .inl kd)), (b3, .inl (cI, 6, .inl ho)), (b4, .inl (cI, 6, .inl pl)), (b5, .inl (cI, 6, .inl st)), (s0, .inr (1, [.ref s1, .int la, .int sz])), (s1, .inl (cI, 60, .inl ro))] := hD
          have hl : lv_has ls 6 [(4, .int (nI i35)), (0, .ref b0), (1, .ref s0), (2, .int v2), (3, .int (nI nn))] := hl
          refine lv_iload hx hb dX0_readText_35 (lv_at hl 0 rfl) ?_
          refine lv_iload_n hx hb dX0_readText_37 rfl (lv_at hl 4 rfl) ?_
          refine lv_icmp_ge (tgt := 100) hx hb dX0_readText_38 (by decide) (fun c_38 => ?_) (fun c_38 => absurd (tw_tge rfl (show nn ≤ i35 by omega) (show i35 < 2 ^ 31 by omega)) c_38)
          exact K100 (i35, wac_35, wnc_35) ls H _ ⟨(show wnc_35 ≤ 6 from (by omega)), (show i35 ≤ nn from (by omega)), (by (rw [hm35, m_X0_readText_L35_0]) <;> rfl), hP, hD, hS, lv_sub hl [0, 1, 2, 3, 4] rfl⟩
        · intro k35 i35 z ls H locs ih35 hI
          obtain ⟨wac_35, wnc_35⟩ := z
          obtain ⟨hk35, hnc, hm35, hP, hD, hS, hl⟩ := hI
          have hm35 : (m_X0_readText ac kd ho pl st ro sz v2 nn) = m_X0_readText_L35 kd ho pl st ro sz v2 nn (k35 + 1) i35 wac_35 wnc_35 := hm35
          have hnc : wnc_35 ≤ 6 := hnc
          have hP : va_P D vwCl [(b0, .inr (0, [.ref b1, .ref b2, .ref b3, .ref b4, .ref b5, .int (nI wnc_35), .int (nI 0), .int 0])), (b1, .inl (cI, 6, .inl wac_35)), (b2, .inl (cI, 6, .inl kd)), (b3, .inl (cI, 6, .inl ho)), (b4, .inl (cI, 6, .inl pl)), (b5, .inl (cI, 6, .inl st)), (s0, .inr (1, [.ref s1, .int la, .int sz])), (s1, .inl (cI, 60, .inl ro))] H := hP
          have hD : va_D A [(b0, .inr (0, [.ref b1, .ref b2, .ref b3, .ref b4, .ref b5, .int (nI wnc_35), .int (nI 0), .int 0])), (b1, .inl (cI, 6, .inl wac_35)), (b2, .inl (cI, 6, .inl kd)), (b3, .inl (cI, 6, .inl ho)), (b4, .inl (cI, 6, .inl pl)), (b5, .inl (cI, 6, .inl st)), (s0, .inr (1, [.ref s1, .int la, .int sz])), (s1, .inl (cI, 60, .inl ro))] := hD
          have hl : lv_has ls 6 [(4, .int (nI i35)), (0, .ref b0), (1, .ref s0), (2, .int v2), (3, .int (nI nn))] := hl
          refine lv_iload hx hb dX0_readText_35 (lv_at hl 0 rfl) ?_
          refine lv_iload_n hx hb dX0_readText_37 rfl (lv_at hl 4 rfl) ?_
          refine lv_icmp_ge (tgt := 100) hx hb dX0_readText_38 (by decide) (fun c_38 => absurd c_38 (tw_tlt rfl (show i35 < nn by omega) (show nn < 2 ^ 31 by omega))) (fun c_38 => ?_)
          refine lv_aload_n hx hb dX0_readText_41 rfl (lv_at hl 1 rfl) ?_
          refine va_get (ci := 0) (v := .int (nI wnc_35)) (C := RX0) (T := TX0) (N := 8) hx hb hts hin_X0 hown hK hP 0 rfl rfl 5 (by decide) fl_33 (fun _ h9 => h9) rfl dX0_readText_42 ?_
          refine lv_bipush (v := 6) hx hb dX0_readText_45 (by decide) ?_
          refine lv_icmp_ge (tgt := 100) hx hb dX0_readText_47 (by decide) (fun c_47 => ?_) (fun c_47 => ?_)
          · exact K100 (i35, wac_35, wnc_35) ls H _ ⟨(show wnc_35 ≤ 6 from (by omega)), (show i35 ≤ nn from (by omega)), (by (rw [hm35, m_X0_readText_L35_s]; rw [if_pos c_47]) <;> rfl), hP, hD, hS, lv_sub hl [0, 1, 2, 3, 4] rfl⟩
          · have hlt : wnc_35 < 6 := Nat.lt_of_not_le (fun q => c_47 (nI_le (a := 6) q (by omega)))
            refine lv_aload_n hx hb dX0_readText_50 rfl (lv_at hl 2 rfl) ?_
            refine lv_iload_n hx hb dX0_readText_51 rfl (lv_at hl 3 rfl) ?_
            refine lv_iload hx hb dX0_readText_52 (lv_at hl 0 rfl) ?_
            refine lv_iadd hx hb dX0_readText_54 ?_
            refine tw_cs (va_runV (As := [.int (v2 + (nI i35))]) (rest := []) ⟨hx, hb, hml, hown, hts⟩ (c_X1_at l D cI cS s0 s1 ro la sz (v2 + (nI i35)) (by first | assumption | omega | exact hz60 _ | exact vp_in_nI (by omega) (by decide))) (cwV 1 hts gX0_readText_X1_at rfl rfl rfl (by decide +kernel) ⟨Nat.le_of_ble_eq_true rfl, Nat.le_of_ble_eq_true rfl⟩) ⟨tw_Rb, va_recv hK hP (ci := 1) (q0 := 6) rfl rfl, tw_Rp (hP.sub (ws' := [(s0, .inr (1, [.ref s1, .int la, .int sz])), (s1, .inl (cI, 60, .inl ro))]) [6, 7] rfl) hK⟩ rfl rfl hl.1 rfl (lv_room (Nat.le_of_ble_eq_true rfl)) dX0_readText_55 ⟨Nat.zero_le _, Nat.zero_le _⟩) ?_
            refine tw_cs (va_runS (As := [.int (m_X1_at ro sz (v2 + (nI i35)))]) (rest := []) ⟨hx, hb, hml, hown, hts⟩ (c_X0_isDigit l D cI cS (m_X1_at ro sz (v2 + (nI i35)))) (va_cwS 1 hts gX0_readText_X0_isDigit rfl rfl rfl (by decide +kernel) ⟨Nat.le_of_ble_eq_true rfl, Nat.le_of_ble_eq_true rfl⟩) ⟨tw_Rb, tw_Rp (hP.sub (ws' := []) [] rfl) hK⟩ rfl rfl hl.1 rfl (lv_room (Nat.le_of_ble_eq_true rfl)) dX0_readText_58 ⟨Nat.zero_le _, Nat.zero_le _⟩) ?_
            refine lv_if_eq (tgt := 100) hx hb dX0_readText_61 (by decide) (fun c_61 => ?_) (fun c_61 => ?_)
            · exact K100 (i35, wac_35, wnc_35) ls H _ ⟨(show wnc_35 ≤ 6 from (by omega)), (show i35 ≤ nn from (by omega)), (by (rw [hm35, m_X0_readText_L35_s]; rw [if_neg c_47]; rw [if_pos c_61]) <;> rfl), hP, hD, hS, lv_sub hl [0, 1, 2, 3, 4] rfl⟩
            · refine lv_aload_n hx hb dX0_readText_64 rfl (lv_at hl 1 rfl) ?_
              refine va_get (ci := 0) (v := .ref b1) (C := RX0) (T := TX0) (N := 8) hx hb hts hin_X0 hown hK hP 0 rfl rfl 0 (by decide) fl_9 (fun _ h9 => h9) rfl dX0_readText_65 ?_
              refine lv_aload_n hx hb dX0_readText_68 rfl (lv_at hl 1 rfl) ?_
              refine va_get (ci := 0) (v := .int (nI wnc_35)) (C := RX0) (T := TX0) (N := 8) hx hb hts hin_X0 hown hK hP 0 rfl rfl 5 (by decide) fl_33 (fun _ h9 => h9) rfl dX0_readText_69 ?_
              refine lv_aload_n hx hb dX0_readText_72 rfl (lv_at hl 2 rfl) ?_
              refine lv_iload_n hx hb dX0_readText_73 rfl (lv_at hl 3 rfl) ?_
              refine lv_iload hx hb dX0_readText_74 (lv_at hl 0 rfl) ?_
              refine lv_iadd hx hb dX0_readText_76 ?_
              refine tw_cs (va_runV (As := [.int (v2 + (nI i35))]) (rest := [.int (nI wnc_35), .ref b1]) ⟨hx, hb, hml, hown, hts⟩ (c_X1_at l D cI cS s0 s1 ro la sz (v2 + (nI i35)) (by first | assumption | omega | exact hz60 _ | exact vp_in_nI (by omega) (by decide))) (cwV 1 hts gX0_readText_X1_at rfl rfl rfl (by decide +kernel) ⟨Nat.le_of_ble_eq_true rfl, Nat.le_of_ble_eq_true rfl⟩) ⟨tw_Rb, va_recv hK hP (ci := 1) (q0 := 6) rfl rfl, tw_Rp (hP.sub (ws' := [(s0, .inr (1, [.ref s1, .int la, .int sz])), (s1, .inl (cI, 60, .inl ro))]) [6, 7] rfl) hK⟩ rfl rfl hl.1 rfl (lv_room (Nat.le_of_ble_eq_true rfl)) dX0_readText_77 ⟨Nat.zero_le _, Nat.zero_le _⟩) ?_
              refine lv_bipush (v := 48) hx hb dX0_readText_80 (by decide) ?_
              refine lv_isub hx hb dX0_readText_82 ?_
              refine va_iast hx hb hK hP hD hS 1 0 rfl rfl (vp_in_nI (show wnc_35 < 6 by omega) (by decide)) dX0_readText_83 (fun H locs hP hD hS => ?_)
              rw [nI_clamp (show wnc_35 < 2 ^ 31 by omega)] at hP hD
              have hP : va_P D vwCl [(b0, .inr (0, [.ref b1, .ref b2, .ref b3, .ref b4, .ref b5, .int (nI wnc_35), .int (nI 0), .int 0])), (b1, .inl (cI, 6, .inl (upd wac_35 wnc_35 ((m_X1_at ro sz (v2 + (nI i35))) - 48)))), (b2, .inl (cI, 6, .inl kd)), (b3, .inl (cI, 6, .inl ho)), (b4, .inl (cI, 6, .inl pl)), (b5, .inl (cI, 6, .inl st)), (s0, .inr (1, [.ref s1, .int la, .int sz])), (s1, .inl (cI, 60, .inl ro))] H := hP
              have hD : va_D A [(b0, .inr (0, [.ref b1, .ref b2, .ref b3, .ref b4, .ref b5, .int (nI wnc_35), .int (nI 0), .int 0])), (b1, .inl (cI, 6, .inl (upd wac_35 wnc_35 ((m_X1_at ro sz (v2 + (nI i35))) - 48)))), (b2, .inl (cI, 6, .inl kd)), (b3, .inl (cI, 6, .inl ho)), (b4, .inl (cI, 6, .inl pl)), (b5, .inl (cI, 6, .inl st)), (s0, .inr (1, [.ref s1, .int la, .int sz])), (s1, .inl (cI, 60, .inl ro))] := hD
              refine lv_aload_n hx hb dX0_readText_84 rfl (lv_at hl 1 rfl) ?_
              refine lv_dup hx hb dX0_readText_85 rfl ?_
              refine va_get (ci := 0) (v := .int (nI wnc_35)) (C := RX0) (T := TX0) (N := 8) hx hb hts hin_X0 hown hK hP 0 rfl rfl 5 (by decide) fl_33 (fun _ h9 => h9) rfl dX0_readText_86 ?_
              refine lv_iconst (v := 1) hx hb dX0_readText_89 (by decide) ?_
              refine lv_iadd hx hb dX0_readText_90 ?_
              refine tw_top (nI_1 wnc_35) ?_
              refine va_put (ci := 0) (v := .int (nI (wnc_35 + 1))) (ty := .int) (C := RX0) (T := TX0) (N := 8) hx hb hts hin_X0 tyX0 tyX0_ok nmX0 hown hK hP hD hS 0 rfl rfl 5 (by decide) fl_33 (fun _ h9 => h9) rfl (by decide +kernel) rfl rfl (Nat.le_of_ble_eq_true rfl) dX0_readText_91 (fun H locs hP hD hS => ?_)
              have hP : va_P D vwCl [(b0, .inr (0, [.ref b1, .ref b2, .ref b3, .ref b4, .ref b5, .int (nI (wnc_35 + 1)), .int (nI 0), .int 0])), (b1, .inl (cI, 6, .inl (upd wac_35 wnc_35 ((m_X1_at ro sz (v2 + (nI i35))) - 48)))), (b2, .inl (cI, 6, .inl kd)), (b3, .inl (cI, 6, .inl ho)), (b4, .inl (cI, 6, .inl pl)), (b5, .inl (cI, 6, .inl st)), (s0, .inr (1, [.ref s1, .int la, .int sz])), (s1, .inl (cI, 60, .inl ro))] H := hP
              have hD : va_D A [(b0, .inr (0, [.ref b1, .ref b2, .ref b3, .ref b4, .ref b5, .int (nI (wnc_35 + 1)), .int (nI 0), .int 0])), (b1, .inl (cI, 6, .inl (upd wac_35 wnc_35 ((m_X1_at ro sz (v2 + (nI i35))) - 48)))), (b2, .inl (cI, 6, .inl kd)), (b3, .inl (cI, 6, .inl ho)), (b4, .inl (cI, 6, .inl pl)), (b5, .inl (cI, 6, .inl st)), (s0, .inr (1, [.ref s1, .int la, .int sz])), (s1, .inl (cI, 60, .inl ro))] := hD
              refine lv_iinc (v := nI (i35 + 1)) (lv' := [(4, .int (nI (i35 + 1))), (0, .ref b0), (1, .ref s0), (2, .int v2), (3, .int (nI nn))]) hx hb dX0_readText_94 hl (k := 0) rfl (nI_1 _) (by decide) rfl (fun ls hl => ?_)
              refine lv_goto (tgt := 35) hx hb dX0_readText_97 (by decide) ?_
              exact ih35 (upd wac_35 wnc_35 ((m_X1_at ro sz (v2 + (nI i35))) - 48), (wnc_35 + 1)) ls H _ ⟨by omega, (show (wnc_35 + 1) ≤ 6 from (by omega)), (by (rw [hm35, m_X0_readText_L35_s]; rw [if_neg c_47]; rw [if_neg c_61]) <;> rfl), hP, hD, hS, lv_sub hl [0, 1, 2, 3, 4] rfl⟩
    · refine lv_iconst (v := 0) hx hb dX0_readText_30 (by decide) ?_
      have hE : (m_X0_readText ac kd ho pl st ro sz v2 nn) = (0, ac, kd, ho, pl, st, 0, 0, 0) := Eq.symm (by (unfold m_X0_readText; rw [if_neg c_17]; rw [if_neg c_27]) <;> rfl)
      rw [hE]
      exact W.iret hx hb hr (fun t ht hW => ⟨⟨_, (), rfl, rfl, by rw [ht]; exact hP, va_K.moved hW.alike hK, hD⟩, hS.F ht⟩) hS.2.2 dX0_readText_31

def m_X0_playPairs_L3 (ho : Nat → Int32) (nc : Nat) (nt : Nat) (ro : Nat → Int32) (sz : Int32) (v2 : Int32) : Nat → Nat → (Nat → Int32) → Int32 → (Int32 × (Nat → Int32) × Int32)
  | 0, i3, wpl_3, wea_3 =>
    ((-9), wpl_3, wea_3)
  | k3 + 1, i3, wpl_3, wea_3 =>
    if (m_X1_at ro sz (v2 + (2 * (nI i3)))) < 0 then
      (nI i3, wpl_3, wea_3)
    else
      if (nI nt) ≤ (m_X1_at ro sz (v2 + (2 * (nI i3)))) then
        (nI i3, wpl_3, wea_3)
      else
        if (ho (m_X1_at ro sz (v2 + (2 * (nI i3)))).toNatClampNeg) = (nI (i3 % 2)) then
          if (m_X0_canDo wpl_3 nc wea_3 (m_X1_at ro sz (v2 + (2 * (nI i3)))) (m_X1_at ro sz ((v2 + (2 * (nI i3))) + 1))) = 0 then
            (nI i3, wpl_3, wea_3)
          else
            m_X0_playPairs_L3 ho nc nt ro sz v2 k3 (i3 + 1) ((m_X0_doAct wpl_3 wea_3 (m_X1_at ro sz (v2 + (2 * (nI i3)))) (m_X1_at ro sz ((v2 + (2 * (nI i3))) + 1))).1) ((m_X0_doAct wpl_3 wea_3 (m_X1_at ro sz (v2 + (2 * (nI i3)))) (m_X1_at ro sz ((v2 + (2 * (nI i3))) + 1))).2)
        else
          (nI i3, wpl_3, wea_3)
theorem m_X0_playPairs_L3_0 (ho : Nat → Int32) (nc : Nat) (nt : Nat) (ro : Nat → Int32) (sz : Int32) (v2 : Int32) (i3 : Nat) (wpl_3 : Nat → Int32) (wea_3 : Int32) : m_X0_playPairs_L3 ho nc nt ro sz v2 0 i3 wpl_3 wea_3 = 
    ((-9), wpl_3, wea_3) := rfl
theorem m_X0_playPairs_L3_s (ho : Nat → Int32) (nc : Nat) (nt : Nat) (ro : Nat → Int32) (sz : Int32) (v2 : Int32) (i3 : Nat) (wpl_3 : Nat → Int32) (wea_3 : Int32) (k3 : Nat) : m_X0_playPairs_L3 ho nc nt ro sz v2 (k3 + 1) i3 wpl_3 wea_3 = 
    if (m_X1_at ro sz (v2 + (2 * (nI i3)))) < 0 then
      (nI i3, wpl_3, wea_3)
    else
      if (nI nt) ≤ (m_X1_at ro sz (v2 + (2 * (nI i3)))) then
        (nI i3, wpl_3, wea_3)
      else
        if (ho (m_X1_at ro sz (v2 + (2 * (nI i3)))).toNatClampNeg) = (nI (i3 % 2)) then
          if (m_X0_canDo wpl_3 nc wea_3 (m_X1_at ro sz (v2 + (2 * (nI i3)))) (m_X1_at ro sz ((v2 + (2 * (nI i3))) + 1))) = 0 then
            (nI i3, wpl_3, wea_3)
          else
            m_X0_playPairs_L3 ho nc nt ro sz v2 k3 (i3 + 1) ((m_X0_doAct wpl_3 wea_3 (m_X1_at ro sz (v2 + (2 * (nI i3)))) (m_X1_at ro sz ((v2 + (2 * (nI i3))) + 1))).1) ((m_X0_doAct wpl_3 wea_3 (m_X1_at ro sz (v2 + (2 * (nI i3)))) (m_X1_at ro sz ((v2 + (2 * (nI i3))) + 1))).2)
        else
          (nI i3, wpl_3, wea_3) := rfl
def m_X0_playPairs (ho : Nat → Int32) (pl : Nat → Int32) (nc : Nat) (nt : Nat) (ea : Int32) (ro : Nat → Int32) (sz : Int32) (v2 : Int32) (nn : Nat) : Int32 × (Nat → Int32) × Int32 :=
  m_X0_playPairs_L3 ho nc nt ro sz v2 nn 0 pl ea
set_option maxHeartbeats 4000000 in
set_option maxRecDepth 100000 in
theorem c_X0_playPairs (l : Launch) (D : va_G) (cI cS : ClassId) (b0 : Nat) (b1 : Nat) (b2 : Nat) (b3 : Nat) (b4 : Nat) (b5 : Nat) (s0 : Nat) (s1 : Nat) (hz : Nat) (ac : Nat → Int32) (kd : Nat → Int32) (ho : Nat → Int32) (pl : Nat → Int32) (st : Nat → Int32) (nc : Nat) (nt : Nat) (ea : Int32) (ro : Nat → Int32) (la : Int32) (sz : Int32) (v2 : Int32) (nn : Nat) (hn : nt ≤ 6) (hz60 : sz.toInt ≤ 60) (hnn : nn ≤ 60) : Met l yX0_playPairs wsX0_playPairs ({ frames := 2, cells := 0, slots := 0, locals := 43 }) (tw_W D cI cS [.ref b0, .ref s0, .int v2, .int (nI nn)] hz [(b0, .inr (0, [.ref b1, .ref b2, .ref b3, .ref b4, .ref b5, .int (nI nc), .int (nI nt), .int ea])), (b1, .inl (cI, 6, .inl ac)), (b2, .inl (cI, 6, .inl kd)), (b3, .inl (cI, 6, .inl ho)), (b4, .inl (cI, 6, .inl pl)), (b5, .inl (cI, 6, .inl st)), (s0, .inr (1, [.ref s1, .int la, .int sz])), (s1, .inl (cI, 60, .inl ro))]) (va_Qi (fun r (_ : Unit) => r = (m_X0_playPairs ho pl nc nt ea ro sz v2 nn).1) (tw_B D cI cS (va_A [(b0, .inr (0, [.ref b1, .ref b2, .ref b3, .ref b4, .ref b5, .int (nI nc), .int (nI nt), .int ea])), (b1, .inl (cI, 6, .inl ac)), (b2, .inl (cI, 6, .inl kd)), (b3, .inl (cI, 6, .inl ho)), (b4, .inl (cI, 6, .inl pl)), (b5, .inl (cI, 6, .inl st)), (s0, .inr (1, [.ref s1, .int la, .int sz])), (s1, .inl (cI, 60, .inl ro))] hz) [(b0, .inr (0, [.ref b1, .ref b2, .ref b3, .ref b4, .ref b5, .int (nI nc), .int (nI nt), .int ((m_X0_playPairs ho pl nc nt ea ro sz v2 nn).2.2)])), (b1, .inl (cI, 6, .inl ac)), (b2, .inl (cI, 6, .inl kd)), (b3, .inl (cI, 6, .inl ho)), (b4, .inl (cI, 6, .inl ((m_X0_playPairs ho pl nc nt ea ro sz v2 nn).2.1))), (b5, .inl (cI, 6, .inl st)), (s0, .inr (1, [.ref s1, .int la, .int sz])), (s1, .inl (cI, 60, .inl ro))]) (va_A [(b0, .inr (0, [.ref b1, .ref b2, .ref b3, .ref b4, .ref b5, .int (nI nc), .int (nI nt), .int ea])), (b1, .inl (cI, 6, .inl ac)), (b2, .inl (cI, 6, .inl kd)), (b3, .inl (cI, 6, .inl ho)), (b4, .inl (cI, 6, .inl pl)), (b5, .inl (cI, 6, .inl st)), (s0, .inr (1, [.ref s1, .int la, .int sz])), (s1, .inl (cI, 60, .inl ro))] hz)) 0 0 (va_A [(b0, .inr (0, [.ref b1, .ref b2, .ref b3, .ref b4, .ref b5, .int (nI nc), .int (nI nt), .int ea])), (b1, .inl (cI, 6, .inl ac)), (b2, .inl (cI, 6, .inl kd)), (b3, .inl (cI, 6, .inl ho)), (b4, .inl (cI, 6, .inl pl)), (b5, .inl (cI, 6, .inl st)), (s0, .inr (1, [.ref s1, .int la, .int sz])), (s1, .inl (cI, 60, .inl ro))] hz) := by
  refine Met.ofW (cc := cX0_playPairs) (maxL := 7) (ret := (some .int)) (by decide) rfl ?_
  intro p e s m args below meth c s₁ B hml hv
  obtain ⟨rfl, hsz, hP, hK, hD0⟩ := hv
  have hx := B.exec
  have hb := B.bytes
  have hr := B.returns
  have hts := atoms_spec (ws := wsX0_playPairs) B.pre
  have hown : s.vm.findClass RX0 = some m.cls := findClass_of_methodNamed B.named
  have hlocks := B.notSynchronized
  subst hsz
  have hD := hD0.self (sz := s.heap.size)
  generalize hAe : va_A [(b0, .inr (0, [.ref b1, .ref b2, .ref b3, .ref b4, .ref b5, .int (nI nc), .int (nI nt), .int ea])), (b1, .inl (cI, 6, .inl ac)), (b2, .inl (cI, 6, .inl kd)), (b3, .inl (cI, 6, .inl ho)), (b4, .inl (cI, 6, .inl pl)), (b5, .inl (cI, 6, .inl st)), (s0, .inr (1, [.ref s1, .int la, .int sz])), (s1, .inl (cI, 60, .inl ro))] s.heap.size = A at hD ⊢
  have hA : ∀ q : Nat, s.heap.size ≤ q → A q := fun q h => by rw [← hAe]; exact Or.inr h
  have hS : va_S A s.heap s.heap [] := va_S.rf
  have fl_37 := hts (.fieldLink RX0 37 "TableWar$Cloth" "things" "I") (by decide +kernel)
  have hin_X0 := (show ∀ w ∈ u_ws RX0 TX0 8, w ∈ wsX0_playPairs from by decide +kernel)
  have fl_18 := hts (.fieldLink RX0 18 "TableWar$Cloth" "house" "[I") (by decide +kernel)
  have hl := lv_entry ([.ref b0, .ref s0, .int v2, .int (nI nn)]) (n := 7) (Nat.le_of_ble_eq_true rfl)
  rw [lg_entry_eq]
  generalize (lg_sl ([.ref b0, .ref s0, .int v2, .int (nI nn)]) ++ List.replicate (7 - (lg_sl ([.ref b0, .ref s0, .int v2, .int (nI nn)])).length) Slot.unset).toArray = ls at hl ⊢
  have hl : lv_has ls 7 [(0, .ref b0), (1, .ref s0), (2, .int v2), (3, .int (nI nn))] := hl
  refine lv_iconst (v := 0) hx hb dX0_playPairs_0 (by decide) ?_
  refine lv_istore (lv' := [(4, .int 0), (0, .ref b0), (1, .ref s0), (2, .int v2), (3, .int (nI nn))]) hx hb dX0_playPairs_1 hl (by decide) rfl (fun ls hl => ?_)
  refine tw_loopW (σ := (Nat → Int32) × Int32) (fun k i z ls H locs => i + k = nn ∧ (m_X0_playPairs ho pl nc nt ea ro sz v2 nn) = m_X0_playPairs_L3 ho nc nt ro sz v2 k i z.1 z.2 ∧ va_P D vwCl [(b0, .inr (0, [.ref b1, .ref b2, .ref b3, .ref b4, .ref b5, .int (nI nc), .int (nI nt), .int z.2])), (b1, .inl (cI, 6, .inl ac)), (b2, .inl (cI, 6, .inl kd)), (b3, .inl (cI, 6, .inl ho)), (b4, .inl (cI, 6, .inl z.1)), (b5, .inl (cI, 6, .inl st)), (s0, .inr (1, [.ref s1, .int la, .int sz])), (s1, .inl (cI, 60, .inl ro))] H ∧ va_D A [(b0, .inr (0, [.ref b1, .ref b2, .ref b3, .ref b4, .ref b5, .int (nI nc), .int (nI nt), .int z.2])), (b1, .inl (cI, 6, .inl ac)), (b2, .inl (cI, 6, .inl kd)), (b3, .inl (cI, 6, .inl ho)), (b4, .inl (cI, 6, .inl z.1)), (b5, .inl (cI, 6, .inl st)), (s0, .inr (1, [.ref s1, .int la, .int sz])), (s1, .inl (cI, 60, .inl ro))] ∧ va_S A s.heap H locs ∧ lv_has ls 7 [(4, .int (nI i)), (0, .ref b0), (1, .ref s0), (2, .int v2), (3, .int (nI nn))]) nn 0 (pl, ea) ⟨Nat.zero_add _, (by (unfold m_X0_playPairs) <;> rfl), hP, hD, hS, lv_sub hl [0, 1, 2, 3, 4] rfl⟩ ?_ ?_
  · intro i3 z ls H locs hI
    obtain ⟨wpl_3, wea_3⟩ := z
    obtain ⟨hk3, hm3, hP, hD, hS, hl⟩ := hI
    have hm3 : (m_X0_playPairs ho pl nc nt ea ro sz v2 nn) = m_X0_playPairs_L3 ho nc nt ro sz v2 0 i3 wpl_3 wea_3 := hm3
    have hP : va_P D vwCl [(b0, .inr (0, [.ref b1, .ref b2, .ref b3, .ref b4, .ref b5, .int (nI nc), .int (nI nt), .int wea_3])), (b1, .inl (cI, 6, .inl ac)), (b2, .inl (cI, 6, .inl kd)), (b3, .inl (cI, 6, .inl ho)), (b4, .inl (cI, 6, .inl wpl_3)), (b5, .inl (cI, 6, .inl st)), (s0, .inr (1, [.ref s1, .int la, .int sz])), (s1, .inl (cI, 60, .inl ro))] H := hP
    have hD : va_D A [(b0, .inr (0, [.ref b1, .ref b2, .ref b3, .ref b4, .ref b5, .int (nI nc), .int (nI nt), .int wea_3])), (b1, .inl (cI, 6, .inl ac)), (b2, .inl (cI, 6, .inl kd)), (b3, .inl (cI, 6, .inl ho)), (b4, .inl (cI, 6, .inl wpl_3)), (b5, .inl (cI, 6, .inl st)), (s0, .inr (1, [.ref s1, .int la, .int sz])), (s1, .inl (cI, 60, .inl ro))] := hD
    have hl : lv_has ls 7 [(4, .int (nI i3)), (0, .ref b0), (1, .ref s0), (2, .int v2), (3, .int (nI nn))] := hl
    refine lv_iload hx hb dX0_playPairs_3 (lv_at hl 0 rfl) ?_
    refine lv_iload_n hx hb dX0_playPairs_5 rfl (lv_at hl 4 rfl) ?_
    refine lv_icmp_ge (tgt := 91) hx hb dX0_playPairs_6 (by decide) (fun c_6 => ?_) (fun c_6 => absurd (tw_tge rfl (show nn ≤ i3 by omega) (show i3 < 2 ^ 31 by omega)) c_6)
    refine lv_bipush (v := (-9)) hx hb dX0_playPairs_91 (by decide) ?_
    have hE : (m_X0_playPairs ho pl nc nt ea ro sz v2 nn) = ((-9), wpl_3, wea_3) := Eq.symm (by (rw [hm3, m_X0_playPairs_L3_0]) <;> rfl)
    rw [hE]
    exact W.iret hx hb hr (fun t ht hW => ⟨⟨_, (), rfl, rfl, by rw [ht]; exact hP, va_K.moved hW.alike hK, hD⟩, hS.F ht⟩) hS.2.2 dX0_playPairs_93
  · intro k3 i3 z ls H locs ih3 hI
    obtain ⟨wpl_3, wea_3⟩ := z
    obtain ⟨hk3, hm3, hP, hD, hS, hl⟩ := hI
    have hm3 : (m_X0_playPairs ho pl nc nt ea ro sz v2 nn) = m_X0_playPairs_L3 ho nc nt ro sz v2 (k3 + 1) i3 wpl_3 wea_3 := hm3
    have hP : va_P D vwCl [(b0, .inr (0, [.ref b1, .ref b2, .ref b3, .ref b4, .ref b5, .int (nI nc), .int (nI nt), .int wea_3])), (b1, .inl (cI, 6, .inl ac)), (b2, .inl (cI, 6, .inl kd)), (b3, .inl (cI, 6, .inl ho)), (b4, .inl (cI, 6, .inl wpl_3)), (b5, .inl (cI, 6, .inl st)), (s0, .inr (1, [.ref s1, .int la, .int sz])), (s1, .inl (cI, 60, .inl ro))] H := hP
    have hD : va_D A [(b0, .inr (0, [.ref b1, .ref b2, .ref b3, .ref b4, .ref b5, .int (nI nc), .int (nI nt), .int wea_3])), (b1, .inl (cI, 6, .inl ac)), (b2, .inl (cI, 6, .inl kd)), (b3, .inl (cI, 6, .inl ho)), (b4, .inl (cI, 6, .inl wpl_3)), (b5, .inl (cI, 6, .inl st)), (s0, .inr (1, [.ref s1, .int la, .int sz])), (s1, .inl (cI, 60, .inl ro))] := hD
    have hl : lv_has ls 7 [(4, .int (nI i3)), (0, .ref b0), (1, .ref s0), (2, .int v2), (3, .int (nI nn))] := hl
    refine lv_iload hx hb dX0_playPairs_3 (lv_at hl 0 rfl) ?_
    refine lv_iload_n hx hb dX0_playPairs_5 rfl (lv_at hl 4 rfl) ?_
    refine lv_icmp_ge (tgt := 91) hx hb dX0_playPairs_6 (by decide) (fun c_6 => absurd c_6 (tw_tlt rfl (show i3 < nn by omega) (show nn < 2 ^ 31 by omega))) (fun c_6 => ?_)
    refine lv_aload_n hx hb dX0_playPairs_9 rfl (lv_at hl 2 rfl) ?_
    refine lv_iload_n hx hb dX0_playPairs_10 rfl (lv_at hl 3 rfl) ?_
    refine lv_iconst (v := 2) hx hb dX0_playPairs_11 (by decide) ?_
    refine lv_iload hx hb dX0_playPairs_12 (lv_at hl 0 rfl) ?_
    refine lv_imul hx hb dX0_playPairs_14 ?_
    refine lv_iadd hx hb dX0_playPairs_15 ?_
    refine tw_cs (va_runV (As := [.int (v2 + (2 * (nI i3)))]) (rest := []) ⟨hx, hb, hml, hown, hts⟩ (c_X1_at l D cI cS s0 s1 ro la sz (v2 + (2 * (nI i3))) (by first | assumption | omega | exact hz60 _ | exact vp_in_nI (by omega) (by decide))) (cwV 1 hts gX0_playPairs_X1_at rfl rfl rfl (by decide +kernel) ⟨Nat.le_of_ble_eq_true rfl, Nat.le_of_ble_eq_true rfl⟩) ⟨tw_Rb, va_recv hK hP (ci := 1) (q0 := 6) rfl rfl, tw_Rp (hP.sub (ws' := [(s0, .inr (1, [.ref s1, .int la, .int sz])), (s1, .inl (cI, 60, .inl ro))]) [6, 7] rfl) hK⟩ rfl rfl hl.1 rfl (lv_room (Nat.le_of_ble_eq_true rfl)) dX0_playPairs_16 ⟨Nat.zero_le _, Nat.zero_le _⟩) ?_
    refine lv_topi (fun x5 ex5 => ?_)
    refine lv_istore (lv' := [(5, .int x5), (4, .int (nI i3)), (0, .ref b0), (1, .ref s0), (2, .int v2), (3, .int (nI nn))]) hx hb dX0_playPairs_19 hl (by decide) rfl (fun ls hl => ?_)
    refine lv_aload_n hx hb dX0_playPairs_21 rfl (lv_at hl 3 rfl) ?_
    refine lv_iload_n hx hb dX0_playPairs_22 rfl (lv_at hl 4 rfl) ?_
    refine lv_iconst (v := 2) hx hb dX0_playPairs_23 (by decide) ?_
    refine lv_iload hx hb dX0_playPairs_24 (lv_at hl 1 rfl) ?_
    refine lv_imul hx hb dX0_playPairs_26 ?_
    refine lv_iadd hx hb dX0_playPairs_27 ?_
    refine lv_iconst (v := 1) hx hb dX0_playPairs_28 (by decide) ?_
    refine lv_iadd hx hb dX0_playPairs_29 ?_
    refine tw_cs (va_runV (As := [.int ((v2 + (2 * (nI i3))) + 1)]) (rest := []) ⟨hx, hb, hml, hown, hts⟩ (c_X1_at l D cI cS s0 s1 ro la sz ((v2 + (2 * (nI i3))) + 1) (by first | assumption | omega | exact hz60 _ | exact vp_in_nI (by omega) (by decide))) (cwV 1 hts gX0_playPairs_X1_at rfl rfl rfl (by decide +kernel) ⟨Nat.le_of_ble_eq_true rfl, Nat.le_of_ble_eq_true rfl⟩) ⟨tw_Rb, va_recv hK hP (ci := 1) (q0 := 6) rfl rfl, tw_Rp (hP.sub (ws' := [(s0, .inr (1, [.ref s1, .int la, .int sz])), (s1, .inl (cI, 60, .inl ro))]) [6, 7] rfl) hK⟩ rfl rfl hl.1 rfl (lv_room (Nat.le_of_ble_eq_true rfl)) dX0_playPairs_30 ⟨Nat.zero_le _, Nat.zero_le _⟩) ?_
    refine lv_topi (fun x6 ex6 => ?_)
    refine lv_istore (lv' := [(6, .int x6), (5, .int x5), (4, .int (nI i3)), (0, .ref b0), (1, .ref s0), (2, .int v2), (3, .int (nI nn))]) hx hb dX0_playPairs_33 hl (by decide) rfl (fun ls hl => ?_)
    refine lv_iload hx hb dX0_playPairs_35 (lv_at hl 1 rfl) ?_
    refine lv_if_lt (tgt := 74) hx hb dX0_playPairs_37 (by decide) (fun c_37 => ?_) (fun c_37 => ?_)
    · refine lv_iload hx hb dX0_playPairs_74 (lv_at hl 2 rfl) ?_
      have hE : (m_X0_playPairs ho pl nc nt ea ro sz v2 nn) = (nI i3, wpl_3, wea_3) := Eq.symm (by (rw [hm3, m_X0_playPairs_L3_s]; (try rw [← ex5]); (try rw [← ex6]); rw [if_pos c_37]) <;> rfl)
      rw [hE]
      exact W.iret hx hb hr (fun t ht hW => ⟨⟨_, (), rfl, rfl, by rw [ht]; exact hP, va_K.moved hW.alike hK, hD⟩, hS.F ht⟩) hS.2.2 dX0_playPairs_76
    · refine lv_iload hx hb dX0_playPairs_40 (lv_at hl 1 rfl) ?_
      refine lv_aload_n hx hb dX0_playPairs_42 rfl (lv_at hl 3 rfl) ?_
      refine va_get (ci := 0) (v := .int (nI nt)) (C := RX0) (T := TX0) (N := 8) hx hb hts hin_X0 hown hK hP 0 rfl rfl 6 (by decide) fl_37 (fun _ h9 => h9) rfl dX0_playPairs_43 ?_
      refine lv_icmp_ge (tgt := 74) hx hb dX0_playPairs_46 (by decide) (fun c_46 => ?_) (fun c_46 => ?_)
      · refine lv_iload hx hb dX0_playPairs_74 (lv_at hl 2 rfl) ?_
        have hE : (m_X0_playPairs ho pl nc nt ea ro sz v2 nn) = (nI i3, wpl_3, wea_3) := Eq.symm (by (rw [hm3, m_X0_playPairs_L3_s]; (try rw [← ex5]); (try rw [← ex6]); rw [if_neg c_37]; rw [if_pos c_46]) <;> rfl)
        rw [hE]
        exact W.iret hx hb hr (fun t ht hW => ⟨⟨_, (), rfl, rfl, by rw [ht]; exact hP, va_K.moved hW.alike hK, hD⟩, hS.F ht⟩) hS.2.2 dX0_playPairs_76
      · refine lv_aload_n hx hb dX0_playPairs_49 rfl (lv_at hl 3 rfl) ?_
        refine va_get (ci := 0) (v := .ref b3) (C := RX0) (T := TX0) (N := 8) hx hb hts hin_X0 hown hK hP 0 rfl rfl 2 (by decide) fl_18 (fun _ h9 => h9) rfl dX0_playPairs_50 ?_
        refine lv_iload hx hb dX0_playPairs_53 (lv_at hl 1 rfl) ?_
        refine va_iald hx hb hK hP 3 0 rfl rfl (tw_inN c_37 c_46 hn) dX0_playPairs_55 ?_
        refine lv_iload hx hb dX0_playPairs_56 (lv_at hl 2 rfl) ?_
        refine lv_iconst (v := 2) hx hb dX0_playPairs_58 (by decide) ?_
        refine lv_irem hx hb dX0_playPairs_59 (by decide) ?_
        refine tw_top (show _ = nI (i3 % 2) from tw_r2 (by omega)) ?_
        refine lv_icmp_ne (tgt := 74) hx hb dX0_playPairs_60 (by decide) (fun c_60 => ?_) (fun c_60 => ?_)
        · refine lv_iload hx hb dX0_playPairs_74 (lv_at hl 2 rfl) ?_
          have hE : (m_X0_playPairs ho pl nc nt ea ro sz v2 nn) = (nI i3, wpl_3, wea_3) := Eq.symm (by (rw [hm3, m_X0_playPairs_L3_s]; (try rw [← ex5]); (try rw [← ex6]); rw [if_neg c_37]; rw [if_neg c_46]; rw [if_neg c_60]) <;> rfl)
          rw [hE]
          exact W.iret hx hb hr (fun t ht hW => ⟨⟨_, (), rfl, rfl, by rw [ht]; exact hP, va_K.moved hW.alike hK, hD⟩, hS.F ht⟩) hS.2.2 dX0_playPairs_76
        · refine lv_aload_n hx hb dX0_playPairs_63 rfl (lv_at hl 3 rfl) ?_
          refine lv_iload hx hb dX0_playPairs_64 (lv_at hl 1 rfl) ?_
          refine lv_iload hx hb dX0_playPairs_66 (lv_at hl 0 rfl) ?_
          refine tw_cs (va_runV (As := [.int x5, .int x6]) (rest := []) ⟨hx, hb, hml, hown, hts⟩ (c_X0_canDo l D cI cS b0 b1 b2 b3 b4 b5 ac kd ho wpl_3 st nc nt wea_3 x5 x6 (tw_inN c_37 c_46 hn)) (cwV 2 hts gX0_playPairs_X0_canDo rfl rfl rfl (by decide +kernel) ⟨Nat.le_of_ble_eq_true rfl, Nat.le_of_ble_eq_true rfl⟩) ⟨tw_Rb, va_recv hK hP (ci := 0) (q0 := 0) rfl rfl, tw_Rp (hP.sub (ws' := [(b0, .inr (0, [.ref b1, .ref b2, .ref b3, .ref b4, .ref b5, .int (nI nc), .int (nI nt), .int wea_3])), (b1, .inl (cI, 6, .inl ac)), (b2, .inl (cI, 6, .inl kd)), (b3, .inl (cI, 6, .inl ho)), (b4, .inl (cI, 6, .inl wpl_3)), (b5, .inl (cI, 6, .inl st))]) [0, 1, 2, 3, 4, 5] rfl) hK⟩ rfl rfl hl.1 rfl (lv_room (Nat.le_of_ble_eq_true rfl)) dX0_playPairs_68 ⟨Nat.zero_le _, Nat.zero_le _⟩) ?_
          refine lv_if_ne (tgt := 77) hx hb dX0_playPairs_71 (by decide) (fun c_71 => ?_) (fun c_71 => ?_)
          · refine lv_aload_n hx hb dX0_playPairs_77 rfl (lv_at hl 3 rfl) ?_
            refine lv_iload hx hb dX0_playPairs_78 (lv_at hl 1 rfl) ?_
            refine lv_iload hx hb dX0_playPairs_80 (lv_at hl 0 rfl) ?_
            refine tw_wv (ws := [(b0, .inr (0, [.ref b1, .ref b2, .ref b3, .ref b4, .ref b5, .int (nI nc), .int (nI nt), .int wea_3])), (b1, .inl (cI, 6, .inl ac)), (b2, .inl (cI, 6, .inl kd)), (b3, .inl (cI, 6, .inl ho)), (b4, .inl (cI, 6, .inl wpl_3)), (b5, .inl (cI, 6, .inl st)), (s0, .inr (1, [.ref s1, .int la, .int sz])), (s1, .inl (cI, 60, .inl ro))]) (wc := [(b0, .inr (0, [.ref b1, .ref b2, .ref b3, .ref b4, .ref b5, .int (nI nc), .int (nI nt), .int wea_3])), (b1, .inl (cI, 6, .inl ac)), (b2, .inl (cI, 6, .inl kd)), (b3, .inl (cI, 6, .inl ho)), (b4, .inl (cI, 6, .inl wpl_3)), (b5, .inl (cI, 6, .inl st))]) (wr := [(s0, .inr (1, [.ref s1, .int la, .int sz])), (s1, .inl (cI, 60, .inl ro))]) (w1 := [(b0, .inr (0, [.ref b1, .ref b2, .ref b3, .ref b4, .ref b5, .int (nI nc), .int (nI nt), .int ((m_X0_doAct wpl_3 wea_3 x5 x6).2)])), (b1, .inl (cI, 6, .inl ac)), (b2, .inl (cI, 6, .inl kd)), (b3, .inl (cI, 6, .inl ho)), (b4, .inl (cI, 6, .inl ((m_X0_doAct wpl_3 wea_3 x5 x6).1))), (b5, .inl (cI, 6, .inl st))]) (ws' := [(b0, .inr (0, [.ref b1, .ref b2, .ref b3, .ref b4, .ref b5, .int (nI nc), .int (nI nt), .int ((m_X0_doAct wpl_3 wea_3 x5 x6).2)])), (b1, .inl (cI, 6, .inl ac)), (b2, .inl (cI, 6, .inl kd)), (b3, .inl (cI, 6, .inl ho)), (b4, .inl (cI, 6, .inl ((m_X0_doAct wpl_3 wea_3 x5 x6).1))), (b5, .inl (cI, 6, .inl st)), (s0, .inr (1, [.ref s1, .int la, .int sz])), (s1, .inl (cI, 60, .inl ro))]) (va_runV (As := [.int x5, .int x6]) (rest := []) ⟨hx, hb, hml, hown, hts⟩ (c_X0_doAct l D cI cS b0 b1 b2 b3 b4 b5 _ ac kd ho wpl_3 st nc nt wea_3 x5 x6 (tw_inN c_37 c_46 hn)) (cwV 2 hts gX0_playPairs_X0_doAct rfl rfl rfl (by decide +kernel) ⟨Nat.le_of_ble_eq_true rfl, Nat.le_of_ble_eq_true rfl⟩) ⟨tw_Wb, va_recv hK hP (ci := 0) (q0 := 0) rfl rfl, tw_Wp (hP.sub (ws' := [(b0, .inr (0, [.ref b1, .ref b2, .ref b3, .ref b4, .ref b5, .int (nI nc), .int (nI nt), .int wea_3])), (b1, .inl (cI, 6, .inl ac)), (b2, .inl (cI, 6, .inl kd)), (b3, .inl (cI, 6, .inl ho)), (b4, .inl (cI, 6, .inl wpl_3)), (b5, .inl (cI, 6, .inl st))]) [0, 1, 2, 3, 4, 5] rfl) hK (hD.sub (ws' := [(b0, .inr (0, [.ref b1, .ref b2, .ref b3, .ref b4, .ref b5, .int (nI nc), .int (nI nt), .int wea_3])), (b1, .inl (cI, 6, .inl ac)), (b2, .inl (cI, 6, .inl kd)), (b3, .inl (cI, 6, .inl ho)), (b4, .inl (cI, 6, .inl wpl_3)), (b5, .inl (cI, 6, .inl st))]) [0, 1, 2, 3, 4, 5] (by decide) rfl)⟩ rfl rfl hl.1 rfl (lv_room (Nat.le_of_ble_eq_true rfl)) dX0_playPairs_82 ⟨Nat.zero_le _, Nat.zero_le _⟩) hP hD hS hA [0, 1, 2, 3, 4, 5] [6, 7] [2, 3, 4, 5, 6, 7, 0, 1] rfl rfl (by decide) (by decide) rfl (by decide) (fun H locs hP hD hS => ?_)
            refine lv_iinc (v := nI (i3 + 1)) (lv' := [(4, .int (nI (i3 + 1))), (6, .int x6), (5, .int x5), (0, .ref b0), (1, .ref s0), (2, .int v2), (3, .int (nI nn))]) hx hb dX0_playPairs_85 hl (k := 2) rfl (nI_1 _) (by decide) rfl (fun ls hl => ?_)
            refine lv_goto (tgt := 3) hx hb dX0_playPairs_88 (by decide) ?_
            exact ih3 ((m_X0_doAct wpl_3 wea_3 x5 x6).1, (m_X0_doAct wpl_3 wea_3 x5 x6).2) ls H _ ⟨by omega, (by (rw [hm3, m_X0_playPairs_L3_s]; (try rw [← ex5]); (try rw [← ex6]); rw [if_neg c_37]; rw [if_neg c_46]; rw [if_pos c_60]; rw [if_neg c_71]) <;> rfl), hP, hD, hS, lv_sub hl [0, 3, 4, 5, 6] rfl⟩
          · refine lv_iload hx hb dX0_playPairs_74 (lv_at hl 2 rfl) ?_
            have hE : (m_X0_playPairs ho pl nc nt ea ro sz v2 nn) = (nI i3, wpl_3, wea_3) := Eq.symm (by (rw [hm3, m_X0_playPairs_L3_s]; (try rw [← ex5]); (try rw [← ex6]); rw [if_neg c_37]; rw [if_neg c_46]; rw [if_pos c_60]; rw [if_pos c_71]) <;> rfl)
            rw [hE]
            exact W.iret hx hb hr (fun t ht hW => ⟨⟨_, (), rfl, rfl, by rw [ht]; exact hP, va_K.moved hW.alike hK, hD⟩, hS.F ht⟩) hS.2.2 dX0_playPairs_76

def m_X0_become (ac : Nat → Int32) (kd : Nat → Int32) (ho : Nat → Int32) (pl : Nat → Int32) (st : Nat → Int32) (yac : Nat → Int32) (ykd : Nat → Int32) (yho : Nat → Int32) (ypl : Nat → Int32) (yst : Nat → Int32) : (Nat → Int32) × (Nat → Int32) × (Nat → Int32) × (Nat → Int32) × (Nat → Int32) :=
  (va_cpy yac ac (0 : Int32).toNatClampNeg (0 : Int32).toNatClampNeg (6 : Int32).toNatClampNeg, va_cpy ykd kd (0 : Int32).toNatClampNeg (0 : Int32).toNatClampNeg (6 : Int32).toNatClampNeg, va_cpy yho ho (0 : Int32).toNatClampNeg (0 : Int32).toNatClampNeg (6 : Int32).toNatClampNeg, va_cpy ypl pl (0 : Int32).toNatClampNeg (0 : Int32).toNatClampNeg (6 : Int32).toNatClampNeg, va_cpy yst st (0 : Int32).toNatClampNeg (0 : Int32).toNatClampNeg (6 : Int32).toNatClampNeg)
set_option maxHeartbeats 4000000 in
set_option maxRecDepth 100000 in
theorem c_X0_become (l : Launch) (D : va_G) (cI cS : ClassId) (b0 : Nat) (b1 : Nat) (b2 : Nat) (b3 : Nat) (b4 : Nat) (b5 : Nat) (e0 : Nat) (e1 : Nat) (e2 : Nat) (e3 : Nat) (e4 : Nat) (e5 : Nat) (hz : Nat) (ac : Nat → Int32) (kd : Nat → Int32) (ho : Nat → Int32) (pl : Nat → Int32) (st : Nat → Int32) (nc : Nat) (nt : Nat) (ea : Int32) (yac : Nat → Int32) (ykd : Nat → Int32) (yho : Nat → Int32) (ypl : Nat → Int32) (yst : Nat → Int32) (ync : Nat) (ynt : Nat) (yea : Int32)  : Met l yX0_become wsX0_become ({ frames := 1, cells := 0, slots := 0, locals := 40 }) (tw_W D cI cS [.ref b0, .ref e0] hz [(b0, .inr (0, [.ref b1, .ref b2, .ref b3, .ref b4, .ref b5, .int (nI nc), .int (nI nt), .int ea])), (b1, .inl (cI, 6, .inl ac)), (b2, .inl (cI, 6, .inl kd)), (b3, .inl (cI, 6, .inl ho)), (b4, .inl (cI, 6, .inl pl)), (b5, .inl (cI, 6, .inl st)), (e0, .inr (0, [.ref e1, .ref e2, .ref e3, .ref e4, .ref e5, .int (nI ync), .int (nI ynt), .int yea])), (e1, .inl (cI, 6, .inl yac)), (e2, .inl (cI, 6, .inl ykd)), (e3, .inl (cI, 6, .inl yho)), (e4, .inl (cI, 6, .inl ypl)), (e5, .inl (cI, 6, .inl yst))]) (va_Qv (fun (_ : Unit) => True) (tw_B D cI cS (va_A [(b0, .inr (0, [.ref b1, .ref b2, .ref b3, .ref b4, .ref b5, .int (nI nc), .int (nI nt), .int ea])), (b1, .inl (cI, 6, .inl ac)), (b2, .inl (cI, 6, .inl kd)), (b3, .inl (cI, 6, .inl ho)), (b4, .inl (cI, 6, .inl pl)), (b5, .inl (cI, 6, .inl st)), (e0, .inr (0, [.ref e1, .ref e2, .ref e3, .ref e4, .ref e5, .int (nI ync), .int (nI ynt), .int yea])), (e1, .inl (cI, 6, .inl yac)), (e2, .inl (cI, 6, .inl ykd)), (e3, .inl (cI, 6, .inl yho)), (e4, .inl (cI, 6, .inl ypl)), (e5, .inl (cI, 6, .inl yst))] hz) [(b0, .inr (0, [.ref b1, .ref b2, .ref b3, .ref b4, .ref b5, .int (nI ync), .int (nI ynt), .int yea])), (b1, .inl (cI, 6, .inl ((m_X0_become ac kd ho pl st yac ykd yho ypl yst).1))), (b2, .inl (cI, 6, .inl ((m_X0_become ac kd ho pl st yac ykd yho ypl yst).2.1))), (b3, .inl (cI, 6, .inl ((m_X0_become ac kd ho pl st yac ykd yho ypl yst).2.2.1))), (b4, .inl (cI, 6, .inl ((m_X0_become ac kd ho pl st yac ykd yho ypl yst).2.2.2.1))), (b5, .inl (cI, 6, .inl ((m_X0_become ac kd ho pl st yac ykd yho ypl yst).2.2.2.2))), (e0, .inr (0, [.ref e1, .ref e2, .ref e3, .ref e4, .ref e5, .int (nI ync), .int (nI ynt), .int yea])), (e1, .inl (cI, 6, .inl yac)), (e2, .inl (cI, 6, .inl ykd)), (e3, .inl (cI, 6, .inl yho)), (e4, .inl (cI, 6, .inl ypl)), (e5, .inl (cI, 6, .inl yst))]) (va_A [(b0, .inr (0, [.ref b1, .ref b2, .ref b3, .ref b4, .ref b5, .int (nI nc), .int (nI nt), .int ea])), (b1, .inl (cI, 6, .inl ac)), (b2, .inl (cI, 6, .inl kd)), (b3, .inl (cI, 6, .inl ho)), (b4, .inl (cI, 6, .inl pl)), (b5, .inl (cI, 6, .inl st)), (e0, .inr (0, [.ref e1, .ref e2, .ref e3, .ref e4, .ref e5, .int (nI ync), .int (nI ynt), .int yea])), (e1, .inl (cI, 6, .inl yac)), (e2, .inl (cI, 6, .inl ykd)), (e3, .inl (cI, 6, .inl yho)), (e4, .inl (cI, 6, .inl ypl)), (e5, .inl (cI, 6, .inl yst))] hz)) 0 0 (va_A [(b0, .inr (0, [.ref b1, .ref b2, .ref b3, .ref b4, .ref b5, .int (nI nc), .int (nI nt), .int ea])), (b1, .inl (cI, 6, .inl ac)), (b2, .inl (cI, 6, .inl kd)), (b3, .inl (cI, 6, .inl ho)), (b4, .inl (cI, 6, .inl pl)), (b5, .inl (cI, 6, .inl st)), (e0, .inr (0, [.ref e1, .ref e2, .ref e3, .ref e4, .ref e5, .int (nI ync), .int (nI ynt), .int yea])), (e1, .inl (cI, 6, .inl yac)), (e2, .inl (cI, 6, .inl ykd)), (e3, .inl (cI, 6, .inl yho)), (e4, .inl (cI, 6, .inl ypl)), (e5, .inl (cI, 6, .inl yst))] hz) := by
  refine Met.ofW (cc := cX0_become) (maxL := 2) (ret := none) (by decide) rfl ?_
  intro p e s m args below meth c s₁ B hml hv
  obtain ⟨rfl, hsz, hP, hK, hD0⟩ := hv
  have hx := B.exec
  have hb := B.bytes
  have hr := B.returns
  have hts := atoms_spec (ws := wsX0_become) B.pre
  have hown : s.vm.findClass RX0 = some m.cls := findClass_of_methodNamed B.named
  have hlocks := B.notSynchronized
  subst hsz
  have hD := hD0.self (sz := s.heap.size)
  generalize hAe : va_A [(b0, .inr (0, [.ref b1, .ref b2, .ref b3, .ref b4, .ref b5, .int (nI nc), .int (nI nt), .int ea])), (b1, .inl (cI, 6, .inl ac)), (b2, .inl (cI, 6, .inl kd)), (b3, .inl (cI, 6, .inl ho)), (b4, .inl (cI, 6, .inl pl)), (b5, .inl (cI, 6, .inl st)), (e0, .inr (0, [.ref e1, .ref e2, .ref e3, .ref e4, .ref e5, .int (nI ync), .int (nI ynt), .int yea])), (e1, .inl (cI, 6, .inl yac)), (e2, .inl (cI, 6, .inl ykd)), (e3, .inl (cI, 6, .inl yho)), (e4, .inl (cI, 6, .inl ypl)), (e5, .inl (cI, 6, .inl yst))] s.heap.size = A at hD ⊢
  have hA : ∀ q : Nat, s.heap.size ≤ q → A q := fun q h => by rw [← hAe]; exact Or.inr h
  have hS : va_S A s.heap s.heap [] := va_S.rf
  have fl_9 := hts (.fieldLink RX0 9 "TableWar$Cloth" "acresOf" "[I") (by decide +kernel)
  have hin_X0 := (show ∀ w ∈ u_ws RX0 TX0 8, w ∈ wsX0_become from by decide +kernel)
  have alk := hts (.methodLink RX0 27 arraycopyName) (by decide +kernel)
  have ant := hts (.native arraycopyName) (by decide +kernel)
  have ast := hts (.static arraycopyName) (by decide +kernel)
  have ain := hts (.initialized "java/lang/System") (by decide +kernel)
  have fl_15 := hts (.fieldLink RX0 15 "TableWar$Cloth" "kind" "[I") (by decide +kernel)
  have fl_18 := hts (.fieldLink RX0 18 "TableWar$Cloth" "house" "[I") (by decide +kernel)
  have fl_21 := hts (.fieldLink RX0 21 "TableWar$Cloth" "place" "[I") (by decide +kernel)
  have fl_24 := hts (.fieldLink RX0 24 "TableWar$Cloth" "strength" "[I") (by decide +kernel)
  have fl_33 := hts (.fieldLink RX0 33 "TableWar$Cloth" "cells" "I") (by decide +kernel)
  have fl_37 := hts (.fieldLink RX0 37 "TableWar$Cloth" "things" "I") (by decide +kernel)
  have fl_40 := hts (.fieldLink RX0 40 "TableWar$Cloth" "eaten" "I") (by decide +kernel)
  have hl := lv_entry ([.ref b0, .ref e0]) (n := 2) (Nat.le_of_ble_eq_true rfl)
  rw [lg_entry_eq]
  generalize (lg_sl ([.ref b0, .ref e0]) ++ List.replicate (2 - (lg_sl ([.ref b0, .ref e0])).length) Slot.unset).toArray = ls at hl ⊢
  have hl : lv_has ls 2 [(0, .ref b0), (1, .ref e0)] := hl
  refine lv_aload_n hx hb dX0_become_0 rfl (lv_at hl 1 rfl) ?_
  refine va_get (ci := 0) (v := .ref e1) (C := RX0) (T := TX0) (N := 8) hx hb hts hin_X0 hown hK hP 6 rfl rfl 0 (by decide) fl_9 (fun _ h9 => h9) rfl dX0_become_1 ?_
  refine lv_iconst (v := 0) hx hb dX0_become_4 (by decide) ?_
  refine lv_aload_n hx hb dX0_become_5 rfl (lv_at hl 0 rfl) ?_
  refine va_get (ci := 0) (v := .ref b1) (C := RX0) (T := TX0) (N := 8) hx hb hts hin_X0 hown hK hP 0 rfl rfl 0 (by decide) fl_9 (fun _ h9 => h9) rfl dX0_become_6 ?_
  refine lv_iconst (v := 0) hx hb dX0_become_9 (by decide) ?_
  refine lv_bipush (v := 6) hx hb dX0_become_10 (by decide) ?_
  refine va_copyi hx hb (hml.trans hl.1.symm) hown alk ant ast ain hK hP hD hS 7 1 0 0 rfl rfl rfl rfl rfl (by decide) (by decide) (by decide) (by decide) (by decide) (fun _ _ => rfl) (Nat.le_of_ble_eq_true rfl) (Nat.le_of_ble_eq_true rfl) dX0_become_12 (fun H locs hP hD hS => ?_)
  have hP : va_P D vwCl [(b0, .inr (0, [.ref b1, .ref b2, .ref b3, .ref b4, .ref b5, .int (nI nc), .int (nI nt), .int ea])), (b1, .inl (cI, 6, .inl (va_cpy yac ac (0 : Int32).toNatClampNeg (0 : Int32).toNatClampNeg (6 : Int32).toNatClampNeg))), (b2, .inl (cI, 6, .inl kd)), (b3, .inl (cI, 6, .inl ho)), (b4, .inl (cI, 6, .inl pl)), (b5, .inl (cI, 6, .inl st)), (e0, .inr (0, [.ref e1, .ref e2, .ref e3, .ref e4, .ref e5, .int (nI ync), .int (nI ynt), .int yea])), (e1, .inl (cI, 6, .inl yac)), (e2, .inl (cI, 6, .inl ykd)), (e3, .inl (cI, 6, .inl yho)), (e4, .inl (cI, 6, .inl ypl)), (e5, .inl (cI, 6, .inl yst))] H := hP
  have hD : va_D A [(b0, .inr (0, [.ref b1, .ref b2, .ref b3, .ref b4, .ref b5, .int (nI nc), .int (nI nt), .int ea])), (b1, .inl (cI, 6, .inl (va_cpy yac ac (0 : Int32).toNatClampNeg (0 : Int32).toNatClampNeg (6 : Int32).toNatClampNeg))), (b2, .inl (cI, 6, .inl kd)), (b3, .inl (cI, 6, .inl ho)), (b4, .inl (cI, 6, .inl pl)), (b5, .inl (cI, 6, .inl st)), (e0, .inr (0, [.ref e1, .ref e2, .ref e3, .ref e4, .ref e5, .int (nI ync), .int (nI ynt), .int yea])), (e1, .inl (cI, 6, .inl yac)), (e2, .inl (cI, 6, .inl ykd)), (e3, .inl (cI, 6, .inl yho)), (e4, .inl (cI, 6, .inl ypl)), (e5, .inl (cI, 6, .inl yst))] := hD
  refine lv_aload_n hx hb dX0_become_15 rfl (lv_at hl 1 rfl) ?_
  refine va_get (ci := 0) (v := .ref e2) (C := RX0) (T := TX0) (N := 8) hx hb hts hin_X0 hown hK hP 6 rfl rfl 1 (by decide) fl_15 (fun _ h9 => h9) rfl dX0_become_16 ?_
  refine lv_iconst (v := 0) hx hb dX0_become_19 (by decide) ?_
  refine lv_aload_n hx hb dX0_become_20 rfl (lv_at hl 0 rfl) ?_
  refine va_get (ci := 0) (v := .ref b2) (C := RX0) (T := TX0) (N := 8) hx hb hts hin_X0 hown hK hP 0 rfl rfl 1 (by decide) fl_15 (fun _ h9 => h9) rfl dX0_become_21 ?_
  refine lv_iconst (v := 0) hx hb dX0_become_24 (by decide) ?_
  refine lv_bipush (v := 6) hx hb dX0_become_25 (by decide) ?_
  refine va_copyi hx hb (hml.trans hl.1.symm) hown alk ant ast ain hK hP hD hS 8 2 0 0 rfl rfl rfl rfl rfl (by decide) (by decide) (by decide) (by decide) (by decide) (fun _ _ => rfl) (Nat.le_of_ble_eq_true rfl) (Nat.le_of_ble_eq_true rfl) dX0_become_27 (fun H locs hP hD hS => ?_)
  have hP : va_P D vwCl [(b0, .inr (0, [.ref b1, .ref b2, .ref b3, .ref b4, .ref b5, .int (nI nc), .int (nI nt), .int ea])), (b1, .inl (cI, 6, .inl (va_cpy yac ac (0 : Int32).toNatClampNeg (0 : Int32).toNatClampNeg (6 : Int32).toNatClampNeg))), (b2, .inl (cI, 6, .inl (va_cpy ykd kd (0 : Int32).toNatClampNeg (0 : Int32).toNatClampNeg (6 : Int32).toNatClampNeg))), (b3, .inl (cI, 6, .inl ho)), (b4, .inl (cI, 6, .inl pl)), (b5, .inl (cI, 6, .inl st)), (e0, .inr (0, [.ref e1, .ref e2, .ref e3, .ref e4, .ref e5, .int (nI ync), .int (nI ynt), .int yea])), (e1, .inl (cI, 6, .inl yac)), (e2, .inl (cI, 6, .inl ykd)), (e3, .inl (cI, 6, .inl yho)), (e4, .inl (cI, 6, .inl ypl)), (e5, .inl (cI, 6, .inl yst))] H := hP
  have hD : va_D A [(b0, .inr (0, [.ref b1, .ref b2, .ref b3, .ref b4, .ref b5, .int (nI nc), .int (nI nt), .int ea])), (b1, .inl (cI, 6, .inl (va_cpy yac ac (0 : Int32).toNatClampNeg (0 : Int32).toNatClampNeg (6 : Int32).toNatClampNeg))), (b2, .inl (cI, 6, .inl (va_cpy ykd kd (0 : Int32).toNatClampNeg (0 : Int32).toNatClampNeg (6 : Int32).toNatClampNeg))), (b3, .inl (cI, 6, .inl ho)), (b4, .inl (cI, 6, .inl pl)), (b5, .inl (cI, 6, .inl st)), (e0, .inr (0, [.ref e1, .ref e2, .ref e3, .ref e4, .ref e5, .int (nI ync), .int (nI ynt), .int yea])), (e1, .inl (cI, 6, .inl yac)), (e2, .inl (cI, 6, .inl ykd)), (e3, .inl (cI, 6, .inl yho)), (e4, .inl (cI, 6, .inl ypl)), (e5, .inl (cI, 6, .inl yst))] := hD
  refine lv_aload_n hx hb dX0_become_30 rfl (lv_at hl 1 rfl) ?_
  refine va_get (ci := 0) (v := .ref e3) (C := RX0) (T := TX0) (N := 8) hx hb hts hin_X0 hown hK hP 6 rfl rfl 2 (by decide) fl_18 (fun _ h9 => h9) rfl dX0_become_31 ?_
  refine lv_iconst (v := 0) hx hb dX0_become_34 (by decide) ?_
  refine lv_aload_n hx hb dX0_become_35 rfl (lv_at hl 0 rfl) ?_
  refine va_get (ci := 0) (v := .ref b3) (C := RX0) (T := TX0) (N := 8) hx hb hts hin_X0 hown hK hP 0 rfl rfl 2 (by decide) fl_18 (fun _ h9 => h9) rfl dX0_become_36 ?_
  refine lv_iconst (v := 0) hx hb dX0_become_39 (by decide) ?_
  refine lv_bipush (v := 6) hx hb dX0_become_40 (by decide) ?_
  refine va_copyi hx hb (hml.trans hl.1.symm) hown alk ant ast ain hK hP hD hS 9 3 0 0 rfl rfl rfl rfl rfl (by decide) (by decide) (by decide) (by decide) (by decide) (fun _ _ => rfl) (Nat.le_of_ble_eq_true rfl) (Nat.le_of_ble_eq_true rfl) dX0_become_42 (fun H locs hP hD hS => ?_)
  have hP : va_P D vwCl [(b0, .inr (0, [.ref b1, .ref b2, .ref b3, .ref b4, .ref b5, .int (nI nc), .int (nI nt), .int ea])), (b1, .inl (cI, 6, .inl (va_cpy yac ac (0 : Int32).toNatClampNeg (0 : Int32).toNatClampNeg (6 : Int32).toNatClampNeg))), (b2, .inl (cI, 6, .inl (va_cpy ykd kd (0 : Int32).toNatClampNeg (0 : Int32).toNatClampNeg (6 : Int32).toNatClampNeg))), (b3, .inl (cI, 6, .inl (va_cpy yho ho (0 : Int32).toNatClampNeg (0 : Int32).toNatClampNeg (6 : Int32).toNatClampNeg))), (b4, .inl (cI, 6, .inl pl)), (b5, .inl (cI, 6, .inl st)), (e0, .inr (0, [.ref e1, .ref e2, .ref e3, .ref e4, .ref e5, .int (nI ync), .int (nI ynt), .int yea])), (e1, .inl (cI, 6, .inl yac)), (e2, .inl (cI, 6, .inl ykd)), (e3, .inl (cI, 6, .inl yho)), (e4, .inl (cI, 6, .inl ypl)), (e5, .inl (cI, 6, .inl yst))] H := hP
  have hD : va_D A [(b0, .inr (0, [.ref b1, .ref b2, .ref b3, .ref b4, .ref b5, .int (nI nc), .int (nI nt), .int ea])), (b1, .inl (cI, 6, .inl (va_cpy yac ac (0 : Int32).toNatClampNeg (0 : Int32).toNatClampNeg (6 : Int32).toNatClampNeg))), (b2, .inl (cI, 6, .inl (va_cpy ykd kd (0 : Int32).toNatClampNeg (0 : Int32).toNatClampNeg (6 : Int32).toNatClampNeg))), (b3, .inl (cI, 6, .inl (va_cpy yho ho (0 : Int32).toNatClampNeg (0 : Int32).toNatClampNeg (6 : Int32).toNatClampNeg))), (b4, .inl (cI, 6, .inl pl)), (b5, .inl (cI, 6, .inl st)), (e0, .inr (0, [.ref e1, .ref e2, .ref e3, .ref e4, .ref e5, .int (nI ync), .int (nI ynt), .int yea])), (e1, .inl (cI, 6, .inl yac)), (e2, .inl (cI, 6, .inl ykd)), (e3, .inl (cI, 6, .inl yho)), (e4, .inl (cI, 6, .inl ypl)), (e5, .inl (cI, 6, .inl yst))] := hD
  refine lv_aload_n hx hb dX0_become_45 rfl (lv_at hl 1 rfl) ?_
  refine va_get (ci := 0) (v := .ref e4) (C := RX0) (T := TX0) (N := 8) hx hb hts hin_X0 hown hK hP 6 rfl rfl 3 (by decide) fl_21 (fun _ h9 => h9) rfl dX0_become_46 ?_
  refine lv_iconst (v := 0) hx hb dX0_become_49 (by decide) ?_
  refine lv_aload_n hx hb dX0_become_50 rfl (lv_at hl 0 rfl) ?_
  refine va_get (ci := 0) (v := .ref b4) (C := RX0) (T := TX0) (N := 8) hx hb hts hin_X0 hown hK hP 0 rfl rfl 3 (by decide) fl_21 (fun _ h9 => h9) rfl dX0_become_51 ?_
  refine lv_iconst (v := 0) hx hb dX0_become_54 (by decide) ?_
  refine lv_bipush (v := 6) hx hb dX0_become_55 (by decide) ?_
  refine va_copyi hx hb (hml.trans hl.1.symm) hown alk ant ast ain hK hP hD hS 10 4 0 0 rfl rfl rfl rfl rfl (by decide) (by decide) (by decide) (by decide) (by decide) (fun _ _ => rfl) (Nat.le_of_ble_eq_true rfl) (Nat.le_of_ble_eq_true rfl) dX0_become_57 (fun H locs hP hD hS => ?_)
  have hP : va_P D vwCl [(b0, .inr (0, [.ref b1, .ref b2, .ref b3, .ref b4, .ref b5, .int (nI nc), .int (nI nt), .int ea])), (b1, .inl (cI, 6, .inl (va_cpy yac ac (0 : Int32).toNatClampNeg (0 : Int32).toNatClampNeg (6 : Int32).toNatClampNeg))), (b2, .inl (cI, 6, .inl (va_cpy ykd kd (0 : Int32).toNatClampNeg (0 : Int32).toNatClampNeg (6 : Int32).toNatClampNeg))), (b3, .inl (cI, 6, .inl (va_cpy yho ho (0 : Int32).toNatClampNeg (0 : Int32).toNatClampNeg (6 : Int32).toNatClampNeg))), (b4, .inl (cI, 6, .inl (va_cpy ypl pl (0 : Int32).toNatClampNeg (0 : Int32).toNatClampNeg (6 : Int32).toNatClampNeg))), (b5, .inl (cI, 6, .inl st)), (e0, .inr (0, [.ref e1, .ref e2, .ref e3, .ref e4, .ref e5, .int (nI ync), .int (nI ynt), .int yea])), (e1, .inl (cI, 6, .inl yac)), (e2, .inl (cI, 6, .inl ykd)), (e3, .inl (cI, 6, .inl yho)), (e4, .inl (cI, 6, .inl ypl)), (e5, .inl (cI, 6, .inl yst))] H := hP
  have hD : va_D A [(b0, .inr (0, [.ref b1, .ref b2, .ref b3, .ref b4, .ref b5, .int (nI nc), .int (nI nt), .int ea])), (b1, .inl (cI, 6, .inl (va_cpy yac ac (0 : Int32).toNatClampNeg (0 : Int32).toNatClampNeg (6 : Int32).toNatClampNeg))), (b2, .inl (cI, 6, .inl (va_cpy ykd kd (0 : Int32).toNatClampNeg (0 : Int32).toNatClampNeg (6 : Int32).toNatClampNeg))), (b3, .inl (cI, 6, .inl (va_cpy yho ho (0 : Int32).toNatClampNeg (0 : Int32).toNatClampNeg (6 : Int32).toNatClampNeg))), (b4, .inl (cI, 6, .inl (va_cpy ypl pl (0 : Int32).toNatClampNeg (0 : Int32).toNatClampNeg (6 : Int32).toNatClampNeg))), (b5, .inl (cI, 6, .inl st)), (e0, .inr (0, [.ref e1, .ref e2, .ref e3, .ref e4, .ref e5, .int (nI ync), .int (nI ynt), .int yea])), (e1, .inl (cI, 6, .inl yac)), (e2, .inl (cI, 6, .inl ykd)), (e3, .inl (cI, 6, .inl yho)), (e4, .inl (cI, 6, .inl ypl)), (e5, .inl (cI, 6, .inl yst))] := hD
  refine lv_aload_n hx hb dX0_become_60 rfl (lv_at hl 1 rfl) ?_
  refine va_get (ci := 0) (v := .ref e5) (C := RX0) (T := TX0) (N := 8) hx hb hts hin_X0 hown hK hP 6 rfl rfl 4 (by decide) fl_24 (fun _ h9 => h9) rfl dX0_become_61 ?_
  refine lv_iconst (v := 0) hx hb dX0_become_64 (by decide) ?_
  refine lv_aload_n hx hb dX0_become_65 rfl (lv_at hl 0 rfl) ?_
  refine va_get (ci := 0) (v := .ref b5) (C := RX0) (T := TX0) (N := 8) hx hb hts hin_X0 hown hK hP 0 rfl rfl 4 (by decide) fl_24 (fun _ h9 => h9) rfl dX0_become_66 ?_
  refine lv_iconst (v := 0) hx hb dX0_become_69 (by decide) ?_
  refine lv_bipush (v := 6) hx hb dX0_become_70 (by decide) ?_
  refine va_copyi hx hb (hml.trans hl.1.symm) hown alk ant ast ain hK hP hD hS 11 5 0 0 rfl rfl rfl rfl rfl (by decide) (by decide) (by decide) (by decide) (by decide) (fun _ _ => rfl) (Nat.le_of_ble_eq_true rfl) (Nat.le_of_ble_eq_true rfl) dX0_become_72 (fun H locs hP hD hS => ?_)
  have hP : va_P D vwCl [(b0, .inr (0, [.ref b1, .ref b2, .ref b3, .ref b4, .ref b5, .int (nI nc), .int (nI nt), .int ea])), (b1, .inl (cI, 6, .inl (va_cpy yac ac (0 : Int32).toNatClampNeg (0 : Int32).toNatClampNeg (6 : Int32).toNatClampNeg))), (b2, .inl (cI, 6, .inl (va_cpy ykd kd (0 : Int32).toNatClampNeg (0 : Int32).toNatClampNeg (6 : Int32).toNatClampNeg))), (b3, .inl (cI, 6, .inl (va_cpy yho ho (0 : Int32).toNatClampNeg (0 : Int32).toNatClampNeg (6 : Int32).toNatClampNeg))), (b4, .inl (cI, 6, .inl (va_cpy ypl pl (0 : Int32).toNatClampNeg (0 : Int32).toNatClampNeg (6 : Int32).toNatClampNeg))), (b5, .inl (cI, 6, .inl (va_cpy yst st (0 : Int32).toNatClampNeg (0 : Int32).toNatClampNeg (6 : Int32).toNatClampNeg))), (e0, .inr (0, [.ref e1, .ref e2, .ref e3, .ref e4, .ref e5, .int (nI ync), .int (nI ynt), .int yea])), (e1, .inl (cI, 6, .inl yac)), (e2, .inl (cI, 6, .inl ykd)), (e3, .inl (cI, 6, .inl yho)), (e4, .inl (cI, 6, .inl ypl)), (e5, .inl (cI, 6, .inl yst))] H := hP
  have hD : va_D A [(b0, .inr (0, [.ref b1, .ref b2, .ref b3, .ref b4, .ref b5, .int (nI nc), .int (nI nt), .int ea])), (b1, .inl (cI, 6, .inl (va_cpy yac ac (0 : Int32).toNatClampNeg (0 : Int32).toNatClampNeg (6 : Int32).toNatClampNeg))), (b2, .inl (cI, 6, .inl (va_cpy ykd kd (0 : Int32).toNatClampNeg (0 : Int32).toNatClampNeg (6 : Int32).toNatClampNeg))), (b3, .inl (cI, 6, .inl (va_cpy yho ho (0 : Int32).toNatClampNeg (0 : Int32).toNatClampNeg (6 : Int32).toNatClampNeg))), (b4, .inl (cI, 6, .inl (va_cpy ypl pl (0 : Int32).toNatClampNeg (0 : Int32).toNatClampNeg (6 : Int32).toNatClampNeg))), (b5, .inl (cI, 6, .inl (va_cpy yst st (0 : Int32).toNatClampNeg (0 : Int32).toNatClampNeg (6 : Int32).toNatClampNeg))), (e0, .inr (0, [.ref e1, .ref e2, .ref e3, .ref e4, .ref e5, .int (nI ync), .int (nI ynt), .int yea])), (e1, .inl (cI, 6, .inl yac)), (e2, .inl (cI, 6, .inl ykd)), (e3, .inl (cI, 6, .inl yho)), (e4, .inl (cI, 6, .inl ypl)), (e5, .inl (cI, 6, .inl yst))] := hD
  refine lv_aload_n hx hb dX0_become_75 rfl (lv_at hl 0 rfl) ?_
  refine lv_aload_n hx hb dX0_become_76 rfl (lv_at hl 1 rfl) ?_
  refine va_get (ci := 0) (v := .int (nI ync)) (C := RX0) (T := TX0) (N := 8) hx hb hts hin_X0 hown hK hP 6 rfl rfl 5 (by decide) fl_33 (fun _ h9 => h9) rfl dX0_become_77 ?_
  refine va_put (ci := 0) (v := .int (nI ync)) (ty := .int) (C := RX0) (T := TX0) (N := 8) hx hb hts hin_X0 tyX0 tyX0_ok nmX0 hown hK hP hD hS 0 rfl rfl 5 (by decide) fl_33 (fun _ h9 => h9) rfl (by decide +kernel) rfl rfl (Nat.le_of_ble_eq_true rfl) dX0_become_80 (fun H locs hP hD hS => ?_)
  have hP : va_P D vwCl [(b0, .inr (0, [.ref b1, .ref b2, .ref b3, .ref b4, .ref b5, .int (nI ync), .int (nI nt), .int ea])), (b1, .inl (cI, 6, .inl (va_cpy yac ac (0 : Int32).toNatClampNeg (0 : Int32).toNatClampNeg (6 : Int32).toNatClampNeg))), (b2, .inl (cI, 6, .inl (va_cpy ykd kd (0 : Int32).toNatClampNeg (0 : Int32).toNatClampNeg (6 : Int32).toNatClampNeg))), (b3, .inl (cI, 6, .inl (va_cpy yho ho (0 : Int32).toNatClampNeg (0 : Int32).toNatClampNeg (6 : Int32).toNatClampNeg))), (b4, .inl (cI, 6, .inl (va_cpy ypl pl (0 : Int32).toNatClampNeg (0 : Int32).toNatClampNeg (6 : Int32).toNatClampNeg))), (b5, .inl (cI, 6, .inl (va_cpy yst st (0 : Int32).toNatClampNeg (0 : Int32).toNatClampNeg (6 : Int32).toNatClampNeg))), (e0, .inr (0, [.ref e1, .ref e2, .ref e3, .ref e4, .ref e5, .int (nI ync), .int (nI ynt), .int yea])), (e1, .inl (cI, 6, .inl yac)), (e2, .inl (cI, 6, .inl ykd)), (e3, .inl (cI, 6, .inl yho)), (e4, .inl (cI, 6, .inl ypl)), (e5, .inl (cI, 6, .inl yst))] H := hP
  have hD : va_D A [(b0, .inr (0, [.ref b1, .ref b2, .ref b3, .ref b4, .ref b5, .int (nI ync), .int (nI nt), .int ea])), (b1, .inl (cI, 6, .inl (va_cpy yac ac (0 : Int32).toNatClampNeg (0 : Int32).toNatClampNeg (6 : Int32).toNatClampNeg))), (b2, .inl (cI, 6, .inl (va_cpy ykd kd (0 : Int32).toNatClampNeg (0 : Int32).toNatClampNeg (6 : Int32).toNatClampNeg))), (b3, .inl (cI, 6, .inl (va_cpy yho ho (0 : Int32).toNatClampNeg (0 : Int32).toNatClampNeg (6 : Int32).toNatClampNeg))), (b4, .inl (cI, 6, .inl (va_cpy ypl pl (0 : Int32).toNatClampNeg (0 : Int32).toNatClampNeg (6 : Int32).toNatClampNeg))), (b5, .inl (cI, 6, .inl (va_cpy yst st (0 : Int32).toNatClampNeg (0 : Int32).toNatClampNeg (6 : Int32).toNatClampNeg))), (e0, .inr (0, [.ref e1, .ref e2, .ref e3, .ref e4, .ref e5, .int (nI ync), .int (nI ynt), .int yea])), (e1, .inl (cI, 6, .inl yac)), (e2, .inl (cI, 6, .inl ykd)), (e3, .inl (cI, 6, .inl yho)), (e4, .inl (cI, 6, .inl ypl)), (e5, .inl (cI, 6, .inl yst))] := hD
  refine lv_aload_n hx hb dX0_become_83 rfl (lv_at hl 0 rfl) ?_
  refine lv_aload_n hx hb dX0_become_84 rfl (lv_at hl 1 rfl) ?_
  refine va_get (ci := 0) (v := .int (nI ynt)) (C := RX0) (T := TX0) (N := 8) hx hb hts hin_X0 hown hK hP 6 rfl rfl 6 (by decide) fl_37 (fun _ h9 => h9) rfl dX0_become_85 ?_
  refine va_put (ci := 0) (v := .int (nI ynt)) (ty := .int) (C := RX0) (T := TX0) (N := 8) hx hb hts hin_X0 tyX0 tyX0_ok nmX0 hown hK hP hD hS 0 rfl rfl 6 (by decide) fl_37 (fun _ h9 => h9) rfl (by decide +kernel) rfl rfl (Nat.le_of_ble_eq_true rfl) dX0_become_88 (fun H locs hP hD hS => ?_)
  have hP : va_P D vwCl [(b0, .inr (0, [.ref b1, .ref b2, .ref b3, .ref b4, .ref b5, .int (nI ync), .int (nI ynt), .int ea])), (b1, .inl (cI, 6, .inl (va_cpy yac ac (0 : Int32).toNatClampNeg (0 : Int32).toNatClampNeg (6 : Int32).toNatClampNeg))), (b2, .inl (cI, 6, .inl (va_cpy ykd kd (0 : Int32).toNatClampNeg (0 : Int32).toNatClampNeg (6 : Int32).toNatClampNeg))), (b3, .inl (cI, 6, .inl (va_cpy yho ho (0 : Int32).toNatClampNeg (0 : Int32).toNatClampNeg (6 : Int32).toNatClampNeg))), (b4, .inl (cI, 6, .inl (va_cpy ypl pl (0 : Int32).toNatClampNeg (0 : Int32).toNatClampNeg (6 : Int32).toNatClampNeg))), (b5, .inl (cI, 6, .inl (va_cpy yst st (0 : Int32).toNatClampNeg (0 : Int32).toNatClampNeg (6 : Int32).toNatClampNeg))), (e0, .inr (0, [.ref e1, .ref e2, .ref e3, .ref e4, .ref e5, .int (nI ync), .int (nI ynt), .int yea])), (e1, .inl (cI, 6, .inl yac)), (e2, .inl (cI, 6, .inl ykd)), (e3, .inl (cI, 6, .inl yho)), (e4, .inl (cI, 6, .inl ypl)), (e5, .inl (cI, 6, .inl yst))] H := hP
  have hD : va_D A [(b0, .inr (0, [.ref b1, .ref b2, .ref b3, .ref b4, .ref b5, .int (nI ync), .int (nI ynt), .int ea])), (b1, .inl (cI, 6, .inl (va_cpy yac ac (0 : Int32).toNatClampNeg (0 : Int32).toNatClampNeg (6 : Int32).toNatClampNeg))), (b2, .inl (cI, 6, .inl (va_cpy ykd kd (0 : Int32).toNatClampNeg (0 : Int32).toNatClampNeg (6 : Int32).toNatClampNeg))), (b3, .inl (cI, 6, .inl (va_cpy yho ho (0 : Int32).toNatClampNeg (0 : Int32).toNatClampNeg (6 : Int32).toNatClampNeg))), (b4, .inl (cI, 6, .inl (va_cpy ypl pl (0 : Int32).toNatClampNeg (0 : Int32).toNatClampNeg (6 : Int32).toNatClampNeg))), (b5, .inl (cI, 6, .inl (va_cpy yst st (0 : Int32).toNatClampNeg (0 : Int32).toNatClampNeg (6 : Int32).toNatClampNeg))), (e0, .inr (0, [.ref e1, .ref e2, .ref e3, .ref e4, .ref e5, .int (nI ync), .int (nI ynt), .int yea])), (e1, .inl (cI, 6, .inl yac)), (e2, .inl (cI, 6, .inl ykd)), (e3, .inl (cI, 6, .inl yho)), (e4, .inl (cI, 6, .inl ypl)), (e5, .inl (cI, 6, .inl yst))] := hD
  refine lv_aload_n hx hb dX0_become_91 rfl (lv_at hl 0 rfl) ?_
  refine lv_aload_n hx hb dX0_become_92 rfl (lv_at hl 1 rfl) ?_
  refine va_get (ci := 0) (v := .int yea) (C := RX0) (T := TX0) (N := 8) hx hb hts hin_X0 hown hK hP 6 rfl rfl 7 (by decide) fl_40 (fun _ h9 => h9) rfl dX0_become_93 ?_
  refine va_put (ci := 0) (v := .int yea) (ty := .int) (C := RX0) (T := TX0) (N := 8) hx hb hts hin_X0 tyX0 tyX0_ok nmX0 hown hK hP hD hS 0 rfl rfl 7 (by decide) fl_40 (fun _ h9 => h9) rfl (by decide +kernel) rfl rfl (Nat.le_of_ble_eq_true rfl) dX0_become_96 (fun H locs hP hD hS => ?_)
  have hP : va_P D vwCl [(b0, .inr (0, [.ref b1, .ref b2, .ref b3, .ref b4, .ref b5, .int (nI ync), .int (nI ynt), .int yea])), (b1, .inl (cI, 6, .inl (va_cpy yac ac (0 : Int32).toNatClampNeg (0 : Int32).toNatClampNeg (6 : Int32).toNatClampNeg))), (b2, .inl (cI, 6, .inl (va_cpy ykd kd (0 : Int32).toNatClampNeg (0 : Int32).toNatClampNeg (6 : Int32).toNatClampNeg))), (b3, .inl (cI, 6, .inl (va_cpy yho ho (0 : Int32).toNatClampNeg (0 : Int32).toNatClampNeg (6 : Int32).toNatClampNeg))), (b4, .inl (cI, 6, .inl (va_cpy ypl pl (0 : Int32).toNatClampNeg (0 : Int32).toNatClampNeg (6 : Int32).toNatClampNeg))), (b5, .inl (cI, 6, .inl (va_cpy yst st (0 : Int32).toNatClampNeg (0 : Int32).toNatClampNeg (6 : Int32).toNatClampNeg))), (e0, .inr (0, [.ref e1, .ref e2, .ref e3, .ref e4, .ref e5, .int (nI ync), .int (nI ynt), .int yea])), (e1, .inl (cI, 6, .inl yac)), (e2, .inl (cI, 6, .inl ykd)), (e3, .inl (cI, 6, .inl yho)), (e4, .inl (cI, 6, .inl ypl)), (e5, .inl (cI, 6, .inl yst))] H := hP
  have hD : va_D A [(b0, .inr (0, [.ref b1, .ref b2, .ref b3, .ref b4, .ref b5, .int (nI ync), .int (nI ynt), .int yea])), (b1, .inl (cI, 6, .inl (va_cpy yac ac (0 : Int32).toNatClampNeg (0 : Int32).toNatClampNeg (6 : Int32).toNatClampNeg))), (b2, .inl (cI, 6, .inl (va_cpy ykd kd (0 : Int32).toNatClampNeg (0 : Int32).toNatClampNeg (6 : Int32).toNatClampNeg))), (b3, .inl (cI, 6, .inl (va_cpy yho ho (0 : Int32).toNatClampNeg (0 : Int32).toNatClampNeg (6 : Int32).toNatClampNeg))), (b4, .inl (cI, 6, .inl (va_cpy ypl pl (0 : Int32).toNatClampNeg (0 : Int32).toNatClampNeg (6 : Int32).toNatClampNeg))), (b5, .inl (cI, 6, .inl (va_cpy yst st (0 : Int32).toNatClampNeg (0 : Int32).toNatClampNeg (6 : Int32).toNatClampNeg))), (e0, .inr (0, [.ref e1, .ref e2, .ref e3, .ref e4, .ref e5, .int (nI ync), .int (nI ynt), .int yea])), (e1, .inl (cI, 6, .inl yac)), (e2, .inl (cI, 6, .inl ykd)), (e3, .inl (cI, 6, .inl yho)), (e4, .inl (cI, 6, .inl ypl)), (e5, .inl (cI, 6, .inl yst))] := hD
  have hE : (m_X0_become ac kd ho pl st yac ykd yho ypl yst) = (va_cpy yac ac (0 : Int32).toNatClampNeg (0 : Int32).toNatClampNeg (6 : Int32).toNatClampNeg, va_cpy ykd kd (0 : Int32).toNatClampNeg (0 : Int32).toNatClampNeg (6 : Int32).toNatClampNeg, va_cpy yho ho (0 : Int32).toNatClampNeg (0 : Int32).toNatClampNeg (6 : Int32).toNatClampNeg, va_cpy ypl pl (0 : Int32).toNatClampNeg (0 : Int32).toNatClampNeg (6 : Int32).toNatClampNeg, va_cpy yst st (0 : Int32).toNatClampNeg (0 : Int32).toNatClampNeg (6 : Int32).toNatClampNeg) := Eq.symm (by (unfold m_X0_become) <;> rfl)
  rw [hE]
  exact W.vret hx hb hr (fun t ht hW => ⟨⟨(), rfl, trivial, by rw [ht]; exact hP, va_K.moved hW.alike hK, hD⟩, hS.F ht⟩) hS.2.2 dX0_become_99

def m_J7_fill_L5 (v1 : Int32) : Nat → Nat → (Nat → Int32) → ((Nat → Int32))
  | 0, i5, wro_5 =>
    wro_5
  | k5 + 1, i5, wro_5 =>
    m_J7_fill_L5 v1 k5 (i5 + 1) (upd wro_5 i5 v1)
theorem m_J7_fill_L5_0 (v1 : Int32) (i5 : Nat) (wro_5 : Nat → Int32) : m_J7_fill_L5 v1 0 i5 wro_5 = 
    wro_5 := rfl
theorem m_J7_fill_L5_s (v1 : Int32) (i5 : Nat) (wro_5 : Nat → Int32) (k5 : Nat) : m_J7_fill_L5 v1 (k5 + 1) i5 wro_5 = 
    m_J7_fill_L5 v1 k5 (i5 + 1) (upd wro_5 i5 v1) := rfl
def m_J7_fill (ro : Nat → Int32) (v1 : Int32) : (Nat → Int32) :=
  (m_J7_fill_L5 v1 60 0 ro)
set_option maxHeartbeats 4000000 in
set_option maxRecDepth 100000 in
theorem c_J7_fill (l : Launch) (D : va_G) (cI cS : ClassId) (s1 : Nat) (hz : Nat) (ro : Nat → Int32) (v1 : Int32)  : Met l yJ7_fill_53178 wsJ7_fill_53178 ({ frames := 0, cells := 0, slots := 0, locals := 0 }) (tw_W D cI cS [.ref s1, .int v1] hz [(s1, .inl (cI, 60, .inl ro))]) (va_Qv (fun (_ : Unit) => True) (tw_B D cI cS (va_A [(s1, .inl (cI, 60, .inl ro))] hz) [(s1, .inl (cI, 60, .inl (m_J7_fill ro v1)))]) (va_A [(s1, .inl (cI, 60, .inl ro))] hz)) 0 0 (va_A [(s1, .inl (cI, 60, .inl ro))] hz) := by
  refine Met.ofW (cc := cJ7_fill_53178) (maxL := 4) (ret := none) (by decide) rfl ?_
  intro p e s m args below meth c s₁ B hml hv
  obtain ⟨rfl, hsz, hP, hK, hD0⟩ := hv
  have hx := B.exec
  have hb := B.bytes
  have hr := B.returns
  have hts := atoms_spec (ws := wsJ7_fill_53178) B.pre
  have hown : s.vm.findClass RJ7 = some m.cls := findClass_of_methodNamed B.named
  have hlocks := B.notSynchronized
  subst hsz
  have hD := hD0.self (sz := s.heap.size)
  generalize hAe : va_A [(s1, .inl (cI, 60, .inl ro))] s.heap.size = A at hD ⊢
  have hA : ∀ q : Nat, s.heap.size ≤ q → A q := fun q h => by rw [← hAe]; exact Or.inr h
  have hS : va_S A s.heap s.heap [] := va_S.rf
  have hl := lv_entry ([.ref s1, .int v1]) (n := 4) (Nat.le_of_ble_eq_true rfl)
  rw [lg_entry_eq]
  generalize (lg_sl ([.ref s1, .int v1]) ++ List.replicate (4 - (lg_sl ([.ref s1, .int v1])).length) Slot.unset).toArray = ls at hl ⊢
  have hl : lv_has ls 4 [(0, .ref s1), (1, .int v1)] := hl
  refine lv_iconst (v := 0) hx hb dJ7_fill_53178_0 (by decide) ?_
  refine lv_istore_n (lv' := [(2, .int 0), (0, .ref s1), (1, .int v1)]) hx hb dJ7_fill_53178_1 rfl hl (by decide) rfl (fun ls hl => ?_)
  refine lv_aload_n hx hb dJ7_fill_53178_2 rfl (lv_at hl 1 rfl) ?_
  refine va_alen hx hb hK hP 0 0 rfl rfl (v := 60) rfl dJ7_fill_53178_3 ?_
  refine lv_istore_n (lv' := [(3, .int 60), (2, .int 0), (0, .ref s1), (1, .int v1)]) hx hb dJ7_fill_53178_4 rfl hl (by decide) rfl (fun ls hl => ?_)
  refine tw_loopW (σ := (Nat → Int32)) (fun k i z ls H locs => i + k = 60 ∧ m_J7_fill_L5 v1 k i z = m_J7_fill_L5 v1 60 0 ro ∧ va_P D vwCl [(s1, .inl (cI, 60, .inl z))] H ∧ va_D A [(s1, .inl (cI, 60, .inl z))] ∧ va_S A s.heap H locs ∧ lv_has ls 4 [(3, .int 60), (2, .int (nI i)), (0, .ref s1), (1, .int v1)]) 60 0 ro ⟨Nat.zero_add _, rfl, hP, hD, hS, lv_sub hl [0, 1, 2, 3] rfl⟩ ?_ ?_
  · intro i5 wro_5 ls H locs hI
    obtain ⟨hk5, hm5, hP, hD, hS, hl⟩ := hI
    have hm5 : m_J7_fill_L5 v1 0 i5 wro_5 = m_J7_fill_L5 v1 60 0 ro := hm5
    have hP : va_P D vwCl [(s1, .inl (cI, 60, .inl wro_5))] H := hP
    have hD : va_D A [(s1, .inl (cI, 60, .inl wro_5))] := hD
    have hl : lv_has ls 4 [(3, .int 60), (2, .int (nI i5)), (0, .ref s1), (1, .int v1)] := hl
    have hm5 : wro_5 = m_J7_fill_L5 v1 60 0 ro := hm5
    refine lv_iload_n hx hb dJ7_fill_53178_5 rfl (lv_at hl 1 rfl) ?_
    refine lv_iload_n hx hb dJ7_fill_53178_6 rfl (lv_at hl 0 rfl) ?_
    refine lv_icmp_ge (tgt := 20) hx hb dJ7_fill_53178_7 (by decide) (fun c_7 => ?_) (fun c_7 => absurd (tw_tge rfl (show 60 ≤ i5 by omega) (show i5 < 2 ^ 31 by omega)) c_7)
    have hE : (m_J7_fill ro v1) = wro_5 := Eq.symm (by (unfold m_J7_fill; rw [← hm5]) <;> rfl)
    rw [hE]
    exact W.vret hx hb hr (fun t ht hW => ⟨⟨(), rfl, trivial, by rw [ht]; exact hP, va_K.moved hW.alike hK, hD⟩, hS.F ht⟩) hS.2.2 dJ7_fill_53178_20
  · intro k5 i5 wro_5 ls H locs ih5 hI
    obtain ⟨hk5, hm5, hP, hD, hS, hl⟩ := hI
    have hm5 : m_J7_fill_L5 v1 (k5 + 1) i5 wro_5 = m_J7_fill_L5 v1 60 0 ro := hm5
    have hP : va_P D vwCl [(s1, .inl (cI, 60, .inl wro_5))] H := hP
    have hD : va_D A [(s1, .inl (cI, 60, .inl wro_5))] := hD
    have hl : lv_has ls 4 [(3, .int 60), (2, .int (nI i5)), (0, .ref s1), (1, .int v1)] := hl
    refine lv_iload_n hx hb dJ7_fill_53178_5 rfl (lv_at hl 1 rfl) ?_
    refine lv_iload_n hx hb dJ7_fill_53178_6 rfl (lv_at hl 0 rfl) ?_
    refine lv_icmp_ge (tgt := 20) hx hb dJ7_fill_53178_7 (by decide) (fun c_7 => absurd c_7 (tw_tlt rfl (show i5 < 60 by omega) (show 60 < 2 ^ 31 by omega))) (fun c_7 => ?_)
    refine lv_aload_n hx hb dJ7_fill_53178_10 rfl (lv_at hl 2 rfl) ?_
    refine lv_iload_n hx hb dJ7_fill_53178_11 rfl (lv_at hl 1 rfl) ?_
    refine lv_iload_n hx hb dJ7_fill_53178_12 rfl (lv_at hl 3 rfl) ?_
    refine va_iast hx hb hK hP hD hS 0 0 rfl rfl (vp_in_nI (show i5 < 60 by omega) (by decide)) dJ7_fill_53178_13 (fun H locs hP hD hS => ?_)
    rw [nI_clamp (show i5 < 2 ^ 31 by omega)] at hP hD
    have hP : va_P D vwCl [(s1, .inl (cI, 60, .inl (upd wro_5 i5 v1)))] H := hP
    have hD : va_D A [(s1, .inl (cI, 60, .inl (upd wro_5 i5 v1)))] := hD
    refine lv_iinc (v := nI (i5 + 1)) (lv' := [(2, .int (nI (i5 + 1))), (3, .int 60), (0, .ref s1), (1, .int v1)]) hx hb dJ7_fill_53178_14 hl (k := 1) rfl (nI_1 _) (by decide) rfl (fun ls hl => ?_)
    refine lv_goto (tgt := 5) hx hb dJ7_fill_53178_17 (by decide) ?_
    exact ih5 (upd wro_5 i5 v1) ls H _ ⟨by omega, (by (rw [← hm5, m_J7_fill_L5_s]) <;> rfl), hP, hD, hS, lv_sub hl [1, 0, 2, 3] rfl⟩

def m_X1_renew (ro : Nat → Int32) (v1 : Int32) (v2 : Int32) : (Nat → Int32) × Int32 × Int32 :=
  ((m_J7_fill ro 0), v1, v2)
set_option maxHeartbeats 4000000 in
set_option maxRecDepth 100000 in
theorem c_X1_renew (l : Launch) (D : va_G) (cI cS : ClassId) (s0 : Nat) (s1 : Nat) (hz : Nat) (ro : Nat → Int32) (la : Int32) (sz : Int32) (v1 : Int32) (v2 : Int32)  : Met l yX1_renew wsX1_renew ({ frames := 1, cells := 0, slots := 0, locals := 23 }) (tw_W D cI cS [.ref s0, .int v1, .int v2] hz [(s0, .inr (1, [.ref s1, .int la, .int sz])), (s1, .inl (cI, 60, .inl ro))]) (va_Qv (fun (_ : Unit) => True) (tw_B D cI cS (va_A [(s0, .inr (1, [.ref s1, .int la, .int sz])), (s1, .inl (cI, 60, .inl ro))] hz) [(s0, .inr (1, [.ref s1, .int ((m_X1_renew ro v1 v2).2.1), .int ((m_X1_renew ro v1 v2).2.2)])), (s1, .inl (cI, 60, .inl ((m_X1_renew ro v1 v2).1)))]) (va_A [(s0, .inr (1, [.ref s1, .int la, .int sz])), (s1, .inl (cI, 60, .inl ro))] hz)) 0 0 (va_A [(s0, .inr (1, [.ref s1, .int la, .int sz])), (s1, .inl (cI, 60, .inl ro))] hz) := by
  refine Met.ofW (cc := cX1_renew) (maxL := 3) (ret := none) (by decide) rfl ?_
  intro p e s m args below meth c s₁ B hml hv
  obtain ⟨rfl, hsz, hP, hK, hD0⟩ := hv
  have hx := B.exec
  have hb := B.bytes
  have hr := B.returns
  have hts := atoms_spec (ws := wsX1_renew) B.pre
  have hown : s.vm.findClass RX1 = some m.cls := findClass_of_methodNamed B.named
  have hlocks := B.notSynchronized
  subst hsz
  have hD := hD0.self (sz := s.heap.size)
  generalize hAe : va_A [(s0, .inr (1, [.ref s1, .int la, .int sz])), (s1, .inl (cI, 60, .inl ro))] s.heap.size = A at hD ⊢
  have hA : ∀ q : Nat, s.heap.size ≤ q → A q := fun q h => by rw [← hAe]; exact Or.inr h
  have hS : va_S A s.heap s.heap [] := va_S.rf
  have fl_15 := hts (.fieldLink RX1 15 "TableWar$Sheet" "lane" "I") (by decide +kernel)
  have hin_X1 := (show ∀ w ∈ u_ws RX1 TX1 3, w ∈ wsX1_renew from by decide +kernel)
  have fl_19 := hts (.fieldLink RX1 19 "TableWar$Sheet" "size" "I") (by decide +kernel)
  have fl_11 := hts (.fieldLink RX1 11 "TableWar$Sheet" "row" "[I") (by decide +kernel)
  have hl := lv_entry ([.ref s0, .int v1, .int v2]) (n := 3) (Nat.le_of_ble_eq_true rfl)
  rw [lg_entry_eq]
  generalize (lg_sl ([.ref s0, .int v1, .int v2]) ++ List.replicate (3 - (lg_sl ([.ref s0, .int v1, .int v2])).length) Slot.unset).toArray = ls at hl ⊢
  have hl : lv_has ls 3 [(0, .ref s0), (1, .int v1), (2, .int v2)] := hl
  refine lv_aload_n hx hb dX1_renew_0 rfl (lv_at hl 0 rfl) ?_
  refine lv_iload_n hx hb dX1_renew_1 rfl (lv_at hl 1 rfl) ?_
  refine va_put (ci := 1) (v := .int v1) (ty := .int) (C := RX1) (T := TX1) (N := 3) hx hb hts hin_X1 tyX1 tyX1_ok nmX1 hown hK hP hD hS 0 rfl rfl 1 (by decide) fl_15 (fun _ h9 => h9) rfl (by decide +kernel) rfl rfl (Nat.le_of_ble_eq_true rfl) dX1_renew_2 (fun H locs hP hD hS => ?_)
  have hP : va_P D vwCl [(s0, .inr (1, [.ref s1, .int v1, .int sz])), (s1, .inl (cI, 60, .inl ro))] H := hP
  have hD : va_D A [(s0, .inr (1, [.ref s1, .int v1, .int sz])), (s1, .inl (cI, 60, .inl ro))] := hD
  refine lv_aload_n hx hb dX1_renew_5 rfl (lv_at hl 0 rfl) ?_
  refine lv_iload_n hx hb dX1_renew_6 rfl (lv_at hl 2 rfl) ?_
  refine va_put (ci := 1) (v := .int v2) (ty := .int) (C := RX1) (T := TX1) (N := 3) hx hb hts hin_X1 tyX1 tyX1_ok nmX1 hown hK hP hD hS 0 rfl rfl 2 (by decide) fl_19 (fun _ h9 => h9) rfl (by decide +kernel) rfl rfl (Nat.le_of_ble_eq_true rfl) dX1_renew_7 (fun H locs hP hD hS => ?_)
  have hP : va_P D vwCl [(s0, .inr (1, [.ref s1, .int v1, .int v2])), (s1, .inl (cI, 60, .inl ro))] H := hP
  have hD : va_D A [(s0, .inr (1, [.ref s1, .int v1, .int v2])), (s1, .inl (cI, 60, .inl ro))] := hD
  refine lv_aload_n hx hb dX1_renew_10 rfl (lv_at hl 0 rfl) ?_
  refine va_get (ci := 1) (v := .ref s1) (C := RX1) (T := TX1) (N := 3) hx hb hts hin_X1 hown hK hP 0 rfl rfl 0 (by decide) fl_11 (fun _ h9 => h9) rfl dX1_renew_11 ?_
  refine lv_iconst (v := 0) hx hb dX1_renew_14 (by decide) ?_
  refine tw_wv (ws := [(s0, .inr (1, [.ref s1, .int v1, .int v2])), (s1, .inl (cI, 60, .inl ro))]) (wc := [(s1, .inl (cI, 60, .inl ro))]) (wr := [(s0, .inr (1, [.ref s1, .int v1, .int v2]))]) (w1 := [(s1, .inl (cI, 60, .inl (m_J7_fill ro 0)))]) (ws' := [(s0, .inr (1, [.ref s1, .int v1, .int v2])), (s1, .inl (cI, 60, .inl (m_J7_fill ro 0)))]) (va_runS (As := [.ref s1, .int 0]) (rest := []) ⟨hx, hb, hml, hown, hts⟩ (c_J7_fill l D cI cS s1 _ ro 0) (va_cwS 2 hts gX1_renew_J7_fill_53178 rfl rfl rfl (by decide +kernel) ⟨Nat.le_of_ble_eq_true rfl, Nat.le_of_ble_eq_true rfl⟩) ⟨tw_Wb, tw_Wp (hP.sub (ws' := [(s1, .inl (cI, 60, .inl ro))]) [1] rfl) hK (hD.sub (ws' := [(s1, .inl (cI, 60, .inl ro))]) [1] (by decide) rfl)⟩ rfl rfl hl.1 rfl (lv_room (Nat.le_of_ble_eq_true rfl)) dX1_renew_15 ⟨Nat.zero_le _, Nat.zero_le _⟩) hP hD hS hA [1] [0] [0, 1] rfl rfl (by decide) (by decide) rfl (by decide) (fun H locs hP hD hS => ?_)
  have hE : (m_X1_renew ro v1 v2) = ((m_J7_fill ro 0), v1, v2) := Eq.symm (by (unfold m_X1_renew) <;> rfl)
  rw [hE]
  exact W.vret hx hb hr (fun t ht hW => ⟨⟨(), rfl, trivial, by rw [ht]; exact hP, va_K.moved hW.alike hK, hD⟩, hS.F ht⟩) hS.2.2 dX1_renew_18
