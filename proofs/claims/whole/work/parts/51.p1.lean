def m_X3_codeAt (ra : Nat) (sh : Nat → Int32) (fr : Nat) (nn : Nat) : Int32 :=
  (if (nI nn) ≤ (nI ra) then (-9 : Int32) else sh (fr + ra))
set_option maxHeartbeats 4000000 in
set_option maxRecDepth 100000 in
theorem c_X3_codeAt (l : Launch) (D : va_G) (cI cS : ClassId) (q : Nat → Nat) (fa : Int32) (nc : Nat) (nt : Nat) (ea : Int32) (ra : Nat) (rs : Nat) (rt : Nat) (nr : Nat) (sh : Nat → Int32) (tr : Int32) (fr : Nat) (nn : Nat) (hf2 : fr + nn ≤ 240) (hra : ra ≤ 1000) : Met l yX3_codeAt wsX3_codeAt ({ frames := 0, cells := 0, slots := 0, locals := 0 }) (tw_R D cI cS [.ref (q 0), .int (nI fr), .int (nI nn)] [((q 0), .inr (3, [.int fa, .int (nI nc), .ref (q 1), .int (nI nt), .ref (q 2), .ref (q 3), .ref (q 4), .ref (q 5), .int ea, .int (nI ra), .int (nI rs), .int (nI rt), .ref (q 6), .ref (q 7), .ref (q 8), .ref (q 9), .ref (q 10), .ref (q 11), .int (nI nr), .ref (q 12), .ref (q 13), .ref (q 14), .ref (q 15), .ref (q 16), .ref (q 17), .int tr])), ((q 16), .inl (cI, 240, .inl sh))]) (vp_Si (fun r => r = (m_X3_codeAt ra sh fr nn))) 0 0 (fun _ => False) := by
  refine Met.ofW (cc := cX3_codeAt) (maxL := 3) (ret := (some .int)) (by decide) rfl ?_
  intro p e s m args below meth c s₁ B hml hv
  obtain ⟨rfl, hP, hK⟩ := hv
  have hx := B.exec
  have hb := B.bytes
  have hr := B.returns
  have hts := atoms_spec (ws := wsX3_codeAt) B.pre
  have hown : s.vm.findClass RX3 = some m.cls := findClass_of_methodNamed B.named
  have hlocks := B.notSynchronized
  have fl_81 := hts (.fieldLink RX3 81 "TableWarModel" "readAt" "I") (by decide +kernel)
  have hin_X3 := (show ∀ w ∈ u_ws RX3 TX3 26, w ∈ wsX3_codeAt from by decide +kernel)
  have fl_55 := hts (.fieldLink RX3 55 "TableWarModel" "sheet" "[I") (by decide +kernel)
  have hl := lv_entry ([.ref (q 0), .int (nI fr), .int (nI nn)]) (n := 3) (Nat.le_of_ble_eq_true rfl)
  rw [lg_entry_eq]
  generalize (lg_sl ([.ref (q 0), .int (nI fr), .int (nI nn)]) ++ List.replicate (3 - (lg_sl ([.ref (q 0), .int (nI fr), .int (nI nn)])).length) Slot.unset).toArray = ls at hl ⊢
  have hl : lv_has ls 3 [(0, .ref (q 0)), (1, .int (nI fr)), (2, .int (nI nn))] := hl
  refine lv_aload_n hx hb dX3_codeAt_0 rfl (lv_at hl 0 rfl) ?_
  refine va_get (ci := 3) (v := .int (nI ra)) (C := RX3) (T := TX3) (N := 26) hx hb hts hin_X3 hown hK hP 0 rfl rfl 9 (by decide) fl_81 (fun _ h9 => h9) rfl dX3_codeAt_1 ?_
  refine lv_iload_n hx hb dX3_codeAt_4 rfl (lv_at hl 2 rfl) ?_
  refine tw_join (fun (y : Int32) => F0 m 24 ls (.int y :: [])) (if (nI nn) ≤ (nI ra) then (-9 : Int32) else sh (fr + ra)) ?_ (fun J24_0 => ?_)
  · intro y24 hy24
    exact W.iret hx hb hr (fun t ht _ => ⟨_, rfl, (by (unfold m_X3_codeAt; (try rw [← hy24])) <;> rfl), ht⟩) (fun _ h => nomatch h) dX3_codeAt_24
  · refine lv_icmp_ge (tgt := 22) hx hb dX3_codeAt_5 (by decide) (fun c_5 => ?_) (fun c_5 => ?_)
    · refine lv_bipush (v := (-9)) hx hb dX3_codeAt_22 (by decide) ?_
      exact J24_0 _ (by (rw [if_pos c_5]) <;> rfl)
    · have hlt : ra < nn := Nat.lt_of_not_le (fun q => c_5 (nI_le q (by omega)))
      refine lv_aload_n hx hb dX3_codeAt_8 rfl (lv_at hl 0 rfl) ?_
      refine va_get (ci := 3) (v := .ref (q 16)) (C := RX3) (T := TX3) (N := 26) hx hb hts hin_X3 hown hK hP 0 rfl rfl 23 (by decide) fl_55 (fun _ h9 => h9) rfl dX3_codeAt_9 ?_
      refine lv_iload_n hx hb dX3_codeAt_12 rfl (lv_at hl 1 rfl) ?_
      refine lv_aload_n hx hb dX3_codeAt_13 rfl (lv_at hl 0 rfl) ?_
      refine va_get (ci := 3) (v := .int (nI ra)) (C := RX3) (T := TX3) (N := 26) hx hb hts hin_X3 hown hK hP 0 rfl rfl 9 (by decide) fl_81 (fun _ h9 => h9) rfl dX3_codeAt_14 ?_
      refine lv_iadd hx hb dX3_codeAt_17 ?_
      refine tw_top (show _ = nI (fr + ra) from nI_add fr ra) ?_
      refine va_iald hx hb hK hP 1 0 rfl rfl (vp_in_nI (show (fr + ra) < 240 by omega) (by decide)) dX3_codeAt_18 ?_
      refine tw_top (show _ = sh (fr + ra) from by rw [nI_clamp (by omega)]) ?_
      refine lv_goto (tgt := 24) hx hb dX3_codeAt_19 (by decide) ?_
      exact J24_0 _ (by (rw [if_neg c_5]) <;> rfl)

def m_X3_figure (ra : Nat) (sh : Nat → Int32) (v3 : Int32) (fr : Nat) (nn : Nat) : Int32 × Nat :=
  if (m_X3_in ((m_X3_codeAt ra sh fr nn) - 48).toInt64 0 v3.toInt64) = 0 then
    ((if (m_X3_in ((m_X3_codeAt ra sh fr nn) - 48).toInt64 0 v3.toInt64) = 0 then (-9 : Int32) else ((m_X3_codeAt ra sh fr nn) - 48)), ra)
  else
    ((if (m_X3_in ((m_X3_codeAt ra sh fr nn) - 48).toInt64 0 v3.toInt64) = 0 then (-9 : Int32) else ((m_X3_codeAt ra sh fr nn) - 48)), (ra + 1))
set_option maxHeartbeats 4000000 in
set_option maxRecDepth 100000 in
theorem c_X3_figure (l : Launch) (D : va_G) (cI cS : ClassId) (q : Nat → Nat) (hz : Nat) (fa : Int32) (nc : Nat) (nt : Nat) (ea : Int32) (ra : Nat) (rs : Nat) (rt : Nat) (nr : Nat) (sh : Nat → Int32) (tr : Int32) (v3 : Int32) (fr : Nat) (nn : Nat) (hf2 : fr + nn ≤ 240) (hra : ra ≤ 900) : Met l yX3_figure wsX3_figure ({ frames := 1, cells := 0, slots := 0, locals := 25 }) (tw_W D cI cS [.ref (q 0), .int (nI fr), .int (nI nn), .int v3] hz [((q 0), .inr (3, [.int fa, .int (nI nc), .ref (q 1), .int (nI nt), .ref (q 2), .ref (q 3), .ref (q 4), .ref (q 5), .int ea, .int (nI ra), .int (nI rs), .int (nI rt), .ref (q 6), .ref (q 7), .ref (q 8), .ref (q 9), .ref (q 10), .ref (q 11), .int (nI nr), .ref (q 12), .ref (q 13), .ref (q 14), .ref (q 15), .ref (q 16), .ref (q 17), .int tr])), ((q 16), .inl (cI, 240, .inl sh))]) (va_Qi (fun r (_ : Unit) => r = (m_X3_figure ra sh v3 fr nn).1) (tw_B D cI cS (va_A [((q 0), .inr (3, [.int fa, .int (nI nc), .ref (q 1), .int (nI nt), .ref (q 2), .ref (q 3), .ref (q 4), .ref (q 5), .int ea, .int (nI ra), .int (nI rs), .int (nI rt), .ref (q 6), .ref (q 7), .ref (q 8), .ref (q 9), .ref (q 10), .ref (q 11), .int (nI nr), .ref (q 12), .ref (q 13), .ref (q 14), .ref (q 15), .ref (q 16), .ref (q 17), .int tr])), ((q 16), .inl (cI, 240, .inl sh))] hz) [((q 0), .inr (3, [.int fa, .int (nI nc), .ref (q 1), .int (nI nt), .ref (q 2), .ref (q 3), .ref (q 4), .ref (q 5), .int ea, .int (nI ((m_X3_figure ra sh v3 fr nn).2)), .int (nI rs), .int (nI rt), .ref (q 6), .ref (q 7), .ref (q 8), .ref (q 9), .ref (q 10), .ref (q 11), .int (nI nr), .ref (q 12), .ref (q 13), .ref (q 14), .ref (q 15), .ref (q 16), .ref (q 17), .int tr])), ((q 16), .inl (cI, 240, .inl sh))]) (va_A [((q 0), .inr (3, [.int fa, .int (nI nc), .ref (q 1), .int (nI nt), .ref (q 2), .ref (q 3), .ref (q 4), .ref (q 5), .int ea, .int (nI ra), .int (nI rs), .int (nI rt), .ref (q 6), .ref (q 7), .ref (q 8), .ref (q 9), .ref (q 10), .ref (q 11), .int (nI nr), .ref (q 12), .ref (q 13), .ref (q 14), .ref (q 15), .ref (q 16), .ref (q 17), .int tr])), ((q 16), .inl (cI, 240, .inl sh))] hz)) 0 0 (va_A [((q 0), .inr (3, [.int fa, .int (nI nc), .ref (q 1), .int (nI nt), .ref (q 2), .ref (q 3), .ref (q 4), .ref (q 5), .int ea, .int (nI ra), .int (nI rs), .int (nI rt), .ref (q 6), .ref (q 7), .ref (q 8), .ref (q 9), .ref (q 10), .ref (q 11), .int (nI nr), .ref (q 12), .ref (q 13), .ref (q 14), .ref (q 15), .ref (q 16), .ref (q 17), .int tr])), ((q 16), .inl (cI, 240, .inl sh))] hz) := by
  refine Met.ofW (cc := cX3_figure) (maxL := 6) (ret := (some .int)) (by decide) rfl ?_
  intro p e s m args below meth c s₁ B hml hv
  obtain ⟨rfl, hsz, hP, hK, hD0⟩ := hv
  have hx := B.exec
  have hb := B.bytes
  have hr := B.returns
  have hts := atoms_spec (ws := wsX3_figure) B.pre
  have hown : s.vm.findClass RX3 = some m.cls := findClass_of_methodNamed B.named
  have hlocks := B.notSynchronized
  subst hsz
  have hD := hD0.self (sz := s.heap.size)
  generalize hAe : va_A [((q 0), .inr (3, [.int fa, .int (nI nc), .ref (q 1), .int (nI nt), .ref (q 2), .ref (q 3), .ref (q 4), .ref (q 5), .int ea, .int (nI ra), .int (nI rs), .int (nI rt), .ref (q 6), .ref (q 7), .ref (q 8), .ref (q 9), .ref (q 10), .ref (q 11), .int (nI nr), .ref (q 12), .ref (q 13), .ref (q 14), .ref (q 15), .ref (q 16), .ref (q 17), .int tr])), ((q 16), .inl (cI, 240, .inl sh))] s.heap.size = A at hD ⊢
  have hA : ∀ q : Nat, s.heap.size ≤ q → A q := fun q h => by rw [← hAe]; exact Or.inr h
  have hS : va_S A s.heap s.heap [] := va_S.rf
  have fl_81 := hts (.fieldLink RX3 81 "TableWarModel" "readAt" "I") (by decide +kernel)
  have hin_X3 := (show ∀ w ∈ u_ws RX3 TX3 26, w ∈ wsX3_figure from by decide +kernel)
  have hl := lv_entry ([.ref (q 0), .int (nI fr), .int (nI nn), .int v3]) (n := 6) (Nat.le_of_ble_eq_true rfl)
  rw [lg_entry_eq]
  generalize (lg_sl ([.ref (q 0), .int (nI fr), .int (nI nn), .int v3]) ++ List.replicate (6 - (lg_sl ([.ref (q 0), .int (nI fr), .int (nI nn), .int v3])).length) Slot.unset).toArray = ls at hl ⊢
  have hl : lv_has ls 6 [(0, .ref (q 0)), (1, .int (nI fr)), (2, .int (nI nn)), (3, .int v3)] := hl
  refine lv_aload_n hx hb dX3_figure_0 rfl (lv_at hl 0 rfl) ?_
  refine lv_iload_n hx hb dX3_figure_1 rfl (lv_at hl 1 rfl) ?_
  refine lv_iload_n hx hb dX3_figure_2 rfl (lv_at hl 2 rfl) ?_
  refine tw_cs (va_runV (As := [.int (nI fr), .int (nI nn)]) (rest := []) ⟨hx, hb, hml, hown, hts⟩ (c_X3_codeAt l D cI cS q fa nc nt ea ra rs rt nr sh tr fr nn (by first | assumption | omega | exact hz60 _ | exact vp_in_nI (by omega) (by decide)) (by first | assumption | omega | exact hz60 _ | exact vp_in_nI (by omega) (by decide))) (cwV 2 hts gX3_figure_X3_codeAt rfl rfl rfl (by decide +kernel) ⟨Nat.le_of_ble_eq_true rfl, Nat.le_of_ble_eq_true rfl⟩) ⟨tw_Rb, va_recv hK hP (ci := 3) (q0 := 0) rfl rfl, tw_Rp (hP.sub (ws' := [((q 0), .inr (3, [.int fa, .int (nI nc), .ref (q 1), .int (nI nt), .ref (q 2), .ref (q 3), .ref (q 4), .ref (q 5), .int ea, .int (nI ra), .int (nI rs), .int (nI rt), .ref (q 6), .ref (q 7), .ref (q 8), .ref (q 9), .ref (q 10), .ref (q 11), .int (nI nr), .ref (q 12), .ref (q 13), .ref (q 14), .ref (q 15), .ref (q 16), .ref (q 17), .int tr])), ((q 16), .inl (cI, 240, .inl sh))]) [0, 1] rfl) hK⟩ rfl rfl hl.1 rfl (lv_room (Nat.le_of_ble_eq_true rfl)) dX3_figure_3 ⟨Nat.zero_le _, Nat.zero_le _⟩) ?_
  refine lv_bipush (v := 48) hx hb dX3_figure_6 (by decide) ?_
  refine lv_isub hx hb dX3_figure_8 ?_
  refine lv_topi (fun x4 ex4 => ?_)
  refine lv_istore (lv' := [(4, .int x4), (0, .ref (q 0)), (1, .int (nI fr)), (2, .int (nI nn)), (3, .int v3)]) hx hb dX3_figure_9 hl (by decide) rfl (fun ls hl => ?_)
  refine lv_iload hx hb dX3_figure_11 (lv_at hl 0 rfl) ?_
  refine lv_i2l (v := x4.toInt64) hx hb dX3_figure_13 rfl ?_
  refine lv_lconst (v := 0) hx hb dX3_figure_14 (by decide) ?_
  refine lv_iload_n hx hb dX3_figure_15 rfl (lv_at hl 4 rfl) ?_
  refine lv_i2l (v := v3.toInt64) hx hb dX3_figure_16 rfl ?_
  refine tw_cs (va_runS (As := [.long x4.toInt64, .long 0, .long v3.toInt64]) (rest := []) ⟨hx, hb, hml, hown, hts⟩ (c_X3_in l D cI cS x4.toInt64 0 v3.toInt64) (va_cwS 3 hts gX3_figure_X3_in rfl rfl rfl (by decide +kernel) ⟨Nat.le_of_ble_eq_true rfl, Nat.le_of_ble_eq_true rfl⟩) ⟨tw_Rb, tw_Rp (hP.sub (ws' := []) [] rfl) hK⟩ rfl rfl hl.1 rfl (lv_room (Nat.le_of_ble_eq_true rfl)) dX3_figure_17 ⟨Nat.zero_le _, Nat.zero_le _⟩) ?_
  refine lv_istore (lv' := [(5, .int (m_X3_in x4.toInt64 0 v3.toInt64)), (4, .int x4), (0, .ref (q 0)), (1, .int (nI fr)), (2, .int (nI nn)), (3, .int v3)]) hx hb dX3_figure_20 hl (by decide) rfl (fun ls hl => ?_)
  refine lv_aload_n hx hb dX3_figure_22 rfl (lv_at hl 2 rfl) ?_
  refine lv_dup hx hb dX3_figure_23 rfl ?_
  refine va_get (ci := 3) (v := .int (nI ra)) (C := RX3) (T := TX3) (N := 26) hx hb hts hin_X3 hown hK hP 0 rfl rfl 9 (by decide) fl_81 (fun _ h9 => h9) rfl dX3_figure_24 ?_
  refine lv_iload hx hb dX3_figure_27 (lv_at hl 0 rfl) ?_
  refine lv_if_eq (tgt := 36) hx hb dX3_figure_29 (by decide) (fun c_29 => ?_) (fun c_29 => ?_)
  · refine lv_iconst (v := 0) hx hb dX3_figure_36 (by decide) ?_
    refine lv_iadd hx hb dX3_figure_37 ?_
    refine tw_top (Int32.add_zero (nI ra)) ?_
    refine va_put (ci := 3) (v := .int (nI ra)) (ty := .int) (C := RX3) (T := TX3) (N := 26) hx hb hts hin_X3 tyX3 tyX3_ok nmX3 hown hK hP hD hS 0 rfl rfl 9 (by decide) fl_81 (fun _ h9 => h9) rfl (by decide +kernel) rfl rfl (Nat.le_of_ble_eq_true rfl) dX3_figure_38 (fun H locs hP hD hS => ?_)
    have hP : va_P D vwCl [((q 0), .inr (3, [.int fa, .int (nI nc), .ref (q 1), .int (nI nt), .ref (q 2), .ref (q 3), .ref (q 4), .ref (q 5), .int ea, .int (nI ra), .int (nI rs), .int (nI rt), .ref (q 6), .ref (q 7), .ref (q 8), .ref (q 9), .ref (q 10), .ref (q 11), .int (nI nr), .ref (q 12), .ref (q 13), .ref (q 14), .ref (q 15), .ref (q 16), .ref (q 17), .int tr])), ((q 16), .inl (cI, 240, .inl sh))] H := hP
    have hD : va_D A [((q 0), .inr (3, [.int fa, .int (nI nc), .ref (q 1), .int (nI nt), .ref (q 2), .ref (q 3), .ref (q 4), .ref (q 5), .int ea, .int (nI ra), .int (nI rs), .int (nI rt), .ref (q 6), .ref (q 7), .ref (q 8), .ref (q 9), .ref (q 10), .ref (q 11), .int (nI nr), .ref (q 12), .ref (q 13), .ref (q 14), .ref (q 15), .ref (q 16), .ref (q 17), .int tr])), ((q 16), .inl (cI, 240, .inl sh))] := hD
    refine lv_iload hx hb dX3_figure_41 (lv_at hl 0 rfl) ?_
    refine tw_join (fun (y : Int32) => F0 m 53 ls (.int y :: [])) (if (m_X3_in x4.toInt64 0 v3.toInt64) = 0 then (-9 : Int32) else x4) ?_ (fun J53_0 => ?_)
    · intro y53 hy53
      have hE : (m_X3_figure ra sh v3 fr nn) = (y53, ra) := Eq.symm (by (unfold m_X3_figure; (try rw [← ex4]); rw [if_pos c_29]; (try rw [← hy53])) <;> rfl)
      rw [hE]
      exact W.iret hx hb hr (fun t ht hW => ⟨⟨_, (), rfl, rfl, by rw [ht]; exact hP, va_K.moved hW.alike hK, hD⟩, hS.F ht⟩) hS.2.2 dX3_figure_53
    · refine lv_if_eq (tgt := 51) hx hb dX3_figure_43 (by decide) (fun c_43 => ?_) (fun c_43 => ?_)
      · refine lv_bipush (v := (-9)) hx hb dX3_figure_51 (by decide) ?_
        exact J53_0 _ (by (rw [if_pos c_43]) <;> rfl)
      · refine lv_iload hx hb dX3_figure_46 (lv_at hl 1 rfl) ?_
        refine lv_goto (tgt := 53) hx hb dX3_figure_48 (by decide) ?_
        exact J53_0 _ (by (rw [if_neg c_43]) <;> rfl)
  · refine lv_iconst (v := 1) hx hb dX3_figure_32 (by decide) ?_
    refine lv_goto (tgt := 37) hx hb dX3_figure_33 (by decide) ?_
    refine lv_iadd hx hb dX3_figure_37 ?_
    refine tw_top (nI_1 ra) ?_
    refine va_put (ci := 3) (v := .int (nI (ra + 1))) (ty := .int) (C := RX3) (T := TX3) (N := 26) hx hb hts hin_X3 tyX3 tyX3_ok nmX3 hown hK hP hD hS 0 rfl rfl 9 (by decide) fl_81 (fun _ h9 => h9) rfl (by decide +kernel) rfl rfl (Nat.le_of_ble_eq_true rfl) dX3_figure_38 (fun H locs hP hD hS => ?_)
    have hP : va_P D vwCl [((q 0), .inr (3, [.int fa, .int (nI nc), .ref (q 1), .int (nI nt), .ref (q 2), .ref (q 3), .ref (q 4), .ref (q 5), .int ea, .int (nI (ra + 1)), .int (nI rs), .int (nI rt), .ref (q 6), .ref (q 7), .ref (q 8), .ref (q 9), .ref (q 10), .ref (q 11), .int (nI nr), .ref (q 12), .ref (q 13), .ref (q 14), .ref (q 15), .ref (q 16), .ref (q 17), .int tr])), ((q 16), .inl (cI, 240, .inl sh))] H := hP
    have hD : va_D A [((q 0), .inr (3, [.int fa, .int (nI nc), .ref (q 1), .int (nI nt), .ref (q 2), .ref (q 3), .ref (q 4), .ref (q 5), .int ea, .int (nI (ra + 1)), .int (nI rs), .int (nI rt), .ref (q 6), .ref (q 7), .ref (q 8), .ref (q 9), .ref (q 10), .ref (q 11), .int (nI nr), .ref (q 12), .ref (q 13), .ref (q 14), .ref (q 15), .ref (q 16), .ref (q 17), .int tr])), ((q 16), .inl (cI, 240, .inl sh))] := hD
    refine lv_iload hx hb dX3_figure_41 (lv_at hl 0 rfl) ?_
    refine tw_join (fun (y : Int32) => F0 m 53 ls (.int y :: [])) (if (m_X3_in x4.toInt64 0 v3.toInt64) = 0 then (-9 : Int32) else x4) ?_ (fun J53_1 => ?_)
    · intro y53 hy53
      have hE : (m_X3_figure ra sh v3 fr nn) = (y53, (ra + 1)) := Eq.symm (by (unfold m_X3_figure; (try rw [← ex4]); rw [if_neg c_29]; (try rw [← hy53])) <;> rfl)
      rw [hE]
      exact W.iret hx hb hr (fun t ht hW => ⟨⟨_, (), rfl, rfl, by rw [ht]; exact hP, va_K.moved hW.alike hK, hD⟩, hS.F ht⟩) hS.2.2 dX3_figure_53
    · refine lv_if_eq (tgt := 51) hx hb dX3_figure_43 (by decide) (fun c_43 => ?_) (fun c_43 => ?_)
      · refine lv_bipush (v := (-9)) hx hb dX3_figure_51 (by decide) ?_
        exact J53_1 _ (by (rw [if_pos c_43]) <;> rfl)
      · refine lv_iload hx hb dX3_figure_46 (lv_at hl 1 rfl) ?_
        refine lv_goto (tgt := 53) hx hb dX3_figure_48 (by decide) ?_
        exact J53_1 _ (by (rw [if_neg c_43]) <;> rfl)
