def m_X3_readsSquares_L2 (sh : Nat → Int32) (fr : Nat) (nn : Nat) : Nat → Int32 → (Nat → Int32) → Nat → Nat → (Int32 × (Nat → Int32) × Nat × Nat)
  | 0, u3_2, wrac_2, wrs_2, wra_2 =>
    (0, fun _ => 0, 0, 0)
  | k2 + 1, u3_2, wrac_2, wrs_2, wra_2 =>
    if 6 ≤ (nI wrs_2) then
      (((if (nI wrs_2) ≤ 1 then 0 else 1) : Int32), wrac_2, wrs_2, wra_2)
    else
      if u3_2 = 0 then
        (((if (nI wrs_2) ≤ 1 then 0 else 1) : Int32), wrac_2, wrs_2, wra_2)
      else
        if ((if ((m_X3_figure wra_2 sh 9 fr nn).1) < 0 then 0 else 1) : Int32) = 0 then
          m_X3_readsSquares_L2 sh fr nn k2 ((if ((m_X3_figure wra_2 sh 9 fr nn).1) < 0 then 0 else 1) : Int32) wrac_2 wrs_2 ((m_X3_figure wra_2 sh 9 fr nn).2)
        else
          m_X3_readsSquares_L2 sh fr nn k2 ((if ((m_X3_figure wra_2 sh 9 fr nn).1) < 0 then 0 else 1) : Int32) (upd wrac_2 wrs_2 ((m_X3_figure wra_2 sh 9 fr nn).1)) (wrs_2 + 1) ((m_X3_figure wra_2 sh 9 fr nn).2)
theorem m_X3_readsSquares_L2_0 (sh : Nat → Int32) (fr : Nat) (nn : Nat) (u3_2 : Int32) (wrac_2 : Nat → Int32) (wrs_2 : Nat) (wra_2 : Nat) : m_X3_readsSquares_L2 sh fr nn 0 u3_2 wrac_2 wrs_2 wra_2 = 
    (0, fun _ => 0, 0, 0) := rfl
theorem m_X3_readsSquares_L2_s (sh : Nat → Int32) (fr : Nat) (nn : Nat) (u3_2 : Int32) (wrac_2 : Nat → Int32) (wrs_2 : Nat) (wra_2 : Nat) (k2 : Nat) : m_X3_readsSquares_L2 sh fr nn (k2 + 1) u3_2 wrac_2 wrs_2 wra_2 = 
    if 6 ≤ (nI wrs_2) then
      (((if (nI wrs_2) ≤ 1 then 0 else 1) : Int32), wrac_2, wrs_2, wra_2)
    else
      if u3_2 = 0 then
        (((if (nI wrs_2) ≤ 1 then 0 else 1) : Int32), wrac_2, wrs_2, wra_2)
      else
        if ((if ((m_X3_figure wra_2 sh 9 fr nn).1) < 0 then 0 else 1) : Int32) = 0 then
          m_X3_readsSquares_L2 sh fr nn k2 ((if ((m_X3_figure wra_2 sh 9 fr nn).1) < 0 then 0 else 1) : Int32) wrac_2 wrs_2 ((m_X3_figure wra_2 sh 9 fr nn).2)
        else
          m_X3_readsSquares_L2 sh fr nn k2 ((if ((m_X3_figure wra_2 sh 9 fr nn).1) < 0 then 0 else 1) : Int32) (upd wrac_2 wrs_2 ((m_X3_figure wra_2 sh 9 fr nn).1)) (wrs_2 + 1) ((m_X3_figure wra_2 sh 9 fr nn).2) := rfl
def m_X3_readsSquares (ra : Nat) (rs : Nat) (rac : Nat → Int32) (sh : Nat → Int32) (fr : Nat) (nn : Nat) : Int32 × (Nat → Int32) × Nat × Nat :=
  m_X3_readsSquares_L2 sh fr nn (8 - rs) 1 rac rs ra
set_option maxHeartbeats 4000000 in
set_option maxRecDepth 100000 in
theorem c_X3_readsSquares (l : Launch) (D : va_G) (cI cS : ClassId) (q : Nat → Nat) (hz : Nat) (fa : Int32) (nc : Nat) (nt : Nat) (ea : Int32) (ra : Nat) (rs : Nat) (rt : Nat) (rac : Nat → Int32) (nr : Nat) (sh : Nat → Int32) (tr : Int32) (fr : Nat) (nn : Nat) (hf2 : fr + nn ≤ 240) (hra : ra ≤ 100) (hrs : rs ≤ 6) : Met l yX3_readsSquares wsX3_readsSquares ({ frames := 2, cells := 0, slots := 0, locals := 50 }) (tw_W D cI cS [.ref (q 0), .int (nI fr), .int (nI nn)] hz [((q 0), .inr (3, [.int fa, .int (nI nc), .ref (q 1), .int (nI nt), .ref (q 2), .ref (q 3), .ref (q 4), .ref (q 5), .int ea, .int (nI ra), .int (nI rs), .int (nI rt), .ref (q 6), .ref (q 7), .ref (q 8), .ref (q 9), .ref (q 10), .ref (q 11), .int (nI nr), .ref (q 12), .ref (q 13), .ref (q 14), .ref (q 15), .ref (q 16), .ref (q 17), .int tr])), ((q 6), .inl (cI, 6, .inl rac)), ((q 16), .inl (cI, 240, .inl sh))]) (va_Qi (fun r (_ : Unit) => r = (m_X3_readsSquares ra rs rac sh fr nn).1) (tw_B D cI cS (va_A [((q 0), .inr (3, [.int fa, .int (nI nc), .ref (q 1), .int (nI nt), .ref (q 2), .ref (q 3), .ref (q 4), .ref (q 5), .int ea, .int (nI ra), .int (nI rs), .int (nI rt), .ref (q 6), .ref (q 7), .ref (q 8), .ref (q 9), .ref (q 10), .ref (q 11), .int (nI nr), .ref (q 12), .ref (q 13), .ref (q 14), .ref (q 15), .ref (q 16), .ref (q 17), .int tr])), ((q 6), .inl (cI, 6, .inl rac)), ((q 16), .inl (cI, 240, .inl sh))] hz) [((q 0), .inr (3, [.int fa, .int (nI nc), .ref (q 1), .int (nI nt), .ref (q 2), .ref (q 3), .ref (q 4), .ref (q 5), .int ea, .int (nI ((m_X3_readsSquares ra rs rac sh fr nn).2.2.2)), .int (nI ((m_X3_readsSquares ra rs rac sh fr nn).2.2.1)), .int (nI rt), .ref (q 6), .ref (q 7), .ref (q 8), .ref (q 9), .ref (q 10), .ref (q 11), .int (nI nr), .ref (q 12), .ref (q 13), .ref (q 14), .ref (q 15), .ref (q 16), .ref (q 17), .int tr])), ((q 6), .inl (cI, 6, .inl ((m_X3_readsSquares ra rs rac sh fr nn).2.1))), ((q 16), .inl (cI, 240, .inl sh))]) (va_A [((q 0), .inr (3, [.int fa, .int (nI nc), .ref (q 1), .int (nI nt), .ref (q 2), .ref (q 3), .ref (q 4), .ref (q 5), .int ea, .int (nI ra), .int (nI rs), .int (nI rt), .ref (q 6), .ref (q 7), .ref (q 8), .ref (q 9), .ref (q 10), .ref (q 11), .int (nI nr), .ref (q 12), .ref (q 13), .ref (q 14), .ref (q 15), .ref (q 16), .ref (q 17), .int tr])), ((q 6), .inl (cI, 6, .inl rac)), ((q 16), .inl (cI, 240, .inl sh))] hz)) 0 0 (va_A [((q 0), .inr (3, [.int fa, .int (nI nc), .ref (q 1), .int (nI nt), .ref (q 2), .ref (q 3), .ref (q 4), .ref (q 5), .int ea, .int (nI ra), .int (nI rs), .int (nI rt), .ref (q 6), .ref (q 7), .ref (q 8), .ref (q 9), .ref (q 10), .ref (q 11), .int (nI nr), .ref (q 12), .ref (q 13), .ref (q 14), .ref (q 15), .ref (q 16), .ref (q 17), .int tr])), ((q 6), .inl (cI, 6, .inl rac)), ((q 16), .inl (cI, 240, .inl sh))] hz) := by
  refine Met.ofW (cc := cX3_readsSquares) (maxL := 5) (ret := (some .boolean)) (by decide) rfl ?_
  intro p e s m args below meth c s₁ B hml hv
  obtain ⟨rfl, hsz, hP, hK, hD0⟩ := hv
  have hx := B.exec
  have hb := B.bytes
  have hr := B.returns
  have hts := atoms_spec (ws := wsX3_readsSquares) B.pre
  have hown : s.vm.findClass RX3 = some m.cls := findClass_of_methodNamed B.named
  have hlocks := B.notSynchronized
  subst hsz
  have hD := hD0.self (sz := s.heap.size)
  generalize hAe : va_A [((q 0), .inr (3, [.int fa, .int (nI nc), .ref (q 1), .int (nI nt), .ref (q 2), .ref (q 3), .ref (q 4), .ref (q 5), .int ea, .int (nI ra), .int (nI rs), .int (nI rt), .ref (q 6), .ref (q 7), .ref (q 8), .ref (q 9), .ref (q 10), .ref (q 11), .int (nI nr), .ref (q 12), .ref (q 13), .ref (q 14), .ref (q 15), .ref (q 16), .ref (q 17), .int tr])), ((q 6), .inl (cI, 6, .inl rac)), ((q 16), .inl (cI, 240, .inl sh))] s.heap.size = A at hD ⊢
  have hA : ∀ q : Nat, s.heap.size ≤ q → A q := fun q h => by rw [← hAe]; exact Or.inr h
  have hS : va_S A s.heap s.heap [] := va_S.rf
  have fl_88 := hts (.fieldLink RX3 88 "TableWarModel" "readSquares" "I") (by decide +kernel)
  have hin_X3 := (show ∀ w ∈ u_ws RX3 TX3 26, w ∈ wsX3_readsSquares from by decide +kernel)
  have fl_25 := hts (.fieldLink RX3 25 "TableWarModel" "readAcres" "[I") (by decide +kernel)
  have hl := lv_entry ([.ref (q 0), .int (nI fr), .int (nI nn)]) (n := 5) (Nat.le_of_ble_eq_true rfl)
  rw [lg_entry_eq]
  generalize (lg_sl ([.ref (q 0), .int (nI fr), .int (nI nn)]) ++ List.replicate (5 - (lg_sl ([.ref (q 0), .int (nI fr), .int (nI nn)])).length) Slot.unset).toArray = ls at hl ⊢
  have hl : lv_has ls 5 [(0, .ref (q 0)), (1, .int (nI fr)), (2, .int (nI nn))] := hl
  refine lv_iconst (v := 1) hx hb dX3_readsSquares_0 (by decide) ?_
  refine lv_istore_n (lv' := [(3, .int 1), (0, .ref (q 0)), (1, .int (nI fr)), (2, .int (nI nn))]) hx hb dX3_readsSquares_1 rfl hl (by decide) rfl (fun ls hl => ?_)
  refine tw_loopW (σ := Int32 × (Nat → Int32) × Nat × Nat) (fun k i z ls H locs => (z.2.2.1 + k = 8 ∨ (z.1 = 0 ∧ 1 ≤ k)) ∧ z.2.2.1 ≤ 6 ∧ z.2.2.2 + k ≤ 200 ∧ (m_X3_readsSquares ra rs rac sh fr nn) = m_X3_readsSquares_L2 sh fr nn k z.1 z.2.1 z.2.2.1 z.2.2.2 ∧ va_P D vwCl [((q 0), .inr (3, [.int fa, .int (nI nc), .ref (q 1), .int (nI nt), .ref (q 2), .ref (q 3), .ref (q 4), .ref (q 5), .int ea, .int (nI z.2.2.2), .int (nI z.2.2.1), .int (nI rt), .ref (q 6), .ref (q 7), .ref (q 8), .ref (q 9), .ref (q 10), .ref (q 11), .int (nI nr), .ref (q 12), .ref (q 13), .ref (q 14), .ref (q 15), .ref (q 16), .ref (q 17), .int tr])), ((q 6), .inl (cI, 6, .inl z.2.1)), ((q 16), .inl (cI, 240, .inl sh))] H ∧ va_D A [((q 0), .inr (3, [.int fa, .int (nI nc), .ref (q 1), .int (nI nt), .ref (q 2), .ref (q 3), .ref (q 4), .ref (q 5), .int ea, .int (nI z.2.2.2), .int (nI z.2.2.1), .int (nI rt), .ref (q 6), .ref (q 7), .ref (q 8), .ref (q 9), .ref (q 10), .ref (q 11), .int (nI nr), .ref (q 12), .ref (q 13), .ref (q 14), .ref (q 15), .ref (q 16), .ref (q 17), .int tr])), ((q 6), .inl (cI, 6, .inl z.2.1)), ((q 16), .inl (cI, 240, .inl sh))] ∧ va_S A s.heap H locs ∧ lv_has ls 5 [(3, .int z.1), (0, .ref (q 0)), (1, .int (nI fr)), (2, .int (nI nn))]) (8 - rs) 0 (1, rac, rs, ra) ⟨(show rs + (8 - rs) = 8 ∨ (1 = 0 ∧ 1 ≤ (8 - rs)) from (Or.inl (by omega))), (show rs ≤ 6 from hrs), (show ra + (8 - rs) ≤ 200 from (by omega)), (by (unfold m_X3_readsSquares) <;> rfl), hP, hD, hS, lv_sub hl [0, 1, 2, 3] rfl⟩ ?_ ?_
  · intro i2 z ls H locs hI
    obtain ⟨u3_2, wrac_2, wrs_2, wra_2⟩ := z
    obtain ⟨hf, hr6, hra2, hm2, hP, hD, hS, hl⟩ := hI
    have hm2 : (m_X3_readsSquares ra rs rac sh fr nn) = m_X3_readsSquares_L2 sh fr nn 0 u3_2 wrac_2 wrs_2 wra_2 := hm2
    have hf : wrs_2 + 0 = 8 ∨ (u3_2 = 0 ∧ 1 ≤ 0) := hf
    have hr6 : wrs_2 ≤ 6 := hr6
    have hra2 : wra_2 + 0 ≤ 200 := hra2
    have hP : va_P D vwCl [((q 0), .inr (3, [.int fa, .int (nI nc), .ref (q 1), .int (nI nt), .ref (q 2), .ref (q 3), .ref (q 4), .ref (q 5), .int ea, .int (nI wra_2), .int (nI wrs_2), .int (nI rt), .ref (q 6), .ref (q 7), .ref (q 8), .ref (q 9), .ref (q 10), .ref (q 11), .int (nI nr), .ref (q 12), .ref (q 13), .ref (q 14), .ref (q 15), .ref (q 16), .ref (q 17), .int tr])), ((q 6), .inl (cI, 6, .inl wrac_2)), ((q 16), .inl (cI, 240, .inl sh))] H := hP
    have hD : va_D A [((q 0), .inr (3, [.int fa, .int (nI nc), .ref (q 1), .int (nI nt), .ref (q 2), .ref (q 3), .ref (q 4), .ref (q 5), .int ea, .int (nI wra_2), .int (nI wrs_2), .int (nI rt), .ref (q 6), .ref (q 7), .ref (q 8), .ref (q 9), .ref (q 10), .ref (q 11), .int (nI nr), .ref (q 12), .ref (q 13), .ref (q 14), .ref (q 15), .ref (q 16), .ref (q 17), .int tr])), ((q 6), .inl (cI, 6, .inl wrac_2)), ((q 16), .inl (cI, 240, .inl sh))] := hD
    have hl : lv_has ls 5 [(3, .int u3_2), (0, .ref (q 0)), (1, .int (nI fr)), (2, .int (nI nn))] := hl
    exact absurd hf (fun q => by rcases q with q | ⟨_, q⟩ <;> omega)
  · intro k2 i2 z ls H locs ih2 hI
    obtain ⟨u3_2, wrac_2, wrs_2, wra_2⟩ := z
    obtain ⟨hf, hr6, hra2, hm2, hP, hD, hS, hl⟩ := hI
    have hm2 : (m_X3_readsSquares ra rs rac sh fr nn) = m_X3_readsSquares_L2 sh fr nn (k2 + 1) u3_2 wrac_2 wrs_2 wra_2 := hm2
    have hf : wrs_2 + (k2 + 1) = 8 ∨ (u3_2 = 0 ∧ 1 ≤ (k2 + 1)) := hf
    have hr6 : wrs_2 ≤ 6 := hr6
    have hra2 : wra_2 + (k2 + 1) ≤ 200 := hra2
    have hP : va_P D vwCl [((q 0), .inr (3, [.int fa, .int (nI nc), .ref (q 1), .int (nI nt), .ref (q 2), .ref (q 3), .ref (q 4), .ref (q 5), .int ea, .int (nI wra_2), .int (nI wrs_2), .int (nI rt), .ref (q 6), .ref (q 7), .ref (q 8), .ref (q 9), .ref (q 10), .ref (q 11), .int (nI nr), .ref (q 12), .ref (q 13), .ref (q 14), .ref (q 15), .ref (q 16), .ref (q 17), .int tr])), ((q 6), .inl (cI, 6, .inl wrac_2)), ((q 16), .inl (cI, 240, .inl sh))] H := hP
    have hD : va_D A [((q 0), .inr (3, [.int fa, .int (nI nc), .ref (q 1), .int (nI nt), .ref (q 2), .ref (q 3), .ref (q 4), .ref (q 5), .int ea, .int (nI wra_2), .int (nI wrs_2), .int (nI rt), .ref (q 6), .ref (q 7), .ref (q 8), .ref (q 9), .ref (q 10), .ref (q 11), .int (nI nr), .ref (q 12), .ref (q 13), .ref (q 14), .ref (q 15), .ref (q 16), .ref (q 17), .int tr])), ((q 6), .inl (cI, 6, .inl wrac_2)), ((q 16), .inl (cI, 240, .inl sh))] := hD
    have hl : lv_has ls 5 [(3, .int u3_2), (0, .ref (q 0)), (1, .int (nI fr)), (2, .int (nI nn))] := hl
    refine lv_aload_n hx hb dX3_readsSquares_2 rfl (lv_at hl 1 rfl) ?_
    refine va_get (ci := 3) (v := .int (nI wrs_2)) (C := RX3) (T := TX3) (N := 26) hx hb hts hin_X3 hown hK hP 0 rfl rfl 10 (by decide) fl_88 (fun _ h9 => h9) rfl dX3_readsSquares_3 ?_
    refine lv_bipush (v := 6) hx hb dX3_readsSquares_6 (by decide) ?_
    refine lv_icmp_ge (tgt := 64) hx hb dX3_readsSquares_8 (by decide) (fun c_8 => ?_) (fun c_8 => ?_)
    · refine lv_aload_n hx hb dX3_readsSquares_64 rfl (lv_at hl 1 rfl) ?_
      refine va_get (ci := 3) (v := .int (nI wrs_2)) (C := RX3) (T := TX3) (N := 26) hx hb hts hin_X3 hown hK hP 0 rfl rfl 10 (by decide) fl_88 (fun _ h9 => h9) rfl dX3_readsSquares_65 ?_
      refine lv_iconst (v := 1) hx hb dX3_readsSquares_68 (by decide) ?_
      refine tw_join (fun (y : Int32) => F0 m 77 ls (.int y :: [])) ((if (nI wrs_2) ≤ 1 then 0 else 1) : Int32) ?_ (fun J77_0 => ?_)
      · intro y77 hy77
        have hE : (m_X3_readsSquares ra rs rac sh fr nn) = (y77, wrac_2, wrs_2, wra_2) := Eq.symm (by (rw [hm2, m_X3_readsSquares_L2_s]; rw [if_pos c_8]; (try rw [← hy77])) <;> rfl)
        rw [hE]
        exact W.zret (ty := .boolean) hx hb hr (by rw [hy77]; (repeat' split) <;> rfl) (fun t ht hW => ⟨⟨_, (), rfl, rfl, by rw [ht]; exact hP, va_K.moved hW.alike hK, hD⟩, hS.F ht⟩) hS.2.2 dX3_readsSquares_77
      · refine lv_icmp_le (tgt := 76) hx hb dX3_readsSquares_69 (by decide) (fun c_69 => ?_) (fun c_69 => ?_)
        · refine lv_iconst (v := 0) hx hb dX3_readsSquares_76 (by decide) ?_
          exact J77_0 _ (by (rw [if_pos c_69]) <;> rfl)
        · refine lv_iconst (v := 1) hx hb dX3_readsSquares_72 (by decide) ?_
          refine lv_goto (tgt := 77) hx hb dX3_readsSquares_73 (by decide) ?_
          exact J77_0 _ (by (rw [if_neg c_69]) <;> rfl)
    · have hlt : wrs_2 < 6 := Nat.lt_of_not_le (fun q => c_8 (nI_le (a := 6) q (by omega)))
      refine lv_iload_n hx hb dX3_readsSquares_11 rfl (lv_at hl 0 rfl) ?_
      refine lv_if_eq (tgt := 64) hx hb dX3_readsSquares_12 (by decide) (fun c_12 => ?_) (fun c_12 => ?_)
      · refine lv_aload_n hx hb dX3_readsSquares_64 rfl (lv_at hl 1 rfl) ?_
        refine va_get (ci := 3) (v := .int (nI wrs_2)) (C := RX3) (T := TX3) (N := 26) hx hb hts hin_X3 hown hK hP 0 rfl rfl 10 (by decide) fl_88 (fun _ h9 => h9) rfl dX3_readsSquares_65 ?_
        refine lv_iconst (v := 1) hx hb dX3_readsSquares_68 (by decide) ?_
        refine tw_join (fun (y : Int32) => F0 m 77 ls (.int y :: [])) ((if (nI wrs_2) ≤ 1 then 0 else 1) : Int32) ?_ (fun J77_1 => ?_)
        · intro y77 hy77
          have hE : (m_X3_readsSquares ra rs rac sh fr nn) = (y77, wrac_2, wrs_2, wra_2) := Eq.symm (by (rw [hm2, m_X3_readsSquares_L2_s]; rw [if_neg c_8]; rw [if_pos c_12]; (try rw [← hy77])) <;> rfl)
          rw [hE]
          exact W.zret (ty := .boolean) hx hb hr (by rw [hy77]; (repeat' split) <;> rfl) (fun t ht hW => ⟨⟨_, (), rfl, rfl, by rw [ht]; exact hP, va_K.moved hW.alike hK, hD⟩, hS.F ht⟩) hS.2.2 dX3_readsSquares_77
        · refine lv_icmp_le (tgt := 76) hx hb dX3_readsSquares_69 (by decide) (fun c_69 => ?_) (fun c_69 => ?_)
          · refine lv_iconst (v := 0) hx hb dX3_readsSquares_76 (by decide) ?_
            exact J77_1 _ (by (rw [if_pos c_69]) <;> rfl)
          · refine lv_iconst (v := 1) hx hb dX3_readsSquares_72 (by decide) ?_
            refine lv_goto (tgt := 77) hx hb dX3_readsSquares_73 (by decide) ?_
            exact J77_1 _ (by (rw [if_neg c_69]) <;> rfl)
      · have hk8 : wrs_2 + (k2 + 1) = 8 := by
          rcases hf with q | ⟨q, _⟩
          · exact q
          · exact absurd q c_12
        refine lv_aload_n hx hb dX3_readsSquares_15 rfl (lv_at hl 1 rfl) ?_
        refine lv_iload_n hx hb dX3_readsSquares_16 rfl (lv_at hl 2 rfl) ?_
        refine lv_iload_n hx hb dX3_readsSquares_17 rfl (lv_at hl 3 rfl) ?_
        refine lv_bipush (v := 9) hx hb dX3_readsSquares_18 (by decide) ?_
        refine tw_wi (v := (m_X3_figure wra_2 sh 9 fr nn).1) (ws := [((q 0), .inr (3, [.int fa, .int (nI nc), .ref (q 1), .int (nI nt), .ref (q 2), .ref (q 3), .ref (q 4), .ref (q 5), .int ea, .int (nI wra_2), .int (nI wrs_2), .int (nI rt), .ref (q 6), .ref (q 7), .ref (q 8), .ref (q 9), .ref (q 10), .ref (q 11), .int (nI nr), .ref (q 12), .ref (q 13), .ref (q 14), .ref (q 15), .ref (q 16), .ref (q 17), .int tr])), ((q 6), .inl (cI, 6, .inl wrac_2)), ((q 16), .inl (cI, 240, .inl sh))]) (wc := [((q 0), .inr (3, [.int fa, .int (nI nc), .ref (q 1), .int (nI nt), .ref (q 2), .ref (q 3), .ref (q 4), .ref (q 5), .int ea, .int (nI wra_2), .int (nI wrs_2), .int (nI rt), .ref (q 6), .ref (q 7), .ref (q 8), .ref (q 9), .ref (q 10), .ref (q 11), .int (nI nr), .ref (q 12), .ref (q 13), .ref (q 14), .ref (q 15), .ref (q 16), .ref (q 17), .int tr])), ((q 16), .inl (cI, 240, .inl sh))]) (wr := [((q 6), .inl (cI, 6, .inl wrac_2))]) (w1 := [((q 0), .inr (3, [.int fa, .int (nI nc), .ref (q 1), .int (nI nt), .ref (q 2), .ref (q 3), .ref (q 4), .ref (q 5), .int ea, .int (nI ((m_X3_figure wra_2 sh 9 fr nn).2)), .int (nI wrs_2), .int (nI rt), .ref (q 6), .ref (q 7), .ref (q 8), .ref (q 9), .ref (q 10), .ref (q 11), .int (nI nr), .ref (q 12), .ref (q 13), .ref (q 14), .ref (q 15), .ref (q 16), .ref (q 17), .int tr])), ((q 16), .inl (cI, 240, .inl sh))]) (ws' := [((q 0), .inr (3, [.int fa, .int (nI nc), .ref (q 1), .int (nI nt), .ref (q 2), .ref (q 3), .ref (q 4), .ref (q 5), .int ea, .int (nI ((m_X3_figure wra_2 sh 9 fr nn).2)), .int (nI wrs_2), .int (nI rt), .ref (q 6), .ref (q 7), .ref (q 8), .ref (q 9), .ref (q 10), .ref (q 11), .int (nI nr), .ref (q 12), .ref (q 13), .ref (q 14), .ref (q 15), .ref (q 16), .ref (q 17), .int tr])), ((q 6), .inl (cI, 6, .inl wrac_2)), ((q 16), .inl (cI, 240, .inl sh))]) (va_runV (As := [.int (nI fr), .int (nI nn), .int 9]) (rest := []) ⟨hx, hb, hml, hown, hts⟩ (c_X3_figure l D cI cS q _ fa nc nt ea wra_2 wrs_2 rt nr sh tr 9 fr nn (by first | assumption | omega | exact hz60 _ | exact vp_in_nI (by omega) (by decide)) (by first | assumption | omega | exact hz60 _ | exact vp_in_nI (by omega) (by decide))) (cwV 3 hts gX3_readsSquares_X3_figure rfl rfl rfl (by decide +kernel) ⟨Nat.le_of_ble_eq_true rfl, Nat.le_of_ble_eq_true rfl⟩) ⟨tw_Wb, va_recv hK hP (ci := 3) (q0 := 0) rfl rfl, tw_Wp (hP.sub (ws' := [((q 0), .inr (3, [.int fa, .int (nI nc), .ref (q 1), .int (nI nt), .ref (q 2), .ref (q 3), .ref (q 4), .ref (q 5), .int ea, .int (nI wra_2), .int (nI wrs_2), .int (nI rt), .ref (q 6), .ref (q 7), .ref (q 8), .ref (q 9), .ref (q 10), .ref (q 11), .int (nI nr), .ref (q 12), .ref (q 13), .ref (q 14), .ref (q 15), .ref (q 16), .ref (q 17), .int tr])), ((q 16), .inl (cI, 240, .inl sh))]) [0, 2] rfl) hK (hD.sub (ws' := [((q 0), .inr (3, [.int fa, .int (nI nc), .ref (q 1), .int (nI nt), .ref (q 2), .ref (q 3), .ref (q 4), .ref (q 5), .int ea, .int (nI wra_2), .int (nI wrs_2), .int (nI rt), .ref (q 6), .ref (q 7), .ref (q 8), .ref (q 9), .ref (q 10), .ref (q 11), .int (nI nr), .ref (q 12), .ref (q 13), .ref (q 14), .ref (q 15), .ref (q 16), .ref (q 17), .int tr])), ((q 16), .inl (cI, 240, .inl sh))]) [0, 2] (by decide) rfl)⟩ rfl rfl hl.1 rfl (lv_room (Nat.le_of_ble_eq_true rfl)) dX3_readsSquares_20 ⟨Nat.zero_le _, Nat.zero_le _⟩) hP hD hS hA [0, 2] [1] [1, 0, 2] rfl rfl (by decide) (by decide) rfl (by decide) (fun H locs hP hD hS => ?_)
        refine lv_topi (fun x4 ex4 => ?_)
        refine lv_istore (lv' := [(4, .int x4), (3, .int u3_2), (0, .ref (q 0)), (1, .int (nI fr)), (2, .int (nI nn))]) hx hb dX3_readsSquares_23 hl (by decide) rfl (fun ls hl => ?_)
        refine lv_iload hx hb dX3_readsSquares_25 (lv_at hl 0 rfl) ?_
        refine tw_join (fun (y : Int32) => F0 m 35 ls (.int y :: [])) ((if x4 < 0 then 0 else 1) : Int32) ?_ (fun J35_2 => ?_)
        · intro y35 hy35
          refine lv_istore_n (lv' := [(3, .int y35), (4, .int x4), (0, .ref (q 0)), (1, .int (nI fr)), (2, .int (nI nn))]) hx hb dX3_readsSquares_35 rfl hl (by decide) rfl (fun ls hl => ?_)
          refine lv_iload_n hx hb dX3_readsSquares_36 rfl (lv_at hl 0 rfl) ?_
          refine lv_if_eq (tgt := 61) hx hb dX3_readsSquares_37 (by decide) (fun c_37 => ?_) (fun c_37 => ?_)
          · refine lv_goto (tgt := 2) hx hb dX3_readsSquares_61 (by decide) ?_
            exact ih2 (y35, wrac_2, wrs_2, ((m_X3_figure wra_2 sh 9 fr nn).2)) ls H _ ⟨(show wrs_2 + k2 = 8 ∨ (y35 = 0 ∧ 1 ≤ k2) from (by first | exact Or.inl (by omega) | exact Or.inr ⟨c_37, by omega⟩)), (show wrs_2 ≤ 6 from (by omega)), (show ((m_X3_figure wra_2 sh 9 fr nn).2) + k2 ≤ 200 from (Nat.le_trans (Nat.add_le_add_right fig_le _) (by omega))), (by (rw [hm2, m_X3_readsSquares_L2_s]; rw [if_neg c_8]; rw [if_neg c_12]; (try rw [← ex4]); (try rw [← hy35]); rw [if_pos c_37]) <;> rfl), hP, hD, hS, lv_sub hl [0, 2, 3, 4] rfl⟩
          · refine lv_aload_n hx hb dX3_readsSquares_40 rfl (lv_at hl 2 rfl) ?_
            refine va_get (ci := 3) (v := .ref (q 6)) (C := RX3) (T := TX3) (N := 26) hx hb hts hin_X3 hown hK hP 0 rfl rfl 12 (by decide) fl_25 (fun _ h9 => h9) rfl dX3_readsSquares_41 ?_
            refine lv_aload_n hx hb dX3_readsSquares_44 rfl (lv_at hl 2 rfl) ?_
            refine va_get (ci := 3) (v := .int (nI wrs_2)) (C := RX3) (T := TX3) (N := 26) hx hb hts hin_X3 hown hK hP 0 rfl rfl 10 (by decide) fl_88 (fun _ h9 => h9) rfl dX3_readsSquares_45 ?_
            refine lv_iload hx hb dX3_readsSquares_48 (lv_at hl 1 rfl) ?_
            refine va_iast hx hb hK hP hD hS 1 0 rfl rfl (vp_in_nI (show wrs_2 < 6 by omega) (by decide)) dX3_readsSquares_50 (fun H locs hP hD hS => ?_)
            rw [nI_clamp (show wrs_2 < 2 ^ 31 by omega)] at hP hD
            have hP : va_P D vwCl [((q 0), .inr (3, [.int fa, .int (nI nc), .ref (q 1), .int (nI nt), .ref (q 2), .ref (q 3), .ref (q 4), .ref (q 5), .int ea, .int (nI ((m_X3_figure wra_2 sh 9 fr nn).2)), .int (nI wrs_2), .int (nI rt), .ref (q 6), .ref (q 7), .ref (q 8), .ref (q 9), .ref (q 10), .ref (q 11), .int (nI nr), .ref (q 12), .ref (q 13), .ref (q 14), .ref (q 15), .ref (q 16), .ref (q 17), .int tr])), ((q 6), .inl (cI, 6, .inl (upd wrac_2 wrs_2 x4))), ((q 16), .inl (cI, 240, .inl sh))] H := hP
            have hD : va_D A [((q 0), .inr (3, [.int fa, .int (nI nc), .ref (q 1), .int (nI nt), .ref (q 2), .ref (q 3), .ref (q 4), .ref (q 5), .int ea, .int (nI ((m_X3_figure wra_2 sh 9 fr nn).2)), .int (nI wrs_2), .int (nI rt), .ref (q 6), .ref (q 7), .ref (q 8), .ref (q 9), .ref (q 10), .ref (q 11), .int (nI nr), .ref (q 12), .ref (q 13), .ref (q 14), .ref (q 15), .ref (q 16), .ref (q 17), .int tr])), ((q 6), .inl (cI, 6, .inl (upd wrac_2 wrs_2 x4))), ((q 16), .inl (cI, 240, .inl sh))] := hD
            refine lv_aload_n hx hb dX3_readsSquares_51 rfl (lv_at hl 2 rfl) ?_
            refine lv_dup hx hb dX3_readsSquares_52 rfl ?_
            refine va_get (ci := 3) (v := .int (nI wrs_2)) (C := RX3) (T := TX3) (N := 26) hx hb hts hin_X3 hown hK hP 0 rfl rfl 10 (by decide) fl_88 (fun _ h9 => h9) rfl dX3_readsSquares_53 ?_
            refine lv_iconst (v := 1) hx hb dX3_readsSquares_56 (by decide) ?_
            refine lv_iadd hx hb dX3_readsSquares_57 ?_
            refine tw_top (nI_1 wrs_2) ?_
            refine va_put (ci := 3) (v := .int (nI (wrs_2 + 1))) (ty := .int) (C := RX3) (T := TX3) (N := 26) hx hb hts hin_X3 tyX3 tyX3_ok nmX3 hown hK hP hD hS 0 rfl rfl 10 (by decide) fl_88 (fun _ h9 => h9) rfl (by decide +kernel) rfl rfl (Nat.le_of_ble_eq_true rfl) dX3_readsSquares_58 (fun H locs hP hD hS => ?_)
            have hP : va_P D vwCl [((q 0), .inr (3, [.int fa, .int (nI nc), .ref (q 1), .int (nI nt), .ref (q 2), .ref (q 3), .ref (q 4), .ref (q 5), .int ea, .int (nI ((m_X3_figure wra_2 sh 9 fr nn).2)), .int (nI (wrs_2 + 1)), .int (nI rt), .ref (q 6), .ref (q 7), .ref (q 8), .ref (q 9), .ref (q 10), .ref (q 11), .int (nI nr), .ref (q 12), .ref (q 13), .ref (q 14), .ref (q 15), .ref (q 16), .ref (q 17), .int tr])), ((q 6), .inl (cI, 6, .inl (upd wrac_2 wrs_2 x4))), ((q 16), .inl (cI, 240, .inl sh))] H := hP
            have hD : va_D A [((q 0), .inr (3, [.int fa, .int (nI nc), .ref (q 1), .int (nI nt), .ref (q 2), .ref (q 3), .ref (q 4), .ref (q 5), .int ea, .int (nI ((m_X3_figure wra_2 sh 9 fr nn).2)), .int (nI (wrs_2 + 1)), .int (nI rt), .ref (q 6), .ref (q 7), .ref (q 8), .ref (q 9), .ref (q 10), .ref (q 11), .int (nI nr), .ref (q 12), .ref (q 13), .ref (q 14), .ref (q 15), .ref (q 16), .ref (q 17), .int tr])), ((q 6), .inl (cI, 6, .inl (upd wrac_2 wrs_2 x4))), ((q 16), .inl (cI, 240, .inl sh))] := hD
            refine lv_goto (tgt := 2) hx hb dX3_readsSquares_61 (by decide) ?_
            exact ih2 (y35, upd wrac_2 wrs_2 x4, (wrs_2 + 1), ((m_X3_figure wra_2 sh 9 fr nn).2)) ls H _ ⟨(show (wrs_2 + 1) + k2 = 8 ∨ (y35 = 0 ∧ 1 ≤ k2) from (by first | exact Or.inl (by omega) | exact Or.inr ⟨c_37, by omega⟩)), (show (wrs_2 + 1) ≤ 6 from (by omega)), (show ((m_X3_figure wra_2 sh 9 fr nn).2) + k2 ≤ 200 from (Nat.le_trans (Nat.add_le_add_right fig_le _) (by omega))), (by (rw [hm2, m_X3_readsSquares_L2_s]; rw [if_neg c_8]; rw [if_neg c_12]; (try rw [← ex4]); (try rw [← hy35]); rw [if_neg c_37]) <;> rfl), hP, hD, hS, lv_sub hl [0, 2, 3, 4] rfl⟩
        · refine lv_if_lt (tgt := 34) hx hb dX3_readsSquares_27 (by decide) (fun c_27 => ?_) (fun c_27 => ?_)
          · refine lv_iconst (v := 0) hx hb dX3_readsSquares_34 (by decide) ?_
            exact J35_2 _ (by (rw [if_pos c_27]) <;> rfl)
          · refine lv_iconst (v := 1) hx hb dX3_readsSquares_30 (by decide) ?_
            refine lv_goto (tgt := 35) hx hb dX3_readsSquares_31 (by decide) ?_
            exact J35_2 _ (by (rw [if_neg c_27]) <;> rfl)
