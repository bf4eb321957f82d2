/-! THE CLAIM OUT OF ONE WALK OF THE LAW'S BODY. Your part is whole_start (and what it stands on); all else here is the same for every law, but numbers. -/
def R_law : String := "TableWarLaw"
def lw_P (b : Addr) (xs : List Int32) (args : Array Value) (s : State) : Prop := args = #[.ref b] ∧ s.IntsAt b xs ∧ xs.length ≤ 384 ∧ (Jvm.Cond.and given_1 narrow_1).before args s = true
def lw_Q (_ : Array Value) (s : State) (o : Outcome) (t : State) : Prop := o = .returned (some (.int 1)) ∧ Framed s o t [] 600000 7302250
def lw_Z (below : List Frame) (a : Array Value) (s : State) : State → Prop := fun t => ∃ o, t.status = .running ∧ Ended t below o ∧ lw_Q a s o t
/-- the law's own end, with 1 on the stack, nothing written that was there before, its room as the claim has it -/
theorem lw_ret {p : Program} {l : Launch} {e : Env} {s : State} {m : MethodId} {below : List Frame} {meth : Method} {c : Code} {b : Nat} (hx : p.tables.exec = Jvm.exec) (hb : c.code = code) (hr : meth.sig.returnType = ret) (hlocks : meth.locks = false) {pc : Nat} {H : Heap} {ls : Array Slot} (hdg : decode code pc = .ok (.ireturn, 1)) : W p l e room_1 s m #[Value.ref b] below meth c H [] 600000 7302250 (lw_Z below #[Value.ref b] s) (F0 m pc ls [.int 1]) := by
  intro T hT X
  obtain ⟨fs, hret, hrun, hended, hW, hframe⟩ := X.leave (v := some (.int 1)) (hlocks := hlocks) (fun h => by rw [hr] at h; cases h)
  have hmeth' : T.vm.method? m = some meth := X.method'
  refine ⟨T.setFrames fs, ?_, .returned (some (.int 1)), hrun, hended, rfl, ⟨_, rfl⟩, hW, hframe⟩
  jvm_step X.here [X.here.top, hx, hb, hdg, hmeth', hr, ret, narrow_b1]
  (try refine ⟨rfl, ?_⟩); (try refine ⟨rfl, ?_⟩)
  first | (intro acts; rw [hret _ acts rfl rfl rfl]) | rw [hret _ _ rfl rfl rfl]
  exact Steps.refl _
/-- what holds at the law's entry: the machine, the code, the tables' words (any of lw_tbl by 'hts w (by decide +kernel)'), the script of L ints xs at the cell b, what the Statement gives of the start (any of its parts by flat_of_before) -/
def lw_At (p : Program) (s : State) (m : MethodId) (meth : Method) (c : Code) (b L : Nat) (xs : Nat → Int32) : Prop :=
  p.tables.exec = Jvm.exec ∧ c.code = code ∧ meth.sig.returnType = ret ∧ c.maxLocals = 4 ∧ s.vm.findClass R_law = some m.cls ∧ (∀ w ∈ lw_tbl, w.before #[Value.ref b] s = true) ∧ va_X b L xs s s.heap ∧ b < s.heap.size ∧ meth.locks = false ∧ (Jvm.Cond.and given_1 narrow_1).before #[Value.ref b] s = true
set_option maxHeartbeats 4000000 in
set_option maxRecDepth 100000 in
theorem lw_head {p : Program} {l : Launch} {e : Env} {s : State} {m : MethodId} {below : List Frame} {meth : Method} {c : Code} {Q : State → Prop} {D : va_G} {cI cS : ClassId} {q r : Nat → Nat} {b L i : Nat} {xs : Nat → Int32} {ls : Array Slot} {H : Heap} {locs : List Loc} (X : CX p s m c D cI cS b L xs) (hi : i ≤ 390) (h : LI D cI cS q r b s.heap i ls H locs) (kx : ¬ i + 6 ≤ L → W p l e room_1 s m #[Value.ref b] below meth c H locs 600000 7302250 Q (F0 m 1143 ls [])) (kb : i + 6 ≤ L → W p l e room_1 s m #[Value.ref b] below meth c H locs 600000 7302250 Q (F0 m 27 ls [])) : W p l e room_1 s m #[Value.ref b] below meth c H locs 600000 7302250 Q (F0 m 18 ls []) := by
  obtain ⟨hx, hb, hml, hown, hts, hX, hbl, hK, hL⟩ := X
  obtain ⟨_, _, _, _, _, _, _, _, _, _, _, _, _, _, _, _, _, _, _, _, _, _, _, _, _, _, _, _, _, _, _, _, _, _, _, _, _, _, _, _, _, _, _, _, _, _, _, _, _, _, hT, hP, hD, hS, hl⟩ := h
  have hbA : ¬ (fun x : Nat => s.heap.size ≤ x) b := Nat.not_le.mpr hbl
  have t : (Int32.ofNat L - 6).toInt = (L : Int) - 6 := pk_sub_toInt (a := L) (b := 6) (by omega) (by omega)
  refine lv_iload_n hx hb dL_law_18 rfl (lv_at hl 3 rfl) ?_
  refine lv_aload_n hx hb dL_law_19 rfl (lv_at hl 0 rfl) ?_
  refine va_slen hx hb hX hbl hbA hS dL_law_20 ?_
  refine lv_bipush (v := 6) hx hb dL_law_21 (by decide) ?_
  refine lv_isub hx hb dL_law_23 ?_
  refine lv_icmp_gt (tgt := 1143) hx hb dL_law_24 (by decide) (fun c9 => kx ?_) (fun c9 => kb ?_)
  · rw [Int32.lt_iff_toInt_lt, t, nI_toInt (by omega)] at c9
    omega
  · rw [Int32.lt_iff_toInt_lt, t, nI_toInt (by omega)] at c9
    omega
set_option maxHeartbeats 4000000 in
set_option maxRecDepth 100000 in
theorem lw_disp {p : Program} {l : Launch} {e : Env} {s : State} {m : MethodId} {below : List Frame} {meth : Method} {c : Code} {Q : State → Prop} {D : va_G} {cI cS : ClassId} {q r : Nat → Nat} {b L i : Nat} {xs : Nat → Int32} {ls : Array Slot} {H : Heap} {locs : List Loc} (X : CX p s m c D cI cS b L xs) (hi : i + 6 ≤ L) (h : LI D cI cS q r b s.heap i ls H locs) (kk : ∀ ls H locs, LI D cI cS q r b s.heap i ls H locs → W p l e room_1 s m #[Value.ref b] below meth c H locs 600000 7302250 Q (F0 m 1137 ls [])) : W p l e room_1 s m #[Value.ref b] below meth c H locs 600000 7302250 Q (F0 m 27 ls []) := by
  obtain ⟨hx, hb, hml, hown, hts, hX, hbl, hK, hL⟩ := id X
  obtain ⟨_, _, _, _, _, _, _, _, _, _, _, _, _, _, _, _, _, _, _, _, _, _, _, _, _, _, _, _, _, _, _, _, _, _, _, _, _, _, _, _, _, _, _, _, _, _, _, _, _, _, hT, hP, hD, hS, hl⟩ := id h
  have hbA : ¬ (fun x : Nat => s.heap.size ≤ x) b := Nat.not_le.mpr hbl
  refine lv_aload_n hx hb dL_law_27 rfl (lv_at hl 0 rfl) ?_
  refine lv_iload_n hx hb dL_law_28 rfl (lv_at hl 3 rfl) ?_
  refine va_sld hx hb hX hbl hbA hS (vp_in_nI (by omega) (by omega)) dL_law_29 ?_
  refine lv_bipush (v := 31) hx hb dL_law_30 (by decide) ?_
  refine lv_iand hx hb dL_law_32 ?_
  obtain ⟨j, hj, ej⟩ := pk_andE (xs (nI i).toNatClampNeg) (m := 31) 5 rfl
  refine tw_top ej ?_
  have hj : j < 32 := hj
  have hj : j = 0 ∨ j = 1 ∨ j = 2 ∨ j = 3 ∨ j = 4 ∨ j = 5 ∨ j = 6 ∨ j = 7 ∨ j = 8 ∨ j = 9 ∨ j = 10 ∨ j = 11 ∨ j = 12 ∨ j = 13 ∨ j = 14 ∨ j = 15 ∨ j = 16 ∨ j = 17 ∨ j = 18 ∨ j = 19 ∨ j = 20 ∨ j = 21 ∨ j = 22 ∨ j = 23 ∨ j = 24 ∨ j = 25 ∨ j = 26 ∨ j = 27 ∨ j = 28 ∨ j = 29 ∨ j = 30 ∨ j = 31 := by omega
  rcases hj with rfl | rfl | rfl | rfl | rfl | rfl | rfl | rfl | rfl | rfl | rfl | rfl | rfl | rfl | rfl | rfl | rfl | rfl | rfl | rfl | rfl | rfl | rfl | rfl | rfl | rfl | rfl | rfl | rfl | rfl | rfl | rfl
  · refine lv_tableIn (off := 139) (tgt := 172) hx hb dL_law_33 (by decide) (by decide) (by decide) (by decide) ?_
    exact lw_c0 X hi h kk
  · refine lv_tableIn (off := 192) (tgt := 225) hx hb dL_law_33 (by decide) (by decide) (by decide) (by decide) ?_
    exact lw_c1 X hi h kk
  · refine lv_tableIn (off := 225) (tgt := 258) hx hb dL_law_33 (by decide) (by decide) (by decide) (by decide) ?_
    exact lw_c2 X hi h kk
  · refine lv_tableIn (off := 248) (tgt := 281) hx hb dL_law_33 (by decide) (by decide) (by decide) (by decide) ?_
    exact lw_c3 X hi h kk
  · refine lv_tableIn (off := 281) (tgt := 314) hx hb dL_law_33 (by decide) (by decide) (by decide) (by decide) ?_
    exact lw_c4 X hi h kk
  · refine lv_tableIn (off := 314) (tgt := 347) hx hb dL_law_33 (by decide) (by decide) (by decide) (by decide) ?_
    exact lw_c5 X hi h kk
  · refine lv_tableIn (off := 347) (tgt := 380) hx hb dL_law_33 (by decide) (by decide) (by decide) (by decide) ?_
    exact lw_c6 X hi h kk
  · refine lv_tableIn (off := 370) (tgt := 403) hx hb dL_law_33 (by decide) (by decide) (by decide) (by decide) ?_
    exact lw_c7 X hi h kk
  · refine lv_tableIn (off := 393) (tgt := 426) hx hb dL_law_33 (by decide) (by decide) (by decide) (by decide) ?_
    exact lw_c8 X hi h kk
  · refine lv_tableIn (off := 426) (tgt := 459) hx hb dL_law_33 (by decide) (by decide) (by decide) (by decide) ?_
    exact lw_c9 X hi h kk
  · refine lv_tableIn (off := 439) (tgt := 472) hx hb dL_law_33 (by decide) (by decide) (by decide) (by decide) ?_
    exact lw_c10 X hi h kk
  · refine lv_tableIn (off := 502) (tgt := 535) hx hb dL_law_33 (by decide) (by decide) (by decide) (by decide) ?_
    exact lw_c11 X hi h kk
  · refine lv_tableIn (off := 535) (tgt := 568) hx hb dL_law_33 (by decide) (by decide) (by decide) (by decide) ?_
    exact lw_c12 X hi h kk
  · refine lv_tableIn (off := 568) (tgt := 601) hx hb dL_law_33 (by decide) (by decide) (by decide) (by decide) ?_
    exact lw_c13 X hi h kk
  · refine lv_tableIn (off := 601) (tgt := 634) hx hb dL_law_33 (by decide) (by decide) (by decide) (by decide) ?_
    exact lw_c14 X hi h kk
  · refine lv_tableIn (off := 634) (tgt := 667) hx hb dL_law_33 (by decide) (by decide) (by decide) (by decide) ?_
    exact lw_c15 X hi h kk
  · refine lv_tableIn (off := 657) (tgt := 690) hx hb dL_law_33 (by decide) (by decide) (by decide) (by decide) ?_
    exact lw_c16 X hi h kk
  · refine lv_tableIn (off := 680) (tgt := 713) hx hb dL_law_33 (by decide) (by decide) (by decide) (by decide) ?_
    exact lw_c17 X hi h kk
  · refine lv_tableIn (off := 703) (tgt := 736) hx hb dL_law_33 (by decide) (by decide) (by decide) (by decide) ?_
    exact lw_c18 X hi h kk
  · refine lv_tableIn (off := 726) (tgt := 759) hx hb dL_law_33 (by decide) (by decide) (by decide) (by decide) ?_
    exact lw_c19 X hi h kk
  · refine lv_tableIn (off := 760) (tgt := 793) hx hb dL_law_33 (by decide) (by decide) (by decide) (by decide) ?_
    exact lw_c20 X hi h kk
  · refine lv_tableIn (off := 803) (tgt := 836) hx hb dL_law_33 (by decide) (by decide) (by decide) (by decide) ?_
    exact lw_c21 X hi h kk
  · refine lv_tableIn (off := 826) (tgt := 859) hx hb dL_law_33 (by decide) (by decide) (by decide) (by decide) ?_
    exact lw_c22 X hi h kk
  · refine lv_tableIn (off := 869) (tgt := 902) hx hb dL_law_33 (by decide) (by decide) (by decide) (by decide) ?_
    exact lw_c23 X hi h kk
  · refine lv_tableIn (off := 913) (tgt := 946) hx hb dL_law_33 (by decide) (by decide) (by decide) (by decide) ?_
    exact lw_c24 X hi h kk
  · refine lv_tableIn (off := 976) (tgt := 1009) hx hb dL_law_33 (by decide) (by decide) (by decide) (by decide) ?_
    exact lw_c25 X hi h kk
  · refine lv_tableIn (off := 999) (tgt := 1032) hx hb dL_law_33 (by decide) (by decide) (by decide) (by decide) ?_
    exact lw_c26 X hi h kk
  · refine lv_tableIn (off := 1022) (tgt := 1055) hx hb dL_law_33 (by decide) (by decide) (by decide) (by decide) ?_
    exact lw_c27 X hi h kk
  · refine lv_tableIn (off := 1055) (tgt := 1088) hx hb dL_law_33 (by decide) (by decide) (by decide) (by decide) ?_
    exact lw_c28 X hi h kk
  · refine lv_tableIn (off := 1068) (tgt := 1101) hx hb dL_law_33 (by decide) (by decide) (by decide) (by decide) ?_
    exact lw_c29 X hi h kk
  · refine lv_tableIn (off := 1081) (tgt := 1114) hx hb dL_law_33 (by decide) (by decide) (by decide) (by decide) ?_
    exact lw_c30 X hi h kk
  · refine lv_tableOut (tgt := 1137) hx hb dL_law_33 (Or.inr (by decide)) (by decide) ?_
    exact kk _ _ _ h
theorem lw_exit {p : Program} {l : Launch} {e : Env} {s : State} {m : MethodId} {below : List Frame} {meth : Method} {c : Code} {D : va_G} {cI cS : ClassId} {q r : Nat → Nat} {b L i : Nat} {xs : Nat → Int32} {ls : Array Slot} {H : Heap} {locs : List Loc} (X : CX p s m c D cI cS b L xs) (hr : meth.sig.returnType = ret) (hlocks : meth.locks = false) (h : LI D cI cS q r b s.heap i ls H locs) : W p l e room_1 s m #[Value.ref b] below meth c H locs 600000 7302250 (lw_Z below #[Value.ref b] s) (F0 m 1143 ls []) := by
  obtain ⟨hx, hb, hml, hown, hts, hX, hbl, hK, hL⟩ := X
  obtain ⟨_, _, _, _, _, _, _, _, _, _, _, _, _, _, _, _, _, _, _, _, _, _, _, _, _, _, _, _, _, _, _, _, _, _, _, _, _, _, _, _, _, _, _, _, _, _, _, _, _, _, hT, hP, hD, hS, hl⟩ := h
  refine lv_iconst (v := 1) hx hb dL_law_1143 (by decide) ?_
  refine va_forget (fun x hx => hS.2.2 x hx) ?_
  exact lw_ret hx hb hr hlocks dL_law_1144
theorem lw_loop {p : Program} {l : Launch} {e : Env} {s : State} {m : MethodId} {below : List Frame} {meth : Method} {c : Code} {D : va_G} {cI cS : ClassId} {q r : Nat → Nat} {b L : Nat} {xs : Nat → Int32} (X : CX p s m c D cI cS b L xs) (hr : meth.sig.returnType = ret) (hlocks : meth.locks = false) : ∀ n i ls H locs, L < i + 6 * n → i ≤ 390 → LI D cI cS q r b s.heap i ls H locs → W p l e room_1 s m #[Value.ref b] below meth c H locs 600000 7302250 (lw_Z below #[Value.ref b] s) (F0 m 18 ls []) := by
  obtain ⟨hx, hb, hml, hown, hts, hX, hbl, hK, hL⟩ := id X
  intro n
  induction n with
  | zero =>
    intro i ls H locs h1 h2 h
    exact lw_head X h2 h (fun _ => lw_exit X hr hlocks h) (fun q => absurd q (by omega))
  | succ n ih =>
    intro i ls H locs h1 h2 h
    refine lw_head X h2 h (fun _ => lw_exit X hr hlocks h) (fun hi => lw_disp X hi h (fun ls H locs h => ?_))
    obtain ⟨ac, kd, ho, pl, st, nc, nt, ea, xac, xkd, xho, xpl, xst, xnc, xnt, xea, ro, la, sz, rc, rh, nr, tr, lf, fa, nc', ac', nt', kd', ho', pl', st', ea', ra, rs, rt, rac, rkd, rho, rpl, rst, kp, nr', rc', rh', sz', la', sh', hd, tr', hT, hP, hD, hS, hl⟩ := h
    refine lv_iinc (v := nI (i + 6)) (lv' := [(3, .int (nI (i + 6))), (0, .ref b), (1, .ref (q 0)), (2, .ref (r 0))]) hx hb dL_law_1137 hl (k := 3) rfl (by first | exact (nI_add i 6) | exact (nI_add i 6).symm | (rw [← nI_add]; rfl)) (by decide) rfl (fun ls hl => ?_)
    refine lv_goto (tgt := 18) hx hb dL_law_1140 (by decide) ?_
    exact ih (i + 6) _ _ _ (by omega) (by omega) ⟨_, _, _, _, _, _, _, _, _, _, _, _, _, _, _, _, _, _, _, _, _, _, _, _, _, _, _, _, _, _, _, _, _, _, _, _, _, _, _, _, _, _, _, _, _, _, _, _, _, _, hT, hP, hD, hS, lv_sub hl [1, 2, 3, 0] rfl⟩
