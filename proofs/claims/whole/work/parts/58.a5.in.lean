set_option maxRecDepth 20000 in
theorem inX0 : ∀ w ∈ wsX00, w ∈ lw_tbl := lw_at _ [86, 88, 90, 92, 94, 96, 98, 100] (by decide +kernel)
set_option maxRecDepth 20000 in
theorem inX1 : ∀ w ∈ wsX10, w ∈ lw_tbl := lw_at _ [116, 118, 120] (by decide +kernel)
set_option maxRecDepth 20000 in
theorem inX2 : ∀ w ∈ wsX20, w ∈ lw_tbl := lw_at _ [131, 133, 135, 137, 139, 141, 143, 145] (by decide +kernel)
set_option maxRecDepth 20000 in
theorem inX3 : ∀ w ∈ wsX30, w ∈ lw_tbl := lw_at _ [545, 547, 549, 551, 553, 555, 557, 559, 561, 563, 565, 567, 569, 571, 573, 575, 577, 579, 581, 583, 585, 587, 589, 591, 593, 595] (by decide +kernel)
theorem inJ6 : ∀ w ∈ wsJ60, w ∈ lw_tbl := fun w h => absurd (show w ∈ ([] : List Cond) from h) List.not_mem_nil
theorem inJ9 : ∀ w ∈ wsJ90, w ∈ lw_tbl := fun w h => absurd (show w ∈ ([] : List Cond) from h) List.not_mem_nil
theorem inJ10 : ∀ w ∈ wsJ100, w ∈ lw_tbl := fun w h => absurd (show w ∈ ([] : List Cond) from h) List.not_mem_nil
theorem inJ7 : ∀ w ∈ wsJ70, w ∈ lw_tbl := fun w h => absurd (show w ∈ ([] : List Cond) from h) List.not_mem_nil
theorem wsL_law_in : ∀ w ∈ wsL_law, w ∈ lw_tbl := by
  have h0 : ∀ w ∈ ([] : List Cond), w ∈ lw_tbl := fun _ h => absurd h List.not_mem_nil
  exact List.forall_mem_append.mpr ⟨List.forall_mem_append.mpr ⟨List.forall_mem_append.mpr ⟨List.forall_mem_append.mpr ⟨List.forall_mem_append.mpr ⟨List.forall_mem_append.mpr ⟨lw_in_r1, List.forall_mem_append.mpr ⟨lw_in_r2, List.forall_mem_append.mpr ⟨lw_in_r3, List.forall_mem_append.mpr ⟨lw_in_r4, List.forall_mem_append.mpr ⟨lw_in_r5, List.forall_mem_append.mpr ⟨lw_in_r6, List.forall_mem_append.mpr ⟨lw_in_r7, List.forall_mem_append.mpr ⟨lw_in_r8, List.forall_mem_append.mpr ⟨lw_in_r9, List.forall_mem_append.mpr ⟨lw_in_r10, List.forall_mem_append.mpr ⟨lw_in_r11, List.forall_mem_append.mpr ⟨lw_in_r12, List.forall_mem_append.mpr ⟨lw_in_r13, List.forall_mem_append.mpr ⟨lw_in_r14, List.forall_mem_append.mpr ⟨lw_in_r15, List.forall_mem_append.mpr ⟨lw_in_r16, List.forall_mem_append.mpr ⟨lw_in_r17, List.forall_mem_append.mpr ⟨lw_in_r18, List.forall_mem_append.mpr ⟨lw_in_r19, List.forall_mem_append.mpr ⟨lw_in_r20, List.forall_mem_append.mpr ⟨lw_in_r21, List.forall_mem_append.mpr ⟨lw_in_r22, List.forall_mem_append.mpr ⟨lw_in_r23, List.forall_mem_append.mpr ⟨lw_in_r24, List.forall_mem_append.mpr ⟨lw_in_r25, List.forall_mem_append.mpr ⟨lw_in_r26, List.forall_mem_append.mpr ⟨lw_in_r27, List.forall_mem_append.mpr ⟨lw_in_r28, List.forall_mem_append.mpr ⟨lw_in_r29, List.forall_mem_append.mpr ⟨lw_in_r30, lw_in_r31⟩⟩⟩⟩⟩⟩⟩⟩⟩⟩⟩⟩⟩⟩⟩⟩⟩⟩⟩⟩⟩⟩⟩⟩⟩⟩⟩⟩⟩⟩, inX2⟩, inX3⟩, inX0⟩, inX1⟩, h0⟩
