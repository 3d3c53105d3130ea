set_option maxRecDepth 20000 in
theorem wsL_law_in0 : ∀ w ∈ wsL_law0, w ∈ lw_tbl := by
  unfold wsL_law0
  exact List.forall_mem_append.mpr ⟨List.forall_mem_append.mpr ⟨List.forall_mem_append.mpr ⟨List.forall_mem_append.mpr ⟨List.forall_mem_append.mpr ⟨List.forall_mem_append.mpr ⟨List.forall_mem_append.mpr ⟨List.forall_mem_append.mpr ⟨List.forall_mem_append.mpr ⟨i_wsL_law0_r1, List.forall_mem_append.mpr ⟨i_wsL_law0_r2, List.forall_mem_append.mpr ⟨i_wsL_law0_r3, List.forall_mem_append.mpr ⟨i_wsL_law0_r4, List.forall_mem_append.mpr ⟨i_wsL_law0_r5, List.forall_mem_append.mpr ⟨i_wsL_law0_r6, List.forall_mem_append.mpr ⟨i_wsL_law0_r7, List.forall_mem_append.mpr ⟨i_wsL_law0_r8, List.forall_mem_append.mpr ⟨i_wsL_law0_r9, List.forall_mem_append.mpr ⟨i_wsL_law0_r10, List.forall_mem_append.mpr ⟨i_wsL_law0_r11, List.forall_mem_append.mpr ⟨i_wsL_law0_r12, List.forall_mem_append.mpr ⟨i_wsL_law0_r13, List.forall_mem_append.mpr ⟨i_wsL_law0_r14, List.forall_mem_append.mpr ⟨i_wsL_law0_r15, List.forall_mem_append.mpr ⟨i_wsL_law0_r16, List.forall_mem_append.mpr ⟨i_wsL_law0_r17, List.forall_mem_append.mpr ⟨i_wsL_law0_r18, List.forall_mem_append.mpr ⟨i_wsL_law0_r19, List.forall_mem_append.mpr ⟨i_wsL_law0_r20, List.forall_mem_append.mpr ⟨i_wsL_law0_r21, List.forall_mem_append.mpr ⟨i_wsL_law0_r22, List.forall_mem_append.mpr ⟨i_wsL_law0_r23, List.forall_mem_append.mpr ⟨i_wsL_law0_r24, List.forall_mem_append.mpr ⟨i_wsL_law0_r25, List.forall_mem_append.mpr ⟨i_wsL_law0_r26, List.forall_mem_append.mpr ⟨i_wsL_law0_r27, List.forall_mem_append.mpr ⟨i_wsL_law0_r28, List.forall_mem_append.mpr ⟨i_wsL_law0_r29, List.forall_mem_append.mpr ⟨i_wsL_law0_r30, List.forall_mem_append.mpr ⟨i_wsL_law0_r31, List.forall_mem_append.mpr ⟨i_wsL_law0_r32, i_wsL_law0_r33⟩⟩⟩⟩⟩⟩⟩⟩⟩⟩⟩⟩⟩⟩⟩⟩⟩⟩⟩⟩⟩⟩⟩⟩⟩⟩⟩⟩⟩⟩⟩⟩, i_wsX60⟩, i_wsX70⟩, i_wsX40⟩, i_wsX20⟩, i_wsX00⟩, i_wsX50⟩, i_wsX30⟩, fun _ h => absurd h List.not_mem_nil⟩
theorem wsL_law_x0 : ∀ w ∈ (vx_atS RX6 179 "java/lang/IllegalArgumentException" ["java/lang/RuntimeException", "java/lang/Exception"]).filter goodWord, w ∈ lw_tbl := by decide +kernel
theorem wsL_law_in : ∀ w ∈ wsL_law, w ∈ lw_tbl := fun w h => (List.mem_append.mp h).elim (fun h => wsL_law_in0 w h) (fun h => wsL_law_x0 w h)
theorem inlX0 : ∀ w ∈ wsX00, w ∈ wsL_law := fun _ h => List.mem_append_left _ (List.mem_append_left _ (List.mem_append_left _ (List.mem_append_left _ (List.mem_append_right _ h))))
theorem inX0 : ∀ w ∈ wsX00, w ∈ lw_tbl := fun w h => wsL_law_in w (inlX0 w h)
theorem inX1 : ∀ w ∈ wsX10, w ∈ lw_tbl := by decide +kernel
theorem inlX2 : ∀ w ∈ wsX20, w ∈ wsL_law := fun _ h => List.mem_append_left _ (List.mem_append_left _ (List.mem_append_left _ (List.mem_append_left _ (List.mem_append_left _ (List.mem_append_right _ h)))))
theorem inX2 : ∀ w ∈ wsX20, w ∈ lw_tbl := fun w h => wsL_law_in w (inlX2 w h)
theorem inlX3 : ∀ w ∈ wsX30, w ∈ wsL_law := fun _ h => List.mem_append_left _ (List.mem_append_left _ (List.mem_append_right _ h))
theorem inX3 : ∀ w ∈ wsX30, w ∈ lw_tbl := fun w h => wsL_law_in w (inlX3 w h)
theorem inlX4 : ∀ w ∈ wsX40, w ∈ wsL_law := fun _ h => List.mem_append_left _ (List.mem_append_left _ (List.mem_append_left _ (List.mem_append_left _ (List.mem_append_left _ (List.mem_append_left _ (List.mem_append_right _ h))))))
theorem inX4 : ∀ w ∈ wsX40, w ∈ lw_tbl := fun w h => wsL_law_in w (inlX4 w h)
theorem inlX5 : ∀ w ∈ wsX50, w ∈ wsL_law := fun _ h => List.mem_append_left _ (List.mem_append_left _ (List.mem_append_left _ (List.mem_append_right _ h)))
theorem inX5 : ∀ w ∈ wsX50, w ∈ lw_tbl := fun w h => wsL_law_in w (inlX5 w h)
theorem inlX6 : ∀ w ∈ wsX60, w ∈ wsL_law := fun _ h => List.mem_append_left _ (List.mem_append_left _ (List.mem_append_left _ (List.mem_append_left _ (List.mem_append_left _ (List.mem_append_left _ (List.mem_append_left _ (List.mem_append_left _ (List.mem_append_right _ h))))))))
theorem inX6 : ∀ w ∈ wsX60, w ∈ lw_tbl := fun w h => wsL_law_in w (inlX6 w h)
theorem inlX7 : ∀ w ∈ wsX70, w ∈ wsL_law := fun _ h => List.mem_append_left _ (List.mem_append_left _ (List.mem_append_left _ (List.mem_append_left _ (List.mem_append_left _ (List.mem_append_left _ (List.mem_append_left _ (List.mem_append_right _ h)))))))
theorem inX7 : ∀ w ∈ wsX70, w ∈ lw_tbl := fun w h => wsL_law_in w (inlX7 w h)
theorem inJ6 : ∀ w ∈ wsJ60, w ∈ lw_tbl := by decide +kernel
theorem inJ13 : ∀ w ∈ wsJ130, w ∈ lw_tbl := by decide +kernel
theorem inJ9 : ∀ w ∈ wsJ90, w ∈ lw_tbl := by decide +kernel
theorem inJ0 : ∀ w ∈ wsJ00, w ∈ lw_tbl := by decide +kernel
theorem inJ10 : ∀ w ∈ wsJ100, w ∈ lw_tbl := by decide +kernel
theorem inJ7 : ∀ w ∈ wsJ70, w ∈ lw_tbl := by decide +kernel
