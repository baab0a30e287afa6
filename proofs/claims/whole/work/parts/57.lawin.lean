/-! .. all together -/
theorem wsX_in_tbl4 : ∀ w ∈ wsX40, w ∈ lw_tbl := by decide +kernel
theorem wsX_in_tbl5 : ∀ w ∈ wsX50, w ∈ lw_tbl := by decide +kernel
theorem wsX_in_tbl1 : ∀ w ∈ wsX10, w ∈ lw_tbl := by decide +kernel
theorem wsX_in_tbl3 : ∀ w ∈ wsX30, w ∈ lw_tbl := by decide +kernel
theorem wsX_in_tbl0 : ∀ w ∈ wsX00, w ∈ lw_tbl := by decide +kernel
theorem wsX_in_tbl2 : ∀ w ∈ wsX20, w ∈ lw_tbl := by decide +kernel
theorem lin_rs : ∀ w ∈ ((wsL_law0_r1 ++ (wsL_law0_r2 ++ (wsL_law0_r3 ++ (wsL_law0_r4 ++ (wsL_law0_r5 ++ (wsL_law0_r6 ++ (wsL_law0_r7 ++ (wsL_law0_r8 ++ (wsL_law0_r9 ++ (wsL_law0_r10 ++ (wsL_law0_r11 ++ (wsL_law0_r12 ++ (wsL_law0_r13 ++ (wsL_law0_r14 ++ (wsL_law0_r15 ++ (wsL_law0_r16 ++ (wsL_law0_r17 ++ (wsL_law0_r18 ++ (wsL_law0_r19 ++ (wsL_law0_r20 ++ (wsL_law0_r21 ++ (wsL_law0_r22 ++ wsL_law0_r23))))))))))))))))))))))), w ∈ lw_tbl := fun w h => (List.mem_append.mp h).elim (fun h => lin_r1 w h) (fun h => (List.mem_append.mp h).elim (fun h => lin_r2 w h) (fun h => (List.mem_append.mp h).elim (fun h => lin_r3 w h) (fun h => (List.mem_append.mp h).elim (fun h => lin_r4 w h) (fun h => (List.mem_append.mp h).elim (fun h => lin_r5 w h) (fun h => (List.mem_append.mp h).elim (fun h => lin_r6 w h) (fun h => (List.mem_append.mp h).elim (fun h => lin_r7 w h) (fun h => (List.mem_append.mp h).elim (fun h => lin_r8 w h) (fun h => (List.mem_append.mp h).elim (fun h => lin_r9 w h) (fun h => (List.mem_append.mp h).elim (fun h => lin_r10 w h) (fun h => (List.mem_append.mp h).elim (fun h => lin_r11 w h) (fun h => (List.mem_append.mp h).elim (fun h => lin_r12 w h) (fun h => (List.mem_append.mp h).elim (fun h => lin_r13 w h) (fun h => (List.mem_append.mp h).elim (fun h => lin_r14 w h) (fun h => (List.mem_append.mp h).elim (fun h => lin_r15 w h) (fun h => (List.mem_append.mp h).elim (fun h => lin_r16 w h) (fun h => (List.mem_append.mp h).elim (fun h => lin_r17 w h) (fun h => (List.mem_append.mp h).elim (fun h => lin_r18 w h) (fun h => (List.mem_append.mp h).elim (fun h => lin_r19 w h) (fun h => (List.mem_append.mp h).elim (fun h => lin_r20 w h) (fun h => (List.mem_append.mp h).elim (fun h => lin_r21 w h) (fun h => (List.mem_append.mp h).elim (fun h => lin_r22 w h) (fun h => lin_r23 w h))))))))))))))))))))))
theorem wsL_law_in0 : ∀ w ∈ wsL_law0, w ∈ lw_tbl := fun w h => (List.mem_append.mp h).elim (fun h => (List.mem_append.mp h).elim (fun h => (List.mem_append.mp h).elim (fun h => (List.mem_append.mp h).elim (fun h => (List.mem_append.mp h).elim (fun h => (List.mem_append.mp h).elim (fun h => (List.mem_append.mp h).elim (fun h => lin_rs w h) (fun h => wsX_in_tbl4 w h)) (fun h => wsX_in_tbl5 w h)) (fun h => wsX_in_tbl1 w h)) (fun h => wsX_in_tbl3 w h)) (fun h => wsX_in_tbl0 w h)) (fun h => wsX_in_tbl2 w h)) (fun h => nomatch h)
theorem wsL_law_x0 : ∀ w ∈ (vx_at0 RX4 71 "java/lang/IndexOutOfBoundsException" ["java/lang/RuntimeException", "java/lang/Exception"]).filter goodWord, w ∈ lw_tbl := by decide +kernel
theorem wsL_law_x1 : ∀ w ∈ (vx_at0 RX4 77 "java/lang/IllegalStateException" ["java/lang/RuntimeException", "java/lang/Exception"]).filter goodWord, w ∈ lw_tbl := by decide +kernel
theorem wsL_law_in : ∀ w ∈ wsL_law, w ∈ lw_tbl := fun w h => (List.mem_append.mp h).elim (fun h => (List.mem_append.mp h).elim (fun h => wsL_law_in0 w h) (fun h => wsL_law_x0 w h)) (fun h => wsL_law_x1 w h)
theorem inlX0 : ∀ w ∈ wsX00, w ∈ wsL_law := fun _ h => List.mem_append_left _ (List.mem_append_left _ (List.mem_append_left _ (List.mem_append_left _ (List.mem_append_right _ h))))
theorem inX0 : ∀ w ∈ wsX00, w ∈ lw_tbl := fun w h => wsL_law_in w (inlX0 w h)
theorem inlX1 : ∀ w ∈ wsX10, w ∈ wsL_law := fun _ h => List.mem_append_left _ (List.mem_append_left _ (List.mem_append_left _ (List.mem_append_left _ (List.mem_append_left _ (List.mem_append_left _ (List.mem_append_right _ h))))))
theorem inX1 : ∀ w ∈ wsX10, w ∈ lw_tbl := fun w h => wsL_law_in w (inlX1 w h)
theorem inlX2 : ∀ w ∈ wsX20, w ∈ wsL_law := fun _ h => List.mem_append_left _ (List.mem_append_left _ (List.mem_append_left _ (List.mem_append_right _ h)))
theorem inX2 : ∀ w ∈ wsX20, w ∈ lw_tbl := fun w h => wsL_law_in w (inlX2 w h)
theorem inlX3 : ∀ w ∈ wsX30, w ∈ wsL_law := fun _ h => List.mem_append_left _ (List.mem_append_left _ (List.mem_append_left _ (List.mem_append_left _ (List.mem_append_left _ (List.mem_append_right _ h)))))
theorem inX3 : ∀ w ∈ wsX30, w ∈ lw_tbl := fun w h => wsL_law_in w (inlX3 w h)
theorem inlX4 : ∀ w ∈ wsX40, w ∈ wsL_law := fun _ h => List.mem_append_left _ (List.mem_append_left _ (List.mem_append_left _ (List.mem_append_left _ (List.mem_append_left _ (List.mem_append_left _ (List.mem_append_left _ (List.mem_append_left _ (List.mem_append_right _ h))))))))
theorem inX4 : ∀ w ∈ wsX40, w ∈ lw_tbl := fun w h => wsL_law_in w (inlX4 w h)
theorem inlX5 : ∀ w ∈ wsX50, w ∈ wsL_law := fun _ h => List.mem_append_left _ (List.mem_append_left _ (List.mem_append_left _ (List.mem_append_left _ (List.mem_append_left _ (List.mem_append_left _ (List.mem_append_left _ (List.mem_append_right _ h)))))))
theorem inX5 : ∀ w ∈ wsX50, w ∈ lw_tbl := fun w h => wsL_law_in w (inlX5 w h)
theorem inJ7 : ∀ w ∈ wsJ70, w ∈ lw_tbl := by decide +kernel

