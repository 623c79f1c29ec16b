theorem inY9 : ∀ w ∈ wsX90, w ∈ lw_tbl := by decide +kernel
theorem inY7 : ∀ w ∈ wsX70, w ∈ lw_tbl := by decide +kernel
theorem inY4 : ∀ w ∈ wsX40, w ∈ lw_tbl := by decide +kernel
theorem inY6 : ∀ w ∈ wsX60, w ∈ lw_tbl := by decide +kernel
theorem inY8 : ∀ w ∈ wsX80, w ∈ lw_tbl := by decide +kernel
theorem inY3 : ∀ w ∈ wsX30, w ∈ lw_tbl := by decide +kernel
theorem inY0 : ∀ w ∈ wsX00, w ∈ lw_tbl := by decide +kernel
theorem inY5 : ∀ w ∈ wsX50, w ∈ lw_tbl := by decide +kernel
theorem inY2 : ∀ w ∈ wsX20, w ∈ lw_tbl := by decide +kernel
theorem inY1 : ∀ w ∈ wsX10, w ∈ lw_tbl := by decide +kernel
theorem wsL_law_in0 : ∀ w ∈ wsL_law0, w ∈ lw_tbl := by
  intro w h
  unfold wsL_law0 at h
  refine (List.mem_append.mp h).elim (fun h => ?_) (fun h => absurd h List.not_mem_nil)
  refine (List.mem_append.mp h).elim (fun h => ?_) (fun h => inY1 w h)
  refine (List.mem_append.mp h).elim (fun h => ?_) (fun h => inY2 w h)
  refine (List.mem_append.mp h).elim (fun h => ?_) (fun h => inY5 w h)
  refine (List.mem_append.mp h).elim (fun h => ?_) (fun h => inY0 w h)
  refine (List.mem_append.mp h).elim (fun h => ?_) (fun h => inY3 w h)
  refine (List.mem_append.mp h).elim (fun h => ?_) (fun h => inY8 w h)
  refine (List.mem_append.mp h).elim (fun h => ?_) (fun h => inY6 w h)
  refine (List.mem_append.mp h).elim (fun h => ?_) (fun h => inY4 w h)
  refine (List.mem_append.mp h).elim (fun h => ?_) (fun h => inY7 w h)
  refine (List.mem_append.mp h).elim (fun h => ?_) (fun h => inY9 w h)
  refine (List.mem_append.mp h).elim (fun h => wsL_law0_r1_in w h) (fun h => ?_)
  refine (List.mem_append.mp h).elim (fun h => wsL_law0_r2_in w h) (fun h => ?_)
  refine (List.mem_append.mp h).elim (fun h => wsL_law0_r3_in w h) (fun h => ?_)
  refine (List.mem_append.mp h).elim (fun h => wsL_law0_r4_in w h) (fun h => ?_)
  refine (List.mem_append.mp h).elim (fun h => wsL_law0_r5_in w h) (fun h => ?_)
  refine (List.mem_append.mp h).elim (fun h => wsL_law0_r6_in w h) (fun h => ?_)
  refine (List.mem_append.mp h).elim (fun h => wsL_law0_r7_in w h) (fun h => ?_)
  refine (List.mem_append.mp h).elim (fun h => wsL_law0_r8_in w h) (fun h => ?_)
  refine (List.mem_append.mp h).elim (fun h => wsL_law0_r9_in w h) (fun h => ?_)
  refine (List.mem_append.mp h).elim (fun h => wsL_law0_r10_in w h) (fun h => ?_)
  refine (List.mem_append.mp h).elim (fun h => wsL_law0_r11_in w h) (fun h => ?_)
  refine (List.mem_append.mp h).elim (fun h => wsL_law0_r12_in w h) (fun h => ?_)
  refine (List.mem_append.mp h).elim (fun h => wsL_law0_r13_in w h) (fun h => ?_)
  refine (List.mem_append.mp h).elim (fun h => wsL_law0_r14_in w h) (fun h => ?_)
  refine (List.mem_append.mp h).elim (fun h => wsL_law0_r15_in w h) (fun h => ?_)
  refine (List.mem_append.mp h).elim (fun h => wsL_law0_r16_in w h) (fun h => ?_)
  refine (List.mem_append.mp h).elim (fun h => wsL_law0_r17_in w h) (fun h => ?_)
  refine (List.mem_append.mp h).elim (fun h => wsL_law0_r18_in w h) (fun h => ?_)
  refine (List.mem_append.mp h).elim (fun h => wsL_law0_r19_in w h) (fun h => ?_)
  refine (List.mem_append.mp h).elim (fun h => wsL_law0_r20_in w h) (fun h => ?_)
  refine (List.mem_append.mp h).elim (fun h => wsL_law0_r21_in w h) (fun h => ?_)
  refine (List.mem_append.mp h).elim (fun h => wsL_law0_r22_in w h) (fun h => ?_)
  refine (List.mem_append.mp h).elim (fun h => wsL_law0_r23_in w h) (fun h => ?_)
  refine (List.mem_append.mp h).elim (fun h => wsL_law0_r24_in w h) (fun h => ?_)
  exact wsL_law0_r25_in w h
theorem wsL_law_x0 : ∀ w ∈ (vx_atS RX9 267 "java/lang/IllegalArgumentException" ["java/lang/RuntimeException", "java/lang/Exception"]).filter goodWord, w ∈ lw_tbl := by decide +kernel
theorem wsL_law_x1 : ∀ w ∈ (vx_atS RX9 69 "java/lang/IndexOutOfBoundsException" ["java/lang/RuntimeException", "java/lang/Exception"]).filter goodWord, w ∈ lw_tbl := by decide +kernel
theorem wsL_law_x2 : ∀ w ∈ (vx_atS RX9 80 "java/lang/IllegalStateException" ["java/lang/RuntimeException", "java/lang/Exception"]).filter goodWord, w ∈ lw_tbl := by decide +kernel
theorem wsL_law_in : ∀ w ∈ wsL_law, w ∈ lw_tbl := fun w h => (List.mem_append.mp h).elim (fun h => (List.mem_append.mp h).elim (fun h => (List.mem_append.mp h).elim (fun h => wsL_law_in0 w h) (fun h => wsL_law_x0 w h)) (fun h => wsL_law_x1 w h)) (fun h => wsL_law_x2 w h)
theorem inlX0 : ∀ w ∈ wsX00, w ∈ wsL_law := fun _ h => List.mem_append_left _ (List.mem_append_left _ (List.mem_append_left _ (List.mem_append_left _ (List.mem_append_left _ (List.mem_append_left _ (List.mem_append_left _ (List.mem_append_right _ h)))))))
theorem inX0 : ∀ w ∈ wsX00, w ∈ lw_tbl := fun w h => wsL_law_in w (inlX0 w h)
theorem inlX1 : ∀ w ∈ wsX10, w ∈ wsL_law := fun _ h => List.mem_append_left _ (List.mem_append_left _ (List.mem_append_left _ (List.mem_append_left _ (List.mem_append_right _ h))))
theorem inX1 : ∀ w ∈ wsX10, w ∈ lw_tbl := fun w h => wsL_law_in w (inlX1 w h)
theorem inlX2 : ∀ w ∈ wsX20, w ∈ wsL_law := fun _ h => List.mem_append_left _ (List.mem_append_left _ (List.mem_append_left _ (List.mem_append_left _ (List.mem_append_left _ (List.mem_append_right _ h)))))
theorem inX2 : ∀ w ∈ wsX20, w ∈ lw_tbl := fun w h => wsL_law_in w (inlX2 w h)
theorem inlX3 : ∀ w ∈ wsX30, w ∈ wsL_law := fun _ h => List.mem_append_left _ (List.mem_append_left _ (List.mem_append_left _ (List.mem_append_left _ (List.mem_append_left _ (List.mem_append_left _ (List.mem_append_left _ (List.mem_append_left _ (List.mem_append_right _ h))))))))
theorem inX3 : ∀ w ∈ wsX30, w ∈ lw_tbl := fun w h => wsL_law_in w (inlX3 w h)
theorem inlX4 : ∀ w ∈ wsX40, w ∈ wsL_law := fun _ h => List.mem_append_left _ (List.mem_append_left _ (List.mem_append_left _ (List.mem_append_left _ (List.mem_append_left _ (List.mem_append_left _ (List.mem_append_left _ (List.mem_append_left _ (List.mem_append_left _ (List.mem_append_left _ (List.mem_append_left _ (List.mem_append_right _ h)))))))))))
theorem inX4 : ∀ w ∈ wsX40, w ∈ lw_tbl := fun w h => wsL_law_in w (inlX4 w h)
theorem inlX5 : ∀ w ∈ wsX50, w ∈ wsL_law := fun _ h => List.mem_append_left _ (List.mem_append_left _ (List.mem_append_left _ (List.mem_append_left _ (List.mem_append_left _ (List.mem_append_left _ (List.mem_append_right _ h))))))
theorem inX5 : ∀ w ∈ wsX50, w ∈ lw_tbl := fun w h => wsL_law_in w (inlX5 w h)
theorem inlX6 : ∀ w ∈ wsX60, w ∈ wsL_law := fun _ h => List.mem_append_left _ (List.mem_append_left _ (List.mem_append_left _ (List.mem_append_left _ (List.mem_append_left _ (List.mem_append_left _ (List.mem_append_left _ (List.mem_append_left _ (List.mem_append_left _ (List.mem_append_left _ (List.mem_append_right _ h))))))))))
theorem inX6 : ∀ w ∈ wsX60, w ∈ lw_tbl := fun w h => wsL_law_in w (inlX6 w h)
theorem inlX7 : ∀ w ∈ wsX70, w ∈ wsL_law := fun _ h => List.mem_append_left _ (List.mem_append_left _ (List.mem_append_left _ (List.mem_append_left _ (List.mem_append_left _ (List.mem_append_left _ (List.mem_append_left _ (List.mem_append_left _ (List.mem_append_left _ (List.mem_append_left _ (List.mem_append_left _ (List.mem_append_left _ (List.mem_append_right _ h))))))))))))
theorem inX7 : ∀ w ∈ wsX70, w ∈ lw_tbl := fun w h => wsL_law_in w (inlX7 w h)
theorem inlX8 : ∀ w ∈ wsX80, w ∈ wsL_law := fun _ h => List.mem_append_left _ (List.mem_append_left _ (List.mem_append_left _ (List.mem_append_left _ (List.mem_append_left _ (List.mem_append_left _ (List.mem_append_left _ (List.mem_append_left _ (List.mem_append_left _ (List.mem_append_right _ h)))))))))
theorem inX8 : ∀ w ∈ wsX80, w ∈ lw_tbl := fun w h => wsL_law_in w (inlX8 w h)
theorem inlX9 : ∀ w ∈ wsX90, w ∈ wsL_law := fun _ h => List.mem_append_left _ (List.mem_append_left _ (List.mem_append_left _ (List.mem_append_left _ (List.mem_append_left _ (List.mem_append_left _ (List.mem_append_left _ (List.mem_append_left _ (List.mem_append_left _ (List.mem_append_left _ (List.mem_append_left _ (List.mem_append_left _ (List.mem_append_left _ (List.mem_append_right _ h)))))))))))))
theorem inX9 : ∀ w ∈ wsX90, w ∈ lw_tbl := fun w h => wsL_law_in w (inlX9 w h)
