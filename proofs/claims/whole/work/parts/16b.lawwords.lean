def wsL_law : List Cond := (wsL_law_r1 ++ (wsL_law_r2 ++ (wsL_law_r3 ++ (wsL_law_r4 ++ (wsL_law_r5 ++ (wsL_law_r6 ++ (wsL_law_r7 ++ (wsL_law_r8 ++ (wsL_law_r9 ++ (wsL_law_r10 ++ (wsL_law_r11 ++ (wsL_law_r12 ++ (wsL_law_r13 ++ (wsL_law_r14 ++ (wsL_law_r15 ++ (wsL_law_r16 ++ (wsL_law_r17 ++ (wsL_law_r18 ++ (wsL_law_r19 ++ (wsL_law_r20 ++ (wsL_law_r21 ++ (wsL_law_r22 ++ (wsL_law_r23 ++ (wsL_law_r24 ++ (wsL_law_r25 ++ (wsL_law_r26 ++ wsL_law_r27)))))))))))))))))))))))))) ++ wsX70 ++ wsX80 ++ wsX60 ++ wsX30 ++ wsX40 ++ wsX20 ++ wsX00 ++ wsX10 ++ wsX50 ++ ([] : List Cond)
set_option maxRecDepth 20000 in
theorem wsL_in_wsX70 : ∀ w ∈ wsX70, w ∈ lw_tbl := fun w h => (goodIn_p wsX70 [] (by decide +kernel) (by decide +kernel) w h).1
set_option maxRecDepth 20000 in
theorem wsL_in_wsX80 : ∀ w ∈ wsX80, w ∈ lw_tbl := fun w h => (goodIn_p wsX80 [] (by decide +kernel) (by decide +kernel) w h).1
set_option maxRecDepth 20000 in
theorem wsL_in_wsX60 : ∀ w ∈ wsX60, w ∈ lw_tbl := fun w h => (goodIn_p wsX60 [] (by decide +kernel) (by decide +kernel) w h).1
set_option maxRecDepth 20000 in
theorem wsL_in_wsX30 : ∀ w ∈ wsX30, w ∈ lw_tbl := fun w h => (goodIn_p wsX30 [] (by decide +kernel) (by decide +kernel) w h).1
set_option maxRecDepth 20000 in
theorem wsL_in_wsX40 : ∀ w ∈ wsX40, w ∈ lw_tbl := fun w h => (goodIn_p wsX40 [] (by decide +kernel) (by decide +kernel) w h).1
set_option maxRecDepth 20000 in
theorem wsL_in_wsX20 : ∀ w ∈ wsX20, w ∈ lw_tbl := fun w h => (goodIn_p wsX20 [] (by decide +kernel) (by decide +kernel) w h).1
set_option maxRecDepth 20000 in
theorem wsL_in_wsX00 : ∀ w ∈ wsX00, w ∈ lw_tbl := fun w h => (goodIn_p wsX00 [] (by decide +kernel) (by decide +kernel) w h).1
set_option maxRecDepth 20000 in
theorem wsL_in_wsX10 : ∀ w ∈ wsX10, w ∈ lw_tbl := fun w h => (goodIn_p wsX10 [] (by decide +kernel) (by decide +kernel) w h).1
set_option maxRecDepth 20000 in
theorem wsL_in_wsX50 : ∀ w ∈ wsX50, w ∈ lw_tbl := fun w h => (goodIn_p wsX50 [] (by decide +kernel) (by decide +kernel) w h).1
theorem wsL_law_in : ∀ w ∈ wsL_law, w ∈ lw_tbl := by
  intro w h
  unfold wsL_law at h
  rcases List.mem_append.mp h with h | h
  rotate_left
  · cases h
  rcases List.mem_append.mp h with h | h
  rotate_left
  · exact wsL_in_wsX50 w h
  rcases List.mem_append.mp h with h | h
  rotate_left
  · exact wsL_in_wsX10 w h
  rcases List.mem_append.mp h with h | h
  rotate_left
  · exact wsL_in_wsX00 w h
  rcases List.mem_append.mp h with h | h
  rotate_left
  · exact wsL_in_wsX20 w h
  rcases List.mem_append.mp h with h | h
  rotate_left
  · exact wsL_in_wsX40 w h
  rcases List.mem_append.mp h with h | h
  rotate_left
  · exact wsL_in_wsX30 w h
  rcases List.mem_append.mp h with h | h
  rotate_left
  · exact wsL_in_wsX60 w h
  rcases List.mem_append.mp h with h | h
  rotate_left
  · exact wsL_in_wsX80 w h
  rcases List.mem_append.mp h with h | h
  rotate_left
  · exact wsL_in_wsX70 w h
  rcases List.mem_append.mp h with h | h
  · exact wsL_in_r1 w h
  rcases List.mem_append.mp h with h | h
  · exact wsL_in_r2 w h
  rcases List.mem_append.mp h with h | h
  · exact wsL_in_r3 w h
  rcases List.mem_append.mp h with h | h
  · exact wsL_in_r4 w h
  rcases List.mem_append.mp h with h | h
  · exact wsL_in_r5 w h
  rcases List.mem_append.mp h with h | h
  · exact wsL_in_r6 w h
  rcases List.mem_append.mp h with h | h
  · exact wsL_in_r7 w h
  rcases List.mem_append.mp h with h | h
  · exact wsL_in_r8 w h
  rcases List.mem_append.mp h with h | h
  · exact wsL_in_r9 w h
  rcases List.mem_append.mp h with h | h
  · exact wsL_in_r10 w h
  rcases List.mem_append.mp h with h | h
  · exact wsL_in_r11 w h
  rcases List.mem_append.mp h with h | h
  · exact wsL_in_r12 w h
  rcases List.mem_append.mp h with h | h
  · exact wsL_in_r13 w h
  rcases List.mem_append.mp h with h | h
  · exact wsL_in_r14 w h
  rcases List.mem_append.mp h with h | h
  · exact wsL_in_r15 w h
  rcases List.mem_append.mp h with h | h
  · exact wsL_in_r16 w h
  rcases List.mem_append.mp h with h | h
  · exact wsL_in_r17 w h
  rcases List.mem_append.mp h with h | h
  · exact wsL_in_r18 w h
  rcases List.mem_append.mp h with h | h
  · exact wsL_in_r19 w h
  rcases List.mem_append.mp h with h | h
  · exact wsL_in_r20 w h
  rcases List.mem_append.mp h with h | h
  · exact wsL_in_r21 w h
  rcases List.mem_append.mp h with h | h
  · exact wsL_in_r22 w h
  rcases List.mem_append.mp h with h | h
  · exact wsL_in_r23 w h
  rcases List.mem_append.mp h with h | h
  · exact wsL_in_r24 w h
  rcases List.mem_append.mp h with h | h
  · exact wsL_in_r25 w h
  rcases List.mem_append.mp h with h | h
  · exact wsL_in_r26 w h
  exact wsL_in_r27 w h

theorem inlX0 : ∀ w ∈ wsX00, w ∈ wsL_law := fun _ h => List.mem_append_left _ (List.mem_append_left _ (List.mem_append_left _ (List.mem_append_right _ h)))
theorem inX0 : ∀ w ∈ wsX00, w ∈ lw_tbl := fun w h => wsL_law_in w (inlX0 w h)
theorem inlX1 : ∀ w ∈ wsX10, w ∈ wsL_law := fun _ h => List.mem_append_left _ (List.mem_append_left _ (List.mem_append_right _ h))
theorem inX1 : ∀ w ∈ wsX10, w ∈ lw_tbl := fun w h => wsL_law_in w (inlX1 w h)
theorem inlX2 : ∀ w ∈ wsX20, w ∈ wsL_law := fun _ h => List.mem_append_left _ (List.mem_append_left _ (List.mem_append_left _ (List.mem_append_left _ (List.mem_append_right _ h))))
theorem inX2 : ∀ w ∈ wsX20, w ∈ lw_tbl := fun w h => wsL_law_in w (inlX2 w h)
theorem inlX3 : ∀ w ∈ wsX30, w ∈ wsL_law := fun _ h => List.mem_append_left _ (List.mem_append_left _ (List.mem_append_left _ (List.mem_append_left _ (List.mem_append_left _ (List.mem_append_left _ (List.mem_append_right _ h))))))
theorem inX3 : ∀ w ∈ wsX30, w ∈ lw_tbl := fun w h => wsL_law_in w (inlX3 w h)
theorem inlX4 : ∀ w ∈ wsX40, w ∈ wsL_law := fun _ h => List.mem_append_left _ (List.mem_append_left _ (List.mem_append_left _ (List.mem_append_left _ (List.mem_append_left _ (List.mem_append_right _ h)))))
theorem inX4 : ∀ w ∈ wsX40, w ∈ lw_tbl := fun w h => wsL_law_in w (inlX4 w h)
theorem inlX5 : ∀ w ∈ wsX50, w ∈ wsL_law := fun _ h => List.mem_append_left _ (List.mem_append_right _ h)
theorem inX5 : ∀ w ∈ wsX50, w ∈ lw_tbl := fun w h => wsL_law_in w (inlX5 w h)
theorem inlX6 : ∀ w ∈ wsX60, w ∈ wsL_law := fun _ h => List.mem_append_left _ (List.mem_append_left _ (List.mem_append_left _ (List.mem_append_left _ (List.mem_append_left _ (List.mem_append_left _ (List.mem_append_left _ (List.mem_append_right _ h)))))))
theorem inX6 : ∀ w ∈ wsX60, w ∈ lw_tbl := fun w h => wsL_law_in w (inlX6 w h)
theorem inlX7 : ∀ w ∈ wsX70, w ∈ wsL_law := fun _ h => List.mem_append_left _ (List.mem_append_left _ (List.mem_append_left _ (List.mem_append_left _ (List.mem_append_left _ (List.mem_append_left _ (List.mem_append_left _ (List.mem_append_left _ (List.mem_append_left _ (List.mem_append_right _ h)))))))))
theorem inX7 : ∀ w ∈ wsX70, w ∈ lw_tbl := fun w h => wsL_law_in w (inlX7 w h)
theorem inlX8 : ∀ w ∈ wsX80, w ∈ wsL_law := fun _ h => List.mem_append_left _ (List.mem_append_left _ (List.mem_append_left _ (List.mem_append_left _ (List.mem_append_left _ (List.mem_append_left _ (List.mem_append_left _ (List.mem_append_left _ (List.mem_append_right _ h))))))))
theorem inX8 : ∀ w ∈ wsX80, w ∈ lw_tbl := fun w h => wsL_law_in w (inlX8 w h)
