/-! the words of the tables by (list, place): no search -/
def kTb : List (List Cond) := [k2_sels lw_privs_1, k2_sels lw_privs_2, k2_sels lw_privs_3, k2_sels lw_privs_4, k2_sels lw_privs_5, k2_sels lw_privs_6, k2_sels lw_privs_7, k2_sels lw_privs_8, k2_sels lw_privs_9, k2_sels lw_privs_10, tables_1_1, tables_1_2, tables_1_3, tables_1_4, tables_1_5, tables_1_6, tables_1_7, tables_1_8]
theorem kSel {a b : List (MethodName × Nat)} (h : ∀ q ∈ a, q ∈ b) : ∀ w ∈ k2_sels a, w ∈ k2_sels b := fun w hw => by
  obtain ⟨q, hq, rfl⟩ := List.mem_map.mp hw
  exact List.mem_map.mpr ⟨q, h q hq, rfl⟩
theorem kPr0 : ∀ q ∈ lw_privs_1, q ∈ lw_privs := fun _ h => List.mem_append_left _ h
theorem kPr1 : ∀ q ∈ lw_privs_2, q ∈ lw_privs := fun _ h => List.mem_append_right _ (List.mem_append_left _ h)
theorem kPr2 : ∀ q ∈ lw_privs_3, q ∈ lw_privs := fun _ h => List.mem_append_right _ (List.mem_append_right _ (List.mem_append_left _ h))
theorem kPr3 : ∀ q ∈ lw_privs_4, q ∈ lw_privs := fun _ h => List.mem_append_right _ (List.mem_append_right _ (List.mem_append_right _ (List.mem_append_left _ h)))
theorem kPr4 : ∀ q ∈ lw_privs_5, q ∈ lw_privs := fun _ h => List.mem_append_right _ (List.mem_append_right _ (List.mem_append_right _ (List.mem_append_right _ (List.mem_append_left _ h))))
theorem kPr5 : ∀ q ∈ lw_privs_6, q ∈ lw_privs := fun _ h => List.mem_append_right _ (List.mem_append_right _ (List.mem_append_right _ (List.mem_append_right _ (List.mem_append_right _ (List.mem_append_left _ h)))))
theorem kPr6 : ∀ q ∈ lw_privs_7, q ∈ lw_privs := fun _ h => List.mem_append_right _ (List.mem_append_right _ (List.mem_append_right _ (List.mem_append_right _ (List.mem_append_right _ (List.mem_append_right _ (List.mem_append_left _ h))))))
theorem kPr7 : ∀ q ∈ lw_privs_8, q ∈ lw_privs := fun _ h => List.mem_append_right _ (List.mem_append_right _ (List.mem_append_right _ (List.mem_append_right _ (List.mem_append_right _ (List.mem_append_right _ (List.mem_append_right _ (List.mem_append_left _ h)))))))
theorem kPr8 : ∀ q ∈ lw_privs_9, q ∈ lw_privs := fun _ h => List.mem_append_right _ (List.mem_append_right _ (List.mem_append_right _ (List.mem_append_right _ (List.mem_append_right _ (List.mem_append_right _ (List.mem_append_right _ (List.mem_append_right _ (List.mem_append_left _ h))))))))
theorem kPr9 : ∀ q ∈ lw_privs_10, q ∈ lw_privs := fun _ h => List.mem_append_right _ (List.mem_append_right _ (List.mem_append_right _ (List.mem_append_right _ (List.mem_append_right _ (List.mem_append_right _ (List.mem_append_right _ (List.mem_append_right _ (List.mem_append_right _ (h)))))))))
theorem kTb_in : ∀ c ∈ kTb, ∀ w ∈ c, w ∈ lw_tbl := by
  intro c hc w h
  simp only [kTb, List.mem_cons, List.not_mem_nil, or_false] at hc
  rcases hc with rfl | rfl | rfl | rfl | rfl | rfl | rfl | rfl | rfl | rfl | rfl | rfl | rfl | rfl | rfl | rfl | rfl | rfl
  · exact List.mem_append_left _ (kSel kPr0 w h)
  · exact List.mem_append_left _ (kSel kPr1 w h)
  · exact List.mem_append_left _ (kSel kPr2 w h)
  · exact List.mem_append_left _ (kSel kPr3 w h)
  · exact List.mem_append_left _ (kSel kPr4 w h)
  · exact List.mem_append_left _ (kSel kPr5 w h)
  · exact List.mem_append_left _ (kSel kPr6 w h)
  · exact List.mem_append_left _ (kSel kPr7 w h)
  · exact List.mem_append_left _ (kSel kPr8 w h)
  · exact List.mem_append_left _ (kSel kPr9 w h)
  · exact List.mem_append_right _ (List.mem_append_left _ h)
  · exact List.mem_append_right _ (List.mem_append_right _ (List.mem_append_left _ h))
  · exact List.mem_append_right _ (List.mem_append_right _ (List.mem_append_right _ (List.mem_append_left _ h)))
  · exact List.mem_append_right _ (List.mem_append_right _ (List.mem_append_right _ (List.mem_append_right _ (List.mem_append_left _ h))))
  · exact List.mem_append_right _ (List.mem_append_right _ (List.mem_append_right _ (List.mem_append_right _ (List.mem_append_right _ (List.mem_append_left _ h)))))
  · exact List.mem_append_right _ (List.mem_append_right _ (List.mem_append_right _ (List.mem_append_right _ (List.mem_append_right _ (List.mem_append_right _ (List.mem_append_left _ h))))))
  · exact List.mem_append_right _ (List.mem_append_right _ (List.mem_append_right _ (List.mem_append_right _ (List.mem_append_right _ (List.mem_append_right _ (List.mem_append_right _ (List.mem_append_left _ h)))))))
  · exact List.mem_append_right _ (List.mem_append_right _ (List.mem_append_right _ (List.mem_append_right _ (List.mem_append_right _ (List.mem_append_right _ (List.mem_append_right _ (List.mem_append_right _ (h))))))))
theorem mem_k (ws : List Cond) (ps : List (Nat × Nat)) (hp : ws = ps.filterMap (fun q => (kTb[q.1]?.getD [])[q.2]?)) : ∀ w ∈ ws, w ∈ lw_tbl := by
  intro w hw
  rw [hp] at hw
  obtain ⟨q, -, hq⟩ := List.mem_filterMap.mp hw
  have h1 : w ∈ kTb[q.1]?.getD [] := List.mem_of_getElem? hq
  cases hc : kTb[q.1]? with
  | none => rw [hc] at h1; simp at h1
  | some c => rw [hc] at h1; exact kTb_in c (List.mem_of_getElem? hc) w h1

set_option maxRecDepth 20000 in
theorem z_in_1 : ∀ w ∈ wsL_law_0_r1, w ∈ lw_tbl := mem_k _ [(10, 29), (10, 30), (10, 1), (15, 92), (15, 93), (10, 11), (10, 103), (10, 31), (10, 32), (10, 33), (10, 34), (10, 35), (10, 36), (10, 102), (11, 27), (11, 28), (11, 29), (10, 37), (10, 38), (10, 2), (11, 30), (11, 31), (11, 32), (10, 104)] (by decide +kernel)
set_option maxRecDepth 20000 in
theorem z_in_2 : ∀ w ∈ wsL_law_0_r2, w ∈ lw_tbl := mem_k _ [(10, 105), (10, 3), (11, 33), (10, 123), (10, 124), (10, 5), (11, 34), (10, 184), (10, 185), (10, 7), (11, 35), (10, 207), (10, 208), (10, 8), (11, 36), (10, 238), (10, 239), (10, 9), (11, 37), (11, 14), (11, 15), (10, 10), (11, 38), (10, 40)] (by decide +kernel)
set_option maxRecDepth 20000 in
theorem z_in_3 : ∀ w ∈ wsL_law_0_r3, w ∈ lw_tbl := mem_k _ [(10, 41), (10, 42), (10, 43), (10, 44), (10, 45), (10, 46), (10, 51), (10, 56), (10, 58), (10, 61), (10, 64), (10, 67), (10, 69), (10, 71), (10, 73), (10, 107), (10, 108), (10, 109), (10, 110), (10, 112), (10, 113), (10, 114), (10, 126), (10, 127)] (by decide +kernel)
set_option maxRecDepth 20000 in
theorem z_in_4 : ∀ w ∈ wsL_law_0_r4, w ∈ lw_tbl := mem_k _ [(10, 151), (10, 153), (10, 129), (10, 4), (10, 130), (10, 131), (10, 132), (10, 133), (10, 6), (10, 155), (10, 160), (10, 165), (10, 168), (10, 135), (10, 136), (10, 137), (10, 138), (10, 140), (10, 142), (10, 187), (10, 188), (10, 190), (10, 191), (10, 192)] (by decide +kernel)
set_option maxRecDepth 20000 in
theorem z_in_5 : ∀ w ∈ wsL_law_0_r5, w ∈ lw_tbl := mem_k _ [(10, 193), (10, 210), (10, 211), (10, 212), (10, 213), (10, 214), (10, 215), (10, 216), (10, 217), (10, 218), (10, 219), (10, 220), (11, 1), (11, 2), (11, 3), (11, 4), (11, 5), (11, 6), (11, 17), (11, 18), (11, 19), (11, 20), (11, 21), (15, 94)] (by decide +kernel)
set_option maxRecDepth 20000 in
theorem z_in_6 : ∀ w ∈ wsL_law_0_r6, w ∈ lw_tbl := mem_k _ [(15, 95), (15, 96), (15, 97), (15, 99), (15, 100), (15, 101), (15, 102), (13, 154), (15, 105), (15, 111), (15, 112), (15, 114), (15, 115), (15, 116), (15, 118), (15, 119), (15, 120), (15, 121), (15, 122), (15, 123), (11, 64), (11, 65), (11, 66), (11, 67)] (by decide +kernel)
set_option maxRecDepth 20000 in
theorem z_in_7 : ∀ w ∈ wsL_law_0_r7, w ∈ lw_tbl := mem_k _ [(11, 68), (11, 70), (0, 0), (11, 71), (15, 189), (15, 190), (15, 191), (15, 192), (15, 98), (15, 106), (11, 72), (11, 73), (11, 74), (11, 75), (15, 193), (15, 194), (15, 195), (15, 196), (12, 108), (12, 109), (10, 0), (12, 110), (12, 111), (12, 112)] (by decide +kernel)
set_option maxRecDepth 20000 in
theorem z_in_8 : ∀ w ∈ wsL_law_0_r8, w ∈ lw_tbl := mem_k _ [(12, 113), (12, 114), (12, 115), (12, 116), (13, 85), (10, 21), (13, 155), (10, 22), (10, 169), (10, 170), (12, 117), (12, 119), (2, 15), (12, 120), (12, 123), (3, 0), (12, 124), (10, 158), (10, 159), (11, 91), (0, 2), (11, 92), (11, 93), (11, 95)] (by decide +kernel)
set_option maxRecDepth 20000 in
theorem z_in_9 : ∀ w ∈ wsL_law_0_r9, w ∈ lw_tbl := mem_k _ [(11, 94), (10, 12), (12, 128), (3, 1), (12, 129), (12, 203), (11, 200), (10, 17), (11, 201), (11, 145), (11, 146), (12, 131), (12, 132), (12, 133), (12, 134), (12, 135), (12, 136), (12, 137), (12, 138), (12, 139), (12, 140), (12, 141), (12, 142), (12, 143)] (by decide +kernel)
set_option maxRecDepth 20000 in
theorem z_in_10 : ∀ w ∈ wsL_law_0_r10, w ∈ lw_tbl := mem_k _ [(12, 144), (12, 145), (12, 147), (12, 148), (12, 149), (10, 13), (12, 150), (17, 114), (12, 151), (12, 152), (12, 153), (12, 154), (12, 155), (17, 115), (12, 157), (12, 158), (12, 159), (12, 160), (12, 161), (12, 162), (12, 163), (12, 164), (12, 165), (12, 166)] (by decide +kernel)
set_option maxRecDepth 20000 in
theorem z_in_11 : ∀ w ∈ wsL_law_0_r11, w ∈ lw_tbl := mem_k _ [(10, 14), (12, 167), (12, 168), (12, 169), (12, 170), (12, 171), (12, 173), (12, 174), (10, 15), (12, 175), (12, 176), (12, 177), (10, 16), (12, 178), (12, 179), (12, 180), (12, 181), (12, 182), (12, 183), (12, 184), (12, 185), (12, 186), (12, 187), (12, 188)] (by decide +kernel)
