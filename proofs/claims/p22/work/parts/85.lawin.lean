/-! the words of the tables by (list, place): no search -/
def kTb : List (List Cond) := [k2_sels lw_privs_1, k2_sels lw_privs_2, k2_sels lw_privs_3, k2_sels lw_privs_4, k2_sels lw_privs_5, k2_sels lw_privs_6, k2_sels lw_privs_7, k2_sels lw_privs_8, k2_sels lw_privs_9, k2_sels lw_privs_10, tables_1_1, tables_1_2, tables_1_3, tables_1_4, tables_1_5, tables_1_6, tables_1_7, tables_1_8]
theorem kSel {a b : List (MethodName × Nat)} (h : ∀ q ∈ a, q ∈ b) : ∀ w ∈ k2_sels a, w ∈ k2_sels b := fun w hw => by
  obtain ⟨q, hq, rfl⟩ := List.mem_map.mp hw
  exact List.mem_map.mpr ⟨q, h q hq, rfl⟩
theorem kPr0 : ∀ q ∈ lw_privs_1, q ∈ lw_privs := fun _ h => List.mem_append_left _ h
theorem kPr1 : ∀ q ∈ lw_privs_2, q ∈ lw_privs := fun _ h => List.mem_append_right _ (List.mem_append_left _ h)
theorem kPr2 : ∀ q ∈ lw_privs_3, q ∈ lw_privs := fun _ h => List.mem_append_right _ (List.mem_append_right _ (List.mem_append_left _ h))
theorem kPr3 : ∀ q ∈ lw_privs_4, q ∈ lw_privs := fun _ h => List.mem_append_right _ (List.mem_append_right _ (List.mem_append_right _ (List.mem_append_left _ h)))
theorem kPr4 : ∀ q ∈ lw_privs_5, q ∈ lw_privs := fun _ h => List.mem_append_right _ (List.mem_append_right _ (List.mem_append_right _ (List.mem_append_right _ (List.mem_append_left _ h))))
theorem kPr5 : ∀ q ∈ lw_privs_6, q ∈ lw_privs := fun _ h => List.mem_append_right _ (List.mem_append_right _ (List.mem_append_right _ (List.mem_append_right _ (List.mem_append_right _ (List.mem_append_left _ h)))))
theorem kPr6 : ∀ q ∈ lw_privs_7, q ∈ lw_privs := fun _ h => List.mem_append_right _ (List.mem_append_right _ (List.mem_append_right _ (List.mem_append_right _ (List.mem_append_right _ (List.mem_append_right _ (List.mem_append_left _ h))))))
theorem kPr7 : ∀ q ∈ lw_privs_8, q ∈ lw_privs := fun _ h => List.mem_append_right _ (List.mem_append_right _ (List.mem_append_right _ (List.mem_append_right _ (List.mem_append_right _ (List.mem_append_right _ (List.mem_append_right _ (List.mem_append_left _ h)))))))
theorem kPr8 : ∀ q ∈ lw_privs_9, q ∈ lw_privs := fun _ h => List.mem_append_right _ (List.mem_append_right _ (List.mem_append_right _ (List.mem_append_right _ (List.mem_append_right _ (List.mem_append_right _ (List.mem_append_right _ (List.mem_append_right _ (List.mem_append_left _ h))))))))
theorem kPr9 : ∀ q ∈ lw_privs_10, q ∈ lw_privs := fun _ h => List.mem_append_right _ (List.mem_append_right _ (List.mem_append_right _ (List.mem_append_right _ (List.mem_append_right _ (List.mem_append_right _ (List.mem_append_right _ (List.mem_append_right _ (List.mem_append_right _ (h)))))))))
theorem kTb_in : ∀ c ∈ kTb, ∀ w ∈ c, w ∈ lw_tbl := by
  intro c hc w h
  simp only [kTb, List.mem_cons, List.not_mem_nil, or_false] at hc
  rcases hc with rfl | rfl | rfl | rfl | rfl | rfl | rfl | rfl | rfl | rfl | rfl | rfl | rfl | rfl | rfl | rfl | rfl | rfl
  · exact List.mem_append_left _ (kSel kPr0 w h)
  · exact List.mem_append_left _ (kSel kPr1 w h)
  · exact List.mem_append_left _ (kSel kPr2 w h)
  · exact List.mem_append_left _ (kSel kPr3 w h)
  · exact List.mem_append_left _ (kSel kPr4 w h)
  · exact List.mem_append_left _ (kSel kPr5 w h)
  · exact List.mem_append_left _ (kSel kPr6 w h)
  · exact List.mem_append_left _ (kSel kPr7 w h)
  · exact List.mem_append_left _ (kSel kPr8 w h)
  · exact List.mem_append_left _ (kSel kPr9 w h)
  · exact List.mem_append_right _ (List.mem_append_left _ h)
  · exact List.mem_append_right _ (List.mem_append_right _ (List.mem_append_left _ h))
  · exact List.mem_append_right _ (List.mem_append_right _ (List.mem_append_right _ (List.mem_append_left _ h)))
  · exact List.mem_append_right _ (List.mem_append_right _ (List.mem_append_right _ (List.mem_append_right _ (List.mem_append_left _ h))))
  · exact List.mem_append_right _ (List.mem_append_right _ (List.mem_append_right _ (List.mem_append_right _ (List.mem_append_right _ (List.mem_append_left _ h)))))
  · exact List.mem_append_right _ (List.mem_append_right _ (List.mem_append_right _ (List.mem_append_right _ (List.mem_append_right _ (List.mem_append_right _ (List.mem_append_left _ h))))))
  · exact List.mem_append_right _ (List.mem_append_right _ (List.mem_append_right _ (List.mem_append_right _ (List.mem_append_right _ (List.mem_append_right _ (List.mem_append_right _ (List.mem_append_left _ h)))))))
  · exact List.mem_append_right _ (List.mem_append_right _ (List.mem_append_right _ (List.mem_append_right _ (List.mem_append_right _ (List.mem_append_right _ (List.mem_append_right _ (List.mem_append_right _ (h))))))))
theorem mem_k (ws : List Cond) (ps : List (Nat × Nat)) (hp : ws = ps.filterMap (fun q => (kTb[q.1]?.getD [])[q.2]?)) : ∀ w ∈ ws, w ∈ lw_tbl := by
  intro w hw
  rw [hp] at hw
  obtain ⟨q, -, hq⟩ := List.mem_filterMap.mp hw
  have h1 : w ∈ kTb[q.1]?.getD [] := List.mem_of_getElem? hq
  cases hc : kTb[q.1]? with
  | none => rw [hc] at h1; simp at h1
  | some c => rw [hc] at h1; exact kTb_in c (List.mem_of_getElem? hc) w h1
set_option maxRecDepth 20000 in
theorem z_in_0 : ∀ w ∈ wsL_law_0_r1, w ∈ lw_tbl := mem_k _ [(10, 29), (10, 30), (10, 1), (15, 92), (15, 93), (10, 11), (10, 103), (10, 31), (10, 32), (10, 33), (10, 34), (10, 35), (10, 36), (10, 102), (11, 27), (11, 28), (11, 29), (10, 37), (10, 38), (10, 2), (11, 30), (11, 31), (11, 32), (10, 104)] rfl
set_option maxRecDepth 20000 in
theorem z_in_1 : ∀ w ∈ wsL_law_0_r2, w ∈ lw_tbl := mem_k _ [(10, 105), (10, 3), (11, 33), (10, 123), (10, 124), (10, 5), (11, 34), (10, 184), (10, 185), (10, 7), (11, 35), (10, 207), (10, 208), (10, 8), (11, 36), (10, 238), (10, 239), (10, 9), (11, 37), (11, 14), (11, 15), (10, 10), (11, 38), (10, 40)] rfl
set_option maxRecDepth 20000 in
theorem z_in_2 : ∀ w ∈ wsL_law_0_r3, w ∈ lw_tbl := mem_k _ [(10, 41), (10, 42), (10, 43), (10, 44), (10, 45), (10, 46), (10, 51), (10, 56), (10, 58), (10, 61), (10, 64), (10, 67), (10, 69), (10, 71), (10, 73), (10, 107), (10, 108), (10, 109), (10, 110), (10, 112), (10, 113), (10, 114), (10, 126), (10, 127)] rfl
set_option maxRecDepth 20000 in
theorem z_in_3 : ∀ w ∈ wsL_law_0_r4, w ∈ lw_tbl := mem_k _ [(10, 151), (10, 153), (10, 129), (10, 4), (10, 130), (10, 131), (10, 132), (10, 133), (10, 6), (10, 155), (10, 160), (10, 165), (10, 168), (10, 135), (10, 136), (10, 137), (10, 138), (10, 140), (10, 142), (10, 187), (10, 188), (10, 190), (10, 191), (10, 192)] rfl
set_option maxRecDepth 20000 in
theorem z_in_4 : ∀ w ∈ wsL_law_0_r5, w ∈ lw_tbl := mem_k _ [(10, 193), (10, 210), (10, 211), (10, 212), (10, 213), (10, 214), (10, 215), (10, 216), (10, 217), (10, 218), (10, 219), (10, 220), (11, 1), (11, 2), (11, 3), (11, 4), (11, 5), (11, 6), (11, 17), (11, 18), (11, 19), (11, 20), (11, 21), (15, 94)] rfl
set_option maxRecDepth 20000 in
theorem z_in_5 : ∀ w ∈ wsL_law_0_r6, w ∈ lw_tbl := mem_k _ [(15, 95), (15, 96), (15, 97), (15, 99), (15, 100), (15, 101), (15, 102), (13, 154), (15, 105), (15, 111), (15, 112), (15, 114), (15, 115), (15, 116), (15, 118), (15, 119), (15, 120), (15, 121), (15, 122), (15, 123), (11, 64), (11, 65), (11, 66), (11, 67)] rfl
set_option maxRecDepth 20000 in
theorem z_in_6 : ∀ w ∈ wsL_law_0_r7, w ∈ lw_tbl := mem_k _ [(11, 68), (11, 70), (0, 0), (11, 71), (15, 189), (15, 190), (15, 191), (15, 192), (15, 98), (15, 106), (11, 72), (11, 73), (11, 74), (11, 75), (15, 193), (15, 194), (15, 195), (15, 196), (12, 108), (12, 109), (10, 0), (12, 110), (12, 111), (12, 112)] rfl
set_option maxRecDepth 20000 in
theorem z_in_7 : ∀ w ∈ wsL_law_0_r8, w ∈ lw_tbl := mem_k _ [(12, 113), (12, 114), (12, 115), (12, 116), (13, 85), (10, 21), (13, 155), (10, 22), (10, 169), (10, 170), (12, 117), (12, 119), (2, 15), (12, 120), (12, 123), (3, 0), (12, 124), (10, 158), (10, 159), (11, 91), (0, 2), (11, 92), (11, 93), (11, 95)] rfl
set_option maxRecDepth 20000 in
theorem z_in_8 : ∀ w ∈ wsL_law_0_r9, w ∈ lw_tbl := mem_k _ [(11, 94), (10, 12), (12, 128), (3, 1), (12, 129), (12, 203), (11, 200), (10, 17), (11, 201), (11, 145), (11, 146), (12, 131), (12, 132), (12, 133), (12, 134), (12, 135), (12, 136), (12, 137), (12, 138), (12, 139), (12, 140), (12, 141), (12, 142), (12, 143)] rfl
set_option maxRecDepth 20000 in
theorem z_in_9 : ∀ w ∈ wsL_law_0_r10, w ∈ lw_tbl := mem_k _ [(12, 144), (12, 145), (12, 147), (12, 148), (12, 149), (10, 13), (12, 150), (17, 114), (12, 151), (12, 152), (12, 153), (12, 154), (12, 155), (17, 115), (12, 157), (12, 158), (12, 159), (12, 160), (12, 161), (12, 162), (12, 163), (12, 164), (12, 165), (12, 166)] rfl
set_option maxRecDepth 20000 in
theorem z_in_10 : ∀ w ∈ wsL_law_0_r11, w ∈ lw_tbl := mem_k _ [(10, 14), (12, 167), (12, 168), (12, 169), (12, 170), (12, 171), (12, 173), (12, 174), (10, 15), (12, 175), (12, 176), (12, 177), (10, 16), (12, 178), (12, 179), (12, 180), (12, 181), (12, 182), (12, 183), (12, 184), (12, 185), (12, 186), (12, 187), (12, 188)] rfl
set_option maxRecDepth 20000 in
theorem z_in_11 : ∀ w ∈ wsL_law_0_r12, w ∈ lw_tbl := mem_k _ [(12, 189), (12, 191), (12, 193), (12, 195), (12, 196), (12, 197), (12, 198), (12, 200), (3, 2), (12, 201), (11, 118), (11, 119), (12, 204), (12, 205), (12, 207), (12, 208), (12, 209), (12, 210), (12, 212), (12, 213), (12, 211), (12, 215), (12, 214), (12, 216)] rfl
set_option maxRecDepth 20000 in
theorem z_in_12 : ∀ w ∈ wsL_law_0_r13, w ∈ lw_tbl := mem_k _ [(12, 218), (12, 219), (12, 220), (12, 221), (12, 222), (12, 223), (12, 225), (12, 226), (12, 228), (3, 3), (12, 229), (12, 230), (12, 231), (12, 233), (12, 234), (12, 235), (12, 236), (12, 238), (3, 4), (12, 239), (13, 0), (13, 1), (13, 3), (13, 4)] rfl
set_option maxRecDepth 20000 in
theorem z_in_13 : ∀ w ∈ wsL_law_0_r14, w ∈ lw_tbl := mem_k _ [(13, 5), (13, 6), (17, 89), (17, 90), (17, 91), (13, 7), (13, 8), (13, 10), (13, 11), (13, 12), (13, 13), (13, 15), (3, 5), (13, 16), (10, 163), (10, 164), (13, 19), (3, 6), (13, 20), (12, 54), (12, 56), (2, 7), (12, 57), (13, 21)] rfl
set_option maxRecDepth 20000 in
theorem z_in_14 : ∀ w ∈ wsL_law_0_r15, w ∈ lw_tbl := mem_k _ [(13, 23), (3, 7), (13, 24), (13, 27), (3, 8), (13, 28), (11, 113), (11, 115), (0, 6), (11, 116), (13, 29), (13, 31), (3, 9), (13, 32), (13, 33), (13, 35), (3, 10), (13, 36), (13, 39), (3, 11), (13, 40), (11, 134), (0, 9), (11, 135)] rfl
set_option maxRecDepth 20000 in
theorem z_in_15 : ∀ w ∈ wsL_law_0_r16, w ∈ lw_tbl := mem_k _ [(11, 136), (11, 138), (0, 10), (11, 139), (11, 161), (0, 15), (11, 162), (11, 130), (0, 8), (11, 131), (11, 103), (11, 105), (0, 4), (11, 106), (12, 52), (2, 6), (12, 53), (13, 45), (13, 46), (13, 47), (10, 161), (10, 162), (10, 166), (10, 167)] rfl
set_option maxRecDepth 20000 in
theorem z_in_16 : ∀ w ∈ wsL_law_0_r17, w ∈ lw_tbl := mem_k _ [(13, 48), (13, 49), (13, 50), (13, 51), (13, 52), (13, 53), (13, 54), (13, 55), (13, 56), (13, 57), (13, 59), (3, 12), (13, 60), (13, 61), (13, 63), (3, 13), (13, 69), (13, 71), (3, 15), (13, 72), (13, 64), (13, 65), (13, 67), (3, 14)] rfl
set_option maxRecDepth 20000 in
theorem z_in_17 : ∀ w ∈ wsL_law_0_r18, w ∈ lw_tbl := mem_k _ [(13, 68), (13, 73), (13, 75), (4, 0), (13, 76), (13, 77), (13, 78), (13, 79), (13, 80), (13, 81), (13, 82), (13, 84), (17, 92), (17, 93), (17, 94), (12, 81), (2, 9), (12, 82), (15, 201), (15, 202), (15, 203), (15, 204), (15, 109), (15, 104)] rfl
set_option maxRecDepth 20000 in
theorem z_in_18 : ∀ w ∈ wsL_law_0_r19, w ∈ lw_tbl := mem_k _ [(15, 205), (15, 207), (6, 3), (15, 208), (15, 113), (15, 107), (15, 108), (15, 209), (15, 211), (6, 4), (15, 212), (15, 213), (15, 215), (6, 5), (15, 216), (15, 217), (15, 219), (6, 6), (15, 220), (15, 221), (15, 223), (6, 7), (15, 224), (15, 225)] rfl
set_option maxRecDepth 20000 in
theorem z_in_19 : ∀ w ∈ wsL_law_0_r20, w ∈ lw_tbl := mem_k _ [(15, 227), (6, 8), (15, 228), (15, 229), (15, 231), (6, 9), (15, 232), (15, 234), (15, 236), (6, 10), (15, 237), (15, 238), (15, 239), (16, 0), (16, 2), (6, 11), (16, 3), (16, 4), (16, 6), (6, 12), (16, 7), (16, 8), (16, 10), (6, 13)] rfl
set_option maxRecDepth 20000 in
theorem z_in_20 : ∀ w ∈ wsL_law_0_r21, w ∈ lw_tbl := mem_k _ [(16, 11), (16, 13), (16, 15), (6, 14), (16, 16), (16, 19), (16, 21), (6, 15), (16, 22), (16, 26), (16, 28), (7, 0), (16, 29), (16, 31), (16, 33), (7, 1), (16, 34), (16, 35), (16, 37), (7, 2), (16, 38), (16, 42), (16, 44), (7, 3)] rfl
set_option maxRecDepth 20000 in
theorem z_in_21 : ∀ w ∈ wsL_law_0_r22, w ∈ lw_tbl := mem_k _ [(16, 45), (16, 47), (16, 49), (7, 4), (16, 50), (16, 51), (16, 53), (7, 5), (16, 54), (16, 55), (16, 57), (7, 6), (16, 58), (16, 62), (16, 64), (7, 7), (16, 65), (15, 110), (16, 69), (16, 71), (7, 8), (16, 72), (16, 73), (16, 75)] rfl
set_option maxRecDepth 20000 in
theorem z_in_22 : ∀ w ∈ wsL_law_0_r23, w ∈ lw_tbl := mem_k _ [(7, 9), (16, 76), (16, 77), (16, 79), (7, 10), (16, 90), (16, 92), (7, 13), (16, 93), (16, 80), (16, 81), (16, 83), (7, 11), (16, 84), (16, 85), (16, 87), (7, 12), (16, 88), (16, 94), (16, 96), (7, 14), (16, 97), (16, 101), (16, 103)] rfl
set_option maxRecDepth 20000 in
theorem z_in_23 : ∀ w ∈ wsL_law_0_r24, w ∈ lw_tbl := mem_k _ [(7, 15), (16, 104), (16, 105), (16, 107), (8, 0), (16, 108), (16, 115), (16, 117), (8, 1), (16, 118), (13, 171), (13, 172), (13, 173), (13, 174), (13, 175), (13, 176), (13, 177), (10, 171), (10, 172), (13, 180), (4, 2), (13, 181), (10, 156), (10, 157)] rfl
set_option maxRecDepth 20000 in
theorem z_in_24 : ∀ w ∈ wsL_law_0_r25, w ∈ lw_tbl := mem_k _ [(13, 183), (13, 184), (13, 185), (13, 188), (4, 3), (13, 189), (13, 190), (11, 178), (10, 23), (13, 191), (13, 192), (13, 193), (10, 24), (13, 194), (13, 195), (13, 196), (13, 197), (13, 198), (13, 199), (13, 201), (13, 202), (11, 97), (11, 98), (13, 203)] rfl
set_option maxRecDepth 20000 in
theorem z_in_25 : ∀ w ∈ wsL_law_0_r26, w ∈ lw_tbl := mem_k _ [(13, 205), (13, 206), (13, 207), (13, 211), (13, 208), (13, 209), (13, 210), (12, 89), (2, 10), (12, 90), (12, 93), (2, 11), (12, 94), (16, 119), (16, 120), (16, 121), (16, 122), (11, 76), (11, 77), (11, 78), (11, 79), (15, 197), (15, 198), (15, 199)] rfl
set_option maxRecDepth 20000 in
theorem z_in_26 : ∀ w ∈ wsL_law_0_r27, w ∈ lw_tbl := mem_k _ [(15, 200), (13, 221), (13, 222), (13, 223), (13, 224), (13, 225), (13, 226), (13, 227), (13, 228), (13, 229), (13, 231), (10, 25), (14, 7), (10, 26), (14, 25), (4, 4), (14, 26), (11, 164), (11, 166), (1, 0), (11, 167), (11, 168), (11, 169), (11, 170)] rfl
set_option maxRecDepth 20000 in
theorem z_in_27 : ∀ w ∈ wsL_law_0_r28, w ∈ lw_tbl := mem_k _ [(16, 123), (16, 124), (16, 125), (16, 126), (16, 127), (16, 129), (8, 2), (16, 130), (16, 131), (16, 132), (16, 133), (16, 134), (16, 136), (8, 3), (16, 137), (16, 138), (14, 28), (14, 29), (14, 30), (14, 31), (14, 32), (14, 33), (14, 34), (11, 182)] rfl
set_option maxRecDepth 20000 in
theorem z_in_28 : ∀ w ∈ wsL_law_0_r29, w ∈ lw_tbl := mem_k _ [(1, 3), (11, 183), (11, 155), (11, 157), (0, 14), (11, 158), (11, 163), (11, 159), (16, 139), (16, 140), (16, 141), (16, 142), (16, 143), (16, 145), (8, 4), (16, 146), (14, 39), (14, 40), (14, 41), (14, 42), (14, 43), (14, 44), (14, 45), (11, 149)] rfl
set_option maxRecDepth 20000 in
theorem z_in_29 : ∀ w ∈ wsL_law_0_r30, w ∈ lw_tbl := mem_k _ [(0, 12), (11, 150), (11, 151), (11, 153), (0, 13), (11, 154), (11, 171), (11, 173), (1, 1), (11, 174), (11, 177), (1, 2), (11, 179), (11, 180), (11, 186), (1, 4), (11, 187), (11, 188), (11, 191), (1, 5), (11, 192), (11, 193), (11, 195), (1, 6)] rfl
set_option maxRecDepth 20000 in
theorem z_in_30 : ∀ w ∈ wsL_law_0_r31, w ∈ lw_tbl := mem_k _ [(11, 196), (11, 198), (11, 199), (16, 147), (16, 148), (16, 149), (16, 150), (16, 151), (16, 153), (8, 5), (16, 154), (16, 155), (16, 157), (8, 6), (16, 158), (16, 159), (16, 161), (8, 7), (16, 162), (16, 163), (16, 165), (8, 8), (16, 166), (14, 48)] rfl
set_option maxRecDepth 20000 in
theorem z_in_31 : ∀ w ∈ wsL_law_0_r32, w ∈ lw_tbl := mem_k _ [(14, 49), (14, 50), (14, 51), (14, 52), (14, 53), (14, 54), (11, 204), (1, 7), (11, 205), (11, 208), (1, 8), (11, 209), (16, 167), (16, 168), (16, 169), (16, 170), (16, 171), (16, 173), (8, 9), (16, 174), (14, 56), (14, 57), (14, 58), (14, 59)] rfl
set_option maxRecDepth 20000 in
theorem z_in_32 : ∀ w ∈ wsL_law_0_r33, w ∈ lw_tbl := mem_k _ [(14, 60), (14, 61), (14, 62), (16, 175), (16, 176), (16, 177), (16, 178), (14, 64), (14, 65), (14, 66), (14, 67), (14, 68), (14, 69), (14, 70), (11, 86), (0, 1), (11, 87), (11, 96), (14, 74), (4, 5), (14, 75), (11, 107), (11, 109), (0, 5)] rfl
set_option maxRecDepth 20000 in
theorem z_in_33 : ∀ w ∈ wsL_law_0_r34, w ∈ lw_tbl := mem_k _ [(11, 110), (11, 111), (14, 76), (14, 78), (4, 6), (14, 79), (14, 80), (14, 82), (4, 7), (14, 83), (11, 112), (14, 84), (14, 85), (14, 87), (4, 8), (14, 88), (14, 89), (14, 91), (4, 9), (14, 92), (16, 179), (16, 180), (16, 181), (16, 182)] rfl
set_option maxRecDepth 20000 in
theorem z_in_34 : ∀ w ∈ wsL_law_0_r35, w ∈ lw_tbl := mem_k _ [(16, 183), (16, 185), (8, 10), (16, 186), (16, 187), (16, 189), (8, 11), (16, 190), (16, 191), (16, 192), (16, 194), (8, 12), (16, 195), (16, 196), (16, 197), (14, 93), (14, 94), (14, 95), (14, 96), (14, 97), (14, 98), (14, 99), (14, 100), (14, 102)] rfl
set_option maxRecDepth 20000 in
theorem z_in_35 : ∀ w ∈ wsL_law_0_r36, w ∈ lw_tbl := mem_k _ [(10, 27), (12, 48), (2, 5), (12, 49), (12, 50), (16, 198), (16, 199), (16, 200), (16, 201), (16, 202), (16, 204), (8, 13), (16, 205), (14, 119), (14, 120), (14, 121), (14, 122), (14, 123), (14, 124), (14, 125), (16, 206), (16, 207), (16, 208), (16, 209)] rfl
set_option maxRecDepth 20000 in
theorem z_in_36 : ∀ w ∈ wsL_law_0_r37, w ∈ lw_tbl := mem_k _ [(14, 128), (14, 129), (14, 130), (14, 131), (14, 132), (14, 133), (14, 134), (14, 135), (14, 137), (4, 10), (14, 138), (14, 139), (14, 141), (4, 11), (14, 142), (14, 143), (14, 145), (4, 12), (14, 146), (14, 147), (14, 149), (14, 151), (4, 13), (14, 152)] rfl
set_option maxRecDepth 20000 in
theorem z_in_37 : ∀ w ∈ wsL_law_0_r38, w ∈ lw_tbl := mem_k _ [(14, 154), (14, 156), (4, 14), (14, 157), (14, 160), (4, 15), (14, 161), (16, 210), (16, 211), (16, 212), (16, 213), (16, 214), (16, 215), (16, 216), (16, 217), (16, 219), (8, 14), (16, 220), (11, 80), (11, 81), (11, 82), (11, 83), (11, 101), (0, 3)] rfl
set_option maxRecDepth 20000 in
theorem z_in_38 : ∀ w ∈ wsL_law_0_r39, w ∈ lw_tbl := mem_k _ [(11, 102), (16, 221), (16, 222), (16, 223), (16, 224), (14, 162), (14, 163), (14, 164), (14, 165), (14, 166), (14, 167), (14, 168), (16, 225), (16, 226), (16, 227), (16, 228), (11, 120), (11, 121), (11, 122), (11, 123), (11, 126), (0, 7), (11, 127), (11, 140)] rfl
set_option maxRecDepth 20000 in
theorem z_in_39 : ∀ w ∈ wsL_law_0_r40, w ∈ lw_tbl := mem_k _ [(11, 142), (0, 11), (11, 143), (11, 213), (1, 9), (11, 214), (11, 215), (11, 216), (11, 218), (1, 10), (11, 219), (11, 220), (11, 221), (10, 28), (11, 222), (11, 223), (11, 224), (11, 225), (11, 226), (11, 228), (1, 11), (11, 229), (11, 230), (16, 229)] rfl
set_option maxRecDepth 20000 in
theorem z_in_40 : ∀ w ∈ wsL_law_0_r41, w ∈ lw_tbl := mem_k _ [(16, 230), (16, 231), (16, 232), (16, 233), (16, 235), (8, 15), (16, 236), (15, 117), (16, 237), (16, 239), (9, 0), (17, 0), (17, 1), (17, 3), (9, 1), (17, 4), (17, 5), (14, 171), (14, 172), (14, 173), (14, 174), (14, 175), (14, 176), (14, 177)] rfl
set_option maxRecDepth 20000 in
theorem z_in_41 : ∀ w ∈ wsL_law_0_r42, w ∈ lw_tbl := mem_k _ [(14, 180), (5, 0), (14, 181), (14, 182), (14, 183), (14, 184), (11, 239), (12, 1), (1, 13), (12, 2), (12, 3), (12, 5), (1, 14), (12, 6), (12, 11), (12, 12), (12, 13), (12, 7), (12, 9), (1, 15), (12, 10), (14, 185), (14, 187), (5, 1)] rfl
set_option maxRecDepth 20000 in
theorem z_in_42 : ∀ w ∈ wsL_law_0_r43, w ∈ lw_tbl := mem_k _ [(14, 188), (14, 191), (5, 2), (14, 192), (17, 6), (17, 7), (17, 8), (17, 9), (17, 10), (17, 12), (9, 2), (17, 13), (17, 14), (17, 16), (9, 3), (17, 17), (17, 18), (17, 19), (17, 21), (9, 4), (17, 22), (11, 231), (11, 232), (11, 233)] rfl
set_option maxRecDepth 20000 in
theorem z_in_43 : ∀ w ∈ wsL_law_0_r44, w ∈ lw_tbl := mem_k _ [(11, 234), (11, 237), (1, 12), (11, 238), (17, 23), (17, 24), (17, 25), (17, 26), (12, 14), (12, 15), (12, 16), (12, 17), (12, 20), (2, 0), (12, 21), (12, 22), (12, 24), (2, 1), (12, 25), (12, 26), (12, 28), (2, 2), (12, 29), (17, 27)] rfl
set_option maxRecDepth 20000 in
theorem z_in_44 : ∀ w ∈ wsL_law_0_r45, w ∈ lw_tbl := mem_k _ [(17, 28), (17, 29), (17, 30), (14, 193), (14, 194), (14, 195), (14, 196), (14, 197), (14, 198), (14, 199), (17, 31), (17, 32), (17, 33), (17, 34), (15, 88), (15, 89), (15, 90), (15, 91), (12, 30), (12, 31), (12, 32), (12, 33), (12, 37), (2, 3)] rfl
set_option maxRecDepth 20000 in
theorem z_in_45 : ∀ w ∈ wsL_law_0_r46, w ∈ lw_tbl := mem_k _ [(12, 38), (12, 39), (12, 41), (2, 4), (12, 42), (12, 43), (12, 44), (12, 45), (12, 46), (17, 35), (17, 36), (17, 37), (17, 38), (14, 201), (14, 202), (14, 203), (14, 204), (14, 205), (14, 206), (14, 207), (14, 208), (14, 210), (5, 3), (14, 211)] rfl
set_option maxRecDepth 20000 in
theorem z_in_46 : ∀ w ∈ wsL_law_0_r47, w ∈ lw_tbl := mem_k _ [(14, 213), (14, 215), (5, 4), (14, 216), (14, 217), (14, 219), (5, 5), (14, 220), (17, 39), (17, 40), (17, 41), (17, 42), (17, 43), (17, 45), (9, 5), (17, 46), (14, 221), (14, 222), (14, 223), (14, 224), (14, 225), (14, 226), (14, 227), (14, 231)] rfl
set_option maxRecDepth 20000 in
theorem z_in_47 : ∀ w ∈ wsL_law_0_r48, w ∈ lw_tbl := mem_k _ [(5, 6), (14, 232), (15, 1), (15, 11), (14, 233), (14, 235), (5, 7), (14, 236), (14, 237), (14, 238), (14, 239), (15, 2), (15, 4), (5, 8), (15, 5), (15, 7), (15, 9), (5, 9), (15, 10), (17, 47), (17, 48), (17, 49), (17, 50), (17, 51)] rfl
set_option maxRecDepth 20000 in
theorem z_in_48 : ∀ w ∈ wsL_law_0_r49, w ∈ lw_tbl := mem_k _ [(17, 53), (9, 6), (17, 54), (15, 12), (15, 13), (15, 14), (15, 15), (15, 16), (15, 17), (15, 18), (15, 21), (5, 10), (15, 22), (15, 23), (15, 25), (5, 11), (15, 26), (15, 27), (15, 29), (5, 12), (15, 30), (15, 34), (5, 13), (15, 35)] rfl
set_option maxRecDepth 20000 in
theorem z_in_49 : ∀ w ∈ wsL_law_0_r50, w ∈ lw_tbl := mem_k _ [(17, 55), (17, 56), (17, 57), (17, 58), (15, 36), (15, 37), (15, 38), (15, 39), (15, 40), (15, 41), (15, 42), (15, 46), (5, 14), (15, 47), (15, 55), (15, 48), (15, 50), (5, 15), (15, 51), (15, 56), (15, 58), (6, 0), (15, 59), (15, 61)] rfl
set_option maxRecDepth 20000 in
theorem z_in_50 : ∀ w ∈ wsL_law_0_r51, w ∈ lw_tbl := mem_k _ [(15, 63), (6, 1), (15, 64), (17, 59), (17, 60), (17, 61), (17, 62), (17, 63), (17, 65), (9, 7), (17, 66), (15, 65), (15, 66), (15, 67), (15, 68), (15, 69), (15, 70), (15, 71), (15, 73), (15, 74), (17, 67), (17, 68), (17, 69), (17, 70)] rfl
set_option maxRecDepth 20000 in
theorem z_in_51 : ∀ w ∈ wsL_law_0_r52, w ∈ lw_tbl := mem_k _ [(17, 71), (17, 72), (15, 75), (15, 76), (15, 77), (15, 78), (15, 79), (15, 80), (15, 81), (15, 85), (6, 2), (15, 86), (15, 87), (17, 73), (17, 74), (17, 75), (17, 76), (12, 58), (12, 59), (12, 60), (12, 61), (17, 77), (17, 78), (17, 79)] rfl
set_option maxRecDepth 20000 in
theorem z_in_52 : ∀ w ∈ wsL_law_0_r53, w ∈ lw_tbl := mem_k _ [(17, 80), (12, 62), (12, 63), (12, 64), (12, 65), (12, 68), (2, 8), (12, 69), (15, 185), (15, 186), (15, 187), (15, 188), (12, 70), (12, 71), (12, 72), (12, 73), (15, 177), (15, 178), (15, 179), (15, 180), (15, 103), (12, 75), (12, 76), (12, 77)] rfl
set_option maxRecDepth 20000 in
theorem z_in_53 : ∀ w ∈ wsL_law_0_r54, w ∈ lw_tbl := mem_k _ [(12, 78), (15, 181), (15, 182), (15, 183), (15, 184), (12, 83), (12, 84), (12, 85), (12, 86), (12, 97), (2, 12), (12, 98), (12, 101), (2, 13), (12, 102), (12, 103), (12, 106), (2, 14), (12, 107), (17, 81), (17, 82), (17, 83), (17, 84), (17, 85)] rfl
set_option maxRecDepth 20000 in
theorem z_in_54 : ∀ w ∈ wsL_law_0_r55, w ∈ lw_tbl := mem_k _ [(17, 87), (9, 8), (17, 88)] rfl
set_option maxRecDepth 20000 in
theorem z_in_55 : ∀ w ∈ wsX100, w ∈ lw_tbl := mem_k _ [(11, 39), (11, 41), (11, 43), (11, 45), (11, 47), (11, 49), (11, 51), (11, 53), (11, 55), (11, 57), (11, 59), (11, 61)] rfl
set_option maxRecDepth 20000 in
theorem z_in_56 : ∀ w ∈ wsX110, w ∈ lw_tbl := mem_k _ [(15, 124), (15, 126), (15, 128), (15, 130), (15, 132), (15, 134), (15, 136), (15, 138), (15, 140), (15, 142), (15, 144), (15, 146), (15, 148), (15, 150), (15, 152), (15, 154), (15, 156), (15, 158), (15, 160), (15, 162), (15, 164), (15, 166), (15, 168), (15, 170), (15, 172), (15, 174)] rfl
set_option maxRecDepth 20000 in
theorem z_in_57 : ∀ w ∈ wsX00, w ∈ lw_tbl := mem_k _ [(10, 75), (10, 77), (10, 79), (10, 81), (10, 83), (10, 85), (10, 87), (10, 89), (10, 91), (10, 93), (10, 95), (10, 97), (10, 99)] rfl
set_option maxRecDepth 20000 in
theorem z_in_58 : ∀ w ∈ wsX70, w ∈ lw_tbl := mem_k _ [(10, 116), (10, 118), (10, 120)] rfl
set_option maxRecDepth 20000 in
theorem z_in_59 : ∀ w ∈ wsX10, w ∈ lw_tbl := mem_k _ [(10, 175), (10, 177), (10, 179), (10, 181), (10, 173)] rfl
set_option maxRecDepth 20000 in
theorem z_in_60 : ∀ w ∈ wsX50, w ∈ lw_tbl := mem_k _ [(10, 202), (10, 203), (10, 204), (10, 205), (10, 194), (10, 196), (10, 198), (10, 200)] rfl
set_option maxRecDepth 20000 in
theorem z_in_61 : ∀ w ∈ wsX30, w ∈ lw_tbl := mem_k _ [(10, 221), (10, 223), (10, 225), (10, 227), (10, 229), (10, 231), (10, 233), (10, 235)] rfl
set_option maxRecDepth 20000 in
theorem z_in_62 : ∀ w ∈ wsX60, w ∈ lw_tbl := mem_k _ [(11, 7), (11, 9), (11, 11)] rfl
set_option maxRecDepth 20000 in
theorem z_in_63 : ∀ w ∈ wsX20, w ∈ lw_tbl := mem_k _ [(11, 22), (11, 24)] rfl
set_option maxRecDepth 20000 in
theorem z_in_64 : ∀ w ∈ wsX90, w ∈ lw_tbl := mem_k _ [(10, 144), (10, 146), (10, 148)] rfl
set_option maxRecDepth 20000 in
theorem z_in_65 : ∀ w ∈ wsX40, w ∈ lw_tbl := mem_k _ [(13, 212), (13, 214), (13, 216), (13, 218)] rfl
set_option maxRecDepth 20000 in
theorem z_in_66 : ∀ w ∈ kE0, w ∈ lw_tbl := mem_k _ [(10, 18), (13, 107), (13, 116), (13, 122), (13, 125), (13, 127), (13, 108), (13, 109), (10, 35), (10, 36), (13, 110), (13, 115), (13, 123), (13, 143), (13, 97), (13, 144), (13, 99), (13, 145), (13, 101), (13, 111), (13, 113), (13, 103), (13, 139), (13, 140), (13, 142), (13, 103), (13, 130), (13, 131), (13, 132), (13, 133), (13, 133), (13, 134), (13, 135), (13, 136), (13, 136), (13, 137), (13, 138), (13, 139), (13, 129), (13, 86), (13, 94), (13, 95), (13, 96), (13, 98), (13, 100), (13, 102), (13, 106), (13, 105), (13, 104)] (by decide +kernel)
set_option maxRecDepth 20000 in
theorem z_in_67 : ∀ w ∈ kE1, w ∈ lw_tbl := mem_k _ [(10, 18), (13, 107), (13, 116), (13, 122), (13, 125), (13, 127), (13, 108), (13, 109), (10, 35), (10, 36), (13, 110), (13, 115), (13, 123), (13, 143), (13, 97), (13, 144), (13, 99), (13, 145), (13, 101), (13, 111), (13, 113), (13, 103), (13, 139), (13, 140), (13, 142), (13, 103), (13, 166), (13, 167), (13, 168), (13, 133), (13, 133), (13, 134), (13, 135), (13, 136), (13, 136), (13, 137), (13, 138), (13, 139), (13, 165), (13, 156), (13, 158), (13, 120), (13, 159), (13, 160), (13, 161), (13, 162), (13, 106), (13, 105), (13, 163)] (by decide +kernel)
set_option maxRecDepth 20000 in
theorem z_in_68 : ∀ w ∈ kE2, w ∈ lw_tbl := mem_k _ [(10, 18), (13, 107), (13, 116), (13, 122), (13, 125), (13, 127), (13, 108), (13, 109), (10, 35), (10, 36), (13, 110), (13, 115), (13, 123), (13, 143), (13, 97), (13, 144), (13, 99), (13, 145), (13, 101), (13, 111), (13, 113), (13, 103), (13, 139), (13, 140), (13, 142), (13, 103), (14, 2), (14, 3), (14, 4), (13, 133), (13, 133), (13, 134), (13, 135), (13, 136), (13, 136), (13, 137), (13, 138), (13, 139), (14, 1), (13, 232), (13, 234), (13, 119), (13, 235), (13, 236), (13, 237), (13, 238), (13, 106), (13, 105), (13, 239)] (by decide +kernel)
set_option maxRecDepth 20000 in
theorem z_in_69 : ∀ w ∈ kE3, w ∈ lw_tbl := mem_k _ [(10, 18), (13, 107), (13, 116), (13, 122), (13, 125), (13, 127), (13, 108), (13, 109), (10, 35), (10, 36), (13, 110), (13, 115), (13, 123), (13, 143), (13, 97), (13, 144), (13, 99), (13, 145), (13, 101), (13, 111), (13, 113), (13, 103), (13, 139), (13, 140), (13, 142), (13, 103), (14, 18), (14, 19), (14, 20), (13, 133), (13, 133), (13, 134), (13, 135), (13, 136), (13, 136), (13, 137), (13, 138), (13, 139), (14, 17), (14, 8), (14, 10), (13, 121), (14, 11), (14, 12), (14, 13), (14, 14), (13, 106), (13, 105), (14, 15)] (by decide +kernel)
set_option maxRecDepth 20000 in
theorem z_in_70 : ∀ w ∈ kE4, w ∈ lw_tbl := mem_k _ [(10, 18), (13, 107), (13, 116), (13, 122), (13, 125), (13, 127), (13, 108), (13, 109), (10, 35), (10, 36), (13, 110), (13, 115), (13, 123), (13, 143), (13, 97), (13, 144), (13, 99), (13, 145), (13, 101), (13, 111), (13, 113), (13, 103), (13, 139), (13, 140), (13, 142), (13, 103), (14, 113), (14, 114), (14, 115), (13, 133), (13, 133), (13, 134), (13, 135), (13, 136), (13, 136), (13, 137), (13, 138), (13, 139), (14, 112), (14, 103), (14, 105), (13, 118), (14, 106), (14, 107), (14, 108), (14, 109), (13, 106), (13, 105), (14, 110)] (by decide +kernel)
theorem kG_in : ∀ w ∈ kG, w ∈ lw_tbl := by
  intro w hw
  obtain ⟨c, hc, h⟩ := List.mem_flatten.mp hw
  simp only [gG, List.mem_cons, List.not_mem_nil, or_false] at hc
  rcases hc with rfl | rfl | rfl | rfl | rfl | rfl | rfl | rfl | rfl | rfl | rfl | rfl | rfl | rfl | rfl | rfl | rfl | rfl | rfl | rfl | rfl | rfl | rfl | rfl | rfl | rfl | rfl | rfl | rfl | rfl | rfl | rfl | rfl | rfl | rfl | rfl | rfl | rfl | rfl | rfl | rfl | rfl | rfl | rfl | rfl | rfl | rfl | rfl | rfl | rfl | rfl | rfl | rfl | rfl | rfl | rfl | rfl | rfl | rfl | rfl | rfl | rfl | rfl | rfl | rfl | rfl | rfl | rfl | rfl | rfl | rfl
  · exact z_in_0 w h
  · exact z_in_1 w h
  · exact z_in_2 w h
  · exact z_in_3 w h
  · exact z_in_4 w h
  · exact z_in_5 w h
  · exact z_in_6 w h
  · exact z_in_7 w h
  · exact z_in_8 w h
  · exact z_in_9 w h
  · exact z_in_10 w h
  · exact z_in_11 w h
  · exact z_in_12 w h
  · exact z_in_13 w h
  · exact z_in_14 w h
  · exact z_in_15 w h
  · exact z_in_16 w h
  · exact z_in_17 w h
  · exact z_in_18 w h
  · exact z_in_19 w h
  · exact z_in_20 w h
  · exact z_in_21 w h
  · exact z_in_22 w h
  · exact z_in_23 w h
  · exact z_in_24 w h
  · exact z_in_25 w h
  · exact z_in_26 w h
  · exact z_in_27 w h
  · exact z_in_28 w h
  · exact z_in_29 w h
  · exact z_in_30 w h
  · exact z_in_31 w h
  · exact z_in_32 w h
  · exact z_in_33 w h
  · exact z_in_34 w h
  · exact z_in_35 w h
  · exact z_in_36 w h
  · exact z_in_37 w h
  · exact z_in_38 w h
  · exact z_in_39 w h
  · exact z_in_40 w h
  · exact z_in_41 w h
  · exact z_in_42 w h
  · exact z_in_43 w h
  · exact z_in_44 w h
  · exact z_in_45 w h
  · exact z_in_46 w h
  · exact z_in_47 w h
  · exact z_in_48 w h
  · exact z_in_49 w h
  · exact z_in_50 w h
  · exact z_in_51 w h
  · exact z_in_52 w h
  · exact z_in_53 w h
  · exact z_in_54 w h
  · exact z_in_55 w h
  · exact z_in_56 w h
  · exact z_in_57 w h
  · exact z_in_58 w h
  · exact z_in_59 w h
  · exact z_in_60 w h
  · exact z_in_61 w h
  · exact z_in_62 w h
  · exact z_in_63 w h
  · exact z_in_64 w h
  · exact z_in_65 w h
  · exact z_in_66 w h
  · exact z_in_67 w h
  · exact z_in_68 w h
  · exact z_in_69 w h
  · exact z_in_70 w h
