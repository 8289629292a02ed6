def lw_cs : List (List Cond) := [k2_sels lw_privs, tables_1_1, tables_1_2, tables_1_3, tables_1_4, tables_1_5, tables_1_6, tables_1_7]
theorem lw_sub : ∀ c ∈ lw_cs, ∀ w ∈ c, w ∈ lw_tbl := by
  intro c hc w hw
  show w ∈ k2_sels lw_privs ++ (tables_1_1 ++ (tables_1_2 ++ (tables_1_3 ++ (tables_1_4 ++ (tables_1_5 ++ (tables_1_6 ++ (tables_1_7)))))))
  simp only [lw_cs, List.mem_cons, List.not_mem_nil, or_false] at hc
  rcases hc with rfl | rfl | rfl | rfl | rfl | rfl | rfl | rfl <;> simp only [List.mem_append, hw, true_or, or_true]
theorem in_cs {ws : List Cond} (ps : List (Nat × Nat)) (hp : ws = ps.filterMap (fun q => (lw_cs[q.1]?).bind (fun c => c[q.2]?))) : ∀ w ∈ ws, w ∈ lw_tbl := by
  intro w hw
  rw [hp] at hw
  obtain ⟨q, -, hq⟩ := List.mem_filterMap.mp hw
  obtain ⟨c, hc, hi⟩ := Option.bind_eq_some_iff.mp hq
  exact lw_sub c (List.mem_of_getElem? hc) w (List.mem_of_getElem? hi)
theorem goodIn_t {ws : List Cond} (ps : List (Nat × Nat)) (hp : ws = ps.filterMap (fun q => (lw_cs[q.1]?).bind (fun c => c[q.2]?))) (h : ws.all goodWord = true) : GoodIn lw_tbl ws := by
  intro w hw
  exact ⟨in_cs ps hp w hw, good_of_word (List.all_eq_true.mp h w hw)⟩
set_option maxRecDepth 20000 in
theorem inlJ0 : ∀ w ∈ wsJ00, w ∈ lw_tbl := in_cs [(5, 205), (5, 207), (5, 209), (5, 211)] (by decide +kernel)
set_option maxRecDepth 20000 in
theorem inlJ4 : ∀ w ∈ wsJ40, w ∈ lw_tbl := in_cs [(5, 66), (5, 68), (5, 70), (5, 72)] (by decide +kernel)
set_option maxRecDepth 20000 in
theorem inlJ6 : ∀ w ∈ wsJ60, w ∈ lw_tbl := in_cs [(4, 202)] (by decide +kernel)
set_option maxRecDepth 20000 in
theorem inlJxc9f04 : ∀ w ∈ wsJxc9f040, w ∈ lw_tbl := in_cs [(6, 119), (6, 111), (6, 113), (6, 115), (6, 117)] (by decide +kernel)
set_option maxRecDepth 20000 in
theorem inlJx4a65c : ∀ w ∈ wsJx4a65c0, w ∈ lw_tbl := in_cs [(3, 208), (3, 204), (3, 206)] (by decide +kernel)
set_option maxRecDepth 20000 in
theorem inlX0 : ∀ w ∈ wsX00, w ∈ lw_tbl := in_cs [(1, 176), (1, 178), (1, 180), (1, 182), (1, 184), (1, 186), (1, 188), (1, 190), (1, 192), (1, 194)] (by decide +kernel)
set_option maxRecDepth 20000 in
theorem inlX1 : ∀ w ∈ wsX10, w ∈ lw_tbl := in_cs [(2, 3), (2, 5), (2, 7)] (by decide +kernel)
set_option maxRecDepth 20000 in
theorem inlX2 : ∀ w ∈ wsX20, w ∈ lw_tbl := in_cs [(1, 85), (1, 87), (1, 89), (1, 91), (1, 93), (1, 95), (1, 97), (1, 99)] (by decide +kernel)
set_option maxRecDepth 20000 in
theorem inlX3 : ∀ w ∈ wsX30, w ∈ lw_tbl := in_cs [(2, 190), (2, 192), (2, 194)] (by decide +kernel)
set_option maxRecDepth 20000 in
theorem inlX4 : ∀ w ∈ wsX40, w ∈ lw_tbl := in_cs [(1, 62), (1, 64)] (by decide +kernel)
set_option maxRecDepth 20000 in
theorem inlX5 : ∀ w ∈ wsX50, w ∈ lw_tbl := in_cs [(1, 118), (1, 120), (1, 122), (1, 124), (1, 126), (1, 128), (1, 130), (1, 132), (1, 134), (1, 136), (1, 138), (1, 140), (1, 142), (1, 144)] (by decide +kernel)
set_option maxRecDepth 20000 in
theorem inlX6 : ∀ w ∈ wsX60, w ∈ lw_tbl := in_cs [(4, 62), (4, 64), (4, 66), (4, 68), (4, 70), (4, 72), (4, 74)] (by decide +kernel)
set_option maxRecDepth 20000 in
theorem inlX7 : ∀ w ∈ wsX70, w ∈ lw_tbl := in_cs [(6, 181), (6, 183)] (by decide +kernel)
set_option maxRecDepth 20000 in
theorem inlX8 : ∀ w ∈ wsX80, w ∈ lw_tbl := in_cs [(6, 215), (6, 217)] (by decide +kernel)
set_option maxRecDepth 20000 in
theorem inlX9 : ∀ w ∈ wsX90, w ∈ lw_tbl := in_cs [(3, 226), (3, 228), (3, 230), (3, 232), (3, 234), (3, 236), (3, 238), (4, 0), (4, 2), (4, 4), (4, 6), (4, 8), (4, 10)] (by decide +kernel)
set_option maxRecDepth 20000 in
theorem gt_X5_init : GoodIn lw_tbl wsX5_init := goodIn_t [(1, 44), (1, 45), (1, 46), (1, 47), (1, 48), (1, 104), (1, 105), (1, 50), (1, 106), (1, 107), (1, 52), (1, 53), (1, 2), (1, 108), (1, 68), (1, 69), (1, 3), (1, 109), (1, 110), (1, 102), (1, 111), (1, 112), (1, 113), (1, 114), (1, 115), (1, 147), (1, 116), (1, 117), (1, 55), (1, 56), (1, 57), (1, 67), (1, 58), (1, 59), (1, 71), (1, 72), (1, 73), (1, 74), (1, 76), (1, 77), (1, 78), (1, 79), (1, 80), (1, 103), (1, 82), (1, 83), (1, 118), (1, 120), (1, 122), (1, 124), (1, 126), (1, 128), (1, 130), (1, 132), (1, 134), (1, 136), (1, 138), (1, 140), (1, 142), (1, 144), (1, 62), (1, 64), (1, 85), (1, 87), (1, 89), (1, 91), (1, 93), (1, 95), (1, 97), (1, 99)] (by decide +kernel) (by decide +kernel)
theorem gL_law_X5_init : GoodIn lw_tbl (wsX5_init) := gt_X5_init
set_option maxRecDepth 20000 in
theorem gt_X9_init : GoodIn lw_tbl wsX9_init := goodIn_t [(3, 173), (3, 174), (1, 46), (1, 47), (3, 175), (3, 176), (1, 7), (3, 213), (3, 214), (3, 211), (1, 147), (3, 215), (3, 216), (1, 102), (3, 217), (3, 218), (3, 219), (3, 220), (3, 221), (3, 222), (3, 223), (3, 224), (3, 225), (3, 177), (3, 178), (3, 179), (3, 187), (3, 189), (3, 180), (3, 181), (1, 6), (3, 182), (3, 194), (3, 183), (3, 184), (1, 5), (3, 185), (3, 186), (3, 208), (3, 204), (3, 206), (3, 226), (3, 228), (3, 230), (3, 232), (3, 234), (3, 236), (3, 238), (4, 0), (4, 2), (4, 4), (4, 6), (4, 8), (4, 10), (6, 119), (6, 111), (6, 113), (6, 115), (6, 117)] (by decide +kernel) (by decide +kernel)
theorem gL_law_X9_init : GoodIn lw_tbl (wsX9_init) := gt_X9_init
set_option maxRecDepth 20000 in
theorem gt_X5_candidate : GoodIn lw_tbl wsX5_candidate := goodIn_t [(1, 151), (1, 105), (1, 104), (1, 48), (1, 155), (1, 8), (1, 152), (1, 153), (1, 1), (1, 154), (1, 157), (1, 158), (1, 159), (1, 46), (1, 47), (1, 162), (1, 164), (1, 166), (1, 168), (1, 170), (1, 102), (1, 171), (1, 172), (1, 173), (1, 174), (1, 160), (1, 118), (1, 120), (1, 122), (1, 124), (1, 126), (1, 128), (1, 130), (1, 132), (1, 134), (1, 136), (1, 138), (1, 140), (1, 142), (1, 144), (1, 176), (1, 178), (1, 180), (1, 182), (1, 184), (1, 186), (1, 188), (1, 190), (1, 192), (1, 194)] (by decide +kernel) (by decide +kernel)
theorem gL_law_X5_candidate : GoodIn lw_tbl (wsV RL 13 RX5 yX5_candidate wsX5_candidate) := goodIn_app (goodIn_t [(1, 148), (1, 149), (1, 150), (1, 1)] (by decide +kernel) (by decide +kernel)) gt_X5_candidate
set_option maxRecDepth 20000 in
theorem gt_X9_candidate : GoodIn lw_tbl wsX9_candidate := goodIn_t [(4, 16), (3, 213), (4, 41), (4, 42), (1, 9), (4, 51), (4, 17), (4, 18), (1, 4), (4, 19), (4, 21), (4, 31), (4, 33), (1, 36), (4, 35), (6, 109), (4, 36), (4, 38), (0, 58), (4, 40), (6, 104), (3, 198), (3, 196), (3, 199), (3, 200), (4, 25), (4, 27), (1, 7), (4, 29), (3, 193), (4, 44), (4, 45), (4, 46), (1, 46), (1, 47), (4, 53), (4, 55), (4, 58), (4, 49), (3, 176), (4, 60), (4, 50), (3, 178), (3, 179), (3, 187), (3, 189), (3, 180), (3, 181), (1, 6), (3, 182), (3, 194), (3, 183), (3, 184), (1, 5), (3, 185), (3, 186), (4, 78), (4, 146), (4, 148), (4, 150), (4, 151), (4, 152), (4, 155), (4, 154), (4, 156), (4, 158), (4, 167), (4, 168), (4, 169), (6, 107), (4, 170), (4, 172), (0, 63), (4, 173), (4, 174), (4, 160), (7, 117), (4, 161), (3, 203), (4, 166), (4, 143), (4, 142), (1, 13), (4, 162), (4, 164), (0, 62), (4, 165), (4, 90), (4, 92), (0, 60), (4, 93), (4, 94), (4, 96), (0, 61), (4, 97), (4, 144), (2, 131), (1, 11), (2, 132), (4, 145), (4, 98), (4, 99), (1, 10), (4, 100), (4, 101), (4, 102), (4, 103), (4, 104), (4, 105), (4, 106), (4, 107), (1, 12), (4, 108), (4, 109), (7, 147), (4, 110), (4, 133), (4, 134), (4, 135), (4, 136), (4, 137), (4, 139), (4, 140), (2, 127), (2, 128), (4, 141), (4, 175), (4, 177), (0, 64), (4, 178), (6, 106), (4, 159), (4, 81), (4, 83), (4, 85), (4, 86), (4, 88), (0, 59), (4, 89), (3, 226), (3, 228), (3, 230), (3, 232), (3, 234), (3, 236), (3, 238), (4, 0), (4, 2), (4, 4), (4, 6), (4, 8), (4, 10), (4, 62), (4, 64), (4, 66), (4, 68), (4, 70), (4, 72), (4, 74), (6, 119), (6, 111), (6, 113), (6, 115), (6, 117), (3, 208), (3, 204), (3, 206)] (by decide +kernel) (by decide +kernel)
theorem gL_law_X9_candidate : GoodIn lw_tbl (wsV RL 17 RX9 yX9_candidate wsX9_candidate) := goodIn_app (goodIn_t [(4, 13), (4, 14), (4, 15), (1, 4)] (by decide +kernel) (by decide +kernel)) gt_X9_candidate
set_option maxRecDepth 20000 in
theorem gt_X5_fewest : GoodIn lw_tbl wsX5_fewest := goodIn_t [(2, 168), (2, 169), (2, 170), (1, 15), (2, 171), (2, 172), (2, 173), (2, 174), (2, 157), (2, 159), (0, 25), (1, 1), (2, 160), (1, 105), (1, 213), (1, 215), (0, 2), (1, 216), (1, 104), (2, 163), (1, 8), (0, 26), (2, 164), (1, 171), (1, 118), (1, 120), (1, 122), (1, 124), (1, 126), (1, 128), (1, 130), (1, 132), (1, 134), (1, 136), (1, 138), (1, 140), (1, 142), (1, 144), (1, 176), (1, 178), (1, 180), (1, 182), (1, 184), (1, 186), (1, 188), (1, 190), (1, 192), (1, 194)] (by decide +kernel) (by decide +kernel)
theorem gL_law_X5_fewest : GoodIn lw_tbl (wsV RL 78 RX5 yX5_fewest wsX5_fewest) := goodIn_app (goodIn_t [(2, 165), (2, 166), (2, 167), (1, 1)] (by decide +kernel) (by decide +kernel)) gt_X5_fewest
set_option maxRecDepth 20000 in
theorem gt_X9_fewest : GoodIn lw_tbl wsX9_fewest := goodIn_t [(6, 167), (6, 154), (6, 156), (0, 73), (1, 4), (6, 157), (3, 213), (4, 41), (4, 21), (4, 31), (4, 33), (1, 36), (4, 35), (6, 109), (4, 36), (4, 38), (0, 58), (4, 40), (6, 104), (3, 198), (3, 196), (3, 199), (3, 200), (4, 25), (4, 27), (1, 7), (4, 29), (3, 193), (4, 218), (4, 236), (4, 238), (5, 0), (6, 107), (5, 1), (4, 227), (1, 18), (4, 228), (4, 229), (4, 230), (1, 19), (4, 231), (5, 2), (4, 233), (4, 234), (4, 235), (3, 189), (4, 221), (4, 223), (4, 225), (4, 226), (4, 232), (6, 158), (6, 159), (6, 160), (1, 147), (6, 161), (6, 162), (6, 163), (4, 59), (6, 168), (2, 170), (1, 15), (2, 171), (2, 172), (2, 173), (2, 174), (3, 226), (3, 228), (3, 230), (3, 232), (3, 234), (3, 236), (3, 238), (4, 0), (4, 2), (4, 4), (4, 6), (4, 8), (4, 10), (6, 119), (6, 111), (6, 113), (6, 115), (6, 117), (3, 208), (3, 204), (3, 206), (4, 62), (4, 64), (4, 66), (4, 68), (4, 70), (4, 72), (4, 74)] (by decide +kernel) (by decide +kernel)
theorem gL_law_X9_fewest : GoodIn lw_tbl (wsV RL 82 RX9 yX9_fewest wsX9_fewest) := goodIn_app (goodIn_t [(6, 164), (6, 165), (6, 166), (1, 4)] (by decide +kernel) (by decide +kernel)) gt_X9_fewest
