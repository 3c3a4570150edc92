/-! the law's words, joined; what it calls -/
theorem lwr_all : ∀ w ∈ (wsL_law_r1 ++ (wsL_law_r2 ++ (wsL_law_r3 ++ (wsL_law_r4 ++ (wsL_law_r5 ++ (wsL_law_r6 ++ (wsL_law_r7 ++ (wsL_law_r8 ++ (wsL_law_r9 ++ (wsL_law_r10 ++ (wsL_law_r11 ++ (wsL_law_r12 ++ (wsL_law_r13 ++ (wsL_law_r14 ++ (wsL_law_r15 ++ (wsL_law_r16 ++ (wsL_law_r17 ++ (wsL_law_r18 ++ (wsL_law_r19 ++ (wsL_law_r20 ++ (wsL_law_r21 ++ (wsL_law_r22 ++ (wsL_law_r23 ++ (wsL_law_r24 ++ (wsL_law_r25 ++ (wsL_law_r26 ++ wsL_law_r27)))))))))))))))))))))))))), w ∈ lw_tbl := fun w h => (List.mem_append.mp h).elim (lwr_1 w) (fun h => (List.mem_append.mp h).elim (lwr_2 w) (fun h => (List.mem_append.mp h).elim (lwr_3 w) (fun h => (List.mem_append.mp h).elim (lwr_4 w) (fun h => (List.mem_append.mp h).elim (lwr_5 w) (fun h => (List.mem_append.mp h).elim (lwr_6 w) (fun h => (List.mem_append.mp h).elim (lwr_7 w) (fun h => (List.mem_append.mp h).elim (lwr_8 w) (fun h => (List.mem_append.mp h).elim (lwr_9 w) (fun h => (List.mem_append.mp h).elim (lwr_10 w) (fun h => (List.mem_append.mp h).elim (lwr_11 w) (fun h => (List.mem_append.mp h).elim (lwr_12 w) (fun h => (List.mem_append.mp h).elim (lwr_13 w) (fun h => (List.mem_append.mp h).elim (lwr_14 w) (fun h => (List.mem_append.mp h).elim (lwr_15 w) (fun h => (List.mem_append.mp h).elim (lwr_16 w) (fun h => (List.mem_append.mp h).elim (lwr_17 w) (fun h => (List.mem_append.mp h).elim (lwr_18 w) (fun h => (List.mem_append.mp h).elim (lwr_19 w) (fun h => (List.mem_append.mp h).elim (lwr_20 w) (fun h => (List.mem_append.mp h).elim (lwr_21 w) (fun h => (List.mem_append.mp h).elim (lwr_22 w) (fun h => (List.mem_append.mp h).elim (lwr_23 w) (fun h => (List.mem_append.mp h).elim (lwr_24 w) (fun h => (List.mem_append.mp h).elim (lwr_25 w) (fun h => (List.mem_append.mp h).elim (lwr_26 w) (fun h => lwr_27 w h))))))))))))))))))))))))))
theorem wsL_law_in : ∀ w ∈ wsL_law, w ∈ lw_tbl := by
  intro w h
  unfold wsL_law at h
  rw [List.append_nil] at h
  rcases List.mem_append.mp h with h | h
  · rcases List.mem_append.mp h with h | h
    · rcases List.mem_append.mp h with h | h
      · rcases List.mem_append.mp h with h | h
        · rcases List.mem_append.mp h with h | h
          · exact lwr_all w h
          · exact lwr_wsX30 w h
        · exact lwr_wsX40 w h
      · exact lwr_wsX20 w h
    · exact lwr_wsX10 w h
  · exact lwr_wsX00 w h
theorem inlX0 : ∀ w ∈ wsX00, w ∈ wsL_law := fun _ h => List.mem_append_left _ (List.mem_append_right _ h)
theorem inX0 : ∀ w ∈ wsX00, w ∈ lw_tbl := fun w h => wsL_law_in w (inlX0 w h)
theorem inlX1 : ∀ w ∈ wsX10, w ∈ wsL_law := fun _ h => List.mem_append_left _ (List.mem_append_left _ (List.mem_append_right _ h))
theorem inX1 : ∀ w ∈ wsX10, w ∈ lw_tbl := fun w h => wsL_law_in w (inlX1 w h)
theorem inlX2 : ∀ w ∈ wsX20, w ∈ wsL_law := fun _ h => List.mem_append_left _ (List.mem_append_left _ (List.mem_append_left _ (List.mem_append_right _ h)))
theorem inX2 : ∀ w ∈ wsX20, w ∈ lw_tbl := fun w h => wsL_law_in w (inlX2 w h)
theorem inlX3 : ∀ w ∈ wsX30, w ∈ wsL_law := fun _ h => List.mem_append_left _ (List.mem_append_left _ (List.mem_append_left _ (List.mem_append_left _ (List.mem_append_left _ (List.mem_append_right _ h)))))
theorem inX3 : ∀ w ∈ wsX30, w ∈ lw_tbl := fun w h => wsL_law_in w (inlX3 w h)
theorem inlX4 : ∀ w ∈ wsX40, w ∈ wsL_law := fun _ h => List.mem_append_left _ (List.mem_append_left _ (List.mem_append_left _ (List.mem_append_left _ (List.mem_append_right _ h))))
theorem inX4 : ∀ w ∈ wsX40, w ∈ lw_tbl := fun w h => wsL_law_in w (inlX4 w h)
set_option maxRecDepth 20000 in
theorem ggL_law_X3_init : GoodIn wsL_law wsX3_init := goodIn_r _ [9, 10, 11, 12, 13, 14, 15, 16, 17, 18, 19, 20, 21, 22, 23, 24, 25, 26, 27, 28, 29, 30, 31, 32, 33, 34, 35, 36, 37, 38, 39, 40, 41, 42, 685, 686, 645, 646, 647, 648, 649, 650, 651, 652, 653, 654, 655, 687, 688, 689, 690, 691, 692, 693, 694, 695, 696] (by decide +kernel) (by decide +kernel)
set_option maxRecDepth 20000 in
theorem gL_law_X3_init : GoodIn wsL_law (wsX3_init) := ggL_law_X3_init
set_option maxRecDepth 20000 in
theorem ggL_law_X4_init : GoodIn wsL_law wsX4_init := goodIn_r _ [45, 46, 11, 12, 27, 47, 48, 49, 50, 51, 52, 53, 54, 55, 56, 57, 58, 59, 60, 61, 62, 63, 64, 656, 657, 658, 659, 660, 661, 662, 663, 664, 665, 666, 667, 668, 669, 670, 671, 672, 673, 674, 675, 676, 677, 678, 679, 680, 681, 682, 683, 684] (by decide +kernel) (by decide +kernel)
set_option maxRecDepth 20000 in
theorem gL_law_X4_init : GoodIn wsL_law (wsX4_init) := ggL_law_X4_init
set_option maxRecDepth 20000 in
theorem ggL_law_X3_write : GoodIn wsL_law wsX3_write := goodIn_r _ [68, 16, 69, 15, 70, 71, 72, 34, 645, 646, 647, 648, 649, 650, 651, 652, 653, 654, 655, 685, 686] (by decide +kernel) (by decide +kernel)
set_option maxRecDepth 20000 in
theorem gL_law_X3_write : GoodIn wsL_law (wsV RL 13 RX3 yX3_write wsX3_write) := goodIn_app (goodIn_of _ (by decide +kernel)) ggL_law_X3_write
set_option maxRecDepth 20000 in
theorem ggL_law_X4_write : GoodIn wsL_law wsX4_write := goodIn_r _ [76, 77, 78, 79, 47, 80, 81, 5, 82, 656, 657, 658, 659, 660, 661, 662, 663, 664, 665, 666, 667, 668, 669, 670, 671, 672, 673, 674, 675, 676, 677, 678, 679, 680, 681, 682, 683, 684] (by decide +kernel) (by decide +kernel)
set_option maxRecDepth 20000 in
theorem gL_law_X4_write : GoodIn wsL_law (wsV RL 17 RX4 yX4_write wsX4_write) := goodIn_app (goodIn_of _ (by decide +kernel)) ggL_law_X4_write
set_option maxRecDepth 20000 in
theorem ggL_law_X3_wipe : GoodIn wsL_law wsX3_wipe := goodIn_r _ [86, 16, 645, 646, 647, 648, 649, 650, 651, 652, 653, 654, 655, 685, 686] (by decide +kernel) (by decide +kernel)
set_option maxRecDepth 20000 in
theorem gL_law_X3_wipe : GoodIn wsL_law (wsV RL 18 RX3 yX3_wipe wsX3_wipe) := goodIn_app (goodIn_of _ (by decide +kernel)) ggL_law_X3_wipe
set_option maxRecDepth 20000 in
theorem ggL_law_X4_wipe : GoodIn wsL_law wsX4_wipe := goodIn_r _ [90, 77, 79, 656, 657, 658, 659, 660, 661, 662, 663, 664, 665, 666, 667, 668, 669, 670, 671, 672, 673, 674, 675, 676, 677, 678, 679, 680, 681, 682, 683, 684] (by decide +kernel) (by decide +kernel)
set_option maxRecDepth 20000 in
theorem gL_law_X4_wipe : GoodIn wsL_law (wsV RL 22 RX4 yX4_wipe wsX4_wipe) := goodIn_app (goodIn_of _ (by decide +kernel)) ggL_law_X4_wipe
set_option maxRecDepth 20000 in
theorem ggL_law_X3_fault : GoodIn wsL_law wsX3_fault := goodIn_r _ [94, 16, 21, 95, 15, 96, 97, 72, 98, 19, 99, 100, 101, 102, 103, 104, 105, 106, 107, 108, 109, 110, 111, 34, 112, 113, 114, 115, 116, 117, 118, 119, 120, 121, 122, 123, 124, 125, 126, 127, 2, 128, 129, 130, 131, 132, 133, 134, 135, 136, 137, 138, 139, 140, 141, 142, 143, 144, 145, 146, 147, 148, 149, 150, 151, 152, 153, 154, 155, 156, 157, 158, 159, 160, 161, 645, 646, 647, 648, 649, 650, 651, 652, 653, 654, 655, 685, 686, 687, 688, 689, 690, 691, 692, 693] (by decide +kernel) (by decide +kernel)
set_option maxRecDepth 20000 in
theorem gL_law_X3_fault : GoodIn wsL_law (wsV RL 23 RX3 yX3_fault wsX3_fault) := goodIn_app (goodIn_of _ (by decide +kernel)) ggL_law_X3_fault
set_option maxRecDepth 20000 in
theorem ggL_law_X4_fault : GoodIn wsL_law wsX4_fault := goodIn_r _ [165, 77, 166, 167, 168, 5, 169, 170, 171, 79, 47, 172, 173, 174, 175, 176, 177, 178, 179, 49, 50, 51, 180, 181, 182, 183, 80, 81, 82, 184, 185, 186, 187, 188, 189, 190, 191, 192, 193, 194, 195, 196, 197, 198, 656, 657, 658, 659, 660, 661, 662, 663, 664, 665, 666, 667, 668, 669, 670, 671, 672, 673, 674, 675, 676, 677, 678, 679, 680, 681, 682, 683, 684] (by decide +kernel) (by decide +kernel)
set_option maxRecDepth 20000 in
theorem gL_law_X4_fault : GoodIn wsL_law (wsV RL 26 RX4 yX4_fault wsX4_fault) := goodIn_app (goodIn_of _ (by decide +kernel)) ggL_law_X4_fault
set_option maxRecDepth 20000 in
theorem ggL_law_X3_county : GoodIn wsL_law wsX3_county := goodIn_r _ [202, 16, 21, 20, 25, 203, 95, 15, 96, 97, 72, 98, 19, 99, 100, 101, 102, 103, 104, 105, 106, 107, 108, 109, 110, 111, 34, 112, 113, 114, 115, 116, 117, 118, 119, 120, 121, 122, 123, 124, 125, 126, 127, 2, 128, 129, 130, 131, 132, 133, 134, 135, 136, 137, 138, 139, 140, 141, 142, 143, 144, 145, 146, 147, 148, 149, 150, 151, 152, 153, 154, 155, 156, 157, 158, 159, 160, 161, 204, 205, 206, 645, 646, 647, 648, 649, 650, 651, 652, 653, 654, 655, 694, 695, 696, 687, 688, 689, 690, 691, 692, 693, 685, 686] (by decide +kernel) (by decide +kernel)
set_option maxRecDepth 20000 in
theorem gL_law_X3_county : GoodIn wsL_law (wsV RL 27 RX3 yX3_county wsX3_county) := goodIn_app (goodIn_of _ (by decide +kernel)) ggL_law_X3_county
set_option maxRecDepth 20000 in
theorem ggL_law_X4_county : GoodIn wsL_law wsX4_county := goodIn_r _ [210, 77, 171, 211, 52, 48, 50, 49, 51, 212, 57, 166, 167, 168, 5, 169, 170, 79, 47, 172, 173, 174, 175, 176, 177, 178, 179, 180, 181, 182, 183, 80, 81, 82, 184, 185, 186, 187, 188, 189, 190, 191, 192, 193, 194, 195, 196, 197, 198, 656, 657, 658, 659, 660, 661, 662, 663, 664, 665, 666, 667, 668, 669, 670, 671, 672, 673, 674, 675, 676, 677, 678, 679, 680, 681, 682, 683, 684] (by decide +kernel) (by decide +kernel)
set_option maxRecDepth 20000 in
theorem gL_law_X4_county : GoodIn wsL_law (wsV RL 30 RX4 yX4_county wsX4_county) := goodIn_app (goodIn_of _ (by decide +kernel)) ggL_law_X4_county
set_option maxRecDepth 20000 in
theorem ggL_law_X3_about : GoodIn wsL_law wsX3_about := goodIn_r _ [216, 20, 25, 217, 16, 218, 19, 219, 220, 101, 221, 2, 222, 223, 224, 225, 226, 227, 228, 229, 230, 102, 231, 232, 233, 234, 103, 235, 236, 237, 238, 104, 127, 128, 239, 240, 241, 105, 645, 646, 647, 648, 649, 650, 651, 652, 653, 654, 655, 687, 688, 689, 690, 691, 692, 693, 694, 695, 696, 685, 686] (by decide +kernel) (by decide +kernel)
set_option maxRecDepth 20000 in
theorem gL_law_X3_about : GoodIn wsL_law (wsV RL 31 RX3 yX3_about wsX3_about) := goodIn_app (goodIn_of _ (by decide +kernel)) ggL_law_X3_about
set_option maxRecDepth 20000 in
theorem ggL_law_X4_about : GoodIn wsL_law wsX4_about := goodIn_r _ [245, 77, 211, 52, 212, 246, 79, 247, 248, 249, 5, 250, 48, 196, 197, 198, 251, 252, 253, 254, 255, 256, 257, 258, 656, 657, 658, 659, 660, 661, 662, 663, 664, 665, 666, 667, 668, 669, 670, 671, 672, 673, 674, 675, 676, 677, 678, 679, 680, 681, 682, 683, 684] (by decide +kernel) (by decide +kernel)
set_option maxRecDepth 20000 in
theorem gL_law_X4_about : GoodIn wsL_law (wsV RL 34 RX4 yX4_about wsX4_about) := goodIn_app (goodIn_of _ (by decide +kernel)) ggL_law_X4_about
set_option maxRecDepth 20000 in
theorem ggL_law_X3_person : GoodIn wsL_law wsX3_person := goodIn_r _ [262, 20, 143, 19, 144, 145, 101, 232, 233, 234, 103, 228, 229, 230, 102, 224, 225, 226, 227, 231, 146, 147, 148, 149, 150, 151, 152, 104, 153, 2, 154, 127, 128, 645, 646, 647, 648, 649, 650, 651, 652, 653, 654, 655, 687, 688, 689, 690, 691, 692, 693] (by decide +kernel) (by decide +kernel)
set_option maxRecDepth 20000 in
theorem gL_law_X3_person : GoodIn wsL_law (wsV RL 35 RX3 yX3_person wsX3_person) := goodIn_app (goodIn_of _ (by decide +kernel)) ggL_law_X3_person
set_option maxRecDepth 20000 in
theorem ggL_law_X4_person : GoodIn wsL_law wsX4_person := goodIn_r _ [266, 77, 52, 48, 267, 268, 269, 5, 270, 211, 80, 81, 82, 255, 256, 257, 258, 656, 657, 658, 659, 660, 661, 662, 663, 664, 665, 666, 667, 668, 669, 670, 671, 672, 673, 674, 675, 676, 677, 678, 679, 680, 681, 682, 683, 684] (by decide +kernel) (by decide +kernel)
set_option maxRecDepth 20000 in
theorem gL_law_X4_person : GoodIn wsL_law (wsV RL 39 RX4 yX4_person wsX4_person) := goodIn_app (goodIn_of _ (by decide +kernel)) ggL_law_X4_person
set_option maxRecDepth 20000 in
theorem ggL_law_X3_take : GoodIn wsL_law wsX3_take := goodIn_r _ [274, 20, 25, 143, 19, 144, 145, 101, 218, 219, 220, 221, 2, 222, 223, 224, 225, 226, 227, 228, 229, 230, 102, 231, 232, 233, 234, 103, 235, 236, 237, 238, 104, 127, 128, 275, 276, 24, 277, 278, 42, 279, 280, 204, 205, 206, 105, 106, 107, 281, 282, 283, 284, 156, 157, 158, 159, 160, 161, 645, 646, 647, 648, 649, 650, 651, 652, 653, 654, 655, 687, 688, 689, 690, 691, 692, 693, 694, 695, 696] (by decide +kernel) (by decide +kernel)
set_option maxRecDepth 20000 in
theorem gL_law_X3_take : GoodIn wsL_law (wsV RL 40 RX3 yX3_take wsX3_take) := goodIn_app (goodIn_of _ (by decide +kernel)) ggL_law_X3_take
set_option maxRecDepth 20000 in
theorem ggL_law_X4_take : GoodIn wsL_law wsX4_take := goodIn_r _ [288, 77, 52, 267, 268, 269, 5, 270, 211, 80, 81, 82, 251, 252, 253, 254, 196, 197, 198, 255, 256, 257, 258, 48, 247, 248, 249, 250, 289, 290, 291, 292, 212, 54, 293, 294, 295, 656, 657, 658, 659, 660, 661, 662, 663, 664, 665, 666, 667, 668, 669, 670, 671, 672, 673, 674, 675, 676, 677, 678, 679, 680, 681, 682, 683, 684] (by decide +kernel) (by decide +kernel)
set_option maxRecDepth 20000 in
theorem gL_law_X4_take : GoodIn wsL_law (wsV RL 43 RX4 yX4_take wsX4_take) := goodIn_app (goodIn_of _ (by decide +kernel)) ggL_law_X4_take
set_option maxRecDepth 20000 in
theorem ggL_law_X3_free : GoodIn wsL_law wsX3_free := goodIn_r _ [299, 20, 25, 143, 19, 144, 145, 101, 275, 221, 2, 222, 276, 24, 277, 278, 42, 279, 280, 204, 205, 206, 102, 103, 104, 105, 106, 107, 300, 127, 128, 284, 156, 157, 158, 159, 160, 161, 645, 646, 647, 648, 649, 650, 651, 652, 653, 654, 655, 687, 688, 689, 690, 691, 692, 693, 694, 695, 696] (by decide +kernel) (by decide +kernel)
set_option maxRecDepth 20000 in
theorem gL_law_X3_free : GoodIn wsL_law (wsV RL 44 RX3 yX3_free wsX3_free) := goodIn_app (goodIn_of _ (by decide +kernel)) ggL_law_X3_free
set_option maxRecDepth 20000 in
theorem ggL_law_X4_free : GoodIn wsL_law wsX4_free := goodIn_r _ [304, 77, 52, 267, 268, 269, 5, 270, 211, 80, 81, 82, 196, 197, 198, 289, 290, 291, 292, 212, 54, 293, 294, 295, 656, 657, 658, 659, 660, 661, 662, 663, 664, 665, 666, 667, 668, 669, 670, 671, 672, 673, 674, 675, 676, 677, 678, 679, 680, 681, 682, 683, 684] (by decide +kernel) (by decide +kernel)
set_option maxRecDepth 20000 in
theorem gL_law_X4_free : GoodIn wsL_law (wsV RL 47 RX4 yX4_free wsX4_free) := goodIn_app (goodIn_of _ (by decide +kernel)) ggL_law_X4_free
set_option maxRecDepth 20000 in
theorem ggL_law_X3_die : GoodIn wsL_law wsX3_die := goodIn_r _ [308, 20, 25, 143, 19, 144, 145, 101, 275, 221, 2, 222, 276, 24, 277, 278, 42, 279, 280, 204, 205, 206, 102, 103, 104, 105, 106, 107, 309, 310, 311, 282, 283, 127, 128, 284, 156, 157, 158, 159, 160, 161, 645, 646, 647, 648, 649, 650, 651, 652, 653, 654, 655, 687, 688, 689, 690, 691, 692, 693, 694, 695, 696] (by decide +kernel) (by decide +kernel)
set_option maxRecDepth 20000 in
theorem gL_law_X3_die : GoodIn wsL_law (wsV RL 48 RX3 yX3_die wsX3_die) := goodIn_app (goodIn_of _ (by decide +kernel)) ggL_law_X3_die
set_option maxRecDepth 20000 in
theorem ggL_law_X4_die : GoodIn wsL_law wsX4_die := goodIn_r _ [315, 77, 52, 267, 268, 269, 5, 270, 211, 80, 81, 82, 196, 197, 198, 289, 290, 291, 292, 212, 54, 316, 317, 318, 293, 294, 295, 656, 657, 658, 659, 660, 661, 662, 663, 664, 665, 666, 667, 668, 669, 670, 671, 672, 673, 674, 675, 676, 677, 678, 679, 680, 681, 682, 683, 684] (by decide +kernel) (by decide +kernel)
set_option maxRecDepth 20000 in
theorem gL_law_X4_die : GoodIn wsL_law (wsV RL 51 RX4 yX4_die wsX4_die) := goodIn_app (goodIn_of _ (by decide +kernel)) ggL_law_X4_die
set_option maxRecDepth 20000 in
theorem ggL_law_X3_feed : GoodIn wsL_law wsX3_feed := goodIn_r _ [322, 20, 25, 143, 19, 144, 145, 101, 276, 24, 277, 278, 42, 279, 280, 204, 205, 206, 102, 103, 104, 105, 106, 107, 323, 153, 2, 154, 150, 151, 152, 645, 646, 647, 648, 649, 650, 651, 652, 653, 654, 655, 687, 688, 689, 690, 691, 692, 693, 694, 695, 696] (by decide +kernel) (by decide +kernel)
set_option maxRecDepth 20000 in
theorem gL_law_X3_feed : GoodIn wsL_law (wsV RL 52 RX3 yX3_feed wsX3_feed) := goodIn_app (goodIn_of _ (by decide +kernel)) ggL_law_X3_feed
set_option maxRecDepth 20000 in
theorem ggL_law_X4_feed : GoodIn wsL_law wsX4_feed := goodIn_r _ [327, 77, 52, 267, 268, 269, 5, 270, 211, 80, 81, 82, 289, 290, 291, 292, 212, 54, 656, 657, 658, 659, 660, 661, 662, 663, 664, 665, 666, 667, 668, 669, 670, 671, 672, 673, 674, 675, 676, 677, 678, 679, 680, 681, 682, 683, 684] (by decide +kernel) (by decide +kernel)
set_option maxRecDepth 20000 in
theorem gL_law_X4_feed : GoodIn wsL_law (wsV RL 55 RX4 yX4_feed wsX4_feed) := goodIn_app (goodIn_of _ (by decide +kernel)) ggL_law_X4_feed
set_option maxRecDepth 20000 in
theorem ggL_law_X3_grade : GoodIn wsL_law wsX3_grade := goodIn_r _ [331, 20, 25, 143, 19, 144, 145, 101, 232, 233, 234, 103, 276, 24, 277, 278, 42, 279, 280, 204, 205, 206, 102, 104, 105, 106, 107, 332, 333, 334, 645, 646, 647, 648, 649, 650, 651, 652, 653, 654, 655, 687, 688, 689, 690, 691, 692, 693, 694, 695, 696] (by decide +kernel) (by decide +kernel)
set_option maxRecDepth 20000 in
theorem gL_law_X3_grade : GoodIn wsL_law (wsV RL 56 RX3 yX3_grade wsX3_grade) := goodIn_app (goodIn_of _ (by decide +kernel)) ggL_law_X3_grade
set_option maxRecDepth 20000 in
theorem ggL_law_X4_grade : GoodIn wsL_law wsX4_grade := goodIn_r _ [338, 77, 339, 52, 267, 268, 269, 5, 270, 211, 80, 81, 82, 289, 290, 291, 292, 212, 54, 656, 657, 658, 659, 660, 661, 662, 663, 664, 665, 666, 667, 668, 669, 670, 671, 672, 673, 674, 675, 676, 677, 678, 679, 680, 681, 682, 683, 684] (by decide +kernel) (by decide +kernel)
set_option maxRecDepth 20000 in
theorem gL_law_X4_grade : GoodIn wsL_law (wsV RL 59 RX4 yX4_grade wsX4_grade) := goodIn_app (goodIn_of _ (by decide +kernel)) ggL_law_X4_grade
set_option maxRecDepth 20000 in
theorem ggL_law_X3_day : GoodIn wsL_law wsX3_day := goodIn_r _ [343, 25, 20, 276, 24, 277, 278, 42, 279, 280, 204, 19, 205, 206, 101, 102, 103, 104, 105, 106, 107, 344, 345, 346, 347, 218, 219, 220, 221, 2, 222, 223, 224, 225, 226, 227, 228, 229, 230, 231, 232, 233, 234, 235, 236, 237, 238, 127, 128, 348, 349, 275, 282, 283, 645, 646, 647, 648, 649, 650, 651, 652, 653, 654, 655, 694, 695, 696, 687, 688, 689, 690, 691, 692, 693] (by decide +kernel) (by decide +kernel)
set_option maxRecDepth 20000 in
theorem gL_law_X3_day : GoodIn wsL_law (wsV RL 60 RX3 yX3_day wsX3_day) := goodIn_app (goodIn_of _ (by decide +kernel)) ggL_law_X3_day
set_option maxRecDepth 20000 in
theorem ggL_law_X4_day : GoodIn wsL_law wsX4_day := goodIn_r _ [353, 77, 52, 289, 290, 291, 5, 292, 212, 54, 354, 355, 356, 357, 251, 252, 253, 254, 211, 196, 197, 198, 255, 256, 257, 258, 48, 247, 248, 249, 250, 358, 359, 360, 656, 657, 658, 659, 660, 661, 662, 663, 664, 665, 666, 667, 668, 669, 670, 671, 672, 673, 674, 675, 676, 677, 678, 679, 680, 681, 682, 683, 684] (by decide +kernel) (by decide +kernel)
set_option maxRecDepth 20000 in
theorem gL_law_X4_day : GoodIn wsL_law (wsV RL 63 RX4 yX4_day wsX4_day) := goodIn_app (goodIn_of _ (by decide +kernel)) ggL_law_X4_day
set_option maxRecDepth 20000 in
theorem ggL_law_X3_undo : GoodIn wsL_law wsX3_undo := goodIn_r _ [364, 25, 20, 365, 24, 366, 367, 280, 42, 279, 204, 19, 205, 206, 101, 102, 103, 104, 105, 106, 107, 645, 646, 647, 648, 649, 650, 651, 652, 653, 654, 655, 694, 695, 696, 687, 688, 689, 690, 691, 692, 693] (by decide +kernel) (by decide +kernel)
set_option maxRecDepth 20000 in
theorem gL_law_X3_undo : GoodIn wsL_law (wsV RL 64 RX3 yX3_undo wsX3_undo) := goodIn_app (goodIn_of _ (by decide +kernel)) ggL_law_X3_undo
set_option maxRecDepth 20000 in
theorem ggL_law_X4_undo : GoodIn wsL_law wsX4_undo := goodIn_r _ [371, 77, 212, 52, 54, 656, 657, 658, 659, 660, 661, 662, 663, 664, 665, 666, 667, 668, 669, 670, 671, 672, 673, 674, 675, 676, 677, 678, 679, 680, 681, 682, 683, 684] (by decide +kernel) (by decide +kernel)
set_option maxRecDepth 20000 in
theorem gL_law_X4_undo : GoodIn wsL_law (wsV RL 67 RX4 yX4_undo wsX4_undo) := goodIn_app (goodIn_of _ (by decide +kernel)) ggL_law_X4_undo
set_option maxRecDepth 20000 in
theorem ggL_law_X3_fall : GoodIn wsL_law wsX3_fall := goodIn_r _ [375, 20, 376, 19, 377, 378, 105, 101, 347, 218, 219, 220, 221, 2, 222, 223, 224, 225, 226, 227, 228, 229, 230, 102, 231, 232, 233, 234, 103, 235, 236, 237, 238, 104, 127, 128, 348, 349, 275, 282, 283, 645, 646, 647, 648, 649, 650, 651, 652, 653, 654, 655, 687, 688, 689, 690, 691, 692, 693] (by decide +kernel) (by decide +kernel)
set_option maxRecDepth 20000 in
theorem gL_law_X3_fall : GoodIn wsL_law (wsV RL 68 RX3 yX3_fall wsX3_fall) := goodIn_app (goodIn_of _ (by decide +kernel)) ggL_law_X3_fall
set_option maxRecDepth 20000 in
theorem ggL_law_X4_fall : GoodIn wsL_law wsX4_fall := goodIn_r _ [382, 77, 383, 60, 384, 385, 386, 5, 387, 53, 52, 388, 389, 390, 391, 251, 252, 253, 254, 211, 196, 197, 198, 255, 256, 257, 258, 48, 247, 248, 249, 250, 358, 359, 360, 656, 657, 658, 659, 660, 661, 662, 663, 664, 665, 666, 667, 668, 669, 670, 671, 672, 673, 674, 675, 676, 677, 678, 679, 680, 681, 682, 683, 684] (by decide +kernel) (by decide +kernel)
set_option maxRecDepth 20000 in
theorem gL_law_X4_fall : GoodIn wsL_law (wsV RL 71 RX4 yX4_fall wsX4_fall) := goodIn_app (goodIn_of _ (by decide +kernel)) ggL_law_X4_fall
set_option maxRecDepth 20000 in
theorem ggL_law_X3_place : GoodIn wsL_law wsX3_place := goodIn_r _ [395, 20, 143, 19, 144, 145, 101, 396, 397, 398, 105, 347, 218, 219, 220, 221, 2, 222, 223, 224, 225, 226, 227, 228, 229, 230, 102, 231, 232, 233, 234, 103, 235, 236, 237, 238, 104, 127, 128, 348, 349, 275, 282, 283, 645, 646, 647, 648, 649, 650, 651, 652, 653, 654, 655, 687, 688, 689, 690, 691, 692, 693] (by decide +kernel) (by decide +kernel)
set_option maxRecDepth 20000 in
theorem gL_law_X3_place : GoodIn wsL_law (wsV RL 72 RX3 yX3_place wsX3_place) := goodIn_app (goodIn_of _ (by decide +kernel)) ggL_law_X3_place
set_option maxRecDepth 20000 in
theorem ggL_law_X4_place : GoodIn wsL_law wsX4_place := goodIn_r _ [402, 77, 267, 268, 269, 5, 270, 211, 80, 81, 82, 384, 385, 386, 387, 53, 52, 388, 389, 390, 391, 383, 60, 251, 252, 253, 254, 196, 197, 198, 255, 256, 257, 258, 48, 247, 248, 249, 250, 358, 359, 360, 403, 404, 405, 406, 656, 657, 658, 659, 660, 661, 662, 663, 664, 665, 666, 667, 668, 669, 670, 671, 672, 673, 674, 675, 676, 677, 678, 679, 680, 681, 682, 683, 684] (by decide +kernel) (by decide +kernel)
set_option maxRecDepth 20000 in
theorem gL_law_X4_place : GoodIn wsL_law (wsV RL 75 RX4 yX4_place wsX4_place) := goodIn_app (goodIn_of _ (by decide +kernel)) ggL_law_X4_place
set_option maxRecDepth 20000 in
theorem ggL_law_X3_last : GoodIn wsL_law wsX3_last := goodIn_r _ [410, 20, 411, 19, 412, 413, 101, 347, 218, 219, 220, 221, 2, 222, 223, 224, 225, 226, 227, 228, 229, 230, 102, 231, 232, 233, 234, 103, 235, 236, 237, 238, 104, 127, 128, 645, 646, 647, 648, 649, 650, 651, 652, 653, 654, 655, 687, 688, 689, 690, 691, 692, 693] (by decide +kernel) (by decide +kernel)
set_option maxRecDepth 20000 in
theorem gL_law_X3_last : GoodIn wsL_law (wsV RL 76 RX3 yX3_last wsX3_last) := goodIn_app (goodIn_of _ (by decide +kernel)) ggL_law_X3_last
set_option maxRecDepth 20000 in
theorem ggL_law_X4_last : GoodIn wsL_law wsX4_last := goodIn_r _ [417, 77, 53, 384, 385, 386, 5, 387, 52, 388, 389, 390, 391, 383, 60, 251, 252, 253, 254, 211, 196, 197, 198, 255, 256, 257, 258, 48, 247, 248, 249, 250, 358, 359, 360, 656, 657, 658, 659, 660, 661, 662, 663, 664, 665, 666, 667, 668, 669, 670, 671, 672, 673, 674, 675, 676, 677, 678, 679, 680, 681, 682, 683, 684] (by decide +kernel) (by decide +kernel)
set_option maxRecDepth 20000 in
theorem gL_law_X4_last : GoodIn wsL_law (wsV RL 79 RX4 yX4_last wsX4_last) := goodIn_app (goodIn_of _ (by decide +kernel)) ggL_law_X4_last
set_option maxRecDepth 20000 in
theorem ggL_law_X3_toFeed : GoodIn wsL_law wsX3_toFeed := goodIn_r _ [421, 20, 21, 143, 19, 144, 145, 101, 422, 423, 424, 425, 411, 412, 413, 347, 218, 219, 220, 221, 2, 222, 223, 224, 225, 226, 227, 228, 229, 230, 102, 231, 232, 233, 234, 103, 235, 236, 237, 238, 104, 127, 128, 204, 205, 206, 105, 106, 107, 426, 427, 428, 429, 430, 431, 432, 433, 150, 151, 152, 153, 154, 323, 434, 435, 436, 437, 275, 438, 439, 440, 441, 645, 646, 647, 648, 649, 650, 651, 652, 653, 654, 655, 687, 688, 689, 690, 691, 692, 693] (by decide +kernel) (by decide +kernel)
set_option maxRecDepth 20000 in
theorem gL_law_X3_toFeed : GoodIn wsL_law (wsV RL 80 RX3 yX3_toFeed wsX3_toFeed) := goodIn_app (goodIn_of _ (by decide +kernel)) ggL_law_X3_toFeed
set_option maxRecDepth 20000 in
theorem ggL_law_X4_toFeed : GoodIn wsL_law wsX4_toFeed := goodIn_r _ [445, 77, 446, 447, 267, 268, 269, 5, 270, 211, 80, 81, 82, 448, 449, 450, 451, 452, 453, 454, 455, 53, 384, 385, 386, 387, 52, 388, 389, 390, 391, 383, 60, 251, 252, 253, 254, 196, 197, 198, 255, 256, 257, 258, 48, 247, 248, 249, 250, 358, 359, 360, 403, 404, 405, 406, 456, 457, 458, 459, 656, 657, 658, 659, 660, 661, 662, 663, 664, 665, 666, 667, 668, 669, 670, 671, 672, 673, 674, 675, 676, 677, 678, 679, 680, 681, 682, 683, 684] (by decide +kernel) (by decide +kernel)
set_option maxRecDepth 20000 in
theorem gL_law_X4_toFeed : GoodIn wsL_law (wsV RL 83 RX4 yX4_toFeed wsX4_toFeed) := goodIn_app (goodIn_of _ (by decide +kernel)) ggL_law_X4_toFeed
set_option maxRecDepth 20000 in
theorem ggL_law_X3_giveUp : GoodIn wsL_law wsX3_giveUp := goodIn_r _ [463, 20, 143, 19, 144, 145, 101, 275, 221, 2, 222, 281, 282, 283, 284, 156, 157, 158, 159, 160, 161, 422, 423, 424, 425, 411, 412, 413, 347, 218, 219, 220, 223, 224, 225, 226, 227, 228, 229, 230, 102, 231, 232, 233, 234, 103, 235, 236, 237, 238, 104, 127, 128, 645, 646, 647, 648, 649, 650, 651, 652, 653, 654, 655, 687, 688, 689, 690, 691, 692, 693] (by decide +kernel) (by decide +kernel)
set_option maxRecDepth 20000 in
theorem gL_law_X3_giveUp : GoodIn wsL_law (wsV RL 84 RX3 yX3_giveUp wsX3_giveUp) := goodIn_app (goodIn_of _ (by decide +kernel)) ggL_law_X3_giveUp
set_option maxRecDepth 20000 in
theorem ggL_law_X4_giveUp : GoodIn wsL_law wsX4_giveUp := goodIn_r _ [467, 77, 52, 53, 267, 268, 269, 5, 270, 211, 80, 81, 82, 196, 197, 198, 293, 294, 295, 384, 385, 386, 387, 388, 389, 390, 391, 383, 60, 251, 252, 253, 254, 255, 256, 257, 258, 48, 247, 248, 249, 250, 358, 359, 360, 403, 404, 405, 406, 656, 657, 658, 659, 660, 661, 662, 663, 664, 665, 666, 667, 668, 669, 670, 671, 672, 673, 674, 675, 676, 677, 678, 679, 680, 681, 682, 683, 684] (by decide +kernel) (by decide +kernel)
set_option maxRecDepth 20000 in
theorem gL_law_X4_giveUp : GoodIn wsL_law (wsV RL 87 RX4 yX4_giveUp wsX4_giveUp) := goodIn_app (goodIn_of _ (by decide +kernel)) ggL_law_X4_giveUp
set_option maxRecDepth 20000 in
theorem ggL_law_X3_claim : GoodIn wsL_law wsX3_claim := goodIn_r _ [471, 20, 21, 143, 19, 144, 145, 101, 275, 221, 2, 222, 204, 205, 206, 102, 103, 104, 105, 106, 107, 332, 333, 334, 472, 473, 474, 475, 396, 397, 398, 347, 218, 219, 220, 223, 224, 225, 226, 227, 228, 229, 230, 231, 232, 233, 234, 235, 236, 237, 238, 127, 128, 348, 349, 282, 283, 645, 646, 647, 648, 649, 650, 651, 652, 653, 654, 655, 687, 688, 689, 690, 691, 692, 693] (by decide +kernel) (by decide +kernel)
set_option maxRecDepth 20000 in
theorem gL_law_X3_claim : GoodIn wsL_law (wsV RL 88 RX3 yX3_claim wsX3_claim) := goodIn_app (goodIn_of _ (by decide +kernel)) ggL_law_X3_claim
set_option maxRecDepth 20000 in
theorem ggL_law_X4_claim : GoodIn wsL_law wsX4_claim := goodIn_r _ [479, 77, 52, 53, 267, 268, 269, 5, 270, 211, 80, 81, 82, 196, 197, 198, 384, 385, 386, 387, 480, 481, 482, 483, 388, 389, 390, 391, 383, 60, 251, 252, 253, 254, 255, 256, 257, 258, 48, 247, 248, 249, 250, 358, 359, 360, 403, 404, 405, 406, 656, 657, 658, 659, 660, 661, 662, 663, 664, 665, 666, 667, 668, 669, 670, 671, 672, 673, 674, 675, 676, 677, 678, 679, 680, 681, 682, 683, 684] (by decide +kernel) (by decide +kernel)
set_option maxRecDepth 20000 in
theorem gL_law_X4_claim : GoodIn wsL_law (wsV RL 91 RX4 yX4_claim wsX4_claim) := goodIn_app (goodIn_of _ (by decide +kernel)) ggL_law_X4_claim
set_option maxRecDepth 20000 in
theorem ggL_law_X3_share : GoodIn wsL_law wsX3_share := goodIn_r _ [487, 20, 143, 19, 144, 145, 101, 275, 221, 2, 222, 488, 489, 490, 491, 492, 493, 494, 495, 496, 497, 281, 282, 283, 284, 156, 157, 158, 159, 160, 161, 498, 499, 500, 300, 127, 128, 501, 502, 503, 504, 425, 411, 412, 413, 347, 218, 219, 220, 223, 224, 225, 226, 227, 228, 229, 230, 102, 231, 232, 233, 234, 103, 235, 236, 237, 238, 104, 645, 646, 647, 648, 649, 650, 651, 652, 653, 654, 655, 687, 688, 689, 690, 691, 692, 693] (by decide +kernel) (by decide +kernel)
set_option maxRecDepth 20000 in
theorem gL_law_X3_share : GoodIn wsL_law (wsV RL 92 RX3 yX3_share wsX3_share) := goodIn_app (goodIn_of _ (by decide +kernel)) ggL_law_X3_share
set_option maxRecDepth 20000 in
theorem ggL_law_X4_share : GoodIn wsL_law wsX4_share := goodIn_r _ [508, 77, 52, 53, 61, 383, 267, 268, 269, 5, 270, 211, 80, 81, 82, 293, 294, 295, 384, 385, 386, 387, 388, 389, 390, 391, 60, 251, 252, 253, 254, 196, 197, 198, 255, 256, 257, 258, 48, 247, 248, 249, 250, 358, 359, 360, 509, 510, 511, 512, 513, 514, 515, 516, 517, 656, 657, 658, 659, 660, 661, 662, 663, 664, 665, 666, 667, 668, 669, 670, 671, 672, 673, 674, 675, 676, 677, 678, 679, 680, 681, 682, 683, 684] (by decide +kernel) (by decide +kernel)
set_option maxRecDepth 20000 in
theorem gL_law_X4_share : GoodIn wsL_law (wsV RL 96 RX4 yX4_share wsX4_share) := goodIn_app (goodIn_of _ (by decide +kernel)) ggL_law_X4_share
set_option maxRecDepth 20000 in
theorem ggL_law_X3_see : GoodIn wsL_law wsX3_see := goodIn_r _ [521, 20, 217, 28, 143, 19, 144, 145, 101, 645, 646, 647, 648, 649, 650, 651, 652, 653, 654, 655, 687, 688, 689, 690, 691, 692, 693] (by decide +kernel) (by decide +kernel)
set_option maxRecDepth 20000 in
theorem gL_law_X3_see : GoodIn wsL_law (wsV RL 97 RX3 yX3_see wsX3_see) := goodIn_app (goodIn_of _ (by decide +kernel)) ggL_law_X3_see
set_option maxRecDepth 20000 in
theorem ggL_law_X4_see : GoodIn wsL_law wsX4_see := goodIn_r _ [525, 77, 246, 58, 59, 267, 268, 269, 5, 270, 211, 80, 81, 82, 656, 657, 658, 659, 660, 661, 662, 663, 664, 665, 666, 667, 668, 669, 670, 671, 672, 673, 674, 675, 676, 677, 678, 679, 680, 681, 682, 683, 684] (by decide +kernel) (by decide +kernel)
set_option maxRecDepth 20000 in
theorem gL_law_X4_see : GoodIn wsL_law (wsV RL 100 RX4 yX4_see wsX4_see) := goodIn_app (goodIn_of _ (by decide +kernel)) ggL_law_X4_see
set_option maxRecDepth 20000 in
theorem ggL_law_X3_unsee : GoodIn wsL_law wsX3_unsee := goodIn_r _ [529, 217, 645, 646, 647, 648, 649, 650, 651, 652, 653, 654, 655] (by decide +kernel) (by decide +kernel)
set_option maxRecDepth 20000 in
theorem gL_law_X3_unsee : GoodIn wsL_law (wsV RL 101 RX3 yX3_unsee wsX3_unsee) := goodIn_app (goodIn_of _ (by decide +kernel)) ggL_law_X3_unsee
set_option maxRecDepth 20000 in
theorem ggL_law_X4_unsee : GoodIn wsL_law wsX4_unsee := goodIn_r _ [533, 77, 246, 656, 657, 658, 659, 660, 661, 662, 663, 664, 665, 666, 667, 668, 669, 670, 671, 672, 673, 674, 675, 676, 677, 678, 679, 680, 681, 682, 683, 684] (by decide +kernel) (by decide +kernel)
set_option maxRecDepth 20000 in
theorem gL_law_X4_unsee : GoodIn wsL_law (wsV RL 104 RX4 yX4_unsee wsX4_unsee) := goodIn_app (goodIn_of _ (by decide +kernel)) ggL_law_X4_unsee
set_option maxRecDepth 20000 in
theorem ggL_law_X3_did : GoodIn wsL_law wsX3_did := goodIn_r _ [537, 20, 21, 143, 19, 144, 145, 101, 204, 205, 206, 102, 103, 104, 105, 106, 107, 332, 333, 334, 538, 539, 540, 2, 541, 217, 28, 542, 543, 544, 545, 396, 397, 398, 347, 218, 219, 220, 221, 222, 223, 224, 225, 226, 227, 228, 229, 230, 231, 232, 233, 234, 235, 236, 237, 238, 127, 128, 348, 349, 275, 282, 283, 300, 645, 646, 647, 648, 649, 650, 651, 652, 653, 654, 655, 687, 688, 689, 690, 691, 692, 693] (by decide +kernel) (by decide +kernel)
set_option maxRecDepth 20000 in
theorem gL_law_X3_did : GoodIn wsL_law (wsV RL 105 RX3 yX3_did wsX3_did) := goodIn_app (goodIn_of _ (by decide +kernel)) ggL_law_X3_did
set_option maxRecDepth 20000 in
theorem ggL_law_X4_did : GoodIn wsL_law wsX4_did := goodIn_r _ [549, 77, 53, 267, 268, 269, 5, 270, 211, 80, 81, 82, 384, 385, 386, 387, 52, 388, 389, 390, 391, 383, 60, 251, 252, 253, 254, 196, 197, 198, 255, 256, 257, 258, 48, 247, 248, 249, 250, 358, 359, 360, 550, 551, 552, 553, 246, 58, 59, 403, 404, 405, 406, 656, 657, 658, 659, 660, 661, 662, 663, 664, 665, 666, 667, 668, 669, 670, 671, 672, 673, 674, 675, 676, 677, 678, 679, 680, 681, 682, 683, 684] (by decide +kernel) (by decide +kernel)
set_option maxRecDepth 20000 in
theorem gL_law_X4_did : GoodIn wsL_law (wsV RL 108 RX4 yX4_did wsX4_did) := goodIn_app (goodIn_of _ (by decide +kernel)) ggL_law_X4_did
set_option maxRecDepth 20000 in
theorem ggL_law_X3_rests : GoodIn wsL_law wsX3_rests := goodIn_r _ [557, 20, 143, 19, 144, 145, 101, 275, 221, 2, 222, 558, 559, 560, 561, 21, 29, 30, 204, 205, 206, 102, 103, 104, 105, 106, 107, 562, 563, 564, 565, 566, 567, 323, 153, 154, 472, 473, 474, 475, 396, 397, 398, 347, 218, 219, 220, 223, 224, 225, 226, 227, 228, 229, 230, 231, 232, 233, 234, 235, 236, 237, 238, 127, 128, 348, 349, 282, 283, 568, 569, 570, 571, 572, 573, 574, 645, 646, 647, 648, 649, 650, 651, 652, 653, 654, 655, 687, 688, 689, 690, 691, 692, 693] (by decide +kernel) (by decide +kernel)
set_option maxRecDepth 20000 in
theorem gL_law_X3_rests : GoodIn wsL_law (wsV RL 109 RX3 yX3_rests wsX3_rests) := goodIn_app (goodIn_of _ (by decide +kernel)) ggL_law_X3_rests
set_option maxRecDepth 20000 in
theorem ggL_law_X4_rests : GoodIn wsL_law wsX4_rests := goodIn_r _ [578, 77, 52, 579, 580, 267, 268, 269, 5, 270, 211, 80, 81, 82, 196, 197, 198, 581, 582, 583, 584, 585, 586, 587, 588, 53, 62, 384, 385, 386, 387, 388, 389, 390, 391, 383, 60, 251, 252, 253, 254, 255, 256, 257, 258, 48, 247, 248, 249, 250, 358, 359, 360, 589, 590, 591, 403, 404, 405, 406, 592, 593, 594, 595, 656, 657, 658, 659, 660, 661, 662, 663, 664, 665, 666, 667, 668, 669, 670, 671, 672, 673, 674, 675, 676, 677, 678, 679, 680, 681, 682, 683, 684] (by decide +kernel) (by decide +kernel)
set_option maxRecDepth 20000 in
theorem gL_law_X4_rests : GoodIn wsL_law (wsV RL 113 RX4 yX4_rests wsX4_rests) := goodIn_app (goodIn_of _ (by decide +kernel)) ggL_law_X4_rests
set_option maxRecDepth 20000 in
theorem ggL_law_X3_toss : GoodIn wsL_law wsX3_toss := goodIn_r _ [599, 20, 143, 19, 144, 145, 101, 422, 423, 424, 425, 411, 412, 413, 347, 218, 219, 220, 221, 2, 222, 223, 224, 225, 226, 227, 228, 229, 230, 102, 231, 232, 233, 234, 103, 235, 236, 237, 238, 104, 127, 128, 488, 489, 490, 491, 492, 493, 494, 495, 496, 497, 645, 646, 647, 648, 649, 650, 651, 652, 653, 654, 655, 687, 688, 689, 690, 691, 692, 693] (by decide +kernel) (by decide +kernel)
set_option maxRecDepth 20000 in
theorem gL_law_X3_toss : GoodIn wsL_law (wsV RL 114 RX3 yX3_toss wsX3_toss) := goodIn_app (goodIn_of _ (by decide +kernel)) ggL_law_X3_toss
set_option maxRecDepth 20000 in
theorem ggL_law_X4_toss : GoodIn wsL_law wsX4_toss := goodIn_r _ [603, 77, 604, 64, 52, 53, 211, 267, 268, 269, 5, 270, 80, 81, 82, 384, 385, 386, 387, 251, 252, 253, 254, 196, 197, 198, 255, 256, 257, 258, 48, 247, 248, 249, 250, 293, 294, 295, 512, 513, 514, 515, 516, 517, 656, 657, 658, 659, 660, 661, 662, 663, 664, 665, 666, 667, 668, 669, 670, 671, 672, 673, 674, 675, 676, 677, 678, 679, 680, 681, 682, 683, 684] (by decide +kernel) (by decide +kernel)
set_option maxRecDepth 20000 in
theorem gL_law_X4_toss : GoodIn wsL_law (wsV RL 117 RX4 yX4_toss wsX4_toss) := goodIn_app (goodIn_of _ (by decide +kernel)) ggL_law_X4_toss
set_option maxRecDepth 20000 in
theorem ggL_law_X3_seed : GoodIn wsL_law wsX3_seed := goodIn_r _ [608, 609, 645, 646, 647, 648, 649, 650, 651, 652, 653, 654, 655] (by decide +kernel) (by decide +kernel)
set_option maxRecDepth 20000 in
theorem gL_law_X3_seed : GoodIn wsL_law (wsV RL 120 RX3 yX3_seed wsX3_seed) := goodIn_app (goodIn_of _ (by decide +kernel)) ggL_law_X3_seed
set_option maxRecDepth 20000 in
theorem ggL_law_X4_seed : GoodIn wsL_law wsX4_seed := goodIn_r _ [613, 77, 614, 656, 657, 658, 659, 660, 661, 662, 663, 664, 665, 666, 667, 668, 669, 670, 671, 672, 673, 674, 675, 676, 677, 678, 679, 680, 681, 682, 683, 684] (by decide +kernel) (by decide +kernel)
set_option maxRecDepth 20000 in
theorem gL_law_X4_seed : GoodIn wsL_law (wsV RL 124 RX4 yX4_seed wsX4_seed) := goodIn_app (goodIn_of _ (by decide +kernel)) ggL_law_X4_seed
set_option maxRecDepth 20000 in
theorem ggL_law_X3_days : GoodIn wsL_law wsX3_days := goodIn_r _ [618, 21, 20, 609, 619, 620, 204, 19, 205, 206, 101, 102, 103, 104, 105, 106, 107, 344, 345, 346, 347, 218, 219, 220, 221, 2, 222, 223, 224, 225, 226, 227, 228, 229, 230, 231, 232, 233, 234, 235, 236, 237, 238, 127, 128, 348, 349, 275, 282, 283, 143, 144, 145, 309, 310, 311, 645, 646, 647, 648, 649, 650, 651, 652, 653, 654, 655, 687, 688, 689, 690, 691, 692, 693] (by decide +kernel) (by decide +kernel)
set_option maxRecDepth 20000 in
theorem gL_law_X3_days : GoodIn wsL_law (wsV RL 125 RX3 yX3_days wsX3_days) := goodIn_app (goodIn_of _ (by decide +kernel)) ggL_law_X3_days
set_option maxRecDepth 20000 in
theorem ggL_law_X4_days : GoodIn wsL_law wsX4_days := goodIn_r _ [624, 77, 625, 614, 626, 627, 628, 53, 80, 81, 5, 82, 384, 385, 386, 387, 52, 354, 355, 356, 357, 251, 252, 253, 254, 211, 196, 197, 198, 255, 256, 257, 258, 48, 247, 248, 249, 250, 358, 359, 360, 267, 268, 269, 270, 316, 317, 318, 656, 657, 658, 659, 660, 661, 662, 663, 664, 665, 666, 667, 668, 669, 670, 671, 672, 673, 674, 675, 676, 677, 678, 679, 680, 681, 682, 683, 684] (by decide +kernel) (by decide +kernel)
set_option maxRecDepth 20000 in
theorem gL_law_X4_days : GoodIn wsL_law (wsV RL 128 RX4 yX4_days wsX4_days) := goodIn_app (goodIn_of _ (by decide +kernel)) ggL_law_X4_days
set_option maxRecDepth 20000 in
theorem ggL_law_X3_keep : GoodIn wsL_law wsX3_keep := goodIn_r _ [632, 26, 20, 203, 204, 19, 205, 206, 101, 102, 103, 104, 105, 106, 107, 300, 127, 2, 128, 645, 646, 647, 648, 649, 650, 651, 652, 653, 654, 655, 687, 688, 689, 690, 691, 692, 693] (by decide +kernel) (by decide +kernel)
set_option maxRecDepth 20000 in
theorem gL_law_X3_keep : GoodIn wsL_law (wsV RL 129 RX3 yX3_keep wsX3_keep) := goodIn_app (goodIn_of _ (by decide +kernel)) ggL_law_X3_keep
set_option maxRecDepth 20000 in
theorem ggL_law_X4_keep : GoodIn wsL_law wsX4_keep := goodIn_r _ [636, 77, 57, 55, 52, 80, 81, 5, 82, 656, 657, 658, 659, 660, 661, 662, 663, 664, 665, 666, 667, 668, 669, 670, 671, 672, 673, 674, 675, 676, 677, 678, 679, 680, 681, 682, 683, 684] (by decide +kernel) (by decide +kernel)
set_option maxRecDepth 20000 in
theorem gL_law_X4_keep : GoodIn wsL_law (wsV RL 132 RX4 yX4_keep wsX4_keep) := goodIn_app (goodIn_of _ (by decide +kernel)) ggL_law_X4_keep
set_option maxRecDepth 20000 in
theorem ggL_law_X3_again : GoodIn wsL_law wsX3_again := goodIn_r _ [640, 203, 20, 26, 25, 275, 221, 2, 222, 204, 19, 205, 206, 101, 102, 103, 104, 105, 106, 107, 645, 646, 647, 648, 649, 650, 651, 652, 653, 654, 655, 694, 695, 696, 687, 688, 689, 690, 691, 692, 693] (by decide +kernel) (by decide +kernel)
set_option maxRecDepth 20000 in
theorem gL_law_X3_again : GoodIn wsL_law (wsV RL 133 RX3 yX3_again wsX3_again) := goodIn_app (goodIn_of _ (by decide +kernel)) ggL_law_X3_again
set_option maxRecDepth 20000 in
theorem ggL_law_X4_again : GoodIn wsL_law wsX4_again := goodIn_r _ [644, 77, 57, 52, 55, 212, 80, 81, 5, 82, 656, 657, 658, 659, 660, 661, 662, 663, 664, 665, 666, 667, 668, 669, 670, 671, 672, 673, 674, 675, 676, 677, 678, 679, 680, 681, 682, 683, 684] (by decide +kernel) (by decide +kernel)
set_option maxRecDepth 20000 in
theorem gL_law_X4_again : GoodIn wsL_law (wsV RL 136 RX4 yX4_again wsX4_again) := goodIn_app (goodIn_of _ (by decide +kernel)) ggL_law_X4_again
