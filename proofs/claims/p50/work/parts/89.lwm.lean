abbrev M_X7_grown : zM := (yX7_grown, cX7_grown, 7, (some (FieldType.object "BambooBlindLaw$World")), 9, [])
set_option maxRecDepth 100000 in
set_option maxHeartbeats 4000000 in
theorem i_X7_grown : zIn M_X7_grown 1 := ⟨zT_in 581 rfl (by decide +kernel), zT_in 27 (by decide +kernel) (by decide +kernel), ⟨by decide, by decide⟩, by decide +kernel, by decide⟩
theorem s_X7_grown : Cond.static yX7_grown ∈ zT := zT_in 580 (by decide +kernel) (by decide +kernel)
abbrev M_X7_init : zM := (yX7_init, cX7_init, 1, none, 5, [])
theorem i_X7_init : zIn M_X7_init 0 := ⟨zT_in 586 (by decide +kernel) (by decide +kernel), zT_in 27 (by decide +kernel) (by decide +kernel), ⟨by decide, by decide⟩, by decide +kernel, by decide⟩
theorem n_X7_init : Cond.instanceMethod yX7_init ∈ zT := zT_in 585 (by decide +kernel) (by decide +kernel)
abbrev M_L_pick : zM := (yL_pick, cL_pick, 3, (some FieldType.int), 2, [])
theorem i_L_pick : zIn M_L_pick 3 := ⟨zT_in 677 (by decide +kernel) (by decide +kernel), zT_in 26 (by decide +kernel) (by decide +kernel), ⟨by decide, by decide⟩, by decide +kernel, by decide⟩
theorem s_L_pick : Cond.static yL_pick ∈ zT := zT_in 676 (by decide +kernel) (by decide +kernel)
abbrev M_L_cell : zM := (yL_cell, cL_cell, 2, (some FieldType.int), 1, [])
theorem i_L_cell : zIn M_L_cell 2 := ⟨zT_in 680 (by decide +kernel) (by decide +kernel), zT_in 26 (by decide +kernel) (by decide +kernel), ⟨by decide, by decide⟩, by decide +kernel, by decide⟩
theorem s_L_cell : Cond.static yL_cell ∈ zT := zT_in 679 (by decide +kernel) (by decide +kernel)
abbrev M_L_told : zM := (yL_told, cL_told, 1, (some (FieldType.object "java/lang/String")), 8, [])
theorem i_L_told : zIn M_L_told 1 := ⟨zT_in 882 (by decide +kernel) (by decide +kernel), zT_in 26 (by decide +kernel) (by decide +kernel), ⟨by decide, by decide⟩, by decide +kernel, by decide⟩
theorem s_L_told : Cond.static yL_told ∈ zT := zT_in 881 (by decide +kernel) (by decide +kernel)
abbrev M_X7_columns : zM := (yX7_columns, cX7_columns, 1, (some FieldType.int), 5, [])
theorem i_X7_columns : zIn M_X7_columns 0 := ⟨zT_in 958 (by decide +kernel) (by decide +kernel), zT_in 27 (by decide +kernel) (by decide +kernel), ⟨by decide, by decide⟩, by decide +kernel, by decide⟩
theorem n_X7_columns : Cond.instanceMethod yX7_columns ∈ zT := zT_in 956 (by decide +kernel) (by decide +kernel)
theorem v_X7_columns : Cond.selects RX7 yX7_columns yX7_columns ∈ zT := zT_in 957 (by decide +kernel) (by decide +kernel)
abbrev M_X7_first : zM := (yX7_first, cX7_first, 4, (some FieldType.int), 4, [])
theorem i_X7_first : zIn M_X7_first 1 := ⟨zT_in 971 (by decide +kernel) (by decide +kernel), zT_in 27 (by decide +kernel) (by decide +kernel), ⟨by decide, by decide⟩, by decide +kernel, by decide⟩
theorem n_X7_first : Cond.instanceMethod yX7_first ∈ zT := zT_in 969 (by decide +kernel) (by decide +kernel)
theorem v_X7_first : Cond.selects RX7 yX7_first yX7_first ∈ zT := zT_in 970 (by decide +kernel) (by decide +kernel)
abbrev M_X7_picture : zM := (yX7_picture, cX7_picture, 6, (some FieldType.int), 4, [])
theorem i_X7_picture : zIn M_X7_picture 3 := ⟨zT_in 975 (by decide +kernel) (by decide +kernel), zT_in 27 (by decide +kernel) (by decide +kernel), ⟨by decide, by decide⟩, by decide +kernel, by decide⟩
theorem n_X7_picture : Cond.instanceMethod yX7_picture ∈ zT := zT_in 973 (by decide +kernel) (by decide +kernel)
theorem v_X7_picture : Cond.selects RX7 yX7_picture yX7_picture ∈ zT := zT_in 974 (by decide +kernel) (by decide +kernel)
abbrev M_L_feeds : zM := (yL_feeds, cL_feeds, 6, (some FieldType.boolean), 8, [])
theorem i_L_feeds : zIn M_L_feeds 2 := ⟨zT_in 980 (by decide +kernel) (by decide +kernel), zT_in 26 (by decide +kernel) (by decide +kernel), ⟨by decide, by decide⟩, by decide +kernel, by decide⟩
theorem s_L_feeds : Cond.static yL_feeds ∈ zT := zT_in 979 (by decide +kernel) (by decide +kernel)
abbrev M_L_acts : zM := (yL_acts, cL_acts, 16, (some FieldType.boolean), 9, [])
set_option maxRecDepth 100000 in
set_option maxHeartbeats 4000000 in
theorem i_L_acts : zIn M_L_acts 4 := ⟨zT_in 1018 rfl (by decide +kernel), zT_in 26 (by decide +kernel) (by decide +kernel), ⟨by decide, by decide⟩, by decide +kernel, by decide⟩
theorem s_L_acts : Cond.static yL_acts ∈ zT := zT_in 1017 (by decide +kernel) (by decide +kernel)
abbrev M_X7_pull : zM := (yX7_pull, cX7_pull, 6, (some FieldType.int), 4, [])
theorem i_X7_pull : zIn M_X7_pull 1 := ⟨zT_in 1071 (by decide +kernel) (by decide +kernel), zT_in 27 (by decide +kernel) (by decide +kernel), ⟨by decide, by decide⟩, by decide +kernel, by decide⟩
theorem n_X7_pull : Cond.instanceMethod yX7_pull ∈ zT := zT_in 1069 (by decide +kernel) (by decide +kernel)
theorem v_X7_pull : Cond.selects RX7 yX7_pull yX7_pull ∈ zT := zT_in 1070 (by decide +kernel) (by decide +kernel)
abbrev M_X7_unlike : zM := (yX7_unlike, cX7_unlike, 6, (some FieldType.int), 5, [])
theorem i_X7_unlike : zIn M_X7_unlike 2 := ⟨zT_in 1168 (by decide +kernel) (by decide +kernel), zT_in 27 (by decide +kernel) (by decide +kernel), ⟨by decide, by decide⟩, by decide +kernel, by decide⟩
theorem n_X7_unlike : Cond.instanceMethod yX7_unlike ∈ zT := zT_in 1166 (by decide +kernel) (by decide +kernel)
theorem v_X7_unlike : Cond.selects RX7 yX7_unlike yX7_unlike ∈ zT := zT_in 1167 (by decide +kernel) (by decide +kernel)
abbrev M_L_holds : zM := (yL_holds, cL_holds, 13, (some FieldType.boolean), 9, [])
set_option maxRecDepth 100000 in
set_option maxHeartbeats 4000000 in
theorem i_L_holds : zIn M_L_holds 3 := ⟨zT_in 1277 rfl (by decide +kernel), zT_in 26 (by decide +kernel) (by decide +kernel), ⟨by decide, by decide⟩, by decide +kernel, by decide⟩
theorem s_L_holds : Cond.static yL_holds ∈ zT := zT_in 1276 (by decide +kernel) (by decide +kernel)
abbrev M_L_comes : zM := (yL_comes, cL_comes, 9, (some FieldType.boolean), 10, [])
theorem i_L_comes : zIn M_L_comes 4 := ⟨zT_in 1446 (by decide +kernel) (by decide +kernel), zT_in 26 (by decide +kernel) (by decide +kernel), ⟨by decide, by decide⟩, by decide +kernel, by decide⟩
theorem s_L_comes : Cond.static yL_comes ∈ zT := zT_in 1445 (by decide +kernel) (by decide +kernel)
abbrev M_L_alike : zM := (yL_alike, cL_alike, 11, (some FieldType.boolean), 9, [])
set_option maxRecDepth 100000 in
set_option maxHeartbeats 4000000 in
theorem i_L_alike : zIn M_L_alike 2 := ⟨zT_in 1479 rfl (by decide +kernel), zT_in 26 (by decide +kernel) (by decide +kernel), ⟨by decide, by decide⟩, by decide +kernel, by decide⟩
theorem s_L_alike : Cond.static yL_alike ∈ zT := zT_in 1478 (by decide +kernel) (by decide +kernel)
abbrev M_X7_seam : zM := (yX7_seam, cX7_seam, 2, (some FieldType.int), 4, [])
theorem i_X7_seam : zIn M_X7_seam 1 := ⟨zT_in 1489 (by decide +kernel) (by decide +kernel), zT_in 27 (by decide +kernel) (by decide +kernel), ⟨by decide, by decide⟩, by decide +kernel, by decide⟩
theorem n_X7_seam : Cond.instanceMethod yX7_seam ∈ zT := zT_in 1487 (by decide +kernel) (by decide +kernel)
theorem v_X7_seam : Cond.selects RX7 yX7_seam yX7_seam ∈ zT := zT_in 1488 (by decide +kernel) (by decide +kernel)
