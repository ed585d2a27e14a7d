set_option maxRecDepth 100000 in
set_option maxHeartbeats 4000000 in
theorem i_X7_grown : zIn M_X7_grown 1 := ⟨zT_in 581 rfl (by decide +kernel), zT_in 27 (by decide +kernel) (by decide +kernel), ⟨by decide, by decide⟩, by decide +kernel, by decide⟩
set_option maxRecDepth 100000 in
set_option maxHeartbeats 4000000 in
theorem i_L_acts : zIn M_L_acts 4 := ⟨zT_in 1018 rfl (by decide +kernel), zT_in 26 (by decide +kernel) (by decide +kernel), ⟨by decide, by decide⟩, by decide +kernel, by decide⟩
set_option maxRecDepth 100000 in
set_option maxHeartbeats 4000000 in
theorem i_L_holds : zIn M_L_holds 3 := ⟨zT_in 1277 rfl (by decide +kernel), zT_in 26 (by decide +kernel) (by decide +kernel), ⟨by decide, by decide⟩, by decide +kernel, by decide⟩
set_option maxRecDepth 100000 in
set_option maxHeartbeats 4000000 in
theorem i_L_alike : zIn M_L_alike 2 := ⟨zT_in 1479 rfl (by decide +kernel), zT_in 26 (by decide +kernel) (by decide +kernel), ⟨by decide, by decide⟩, by decide +kernel, by decide⟩
