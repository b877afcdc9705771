set_option maxRecDepth 1000000 in
set_option maxHeartbeats 4000000 in
theorem zL_isRight : gZ mL_isRight 3 := ⟨gW_of 1101 rfl (by decide +kernel), wd_44, by decide +kernel, by decide +kernel, by decide +kernel⟩
set_option maxRecDepth 1000000 in
set_option maxHeartbeats 4000000 in
theorem zL_seen : gZ mL_seen 2 := ⟨gW_of 1245 rfl (by decide +kernel), wd_44, by decide +kernel, by decide +kernel, by decide +kernel⟩
