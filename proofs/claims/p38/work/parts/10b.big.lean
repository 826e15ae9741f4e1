set_option maxRecDepth 100000 in
theorem kCL_240 : hm_lS RL 240 yL_refuses cL_refuses 15 (some .boolean) 4 := ⟨(hm_in 212 (by decide +kernel) (by decide +kernel)), (hm_in 213 (by decide +kernel) (by decide +kernel)), (hm_in 22 (by decide +kernel) (by decide +kernel)), (hm_in 214 (by rfl) (by decide +kernel)), ⟨by decide +kernel, by decide +kernel, by decide +kernel⟩⟩
set_option maxRecDepth 100000 in
theorem kCL_236 : hm_lS RL 236 yL_act cL_act 9 (some .int) 3 := ⟨(hm_in 878 (by decide +kernel) (by decide +kernel)), (hm_in 879 (by decide +kernel) (by decide +kernel)), (hm_in 22 (by decide +kernel) (by decide +kernel)), (hm_in 880 (by rfl) (by decide +kernel)), ⟨by decide +kernel, by decide +kernel, by decide +kernel⟩⟩
set_option maxRecDepth 100000 in
theorem kCL_244 : hm_lS RL 244 yL_alike cL_alike 7 (some .boolean) 4 := ⟨(hm_in 884 (by decide +kernel) (by decide +kernel)), (hm_in 885 (by decide +kernel) (by decide +kernel)), (hm_in 22 (by decide +kernel) (by decide +kernel)), (hm_in 886 (by rfl) (by decide +kernel)), ⟨by decide +kernel, by decide +kernel, by decide +kernel⟩⟩
set_option maxRecDepth 100000 in
theorem kCL_248 : hm_lS RL 248 yL_holds cL_holds 12 (some .boolean) 4 := ⟨(hm_in 887 (by decide +kernel) (by decide +kernel)), (hm_in 888 (by decide +kernel) (by decide +kernel)), (hm_in 22 (by decide +kernel) (by decide +kernel)), (hm_in 889 (by rfl) (by decide +kernel)), ⟨by decide +kernel, by decide +kernel, by decide +kernel⟩⟩
set_option maxRecDepth 100000 in
theorem kCL_251 : hm_lS RL 251 yL_ends cL_ends 15 (some .boolean) 3 := ⟨(hm_in 890 (by decide +kernel) (by decide +kernel)), (hm_in 891 (by decide +kernel) (by decide +kernel)), (hm_in 22 (by decide +kernel) (by decide +kernel)), (hm_in 892 (by rfl) (by decide +kernel)), ⟨by decide +kernel, by decide +kernel, by decide +kernel⟩⟩
set_option maxRecDepth 100000 in
theorem kCL_255 : hm_lS RL 255 yL_twins cL_twins 7 (some .boolean) 3 := ⟨(hm_in 893 (by decide +kernel) (by decide +kernel)), (hm_in 894 (by decide +kernel) (by decide +kernel)), (hm_in 22 (by decide +kernel) (by decide +kernel)), (hm_in 895 (by rfl) (by decide +kernel)), ⟨by decide +kernel, by decide +kernel, by decide +kernel⟩⟩
