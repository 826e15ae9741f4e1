set_option maxRecDepth 20000 in
theorem kKL_15 : Cond.constant RL 15 (-2000000003) ∈ hm_tbl := (hm_in 206 (by decide +kernel) (by decide +kernel))
set_option maxRecDepth 20000 in
theorem kKL_127 : Cond.constant RL 127 15525739 ∈ hm_tbl := (hm_in 210 (by decide +kernel) (by decide +kernel))
set_option maxRecDepth 20000 in
theorem kKL_128 : Cond.constant RL 128 2147483647 ∈ hm_tbl := (hm_in 211 (by decide +kernel) (by decide +kernel))
set_option maxRecDepth 20000 in
theorem kKL_22 : Cond.constant RL 22 (-2000000001) ∈ hm_tbl := (hm_in 333 (by decide +kernel) (by decide +kernel))
set_option maxRecDepth 20000 in
theorem kKL_25 : Cond.constant RL 25 (-2000000002) ∈ hm_tbl := (hm_in 334 (by decide +kernel) (by decide +kernel))
set_option maxRecDepth 20000 in
theorem kKJ6_265 : Cond.constant RJ6 265 1431655765 ∈ hm_tbl := (hm_in 500 (by decide +kernel) (by decide +kernel))
set_option maxRecDepth 20000 in
theorem kKJ6_266 : Cond.constant RJ6 266 858993459 ∈ hm_tbl := (hm_in 501 (by decide +kernel) (by decide +kernel))
set_option maxRecDepth 20000 in
theorem kKJ6_267 : Cond.constant RJ6 267 252645135 ∈ hm_tbl := (hm_in 502 (by decide +kernel) (by decide +kernel))
set_option maxRecDepth 20000 in
theorem kKL_230 : Cond.constant RL 230 269509 ∈ hm_tbl := (hm_in 896 (by decide +kernel) (by decide +kernel))
set_option maxRecDepth 20000 in
theorem kNL_8 : hm_lN RL 8 5 7 tyX5 := ⟨RX5, TX5, rfl, hF_in5, tyX5_ok, (hm_in 37 (by decide +kernel) (by decide +kernel)), (hm_in 38 (by decide +kernel) (by decide +kernel)), (hm_in 23 (by decide +kernel) (by decide +kernel))⟩
set_option maxRecDepth 20000 in
theorem kRL_8 : Cond.classLink RL 8 RX5 ∈ hm_tbl := (hm_in 37 (by decide +kernel) (by decide +kernel))
set_option maxRecDepth 20000 in
theorem kN5_9 : hm_lN RX5 9 3 5 tyX3 := ⟨RX3, TX3, rfl, hF_in3, tyX3_ok, (hm_in 45 (by decide +kernel) (by decide +kernel)), (hm_in 148 (by decide +kernel) (by decide +kernel)), (hm_in 28 (by decide +kernel) (by decide +kernel))⟩
set_option maxRecDepth 20000 in
theorem kR5_9 : Cond.classLink RX5 9 RX3 ∈ hm_tbl := (hm_in 45 (by decide +kernel) (by decide +kernel))
set_option maxRecDepth 20000 in
theorem kN3_9 : hm_lN RX3 9 4 4 tyX4 := ⟨RX4, TX4, rfl, hF_in4, tyX4_ok, (hm_in 153 (by decide +kernel) (by decide +kernel)), (hm_in 157 (by decide +kernel) (by decide +kernel)), (hm_in 29 (by decide +kernel) (by decide +kernel))⟩
set_option maxRecDepth 20000 in
theorem kR3_9 : Cond.classLink RX3 9 RX4 ∈ hm_tbl := (hm_in 153 (by decide +kernel) (by decide +kernel))
set_option maxRecDepth 20000 in
theorem kN3_28 : hm_lN RX3 28 0 8 tyX0 := ⟨RX0, TX0, rfl, hF_in0, tyX0_ok, (hm_in 155 (by decide +kernel) (by decide +kernel)), (hm_in 552 (by decide +kernel) (by decide +kernel)), (hm_in 35 (by decide +kernel) (by decide +kernel))⟩
set_option maxRecDepth 20000 in
theorem kR3_28 : Cond.classLink RX3 28 RX0 ∈ hm_tbl := (hm_in 155 (by decide +kernel) (by decide +kernel))
set_option maxRecDepth 20000 in
theorem kN4_9 : hm_lN RX4 9 1 4 tyX1 := ⟨RX1, TX1, rfl, hF_in1, tyX1_ok, (hm_in 162 (by decide +kernel) (by decide +kernel)), (hm_in 279 (by decide +kernel) (by decide +kernel)), (hm_in 32 (by decide +kernel) (by decide +kernel))⟩
set_option maxRecDepth 20000 in
theorem kR4_9 : Cond.classLink RX4 9 RX1 ∈ hm_tbl := (hm_in 162 (by decide +kernel) (by decide +kernel))
set_option maxRecDepth 20000 in
theorem kN5_64 : hm_lN RX5 64 1 4 tyX1 := ⟨RX1, TX1, rfl, hF_in1, tyX1_ok, (hm_in 278 (by decide +kernel) (by decide +kernel)), (hm_in 279 (by decide +kernel) (by decide +kernel)), (hm_in 32 (by decide +kernel) (by decide +kernel))⟩
set_option maxRecDepth 20000 in
theorem kR5_64 : Cond.classLink RX5 64 RX1 ∈ hm_tbl := (hm_in 278 (by decide +kernel) (by decide +kernel))
set_option maxRecDepth 20000 in
theorem kN5_105 : hm_lN RX5 105 4 4 tyX4 := ⟨RX4, TX4, rfl, hF_in4, tyX4_ok, (hm_in 327 (by decide +kernel) (by decide +kernel)), (hm_in 157 (by decide +kernel) (by decide +kernel)), (hm_in 29 (by decide +kernel) (by decide +kernel))⟩
set_option maxRecDepth 20000 in
theorem kR5_105 : Cond.classLink RX5 105 RX4 ∈ hm_tbl := (hm_in 327 (by decide +kernel) (by decide +kernel))
set_option maxRecDepth 20000 in
theorem kN5_172 : hm_lN RX5 172 0 8 tyX0 := ⟨RX0, TX0, rfl, hF_in0, tyX0_ok, (hm_in 600 (by decide +kernel) (by decide +kernel)), (hm_in 552 (by decide +kernel) (by decide +kernel)), (hm_in 35 (by decide +kernel) (by decide +kernel))⟩
set_option maxRecDepth 20000 in
theorem kR5_172 : Cond.classLink RX5 172 RX0 ∈ hm_tbl := (hm_in 600 (by decide +kernel) (by decide +kernel))
set_option maxRecDepth 20000 in
theorem kN0_9 : hm_lN RX0 9 2 5 tyX2 := ⟨RX2, TX2, rfl, hF_in2, tyX2_ok, (hm_in 605 (by decide +kernel) (by decide +kernel)), (hm_in 607 (by decide +kernel) (by decide +kernel)), (hm_in 36 (by decide +kernel) (by decide +kernel))⟩
set_option maxRecDepth 20000 in
theorem kR0_9 : Cond.classLink RX0 9 RX2 ∈ hm_tbl := (hm_in 605 (by decide +kernel) (by decide +kernel))
set_option maxRecDepth 20000 in
theorem kA_int : Cond.arrayClass .int ∈ hm_tbl := (hm_in 71 (by decide +kernel) (by decide +kernel))
set_option maxRecDepth 20000 in
theorem kA_boolean : Cond.arrayClass .boolean ∈ hm_tbl := (hm_in 184 (by decide +kernel) (by decide +kernel))
set_option maxRecDepth 20000 in
theorem kO5_3 : Cond.methodLink RX5 3 objectInit ∈ hm_tbl := (hm_in 42 (by decide +kernel) (by decide +kernel))
set_option maxRecDepth 20000 in
theorem kO3_3 : Cond.methodLink RX3 3 objectInit ∈ hm_tbl := (hm_in 152 (by decide +kernel) (by decide +kernel))
set_option maxRecDepth 20000 in
theorem kO4_3 : Cond.methodLink RX4 3 objectInit ∈ hm_tbl := (hm_in 161 (by decide +kernel) (by decide +kernel))
set_option maxRecDepth 20000 in
theorem kO1_3 : Cond.methodLink RX1 3 objectInit ∈ hm_tbl := (hm_in 283 (by decide +kernel) (by decide +kernel))
set_option maxRecDepth 20000 in
theorem kO0_3 : Cond.methodLink RX0 3 objectInit ∈ hm_tbl := (hm_in 604 (by decide +kernel) (by decide +kernel))
set_option maxRecDepth 20000 in
theorem kO2_3 : Cond.methodLink RX2 3 objectInit ∈ hm_tbl := (hm_in 611 (by decide +kernel) (by decide +kernel))
set_option maxRecDepth 20000 in
theorem kO_i : Cond.instanceMethod objectInit ∈ hm_tbl := (hm_in 43 (by decide +kernel) (by decide +kernel))
set_option maxRecDepth 20000 in
theorem kO_c : Cond.code objectInit ⟨#[0xb1]⟩ 1 none ∈ hm_tbl := (hm_in 44 (by decide +kernel) (by decide +kernel))
set_option maxRecDepth 20000 in
theorem kT5_37_39_41 : hm_lT RX5 37 39 41 "java/lang/IllegalStateException" "there are 4 sheets" := ⟨by decide +kernel, by decide +kernel, (hm_in 80 (by decide +kernel) (by decide +kernel)), (hm_in 27 (by decide +kernel) (by decide +kernel)), by decide +kernel, (by decide +kernel), (by decide +kernel), (by decide +kernel)⟩
set_option maxRecDepth 20000 in
theorem kT5_37_84_41 : hm_lT RX5 37 84 41 "java/lang/IllegalStateException" "the head has no such task" := ⟨by decide +kernel, by decide +kernel, (hm_in 80 (by decide +kernel) (by decide +kernel)), (hm_in 27 (by decide +kernel) (by decide +kernel)), by decide +kernel, (by decide +kernel), (by decide +kernel), (by decide +kernel)⟩
set_option maxRecDepth 20000 in
theorem kT5_37_98_41 : hm_lT RX5 37 98 41 "java/lang/IllegalStateException" "the version cannot be folded" := ⟨by decide +kernel, by decide +kernel, (hm_in 80 (by decide +kernel) (by decide +kernel)), (hm_in 27 (by decide +kernel) (by decide +kernel)), by decide +kernel, (by decide +kernel), (by decide +kernel), (by decide +kernel)⟩
set_option maxRecDepth 20000 in
theorem kT5_37_120_41 : hm_lT RX5 37 120 41 "java/lang/IllegalStateException" "the quota would be passed" := ⟨by decide +kernel, by decide +kernel, (hm_in 80 (by decide +kernel) (by decide +kernel)), (hm_in 27 (by decide +kernel) (by decide +kernel)), by decide +kernel, (by decide +kernel), (by decide +kernel), (by decide +kernel)⟩
set_option maxRecDepth 20000 in
theorem kT5_37_164_41 : hm_lT RX5 37 164 41 "java/lang/IllegalStateException" "there is an answer" := ⟨by decide +kernel, by decide +kernel, (hm_in 80 (by decide +kernel) (by decide +kernel)), (hm_in 27 (by decide +kernel) (by decide +kernel)), by decide +kernel, (by decide +kernel), (by decide +kernel), (by decide +kernel)⟩
set_option maxRecDepth 20000 in
theorem kT5_37_170_41 : hm_lT RX5 37 170 41 "java/lang/IllegalStateException" "the sheet is closed for the class" := ⟨by decide +kernel, by decide +kernel, (hm_in 80 (by decide +kernel) (by decide +kernel)), (hm_in 27 (by decide +kernel) (by decide +kernel)), by decide +kernel, (by decide +kernel), (by decide +kernel), (by decide +kernel)⟩
set_option maxRecDepth 20000 in
theorem kT5_37_187_41 : hm_lT RX5 37 187 41 "java/lang/IllegalStateException" "the version has no such task" := ⟨by decide +kernel, by decide +kernel, (hm_in 80 (by decide +kernel) (by decide +kernel)), (hm_in 27 (by decide +kernel) (by decide +kernel)), by decide +kernel, (by decide +kernel), (by decide +kernel), (by decide +kernel)⟩
set_option maxRecDepth 20000 in
theorem kT5_37_202_41 : hm_lT RX5 37 202 41 "java/lang/IllegalStateException" "there are 12 words" := ⟨by decide +kernel, by decide +kernel, (hm_in 80 (by decide +kernel) (by decide +kernel)), (hm_in 27 (by decide +kernel) (by decide +kernel)), by decide +kernel, (by decide +kernel), (by decide +kernel), (by decide +kernel)⟩
set_option maxRecDepth 20000 in
theorem kT5_37_291_41 : hm_lT RX5 37 291 41 "java/lang/IllegalStateException" "there is no open answer" := ⟨by decide +kernel, by decide +kernel, (hm_in 80 (by decide +kernel) (by decide +kernel)), (hm_in 27 (by decide +kernel) (by decide +kernel)), by decide +kernel, (by decide +kernel), (by decide +kernel), (by decide +kernel)⟩
set_option maxRecDepth 20000 in
theorem kT5_37_303_41 : hm_lT RX5 37 303 41 "java/lang/IllegalStateException" "there were 16 versions" := ⟨by decide +kernel, by decide +kernel, (hm_in 80 (by decide +kernel) (by decide +kernel)), (hm_in 27 (by decide +kernel) (by decide +kernel)), by decide +kernel, (by decide +kernel), (by decide +kernel), (by decide +kernel)⟩
set_option maxRecDepth 20000 in
theorem kT5_37_309_41 : hm_lT RX5 37 309 41 "java/lang/IllegalStateException" "the version has no such task of this kind" := ⟨by decide +kernel, by decide +kernel, (hm_in 80 (by decide +kernel) (by decide +kernel)), (hm_in 27 (by decide +kernel) (by decide +kernel)), by decide +kernel, (by decide +kernel), (by decide +kernel), (by decide +kernel)⟩
set_option maxRecDepth 20000 in
theorem kT5_249_251_253 : hm_lT RX5 249 251 253 "java/lang/IndexOutOfBoundsException" "there is no such place" := ⟨by decide +kernel, by decide +kernel, (hm_in 231 (by decide +kernel) (by decide +kernel)), (hm_in 30 (by decide +kernel) (by decide +kernel)), by decide +kernel, (by decide +kernel), (by decide +kernel), (by decide +kernel)⟩
set_option maxRecDepth 20000 in
theorem kT5_249_271_253 : hm_lT RX5 249 271 253 "java/lang/IndexOutOfBoundsException" "there is no such class" := ⟨by decide +kernel, by decide +kernel, (hm_in 231 (by decide +kernel) (by decide +kernel)), (hm_in 30 (by decide +kernel) (by decide +kernel)), by decide +kernel, (by decide +kernel), (by decide +kernel), (by decide +kernel)⟩
set_option maxRecDepth 20000 in
theorem kT5_249_273_253 : hm_lT RX5 249 273 253 "java/lang/IndexOutOfBoundsException" "there is no such pupil" := ⟨by decide +kernel, by decide +kernel, (hm_in 231 (by decide +kernel) (by decide +kernel)), (hm_in 30 (by decide +kernel) (by decide +kernel)), by decide +kernel, (by decide +kernel), (by decide +kernel), (by decide +kernel)⟩
set_option maxRecDepth 20000 in
theorem kT5_249_275_253 : hm_lT RX5 249 275 253 "java/lang/IndexOutOfBoundsException" "there is no such task" := ⟨by decide +kernel, by decide +kernel, (hm_in 231 (by decide +kernel) (by decide +kernel)), (hm_in 30 (by decide +kernel) (by decide +kernel)), by decide +kernel, (by decide +kernel), (by decide +kernel), (by decide +kernel)⟩
set_option maxRecDepth 20000 in
theorem kT5_249_287_253 : hm_lT RX5 249 287 253 "java/lang/IndexOutOfBoundsException" "there is no such sheet" := ⟨by decide +kernel, by decide +kernel, (hm_in 231 (by decide +kernel) (by decide +kernel)), (hm_in 30 (by decide +kernel) (by decide +kernel)), by decide +kernel, (by decide +kernel), (by decide +kernel), (by decide +kernel)⟩
set_option maxRecDepth 20000 in
theorem kT5_249_289_253 : hm_lT RX5 249 289 253 "java/lang/IndexOutOfBoundsException" "there is no such version" := ⟨by decide +kernel, by decide +kernel, (hm_in 231 (by decide +kernel) (by decide +kernel)), (hm_in 30 (by decide +kernel) (by decide +kernel)), by decide +kernel, (by decide +kernel), (by decide +kernel), (by decide +kernel)⟩
set_option maxRecDepth 20000 in
theorem kT5_277_279_281 : hm_lT RX5 277 279 281 "java/lang/IllegalArgumentException" "an argument is out of its range" := ⟨by decide +kernel, by decide +kernel, (hm_in 259 (by decide +kernel) (by decide +kernel)), (hm_in 31 (by decide +kernel) (by decide +kernel)), by decide +kernel, (by decide +kernel), (by decide +kernel), (by decide +kernel)⟩
set_option maxRecDepth 20000 in
theorem kT5_277_285_281 : hm_lT RX5 277 285 281 "java/lang/IllegalArgumentException" "the words are no row" := ⟨by decide +kernel, by decide +kernel, (hm_in 259 (by decide +kernel) (by decide +kernel)), (hm_in 31 (by decide +kernel) (by decide +kernel)), by decide +kernel, (by decide +kernel), (by decide +kernel), (by decide +kernel)⟩
