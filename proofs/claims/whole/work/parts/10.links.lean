set_option maxRecDepth 20000 in
theorem hF_in0 : ∀ w ∈ u_ws RX0 TX0 8, w ∈ hm_tbl := fun w h => List.mem_filter.mpr ⟨inX0 w h, (show ∀ w ∈ u_ws RX0 TX0 8, goodWord w = true by decide +kernel) w h⟩
set_option maxRecDepth 20000 in
theorem hF_in1 : ∀ w ∈ u_ws RX1 TX1 4, w ∈ hm_tbl := fun w h => List.mem_filter.mpr ⟨inX1 w h, (show ∀ w ∈ u_ws RX1 TX1 4, goodWord w = true by decide +kernel) w h⟩
set_option maxRecDepth 20000 in
theorem hF_in2 : ∀ w ∈ u_ws RX2 TX2 5, w ∈ hm_tbl := fun w h => List.mem_filter.mpr ⟨inX2 w h, (show ∀ w ∈ u_ws RX2 TX2 5, goodWord w = true by decide +kernel) w h⟩
set_option maxRecDepth 20000 in
theorem hF_in3 : ∀ w ∈ u_ws RX3 TX3 5, w ∈ hm_tbl := fun w h => List.mem_filter.mpr ⟨inX3 w h, (show ∀ w ∈ u_ws RX3 TX3 5, goodWord w = true by decide +kernel) w h⟩
set_option maxRecDepth 20000 in
theorem hF_in4 : ∀ w ∈ u_ws RX4 TX4 4, w ∈ hm_tbl := fun w h => List.mem_filter.mpr ⟨inX4 w h, (show ∀ w ∈ u_ws RX4 TX4 4, goodWord w = true by decide +kernel) w h⟩
set_option maxRecDepth 20000 in
theorem hF_in5 : ∀ w ∈ u_ws RX5 TX5 7, w ∈ hm_tbl := fun w h => List.mem_filter.mpr ⟨inX5 w h, (show ∀ w ∈ u_ws RX5 TX5 7, goodWord w = true by decide +kernel) w h⟩
set_option maxRecDepth 20000 in
theorem hF_in6 : ∀ w ∈ u_ws RX6 TX6 27, w ∈ hm_tbl := fun w h => List.mem_filter.mpr ⟨inX6 w h, (show ∀ w ∈ u_ws RX6 TX6 27, goodWord w = true by decide +kernel) w h⟩
set_option maxRecDepth 20000 in
theorem kF5_11 : hm_lF RX5 11 5 0 (tyX5 0) true true := ⟨RX5, TX5, 7, tyX5, rfl, by decide, (hm_in 83 (by decide +kernel) (by decide +kernel)), hF_in5, tyX5_ok, nmX5, rfl, rfl, fun _ => ⟨rfl, rfl⟩⟩
set_option maxRecDepth 20000 in
theorem kF5_15 : hm_lF RX5 15 5 1 (tyX5 1) false false := ⟨RX5, TX5, 7, tyX5, rfl, by decide, (hm_in 84 (by decide +kernel) (by decide +kernel)), hF_in5, tyX5_ok, nmX5, rfl, rfl, fun h => absurd h (by decide)⟩
set_option maxRecDepth 20000 in
theorem kF5_19 : hm_lF RX5 19 5 2 (tyX5 2) true true := ⟨RX5, TX5, 7, tyX5, rfl, by decide, (hm_in 85 (by decide +kernel) (by decide +kernel)), hF_in5, tyX5_ok, nmX5, rfl, rfl, fun _ => ⟨rfl, rfl⟩⟩
set_option maxRecDepth 20000 in
theorem kF5_23 : hm_lF RX5 23 5 3 (tyX5 3) true true := ⟨RX5, TX5, 7, tyX5, rfl, by decide, (hm_in 86 (by decide +kernel) (by decide +kernel)), hF_in5, tyX5_ok, nmX5, rfl, rfl, fun _ => ⟨rfl, rfl⟩⟩
set_option maxRecDepth 20000 in
theorem kF5_26 : hm_lF RX5 26 5 4 (tyX5 4) true true := ⟨RX5, TX5, 7, tyX5, rfl, by decide, (hm_in 87 (by decide +kernel) (by decide +kernel)), hF_in5, tyX5_ok, nmX5, rfl, rfl, fun _ => ⟨rfl, rfl⟩⟩
set_option maxRecDepth 20000 in
theorem kF5_31 : hm_lF RX5 31 5 5 (tyX5 5) true true := ⟨RX5, TX5, 7, tyX5, rfl, by decide, (hm_in 88 (by decide +kernel) (by decide +kernel)), hF_in5, tyX5_ok, nmX5, rfl, rfl, fun _ => ⟨rfl, rfl⟩⟩
set_option maxRecDepth 20000 in
theorem kF5_34 : hm_lF RX5 34 5 6 (tyX5 6) true true := ⟨RX5, TX5, 7, tyX5, rfl, by decide, (hm_in 89 (by decide +kernel) (by decide +kernel)), hF_in5, tyX5_ok, nmX5, rfl, rfl, fun _ => ⟨rfl, rfl⟩⟩
set_option maxRecDepth 20000 in
theorem kF4_17 : hm_lF RX4 17 4 0 (tyX4 0) true true := ⟨RX4, TX4, 4, tyX4, rfl, by decide, (hm_in 202 (by decide +kernel) (by decide +kernel)), hF_in4, tyX4_ok, nmX4, rfl, rfl, fun _ => ⟨rfl, rfl⟩⟩
set_option maxRecDepth 20000 in
theorem kF3_37 : hm_lF RX3 37 4 0 (tyX4 0) true false := ⟨RX4, TX4, 4, tyX4, rfl, by decide, (hm_in 203 (by decide +kernel) (by decide +kernel)), hF_in4, tyX4_ok, nmX4, rfl, rfl, fun h => absurd h (by decide)⟩
set_option maxRecDepth 20000 in
theorem kF5_293 : hm_lF RX5 293 4 0 (tyX4 0) true false := ⟨RX4, TX4, 4, tyX4, rfl, by decide, (hm_in 204 (by decide +kernel) (by decide +kernel)), hF_in4, tyX4_ok, nmX4, rfl, rfl, fun h => absurd h (by decide)⟩
set_option maxRecDepth 20000 in
theorem kF4_21 : hm_lF RX4 21 4 1 (tyX4 1) true true := ⟨RX4, TX4, 4, tyX4, rfl, by decide, (hm_in 205 (by decide +kernel) (by decide +kernel)), hF_in4, tyX4_ok, nmX4, rfl, rfl, fun _ => ⟨rfl, rfl⟩⟩
set_option maxRecDepth 20000 in
theorem kF5_113 : hm_lF RX5 113 4 1 (tyX4 1) true false := ⟨RX4, TX4, 4, tyX4, rfl, by decide, (hm_in 206 (by decide +kernel) (by decide +kernel)), hF_in4, tyX4_ok, nmX4, rfl, rfl, fun h => absurd h (by decide)⟩
set_option maxRecDepth 20000 in
theorem kF3_69 : hm_lF RX3 69 4 1 (tyX4 1) true false := ⟨RX4, TX4, 4, tyX4, rfl, by decide, (hm_in 207 (by decide +kernel) (by decide +kernel)), hF_in4, tyX4_ok, nmX4, rfl, rfl, fun h => absurd h (by decide)⟩
set_option maxRecDepth 20000 in
theorem kF4_24 : hm_lF RX4 24 4 2 (tyX4 2) false false := ⟨RX4, TX4, 4, tyX4, rfl, by decide, (hm_in 208 (by decide +kernel) (by decide +kernel)), hF_in4, tyX4_ok, nmX4, rfl, rfl, fun h => absurd h (by decide)⟩
set_option maxRecDepth 20000 in
theorem kF3_55 : hm_lF RX3 55 4 2 (tyX4 2) false false := ⟨RX4, TX4, 4, tyX4, rfl, by decide, (hm_in 209 (by decide +kernel) (by decide +kernel)), hF_in4, tyX4_ok, nmX4, rfl, rfl, fun h => absurd h (by decide)⟩
set_option maxRecDepth 20000 in
theorem kF5_135 : hm_lF RX5 135 4 2 (tyX4 2) false false := ⟨RX4, TX4, 4, tyX4, rfl, by decide, (hm_in 210 (by decide +kernel) (by decide +kernel)), hF_in4, tyX4_ok, nmX4, rfl, rfl, fun h => absurd h (by decide)⟩
set_option maxRecDepth 20000 in
theorem kF4_11 : hm_lF RX4 11 4 3 (tyX4 3) true true := ⟨RX4, TX4, 4, tyX4, rfl, by decide, (hm_in 211 (by decide +kernel) (by decide +kernel)), hF_in4, tyX4_ok, nmX4, rfl, rfl, fun _ => ⟨rfl, rfl⟩⟩
set_option maxRecDepth 20000 in
theorem kF5_296 : hm_lF RX5 296 4 3 (tyX4 3) true false := ⟨RX4, TX4, 4, tyX4, rfl, by decide, (hm_in 212 (by decide +kernel) (by decide +kernel)), hF_in4, tyX4_ok, nmX4, rfl, rfl, fun h => absurd h (by decide)⟩
set_option maxRecDepth 20000 in
theorem kF3_11 : hm_lF RX3 11 3 0 (tyX3 0) true true := ⟨RX3, TX3, 5, tyX3, rfl, by decide, (hm_in 223 (by decide +kernel) (by decide +kernel)), hF_in3, tyX3_ok, nmX3, rfl, rfl, fun _ => ⟨rfl, rfl⟩⟩
set_option maxRecDepth 20000 in
theorem kF5_132 : hm_lF RX5 132 3 0 (tyX3 0) true false := ⟨RX3, TX3, 5, tyX3, rfl, by decide, (hm_in 224 (by decide +kernel) (by decide +kernel)), hF_in3, tyX3_ok, nmX3, rfl, rfl, fun h => absurd h (by decide)⟩
set_option maxRecDepth 20000 in
theorem kF3_17 : hm_lF RX3 17 3 1 (tyX3 1) false false := ⟨RX3, TX3, 5, tyX3, rfl, by decide, (hm_in 225 (by decide +kernel) (by decide +kernel)), hF_in3, tyX3_ok, nmX3, rfl, rfl, fun h => absurd h (by decide)⟩
set_option maxRecDepth 20000 in
theorem kF5_300 : hm_lF RX5 300 3 1 (tyX3 1) false false := ⟨RX3, TX3, 5, tyX3, rfl, by decide, (hm_in 226 (by decide +kernel) (by decide +kernel)), hF_in3, tyX3_ok, nmX3, rfl, rfl, fun h => absurd h (by decide)⟩
set_option maxRecDepth 20000 in
theorem kF3_21 : hm_lF RX3 21 3 2 (tyX3 2) true true := ⟨RX3, TX3, 5, tyX3, rfl, by decide, (hm_in 227 (by decide +kernel) (by decide +kernel)), hF_in3, tyX3_ok, nmX3, rfl, rfl, fun _ => ⟨rfl, rfl⟩⟩
set_option maxRecDepth 20000 in
theorem kF5_76 : hm_lF RX5 76 3 2 (tyX3 2) true false := ⟨RX3, TX3, 5, tyX3, rfl, by decide, (hm_in 228 (by decide +kernel) (by decide +kernel)), hF_in3, tyX3_ok, nmX3, rfl, rfl, fun h => absurd h (by decide)⟩
set_option maxRecDepth 20000 in
theorem kF3_24 : hm_lF RX3 24 3 3 (tyX3 3) true true := ⟨RX3, TX3, 5, tyX3, rfl, by decide, (hm_in 229 (by decide +kernel) (by decide +kernel)), hF_in3, tyX3_ok, nmX3, rfl, rfl, fun _ => ⟨rfl, rfl⟩⟩
set_option maxRecDepth 20000 in
theorem kF5_166 : hm_lF RX5 166 3 3 (tyX3 3) true false := ⟨RX3, TX3, 5, tyX3, rfl, by decide, (hm_in 230 (by decide +kernel) (by decide +kernel)), hF_in3, tyX3_ok, nmX3, rfl, rfl, fun h => absurd h (by decide)⟩
set_option maxRecDepth 20000 in
theorem kF3_30 : hm_lF RX3 30 3 4 (tyX3 4) true true := ⟨RX3, TX3, 5, tyX3, rfl, by decide, (hm_in 231 (by decide +kernel) (by decide +kernel)), hF_in3, tyX3_ok, nmX3, rfl, rfl, fun _ => ⟨rfl, rfl⟩⟩
set_option maxRecDepth 20000 in
theorem kF5_160 : hm_lF RX5 160 3 4 (tyX3 4) true false := ⟨RX3, TX3, 5, tyX3, rfl, by decide, (hm_in 232 (by decide +kernel) (by decide +kernel)), hF_in3, tyX3_ok, nmX3, rfl, rfl, fun h => absurd h (by decide)⟩
set_option maxRecDepth 20000 in
theorem kF1_9 : hm_lF RX1 9 1 0 (tyX1 0) true true := ⟨RX1, TX1, 4, tyX1, rfl, by decide, (hm_in 309 (by decide +kernel) (by decide +kernel)), hF_in1, tyX1_ok, nmX1, rfl, rfl, fun _ => ⟨rfl, rfl⟩⟩
set_option maxRecDepth 20000 in
theorem kF0_55 : hm_lF RX0 55 1 0 (tyX1 0) true false := ⟨RX1, TX1, 4, tyX1, rfl, by decide, (hm_in 310 (by decide +kernel) (by decide +kernel)), hF_in1, tyX1_ok, nmX1, rfl, rfl, fun h => absurd h (by decide)⟩
set_option maxRecDepth 20000 in
theorem kF5_139 : hm_lF RX5 139 1 0 (tyX1 0) true false := ⟨RX1, TX1, 4, tyX1, rfl, by decide, (hm_in 311 (by decide +kernel) (by decide +kernel)), hF_in1, tyX1_ok, nmX1, rfl, rfl, fun h => absurd h (by decide)⟩
set_option maxRecDepth 20000 in
theorem kF1_15 : hm_lF RX1 15 1 1 (tyX1 1) true true := ⟨RX1, TX1, 4, tyX1, rfl, by decide, (hm_in 312 (by decide +kernel) (by decide +kernel)), hF_in1, tyX1_ok, nmX1, rfl, rfl, fun _ => ⟨rfl, rfl⟩⟩
set_option maxRecDepth 20000 in
theorem kF5_146 : hm_lF RX5 146 1 1 (tyX1 1) true false := ⟨RX1, TX1, 4, tyX1, rfl, by decide, (hm_in 313 (by decide +kernel) (by decide +kernel)), hF_in1, tyX1_ok, nmX1, rfl, rfl, fun h => absurd h (by decide)⟩
set_option maxRecDepth 20000 in
theorem kF1_18 : hm_lF RX1 18 1 2 (tyX1 2) false false := ⟨RX1, TX1, 4, tyX1, rfl, by decide, (hm_in 314 (by decide +kernel) (by decide +kernel)), hF_in1, tyX1_ok, nmX1, rfl, rfl, fun h => absurd h (by decide)⟩
set_option maxRecDepth 20000 in
theorem kF0_60 : hm_lF RX0 60 1 2 (tyX1 2) false false := ⟨RX1, TX1, 4, tyX1, rfl, by decide, (hm_in 315 (by decide +kernel) (by decide +kernel)), hF_in1, tyX1_ok, nmX1, rfl, rfl, fun h => absurd h (by decide)⟩
set_option maxRecDepth 20000 in
theorem kF5_314 : hm_lF RX5 314 1 2 (tyX1 2) false false := ⟨RX1, TX1, 4, tyX1, rfl, by decide, (hm_in 316 (by decide +kernel) (by decide +kernel)), hF_in1, tyX1_ok, nmX1, rfl, rfl, fun h => absurd h (by decide)⟩
set_option maxRecDepth 20000 in
theorem kF1_21 : hm_lF RX1 21 1 3 (tyX1 3) false false := ⟨RX1, TX1, 4, tyX1, rfl, by decide, (hm_in 317 (by decide +kernel) (by decide +kernel)), hF_in1, tyX1_ok, nmX1, rfl, rfl, fun h => absurd h (by decide)⟩
set_option maxRecDepth 20000 in
theorem kF5_317 : hm_lF RX5 317 1 3 (tyX1 3) false false := ⟨RX1, TX1, 4, tyX1, rfl, by decide, (hm_in 318 (by decide +kernel) (by decide +kernel)), hF_in1, tyX1_ok, nmX1, rfl, rfl, fun h => absurd h (by decide)⟩
set_option maxRecDepth 20000 in
theorem kF2_9 : hm_lF RX2 9 2 0 (tyX2 0) false false := ⟨RX2, TX2, 5, tyX2, rfl, by decide, (hm_in 635 (by decide +kernel) (by decide +kernel)), hF_in2, tyX2_ok, nmX2, rfl, rfl, fun h => absurd h (by decide)⟩
set_option maxRecDepth 20000 in
theorem kF1_31 : hm_lF RX1 31 2 0 (tyX2 0) false false := ⟨RX2, TX2, 5, tyX2, rfl, by decide, (hm_in 636 (by decide +kernel) (by decide +kernel)), hF_in2, tyX2_ok, nmX2, rfl, rfl, fun h => absurd h (by decide)⟩
set_option maxRecDepth 20000 in
theorem kF2_15 : hm_lF RX2 15 2 1 (tyX2 1) false false := ⟨RX2, TX2, 5, tyX2, rfl, by decide, (hm_in 637 (by decide +kernel) (by decide +kernel)), hF_in2, tyX2_ok, nmX2, rfl, rfl, fun h => absurd h (by decide)⟩
set_option maxRecDepth 20000 in
theorem kF1_37 : hm_lF RX1 37 2 1 (tyX2 1) false false := ⟨RX2, TX2, 5, tyX2, rfl, by decide, (hm_in 638 (by decide +kernel) (by decide +kernel)), hF_in2, tyX2_ok, nmX2, rfl, rfl, fun h => absurd h (by decide)⟩
set_option maxRecDepth 20000 in
theorem kF2_19 : hm_lF RX2 19 2 2 (tyX2 2) false false := ⟨RX2, TX2, 5, tyX2, rfl, by decide, (hm_in 639 (by decide +kernel) (by decide +kernel)), hF_in2, tyX2_ok, nmX2, rfl, rfl, fun h => absurd h (by decide)⟩
set_option maxRecDepth 20000 in
theorem kF1_45 : hm_lF RX1 45 2 2 (tyX2 2) false false := ⟨RX2, TX2, 5, tyX2, rfl, by decide, (hm_in 640 (by decide +kernel) (by decide +kernel)), hF_in2, tyX2_ok, nmX2, rfl, rfl, fun h => absurd h (by decide)⟩
set_option maxRecDepth 20000 in
theorem kF2_22 : hm_lF RX2 22 2 3 (tyX2 3) true true := ⟨RX2, TX2, 5, tyX2, rfl, by decide, (hm_in 641 (by decide +kernel) (by decide +kernel)), hF_in2, tyX2_ok, nmX2, rfl, rfl, fun _ => ⟨rfl, rfl⟩⟩
set_option maxRecDepth 20000 in
theorem kF5_349 : hm_lF RX5 349 2 3 (tyX2 3) true false := ⟨RX2, TX2, 5, tyX2, rfl, by decide, (hm_in 642 (by decide +kernel) (by decide +kernel)), hF_in2, tyX2_ok, nmX2, rfl, rfl, fun h => absurd h (by decide)⟩
set_option maxRecDepth 20000 in
theorem kF2_26 : hm_lF RX2 26 2 4 (tyX2 4) false false := ⟨RX2, TX2, 5, tyX2, rfl, by decide, (hm_in 643 (by decide +kernel) (by decide +kernel)), hF_in2, tyX2_ok, nmX2, rfl, rfl, fun h => absurd h (by decide)⟩
set_option maxRecDepth 20000 in
theorem kF0_67 : hm_lF RX0 67 2 4 (tyX2 4) false false := ⟨RX2, TX2, 5, tyX2, rfl, by decide, (hm_in 644 (by decide +kernel) (by decide +kernel)), hF_in2, tyX2_ok, nmX2, rfl, rfl, fun h => absurd h (by decide)⟩
set_option maxRecDepth 20000 in
theorem kF5_343 : hm_lF RX5 343 2 4 (tyX2 4) false false := ⟨RX2, TX2, 5, tyX2, rfl, by decide, (hm_in 645 (by decide +kernel) (by decide +kernel)), hF_in2, tyX2_ok, nmX2, rfl, rfl, fun h => absurd h (by decide)⟩
set_option maxRecDepth 20000 in
theorem kF0_38 : hm_lF RX0 38 0 0 (tyX0 0) true true := ⟨RX0, TX0, 8, tyX0, rfl, by decide, (hm_in 657 (by decide +kernel) (by decide +kernel)), hF_in0, tyX0_ok, nmX0, rfl, rfl, fun _ => ⟨rfl, rfl⟩⟩
set_option maxRecDepth 20000 in
theorem kF3_51 : hm_lF RX3 51 0 0 (tyX0 0) true false := ⟨RX0, TX0, 8, tyX0, rfl, by decide, (hm_in 658 (by decide +kernel) (by decide +kernel)), hF_in0, tyX0_ok, nmX0, rfl, rfl, fun h => absurd h (by decide)⟩
set_option maxRecDepth 20000 in
theorem kF5_180 : hm_lF RX5 180 0 0 (tyX0 0) true false := ⟨RX0, TX0, 8, tyX0, rfl, by decide, (hm_in 659 (by decide +kernel) (by decide +kernel)), hF_in0, tyX0_ok, nmX0, rfl, rfl, fun h => absurd h (by decide)⟩
set_option maxRecDepth 20000 in
theorem kF0_11 : hm_lF RX0 11 0 1 (tyX0 1) true true := ⟨RX0, TX0, 8, tyX0, rfl, by decide, (hm_in 660 (by decide +kernel) (by decide +kernel)), hF_in0, tyX0_ok, nmX0, rfl, rfl, fun _ => ⟨rfl, rfl⟩⟩
set_option maxRecDepth 20000 in
theorem kF5_183 : hm_lF RX5 183 0 1 (tyX0 1) true false := ⟨RX0, TX0, 8, tyX0, rfl, by decide, (hm_in 661 (by decide +kernel) (by decide +kernel)), hF_in0, tyX0_ok, nmX0, rfl, rfl, fun h => absurd h (by decide)⟩
set_option maxRecDepth 20000 in
theorem kF0_17 : hm_lF RX0 17 0 2 (tyX0 2) false false := ⟨RX0, TX0, 8, tyX0, rfl, by decide, (hm_in 662 (by decide +kernel) (by decide +kernel)), hF_in0, tyX0_ok, nmX0, rfl, rfl, fun h => absurd h (by decide)⟩
set_option maxRecDepth 20000 in
theorem kF5_208 : hm_lF RX5 208 0 2 (tyX0 2) false false := ⟨RX0, TX0, 8, tyX0, rfl, by decide, (hm_in 663 (by decide +kernel) (by decide +kernel)), hF_in0, tyX0_ok, nmX0, rfl, rfl, fun h => absurd h (by decide)⟩
set_option maxRecDepth 20000 in
theorem kF0_21 : hm_lF RX0 21 0 3 (tyX0 3) false false := ⟨RX0, TX0, 8, tyX0, rfl, by decide, (hm_in 664 (by decide +kernel) (by decide +kernel)), hF_in0, tyX0_ok, nmX0, rfl, rfl, fun h => absurd h (by decide)⟩
set_option maxRecDepth 20000 in
theorem kF5_219 : hm_lF RX5 219 0 3 (tyX0 3) false false := ⟨RX0, TX0, 8, tyX0, rfl, by decide, (hm_in 665 (by decide +kernel) (by decide +kernel)), hF_in0, tyX0_ok, nmX0, rfl, rfl, fun h => absurd h (by decide)⟩
set_option maxRecDepth 20000 in
theorem kF0_25 : hm_lF RX0 25 0 4 (tyX0 4) false false := ⟨RX0, TX0, 8, tyX0, rfl, by decide, (hm_in 666 (by decide +kernel) (by decide +kernel)), hF_in0, tyX0_ok, nmX0, rfl, rfl, fun h => absurd h (by decide)⟩
set_option maxRecDepth 20000 in
theorem kF5_216 : hm_lF RX5 216 0 4 (tyX0 4) false false := ⟨RX0, TX0, 8, tyX0, rfl, by decide, (hm_in 667 (by decide +kernel) (by decide +kernel)), hF_in0, tyX0_ok, nmX0, rfl, rfl, fun h => absurd h (by decide)⟩
set_option maxRecDepth 20000 in
theorem kF0_28 : hm_lF RX0 28 0 5 (tyX0 5) false false := ⟨RX0, TX0, 8, tyX0, rfl, by decide, (hm_in 668 (by decide +kernel) (by decide +kernel)), hF_in0, tyX0_ok, nmX0, rfl, rfl, fun h => absurd h (by decide)⟩
set_option maxRecDepth 20000 in
theorem kF5_229 : hm_lF RX5 229 0 5 (tyX0 5) false false := ⟨RX0, TX0, 8, tyX0, rfl, by decide, (hm_in 669 (by decide +kernel) (by decide +kernel)), hF_in0, tyX0_ok, nmX0, rfl, rfl, fun h => absurd h (by decide)⟩
set_option maxRecDepth 20000 in
theorem kF0_31 : hm_lF RX0 31 0 6 (tyX0 6) true true := ⟨RX0, TX0, 8, tyX0, rfl, by decide, (hm_in 670 (by decide +kernel) (by decide +kernel)), hF_in0, tyX0_ok, nmX0, rfl, rfl, fun _ => ⟨rfl, rfl⟩⟩
set_option maxRecDepth 20000 in
theorem kF0_35 : hm_lF RX0 35 0 7 (tyX0 7) false false := ⟨RX0, TX0, 8, tyX0, rfl, by decide, (hm_in 671 (by decide +kernel) (by decide +kernel)), hF_in0, tyX0_ok, nmX0, rfl, rfl, fun h => absurd h (by decide)⟩
set_option maxRecDepth 20000 in
theorem kF3_62 : hm_lF RX3 62 0 7 (tyX0 7) false false := ⟨RX0, TX0, 8, tyX0, rfl, by decide, (hm_in 672 (by decide +kernel) (by decide +kernel)), hF_in0, tyX0_ok, nmX0, rfl, rfl, fun h => absurd h (by decide)⟩
set_option maxRecDepth 20000 in
theorem kF5_232 : hm_lF RX5 232 0 7 (tyX0 7) false false := ⟨RX0, TX0, 8, tyX0, rfl, by decide, (hm_in 673 (by decide +kernel) (by decide +kernel)), hF_in0, tyX0_ok, nmX0, rfl, rfl, fun h => absurd h (by decide)⟩
set_option maxRecDepth 20000 in
theorem kF6_83 : hm_lF RX6 83 6 0 (tyX6 0) false false := ⟨RX6, TX6, 27, tyX6, rfl, by decide, (hm_in 907 (by decide +kernel) (by decide +kernel)), hF_in6, tyX6_ok, nmX6, rfl, rfl, fun h => absurd h (by decide)⟩
set_option maxRecDepth 20000 in
theorem kF6_91 : hm_lF RX6 91 6 1 (tyX6 1) false false := ⟨RX6, TX6, 27, tyX6, rfl, by decide, (hm_in 908 (by decide +kernel) (by decide +kernel)), hF_in6, tyX6_ok, nmX6, rfl, rfl, fun h => absurd h (by decide)⟩
set_option maxRecDepth 20000 in
theorem kF6_7 : hm_lF RX6 7 6 2 (tyX6 2) true true := ⟨RX6, TX6, 27, tyX6, rfl, by decide, (hm_in 909 (by decide +kernel) (by decide +kernel)), hF_in6, tyX6_ok, nmX6, rfl, rfl, fun _ => ⟨rfl, rfl⟩⟩
set_option maxRecDepth 20000 in
theorem kF6_13 : hm_lF RX6 13 6 3 (tyX6 3) true true := ⟨RX6, TX6, 27, tyX6, rfl, by decide, (hm_in 910 (by decide +kernel) (by decide +kernel)), hF_in6, tyX6_ok, nmX6, rfl, rfl, fun _ => ⟨rfl, rfl⟩⟩
set_option maxRecDepth 20000 in
theorem kF6_17 : hm_lF RX6 17 6 4 (tyX6 4) true true := ⟨RX6, TX6, 27, tyX6, rfl, by decide, (hm_in 911 (by decide +kernel) (by decide +kernel)), hF_in6, tyX6_ok, nmX6, rfl, rfl, fun _ => ⟨rfl, rfl⟩⟩
set_option maxRecDepth 20000 in
theorem kF6_20 : hm_lF RX6 20 6 5 (tyX6 5) true true := ⟨RX6, TX6, 27, tyX6, rfl, by decide, (hm_in 912 (by decide +kernel) (by decide +kernel)), hF_in6, tyX6_ok, nmX6, rfl, rfl, fun _ => ⟨rfl, rfl⟩⟩
set_option maxRecDepth 20000 in
theorem kF6_23 : hm_lF RX6 23 6 6 (tyX6 6) true true := ⟨RX6, TX6, 27, tyX6, rfl, by decide, (hm_in 913 (by decide +kernel) (by decide +kernel)), hF_in6, tyX6_ok, nmX6, rfl, rfl, fun _ => ⟨rfl, rfl⟩⟩
set_option maxRecDepth 20000 in
theorem kF6_26 : hm_lF RX6 26 6 7 (tyX6 7) true true := ⟨RX6, TX6, 27, tyX6, rfl, by decide, (hm_in 914 (by decide +kernel) (by decide +kernel)), hF_in6, tyX6_ok, nmX6, rfl, rfl, fun _ => ⟨rfl, rfl⟩⟩
set_option maxRecDepth 20000 in
theorem kF6_29 : hm_lF RX6 29 6 8 (tyX6 8) true true := ⟨RX6, TX6, 27, tyX6, rfl, by decide, (hm_in 915 (by decide +kernel) (by decide +kernel)), hF_in6, tyX6_ok, nmX6, rfl, rfl, fun _ => ⟨rfl, rfl⟩⟩
set_option maxRecDepth 20000 in
theorem kF6_32 : hm_lF RX6 32 6 9 (tyX6 9) true true := ⟨RX6, TX6, 27, tyX6, rfl, by decide, (hm_in 916 (by decide +kernel) (by decide +kernel)), hF_in6, tyX6_ok, nmX6, rfl, rfl, fun _ => ⟨rfl, rfl⟩⟩
set_option maxRecDepth 20000 in
theorem kF6_35 : hm_lF RX6 35 6 10 (tyX6 10) true true := ⟨RX6, TX6, 27, tyX6, rfl, by decide, (hm_in 917 (by decide +kernel) (by decide +kernel)), hF_in6, tyX6_ok, nmX6, rfl, rfl, fun _ => ⟨rfl, rfl⟩⟩
set_option maxRecDepth 20000 in
theorem kF6_38 : hm_lF RX6 38 6 11 (tyX6 11) true true := ⟨RX6, TX6, 27, tyX6, rfl, by decide, (hm_in 918 (by decide +kernel) (by decide +kernel)), hF_in6, tyX6_ok, nmX6, rfl, rfl, fun _ => ⟨rfl, rfl⟩⟩
set_option maxRecDepth 20000 in
theorem kF6_41 : hm_lF RX6 41 6 12 (tyX6 12) true true := ⟨RX6, TX6, 27, tyX6, rfl, by decide, (hm_in 919 (by decide +kernel) (by decide +kernel)), hF_in6, tyX6_ok, nmX6, rfl, rfl, fun _ => ⟨rfl, rfl⟩⟩
set_option maxRecDepth 20000 in
theorem kF6_44 : hm_lF RX6 44 6 13 (tyX6 13) true true := ⟨RX6, TX6, 27, tyX6, rfl, by decide, (hm_in 920 (by decide +kernel) (by decide +kernel)), hF_in6, tyX6_ok, nmX6, rfl, rfl, fun _ => ⟨rfl, rfl⟩⟩
set_option maxRecDepth 20000 in
theorem kF6_47 : hm_lF RX6 47 6 14 (tyX6 14) true true := ⟨RX6, TX6, 27, tyX6, rfl, by decide, (hm_in 921 (by decide +kernel) (by decide +kernel)), hF_in6, tyX6_ok, nmX6, rfl, rfl, fun _ => ⟨rfl, rfl⟩⟩
set_option maxRecDepth 20000 in
theorem kF6_50 : hm_lF RX6 50 6 15 (tyX6 15) true true := ⟨RX6, TX6, 27, tyX6, rfl, by decide, (hm_in 922 (by decide +kernel) (by decide +kernel)), hF_in6, tyX6_ok, nmX6, rfl, rfl, fun _ => ⟨rfl, rfl⟩⟩
set_option maxRecDepth 20000 in
theorem kF6_53 : hm_lF RX6 53 6 16 (tyX6 16) true true := ⟨RX6, TX6, 27, tyX6, rfl, by decide, (hm_in 923 (by decide +kernel) (by decide +kernel)), hF_in6, tyX6_ok, nmX6, rfl, rfl, fun _ => ⟨rfl, rfl⟩⟩
set_option maxRecDepth 20000 in
theorem kF6_56 : hm_lF RX6 56 6 17 (tyX6 17) true true := ⟨RX6, TX6, 27, tyX6, rfl, by decide, (hm_in 924 (by decide +kernel) (by decide +kernel)), hF_in6, tyX6_ok, nmX6, rfl, rfl, fun _ => ⟨rfl, rfl⟩⟩
set_option maxRecDepth 20000 in
theorem kF6_59 : hm_lF RX6 59 6 18 (tyX6 18) true true := ⟨RX6, TX6, 27, tyX6, rfl, by decide, (hm_in 925 (by decide +kernel) (by decide +kernel)), hF_in6, tyX6_ok, nmX6, rfl, rfl, fun _ => ⟨rfl, rfl⟩⟩
set_option maxRecDepth 20000 in
theorem kF6_62 : hm_lF RX6 62 6 19 (tyX6 19) true true := ⟨RX6, TX6, 27, tyX6, rfl, by decide, (hm_in 926 (by decide +kernel) (by decide +kernel)), hF_in6, tyX6_ok, nmX6, rfl, rfl, fun _ => ⟨rfl, rfl⟩⟩
set_option maxRecDepth 20000 in
theorem kF6_65 : hm_lF RX6 65 6 20 (tyX6 20) true true := ⟨RX6, TX6, 27, tyX6, rfl, by decide, (hm_in 927 (by decide +kernel) (by decide +kernel)), hF_in6, tyX6_ok, nmX6, rfl, rfl, fun _ => ⟨rfl, rfl⟩⟩
set_option maxRecDepth 20000 in
theorem kF6_68 : hm_lF RX6 68 6 21 (tyX6 21) true true := ⟨RX6, TX6, 27, tyX6, rfl, by decide, (hm_in 928 (by decide +kernel) (by decide +kernel)), hF_in6, tyX6_ok, nmX6, rfl, rfl, fun _ => ⟨rfl, rfl⟩⟩
set_option maxRecDepth 20000 in
theorem kF6_71 : hm_lF RX6 71 6 22 (tyX6 22) true true := ⟨RX6, TX6, 27, tyX6, rfl, by decide, (hm_in 929 (by decide +kernel) (by decide +kernel)), hF_in6, tyX6_ok, nmX6, rfl, rfl, fun _ => ⟨rfl, rfl⟩⟩
set_option maxRecDepth 20000 in
theorem kF6_74 : hm_lF RX6 74 6 23 (tyX6 23) true true := ⟨RX6, TX6, 27, tyX6, rfl, by decide, (hm_in 930 (by decide +kernel) (by decide +kernel)), hF_in6, tyX6_ok, nmX6, rfl, rfl, fun _ => ⟨rfl, rfl⟩⟩
set_option maxRecDepth 20000 in
theorem kF6_77 : hm_lF RX6 77 6 24 (tyX6 24) true true := ⟨RX6, TX6, 27, tyX6, rfl, by decide, (hm_in 931 (by decide +kernel) (by decide +kernel)), hF_in6, tyX6_ok, nmX6, rfl, rfl, fun _ => ⟨rfl, rfl⟩⟩
set_option maxRecDepth 20000 in
theorem kF6_215 : hm_lF RX6 215 6 25 (tyX6 25) false false := ⟨RX6, TX6, 27, tyX6, rfl, by decide, (hm_in 932 (by decide +kernel) (by decide +kernel)), hF_in6, tyX6_ok, nmX6, rfl, rfl, fun h => absurd h (by decide)⟩
set_option maxRecDepth 20000 in
theorem kF6_80 : hm_lF RX6 80 6 26 (tyX6 26) true true := ⟨RX6, TX6, 27, tyX6, rfl, by decide, (hm_in 933 (by decide +kernel) (by decide +kernel)), hF_in6, tyX6_ok, nmX6, rfl, rfl, fun _ => ⟨rfl, rfl⟩⟩
set_option maxRecDepth 20000 in
theorem kCL_124 : hm_lI RL 124 yX5_init cX5_init 2 0 := ⟨(hm_in 73 (by decide +kernel) (by decide +kernel)), (hm_in 74 (by decide +kernel) (by decide +kernel)), (hm_in 56 (by decide +kernel) (by decide +kernel)), (hm_in 75 (by decide +kernel) (by decide +kernel)), ⟨by decide +kernel, by decide +kernel, by decide +kernel⟩, rfl⟩
set_option maxRecDepth 20000 in
theorem kCL_159 : hm_lV RL 159 yX5_sheets cX5_sheets 1 (some .int) 0 := ⟨(hm_in 106 (by decide +kernel) (by decide +kernel)), (hm_in 107 (by decide +kernel) (by decide +kernel)), (hm_in 108 (by decide +kernel) (by decide +kernel)), (hm_in 56 (by decide +kernel) (by decide +kernel)), (hm_in 109 (by decide +kernel) (by decide +kernel)), ⟨by decide +kernel, by decide +kernel, by decide +kernel⟩⟩
set_option maxRecDepth 20000 in
theorem kCL_7 : hm_lV RL 7 yX5_addSheet cX5_addSheet 2 (some .int) 0 := ⟨(hm_in 114 (by decide +kernel) (by decide +kernel)), (hm_in 115 (by decide +kernel) (by decide +kernel)), (hm_in 116 (by decide +kernel) (by decide +kernel)), (hm_in 56 (by decide +kernel) (by decide +kernel)), (hm_in 117 (by decide +kernel) (by decide +kernel)), ⟨by decide +kernel, by decide +kernel, by decide +kernel⟩⟩
set_option maxRecDepth 20000 in
theorem kC5_44 : hm_lI RX5 44 yX3_init cX3_init 3 0 := ⟨(hm_in 187 (by decide +kernel) (by decide +kernel)), (hm_in 188 (by decide +kernel) (by decide +kernel)), (hm_in 62 (by decide +kernel) (by decide +kernel)), (hm_in 189 (by decide +kernel) (by decide +kernel)), ⟨by decide +kernel, by decide +kernel, by decide +kernel⟩, rfl⟩
set_option maxRecDepth 20000 in
theorem kC3_34 : hm_lI RX3 34 yX4_init cX4_init 4 3 := ⟨(hm_in 196 (by decide +kernel) (by decide +kernel)), (hm_in 197 (by decide +kernel) (by decide +kernel)), (hm_in 63 (by decide +kernel) (by decide +kernel)), (hm_in 198 (by decide +kernel) (by decide +kernel)), ⟨by decide +kernel, by decide +kernel, by decide +kernel⟩, rfl⟩
set_option maxRecDepth 20000 in
theorem kCL_15 : hm_lV RL 15 yX5_setNumber cX5_setNumber 8 (some .int) 6 := ⟨(hm_in 249 (by decide +kernel) (by decide +kernel)), (hm_in 250 (by decide +kernel) (by decide +kernel)), (hm_in 251 (by decide +kernel) (by decide +kernel)), (hm_in 56 (by decide +kernel) (by decide +kernel)), (hm_in 252 (by decide +kernel) (by decide +kernel)), ⟨by decide +kernel, by decide +kernel, by decide +kernel⟩⟩
set_option maxRecDepth 20000 in
theorem kC5_45 : hm_lS RX5 45 yX5_checkClass cX5_checkClass 1 none 1 := ⟨(hm_in 253 (by decide +kernel) (by decide +kernel)), (hm_in 254 (by decide +kernel) (by decide +kernel)), (hm_in 56 (by decide +kernel) (by decide +kernel)), (hm_in 255 (by decide +kernel) (by decide +kernel)), ⟨by decide +kernel, by decide +kernel, by decide +kernel⟩⟩
set_option maxRecDepth 20000 in
theorem kC5_49 : hm_lV RX5 49 yX5_sheetAt cX5_sheetAt 3 (some (.object "SheetVault$Sheet")) 1 := ⟨(hm_in 272 (by decide +kernel) (by decide +kernel)), (hm_in 274 (by decide +kernel) (by decide +kernel)), (hm_in 1 (by decide +kernel) (by decide +kernel)), (hm_in 56 (by decide +kernel) (by decide +kernel)), (hm_in 275 (by decide +kernel) (by decide +kernel)), ⟨by decide +kernel, by decide +kernel, by decide +kernel⟩⟩
set_option maxRecDepth 20000 in
theorem kC5_53 : hm_lS RX5 53 yX5_checkTask cX5_checkTask 1 none 1 := ⟨(hm_in 277 (by decide +kernel) (by decide +kernel)), (hm_in 278 (by decide +kernel) (by decide +kernel)), (hm_in 56 (by decide +kernel) (by decide +kernel)), (hm_in 279 (by decide +kernel) (by decide +kernel)), ⟨by decide +kernel, by decide +kernel, by decide +kernel⟩⟩
set_option maxRecDepth 20000 in
theorem kC5_56 : hm_lS RX5 56 yX5_checkRange cX5_checkRange 3 none 3 := ⟨(hm_in 281 (by decide +kernel) (by decide +kernel)), (hm_in 282 (by decide +kernel) (by decide +kernel)), (hm_in 56 (by decide +kernel) (by decide +kernel)), (hm_in 283 (by decide +kernel) (by decide +kernel)), ⟨by decide +kernel, by decide +kernel, by decide +kernel⟩⟩
set_option maxRecDepth 20000 in
theorem kC5_60 : hm_lS RX5 60 yX5_checkNumberRule cX5_checkNumberRule 2 none 2 := ⟨(hm_in 300 (by decide +kernel) (by decide +kernel)), (hm_in 301 (by decide +kernel) (by decide +kernel)), (hm_in 56 (by decide +kernel) (by decide +kernel)), (hm_in 302 (by decide +kernel) (by decide +kernel)), ⟨by decide +kernel, by decide +kernel, by decide +kernel⟩⟩
set_option maxRecDepth 20000 in
theorem kC5_66 : hm_lI RX5 66 yX1_init cX1_init 5 4 := ⟨(hm_in 305 (by decide +kernel) (by decide +kernel)), (hm_in 306 (by decide +kernel) (by decide +kernel)), (hm_in 66 (by decide +kernel) (by decide +kernel)), (hm_in 307 (by decide +kernel) (by decide +kernel)), ⟨by decide +kernel, by decide +kernel, by decide +kernel⟩, rfl⟩
set_option maxRecDepth 20000 in
theorem kC5_69 : hm_lV RX5 69 yX5_revise cX5_revise 6 (some .int) 4 := ⟨(hm_in 328 (by decide +kernel) (by decide +kernel)), (hm_in 330 (by decide +kernel) (by decide +kernel)), (hm_in 2 (by decide +kernel) (by decide +kernel)), (hm_in 56 (by decide +kernel) (by decide +kernel)), (hm_in 331 (by decide +kernel) (by decide +kernel)), ⟨by decide +kernel, by decide +kernel, by decide +kernel⟩⟩
set_option maxRecDepth 20000 in
theorem kC5_305 : hm_lV RX5 305 yX1_size cX1_size 1 (some .int) 0 := ⟨(hm_in 333 (by decide +kernel) (by decide +kernel)), (hm_in 334 (by decide +kernel) (by decide +kernel)), (hm_in 335 (by decide +kernel) (by decide +kernel)), (hm_in 66 (by decide +kernel) (by decide +kernel)), (hm_in 336 (by decide +kernel) (by decide +kernel)), ⟨by decide +kernel, by decide +kernel, by decide +kernel⟩⟩
set_option maxRecDepth 20000 in
theorem kC1_24 : hm_lV RX1 24 yX1_sizeWith cX1_sizeWith 2 (some .int) 1 := ⟨(hm_in 337 (by decide +kernel) (by decide +kernel)), (hm_in 338 (by decide +kernel) (by decide +kernel)), (hm_in 339 (by decide +kernel) (by decide +kernel)), (hm_in 66 (by decide +kernel) (by decide +kernel)), (hm_in 340 (by decide +kernel) (by decide +kernel)), ⟨by decide +kernel, by decide +kernel, by decide +kernel⟩⟩
set_option maxRecDepth 20000 in
theorem kC1_28 : hm_lSN RX1 "SheetVault" 28 yX5_rowLength cX5_rowLength 3 (some .int) 1 := ⟨by decide +kernel, (hm_in 342 (by decide +kernel) (by decide +kernel)), (hm_in 56 (by decide +kernel) (by decide +kernel)), (hm_in 343 (by decide +kernel) (by decide +kernel)), ⟨by decide +kernel, by decide +kernel, by decide +kernel⟩⟩
set_option maxRecDepth 20000 in
theorem kC5_116 : hm_lV RX5 116 yX5_passesQuota cX5_passesQuota 3 (some .boolean) 2 := ⟨(hm_in 344 (by decide +kernel) (by decide +kernel)), (hm_in 346 (by decide +kernel) (by decide +kernel)), (hm_in 3 (by decide +kernel) (by decide +kernel)), (hm_in 56 (by decide +kernel) (by decide +kernel)), (hm_in 347 (by decide +kernel) (by decide +kernel)), ⟨by decide +kernel, by decide +kernel, by decide +kernel⟩⟩
set_option maxRecDepth 20000 in
theorem kC5_390 : hm_lS RX5 390 yX5_isClass cX5_isClass 1 (some .boolean) 1 := ⟨(hm_in 348 (by decide +kernel) (by decide +kernel)), (hm_in 349 (by decide +kernel) (by decide +kernel)), (hm_in 56 (by decide +kernel) (by decide +kernel)), (hm_in 350 (by decide +kernel) (by decide +kernel)), ⟨by decide +kernel, by decide +kernel, by decide +kernel⟩⟩
set_option maxRecDepth 20000 in
theorem kC5_306 : hm_lI RX5 306 yX4_init cX4_init 4 3 := ⟨(hm_in 353 (by decide +kernel) (by decide +kernel)), (hm_in 197 (by decide +kernel) (by decide +kernel)), (hm_in 63 (by decide +kernel) (by decide +kernel)), (hm_in 198 (by decide +kernel) (by decide +kernel)), ⟨by decide +kernel, by decide +kernel, by decide +kernel⟩, rfl⟩
set_option maxRecDepth 20000 in
theorem kC5_122 : hm_lV RX5 122 yX5_addUse cX5_addUse 3 none 2 := ⟨(hm_in 354 (by decide +kernel) (by decide +kernel)), (hm_in 356 (by decide +kernel) (by decide +kernel)), (hm_in 4 (by decide +kernel) (by decide +kernel)), (hm_in 56 (by decide +kernel) (by decide +kernel)), (hm_in 357 (by decide +kernel) (by decide +kernel)), ⟨by decide +kernel, by decide +kernel, by decide +kernel⟩⟩
set_option maxRecDepth 20000 in
theorem kCL_23 : hm_lV RL 23 yX5_setChoice cX5_setChoice 7 (some .int) 5 := ⟨(hm_in 361 (by decide +kernel) (by decide +kernel)), (hm_in 362 (by decide +kernel) (by decide +kernel)), (hm_in 363 (by decide +kernel) (by decide +kernel)), (hm_in 56 (by decide +kernel) (by decide +kernel)), (hm_in 364 (by decide +kernel) (by decide +kernel)), ⟨by decide +kernel, by decide +kernel, by decide +kernel⟩⟩
set_option maxRecDepth 20000 in
theorem kCL_27 : hm_lV RL 27 yX5_setWords cX5_setWords 7 (some .int) 5 := ⟨(hm_in 368 (by decide +kernel) (by decide +kernel)), (hm_in 369 (by decide +kernel) (by decide +kernel)), (hm_in 370 (by decide +kernel) (by decide +kernel)), (hm_in 56 (by decide +kernel) (by decide +kernel)), (hm_in 371 (by decide +kernel) (by decide +kernel)), ⟨by decide +kernel, by decide +kernel, by decide +kernel⟩⟩
set_option maxRecDepth 20000 in
theorem kC5_73 : hm_lS RX5 73 yX5_checkWordsRule cX5_checkWordsRule 2 none 1 := ⟨(hm_in 372 (by decide +kernel) (by decide +kernel)), (hm_in 373 (by decide +kernel) (by decide +kernel)), (hm_in 56 (by decide +kernel) (by decide +kernel)), (hm_in 374 (by decide +kernel) (by decide +kernel)), ⟨by decide +kernel, by decide +kernel, by decide +kernel⟩⟩
set_option maxRecDepth 20000 in
theorem kC5_282 : hm_lS RX5 282 yX5_rowLength cX5_rowLength 3 (some .int) 1 := ⟨(hm_in 375 (by decide +kernel) (by decide +kernel)), (hm_in 342 (by decide +kernel) (by decide +kernel)), (hm_in 56 (by decide +kernel) (by decide +kernel)), (hm_in 343 (by decide +kernel) (by decide +kernel)), ⟨by decide +kernel, by decide +kernel, by decide +kernel⟩⟩
set_option maxRecDepth 20000 in
theorem kCL_30 : hm_lV RL 30 yX5_drop cX5_drop 5 (some .int) 3 := ⟨(hm_in 380 (by decide +kernel) (by decide +kernel)), (hm_in 381 (by decide +kernel) (by decide +kernel)), (hm_in 382 (by decide +kernel) (by decide +kernel)), (hm_in 56 (by decide +kernel) (by decide +kernel)), (hm_in 383 (by decide +kernel) (by decide +kernel)), ⟨by decide +kernel, by decide +kernel, by decide +kernel⟩⟩
set_option maxRecDepth 20000 in
theorem kC5_80 : hm_lS RX5 80 yX5_taskOf cX5_taskOf 4 (some (.object "SheetVault$Entry")) 2 := ⟨(hm_in 384 (by decide +kernel) (by decide +kernel)), (hm_in 385 (by decide +kernel) (by decide +kernel)), (hm_in 56 (by decide +kernel) (by decide +kernel)), (hm_in 386 (by decide +kernel) (by decide +kernel)), ⟨by decide +kernel, by decide +kernel, by decide +kernel⟩⟩
set_option maxRecDepth 20000 in
theorem kC5_142 : hm_lS RX5 142 yX5_tellerOf cX5_tellerOf 3 (some (.object "SheetVault$Version")) 2 := ⟨(hm_in 387 (by decide +kernel) (by decide +kernel)), (hm_in 388 (by decide +kernel) (by decide +kernel)), (hm_in 56 (by decide +kernel) (by decide +kernel)), (hm_in 389 (by decide +kernel) (by decide +kernel)), ⟨by decide +kernel, by decide +kernel, by decide +kernel⟩⟩
set_option maxRecDepth 20000 in
theorem kCL_34 : hm_lV RL 34 yX5_adopt cX5_adopt 7 (some .int) 3 := ⟨(hm_in 394 (by decide +kernel) (by decide +kernel)), (hm_in 395 (by decide +kernel) (by decide +kernel)), (hm_in 396 (by decide +kernel) (by decide +kernel)), (hm_in 56 (by decide +kernel) (by decide +kernel)), (hm_in 397 (by decide +kernel) (by decide +kernel)), ⟨by decide +kernel, by decide +kernel, by decide +kernel⟩⟩
set_option maxRecDepth 20000 in
theorem kC5_86 : hm_lS RX5 86 yX5_versionAt cX5_versionAt 3 (some (.object "SheetVault$Version")) 2 := ⟨(hm_in 398 (by decide +kernel) (by decide +kernel)), (hm_in 399 (by decide +kernel) (by decide +kernel)), (hm_in 56 (by decide +kernel) (by decide +kernel)), (hm_in 400 (by decide +kernel) (by decide +kernel)), ⟨by decide +kernel, by decide +kernel, by decide +kernel⟩⟩
set_option maxRecDepth 20000 in
theorem kC5_90 : hm_lS RX5 90 yX5_numberOf cX5_numberOf 1 (some .int) 1 := ⟨(hm_in 402 (by decide +kernel) (by decide +kernel)), (hm_in 403 (by decide +kernel) (by decide +kernel)), (hm_in 56 (by decide +kernel) (by decide +kernel)), (hm_in 404 (by decide +kernel) (by decide +kernel)), ⟨by decide +kernel, by decide +kernel, by decide +kernel⟩⟩
set_option maxRecDepth 20000 in
theorem kCL_37 : hm_lV RL 37 yX5_fold cX5_fold 8 (some .int) 2 := ⟨(hm_in 408 (by decide +kernel) (by decide +kernel)), (hm_in 409 (by decide +kernel) (by decide +kernel)), (hm_in 410 (by decide +kernel) (by decide +kernel)), (hm_in 56 (by decide +kernel) (by decide +kernel)), (hm_in 411 (by decide +kernel) (by decide +kernel)), ⟨by decide +kernel, by decide +kernel, by decide +kernel⟩⟩
set_option maxRecDepth 20000 in
theorem kC5_94 : hm_lV RX5 94 yX3_canFold cX3_canFold 2 (some .boolean) 1 := ⟨(hm_in 412 (by decide +kernel) (by decide +kernel)), (hm_in 413 (by decide +kernel) (by decide +kernel)), (hm_in 414 (by decide +kernel) (by decide +kernel)), (hm_in 62 (by decide +kernel) (by decide +kernel)), (hm_in 415 (by decide +kernel) (by decide +kernel)), ⟨by decide +kernel, by decide +kernel, by decide +kernel⟩⟩
set_option maxRecDepth 20000 in
theorem kC3_40 : hm_lV RX3 40 yX3_isHead cX3_isHead 3 (some .boolean) 1 := ⟨(hm_in 416 (by decide +kernel) (by decide +kernel)), (hm_in 418 (by decide +kernel) (by decide +kernel)), (hm_in 5 (by decide +kernel) (by decide +kernel)), (hm_in 62 (by decide +kernel) (by decide +kernel)), (hm_in 419 (by decide +kernel) (by decide +kernel)), ⟨by decide +kernel, by decide +kernel, by decide +kernel⟩⟩
set_option maxRecDepth 20000 in
theorem kC3_44 : hm_lV RX3 44 yX3_isTied cX3_isTied 3 (some .boolean) 1 := ⟨(hm_in 420 (by decide +kernel) (by decide +kernel)), (hm_in 422 (by decide +kernel) (by decide +kernel)), (hm_in 6 (by decide +kernel) (by decide +kernel)), (hm_in 62 (by decide +kernel) (by decide +kernel)), (hm_in 423 (by decide +kernel) (by decide +kernel)), ⟨by decide +kernel, by decide +kernel, by decide +kernel⟩⟩
set_option maxRecDepth 20000 in
theorem kC3_47 : hm_lV RX3 47 yX3_countChildren cX3_countChildren 4 (some .int) 1 := ⟨(hm_in 424 (by decide +kernel) (by decide +kernel)), (hm_in 426 (by decide +kernel) (by decide +kernel)), (hm_in 7 (by decide +kernel) (by decide +kernel)), (hm_in 62 (by decide +kernel) (by decide +kernel)), (hm_in 427 (by decide +kernel) (by decide +kernel)), ⟨by decide +kernel, by decide +kernel, by decide +kernel⟩⟩
set_option maxRecDepth 20000 in
theorem kC5_100 : hm_lV RX5 100 yX3_childOf cX3_childOf 3 (some (.object "SheetVault$Version")) 1 := ⟨(hm_in 429 (by decide +kernel) (by decide +kernel)), (hm_in 430 (by decide +kernel) (by decide +kernel)), (hm_in 431 (by decide +kernel) (by decide +kernel)), (hm_in 62 (by decide +kernel) (by decide +kernel)), (hm_in 432 (by decide +kernel) (by decide +kernel)), ⟨by decide +kernel, by decide +kernel, by decide +kernel⟩⟩
set_option maxRecDepth 20000 in
theorem kC5_104 : hm_lV RX5 104 yX4_size cX4_size 3 (some .int) 0 := ⟨(hm_in 433 (by decide +kernel) (by decide +kernel)), (hm_in 434 (by decide +kernel) (by decide +kernel)), (hm_in 435 (by decide +kernel) (by decide +kernel)), (hm_in 63 (by decide +kernel) (by decide +kernel)), (hm_in 436 (by decide +kernel) (by decide +kernel)), ⟨by decide +kernel, by decide +kernel, by decide +kernel⟩⟩
set_option maxRecDepth 20000 in
theorem kC4_28 : hm_lV RX4 28 yX1_size cX1_size 1 (some .int) 0 := ⟨(hm_in 437 (by decide +kernel) (by decide +kernel)), (hm_in 334 (by decide +kernel) (by decide +kernel)), (hm_in 335 (by decide +kernel) (by decide +kernel)), (hm_in 66 (by decide +kernel) (by decide +kernel)), (hm_in 336 (by decide +kernel) (by decide +kernel)), ⟨by decide +kernel, by decide +kernel, by decide +kernel⟩⟩
set_option maxRecDepth 20000 in
theorem kC5_110 : hm_lV RX5 110 yX4_sizeMissingIn cX4_sizeMissingIn 4 (some .int) 1 := ⟨(hm_in 438 (by decide +kernel) (by decide +kernel)), (hm_in 439 (by decide +kernel) (by decide +kernel)), (hm_in 440 (by decide +kernel) (by decide +kernel)), (hm_in 63 (by decide +kernel) (by decide +kernel)), (hm_in 441 (by decide +kernel) (by decide +kernel)), ⟨by decide +kernel, by decide +kernel, by decide +kernel⟩⟩
set_option maxRecDepth 20000 in
theorem kC5_125 : hm_lV RX5 125 yX4_inherit cX4_inherit 3 none 1 := ⟨(hm_in 442 (by decide +kernel) (by decide +kernel)), (hm_in 443 (by decide +kernel) (by decide +kernel)), (hm_in 444 (by decide +kernel) (by decide +kernel)), (hm_in 63 (by decide +kernel) (by decide +kernel)), (hm_in 445 (by decide +kernel) (by decide +kernel)), ⟨by decide +kernel, by decide +kernel, by decide +kernel⟩⟩
set_option maxRecDepth 20000 in
theorem kC5_129 : hm_lV RX5 129 yX3_remove cX3_remove 2 none 1 := ⟨(hm_in 446 (by decide +kernel) (by decide +kernel)), (hm_in 447 (by decide +kernel) (by decide +kernel)), (hm_in 448 (by decide +kernel) (by decide +kernel)), (hm_in 62 (by decide +kernel) (by decide +kernel)), (hm_in 449 (by decide +kernel) (by decide +kernel)), ⟨by decide +kernel, by decide +kernel, by decide +kernel⟩⟩
set_option maxRecDepth 20000 in
theorem kCL_41 : hm_lV RL 41 yX5_versions cX5_versions 5 (some .int) 1 := ⟨(hm_in 453 (by decide +kernel) (by decide +kernel)), (hm_in 454 (by decide +kernel) (by decide +kernel)), (hm_in 455 (by decide +kernel) (by decide +kernel)), (hm_in 56 (by decide +kernel) (by decide +kernel)), (hm_in 456 (by decide +kernel) (by decide +kernel)), ⟨by decide +kernel, by decide +kernel, by decide +kernel⟩⟩
set_option maxRecDepth 20000 in
theorem kCL_45 : hm_lV RL 45 yX5_head cX5_head 3 (some .int) 2 := ⟨(hm_in 460 (by decide +kernel) (by decide +kernel)), (hm_in 461 (by decide +kernel) (by decide +kernel)), (hm_in 462 (by decide +kernel) (by decide +kernel)), (hm_in 56 (by decide +kernel) (by decide +kernel)), (hm_in 463 (by decide +kernel) (by decide +kernel)), ⟨by decide +kernel, by decide +kernel, by decide +kernel⟩⟩
set_option maxRecDepth 20000 in
theorem kCL_48 : hm_lV RL 48 yX5_parent cX5_parent 3 (some .int) 2 := ⟨(hm_in 467 (by decide +kernel) (by decide +kernel)), (hm_in 468 (by decide +kernel) (by decide +kernel)), (hm_in 469 (by decide +kernel) (by decide +kernel)), (hm_in 56 (by decide +kernel) (by decide +kernel)), (hm_in 470 (by decide +kernel) (by decide +kernel)), ⟨by decide +kernel, by decide +kernel, by decide +kernel⟩⟩
set_option maxRecDepth 20000 in
theorem kCL_51 : hm_lV RL 51 yX5_kindOf cX5_kindOf 6 (some .int) 3 := ⟨(hm_in 474 (by decide +kernel) (by decide +kernel)), (hm_in 475 (by decide +kernel) (by decide +kernel)), (hm_in 476 (by decide +kernel) (by decide +kernel)), (hm_in 56 (by decide +kernel) (by decide +kernel)), (hm_in 477 (by decide +kernel) (by decide +kernel)), ⟨by decide +kernel, by decide +kernel, by decide +kernel⟩⟩
set_option maxRecDepth 20000 in
theorem kCL_54 : hm_lV RL 54 yX5_toldIn cX5_toldIn 5 (some .int) 3 := ⟨(hm_in 481 (by decide +kernel) (by decide +kernel)), (hm_in 482 (by decide +kernel) (by decide +kernel)), (hm_in 483 (by decide +kernel) (by decide +kernel)), (hm_in 56 (by decide +kernel) (by decide +kernel)), (hm_in 484 (by decide +kernel) (by decide +kernel)), ⟨by decide +kernel, by decide +kernel, by decide +kernel⟩⟩
set_option maxRecDepth 20000 in
theorem kCL_57 : hm_lV RL 57 yX5_points cX5_points 7 (some .int) 2 := ⟨(hm_in 488 (by decide +kernel) (by decide +kernel)), (hm_in 489 (by decide +kernel) (by decide +kernel)), (hm_in 490 (by decide +kernel) (by decide +kernel)), (hm_in 56 (by decide +kernel) (by decide +kernel)), (hm_in 491 (by decide +kernel) (by decide +kernel)), ⟨by decide +kernel, by decide +kernel, by decide +kernel⟩⟩
set_option maxRecDepth 20000 in
theorem kCL_60 : hm_lV RL 60 yX5_mendNumber cX5_mendNumber 8 (some .int) 5 := ⟨(hm_in 495 (by decide +kernel) (by decide +kernel)), (hm_in 496 (by decide +kernel) (by decide +kernel)), (hm_in 497 (by decide +kernel) (by decide +kernel)), (hm_in 56 (by decide +kernel) (by decide +kernel)), (hm_in 498 (by decide +kernel) (by decide +kernel)), ⟨by decide +kernel, by decide +kernel, by decide +kernel⟩⟩
set_option maxRecDepth 20000 in
theorem kC5_149 : hm_lV RX5 149 yX5_mend cX5_mend 10 (some .int) 6 := ⟨(hm_in 499 (by decide +kernel) (by decide +kernel)), (hm_in 501 (by decide +kernel) (by decide +kernel)), (hm_in 8 (by decide +kernel) (by decide +kernel)), (hm_in 56 (by decide +kernel) (by decide +kernel)), (hm_in 502 (by decide +kernel) (by decide +kernel)), ⟨by decide +kernel, by decide +kernel, by decide +kernel⟩⟩
set_option maxRecDepth 20000 in
theorem kC5_311 : hm_lV RX5 311 yX1_sizeWith cX1_sizeWith 2 (some .int) 1 := ⟨(hm_in 504 (by decide +kernel) (by decide +kernel)), (hm_in 338 (by decide +kernel) (by decide +kernel)), (hm_in 339 (by decide +kernel) (by decide +kernel)), (hm_in 66 (by decide +kernel) (by decide +kernel)), (hm_in 340 (by decide +kernel) (by decide +kernel)), ⟨by decide +kernel, by decide +kernel, by decide +kernel⟩⟩
set_option maxRecDepth 20000 in
theorem kC5_320 : hm_lV RX5 320 yX5_gradeAgain cX5_gradeAgain 6 (some .int) 1 := ⟨(hm_in 505 (by decide +kernel) (by decide +kernel)), (hm_in 507 (by decide +kernel) (by decide +kernel)), (hm_in 9 (by decide +kernel) (by decide +kernel)), (hm_in 56 (by decide +kernel) (by decide +kernel)), (hm_in 508 (by decide +kernel) (by decide +kernel)), ⟨by decide +kernel, by decide +kernel, by decide +kernel⟩⟩
set_option maxRecDepth 20000 in
theorem kC5_212 : hm_lV RX5 212 yX5_grade cX5_grade 7 (some .int) 2 := ⟨(hm_in 509 (by decide +kernel) (by decide +kernel)), (hm_in 511 (by decide +kernel) (by decide +kernel)), (hm_in 10 (by decide +kernel) (by decide +kernel)), (hm_in 56 (by decide +kernel) (by decide +kernel)), (hm_in 512 (by decide +kernel) (by decide +kernel)), ⟨by decide +kernel, by decide +kernel, by decide +kernel⟩⟩
set_option maxRecDepth 20000 in
theorem kC5_328 : hm_lV RX5 328 yX5_commonWords cX5_commonWords 4 (some .int) 3 := ⟨(hm_in 513 (by decide +kernel) (by decide +kernel)), (hm_in 515 (by decide +kernel) (by decide +kernel)), (hm_in 11 (by decide +kernel) (by decide +kernel)), (hm_in 56 (by decide +kernel) (by decide +kernel)), (hm_in 516 (by decide +kernel) (by decide +kernel)), ⟨by decide +kernel, by decide +kernel, by decide +kernel⟩⟩
set_option maxRecDepth 20000 in
theorem kC5_336 : hm_lS RX5 336 yX5_longestKept cX5_longestKept 6 (some .int) 2 := ⟨(hm_in 517 (by decide +kernel) (by decide +kernel)), (hm_in 518 (by decide +kernel) (by decide +kernel)), (hm_in 56 (by decide +kernel) (by decide +kernel)), (hm_in 519 (by decide +kernel) (by decide +kernel)), ⟨by decide +kernel, by decide +kernel, by decide +kernel⟩⟩
set_option maxRecDepth 20000 in
theorem kC5_357 : hm_lS RX5 357 yJ6_bitCount_0f7a4 cJ6_bitCount_0f7a4 1 (some .int) 1 := ⟨(hm_in 520 (by decide +kernel) (by decide +kernel)), (hm_in 521 (by decide +kernel) (by decide +kernel)), (hm_in 67 (by decide +kernel) (by decide +kernel)), (hm_in 522 (by decide +kernel) (by decide +kernel)), ⟨by decide +kernel, by decide +kernel, by decide +kernel⟩⟩
set_option maxRecDepth 20000 in
theorem kC5_362 : hm_lS RX5 362 yX5_keepWords cX5_keepWords 5 (some .int) 2 := ⟨(hm_in 526 (by decide +kernel) (by decide +kernel)), (hm_in 527 (by decide +kernel) (by decide +kernel)), (hm_in 56 (by decide +kernel) (by decide +kernel)), (hm_in 528 (by decide +kernel) (by decide +kernel)), ⟨by decide +kernel, by decide +kernel, by decide +kernel⟩⟩
set_option maxRecDepth 20000 in
theorem kC5_346 : hm_lS RX5 346 yX5_wordAt cX5_wordAt 2 (some .int) 2 := ⟨(hm_in 529 (by decide +kernel) (by decide +kernel)), (hm_in 530 (by decide +kernel) (by decide +kernel)), (hm_in 56 (by decide +kernel) (by decide +kernel)), (hm_in 531 (by decide +kernel) (by decide +kernel)), ⟨by decide +kernel, by decide +kernel, by decide +kernel⟩⟩
set_option maxRecDepth 20000 in
theorem kC5_365 : hm_lV RX5 365 yX2_holdsInOrder cX2_holdsInOrder 4 (some .boolean) 1 := ⟨(hm_in 532 (by decide +kernel) (by decide +kernel)), (hm_in 533 (by decide +kernel) (by decide +kernel)), (hm_in 534 (by decide +kernel) (by decide +kernel)), (hm_in 70 (by decide +kernel) (by decide +kernel)), (hm_in 535 (by decide +kernel) (by decide +kernel)), ⟨by decide +kernel, by decide +kernel, by decide +kernel⟩⟩
set_option maxRecDepth 20000 in
theorem kC5_340 : hm_lV RX5 340 yX5_longestCommon cX5_longestCommon 8 (some .int) 2 := ⟨(hm_in 536 (by decide +kernel) (by decide +kernel)), (hm_in 538 (by decide +kernel) (by decide +kernel)), (hm_in 12 (by decide +kernel) (by decide +kernel)), (hm_in 56 (by decide +kernel) (by decide +kernel)), (hm_in 539 (by decide +kernel) (by decide +kernel)), ⟨by decide +kernel, by decide +kernel, by decide +kernel⟩⟩
set_option maxRecDepth 20000 in
theorem kC5_352 : hm_lS RX5 352 yJ9_max_7cf53 cJ9_max_7cf53 2 (some .int) 2 := ⟨(hm_in 540 (by decide +kernel) (by decide +kernel)), (hm_in 541 (by decide +kernel) (by decide +kernel)), (hm_in 68 (by decide +kernel) (by decide +kernel)), (hm_in 542 (by decide +kernel) (by decide +kernel)), ⟨by decide +kernel, by decide +kernel, by decide +kernel⟩⟩
set_option maxRecDepth 20000 in
theorem kC5_332 : hm_lV RX5 332 yX1_earned cX1_earned 4 (some .int) 2 := ⟨(hm_in 543 (by decide +kernel) (by decide +kernel)), (hm_in 544 (by decide +kernel) (by decide +kernel)), (hm_in 545 (by decide +kernel) (by decide +kernel)), (hm_in 66 (by decide +kernel) (by decide +kernel)), (hm_in 546 (by decide +kernel) (by decide +kernel)), ⟨by decide +kernel, by decide +kernel, by decide +kernel⟩⟩
set_option maxRecDepth 20000 in
theorem kC1_40 : hm_lS RX1 40 yJ9_abs_0f7a4 cJ9_abs_0f7a4 1 (some .int) 1 := ⟨(hm_in 547 (by decide +kernel) (by decide +kernel)), (hm_in 548 (by decide +kernel) (by decide +kernel)), (hm_in 68 (by decide +kernel) (by decide +kernel)), (hm_in 549 (by decide +kernel) (by decide +kernel)), ⟨by decide +kernel, by decide +kernel, by decide +kernel⟩⟩
set_option maxRecDepth 20000 in
theorem kC1_48 : hm_lV RX1 48 yX1_earnedByChoice cX1_earnedByChoice 5 (some .int) 1 := ⟨(hm_in 550 (by decide +kernel) (by decide +kernel)), (hm_in 552 (by decide +kernel) (by decide +kernel)), (hm_in 13 (by decide +kernel) (by decide +kernel)), (hm_in 66 (by decide +kernel) (by decide +kernel)), (hm_in 553 (by decide +kernel) (by decide +kernel)), ⟨by decide +kernel, by decide +kernel, by decide +kernel⟩⟩
set_option maxRecDepth 20000 in
theorem kC1_51 : hm_lS RX1 51 yJ6_bitCount_0f7a4 cJ6_bitCount_0f7a4 1 (some .int) 1 := ⟨(hm_in 554 (by decide +kernel) (by decide +kernel)), (hm_in 521 (by decide +kernel) (by decide +kernel)), (hm_in 67 (by decide +kernel) (by decide +kernel)), (hm_in 522 (by decide +kernel) (by decide +kernel)), ⟨by decide +kernel, by decide +kernel, by decide +kernel⟩⟩
set_option maxRecDepth 20000 in
theorem kC1_56 : hm_lS RX1 56 yJ9_max_7cf53 cJ9_max_7cf53 2 (some .int) 2 := ⟨(hm_in 555 (by decide +kernel) (by decide +kernel)), (hm_in 541 (by decide +kernel) (by decide +kernel)), (hm_in 68 (by decide +kernel) (by decide +kernel)), (hm_in 542 (by decide +kernel) (by decide +kernel)), ⟨by decide +kernel, by decide +kernel, by decide +kernel⟩⟩
set_option maxRecDepth 20000 in
theorem kC5_156 : hm_lS RX5 156 yX5_classOf cX5_classOf 1 (some .int) 1 := ⟨(hm_in 556 (by decide +kernel) (by decide +kernel)), (hm_in 557 (by decide +kernel) (by decide +kernel)), (hm_in 56 (by decide +kernel) (by decide +kernel)), (hm_in 558 (by decide +kernel) (by decide +kernel)), ⟨by decide +kernel, by decide +kernel, by decide +kernel⟩⟩
set_option maxRecDepth 20000 in
theorem kC5_324 : hm_lV RX5 324 yX0_takeDueMark cX0_takeDueMark 3 none 2 := ⟨(hm_in 559 (by decide +kernel) (by decide +kernel)), (hm_in 560 (by decide +kernel) (by decide +kernel)), (hm_in 561 (by decide +kernel) (by decide +kernel)), (hm_in 69 (by decide +kernel) (by decide +kernel)), (hm_in 562 (by decide +kernel) (by decide +kernel)), ⟨by decide +kernel, by decide +kernel, by decide +kernel⟩⟩
set_option maxRecDepth 20000 in
theorem kC5_222 : hm_lV RX5 222 yX0_findPrints cX0_findPrints 3 none 0 := ⟨(hm_in 563 (by decide +kernel) (by decide +kernel)), (hm_in 564 (by decide +kernel) (by decide +kernel)), (hm_in 565 (by decide +kernel) (by decide +kernel)), (hm_in 69 (by decide +kernel) (by decide +kernel)), (hm_in 566 (by decide +kernel) (by decide +kernel)), ⟨by decide +kernel, by decide +kernel, by decide +kernel⟩⟩
set_option maxRecDepth 20000 in
theorem kC0_47 : hm_lV RX0 47 yX0_isInIndex cX0_isInIndex 1 (some .boolean) 0 := ⟨(hm_in 567 (by decide +kernel) (by decide +kernel)), (hm_in 568 (by decide +kernel) (by decide +kernel)), (hm_in 569 (by decide +kernel) (by decide +kernel)), (hm_in 69 (by decide +kernel) (by decide +kernel)), (hm_in 570 (by decide +kernel) (by decide +kernel)), ⟨by decide +kernel, by decide +kernel, by decide +kernel⟩⟩
set_option maxRecDepth 20000 in
theorem kC0_51 : hm_lSN RX0 "SheetVault" 51 yX5_taskOf cX5_taskOf 4 (some (.object "SheetVault$Entry")) 2 := ⟨by decide +kernel, (hm_in 385 (by decide +kernel) (by decide +kernel)), (hm_in 56 (by decide +kernel) (by decide +kernel)), (hm_in 386 (by decide +kernel) (by decide +kernel)), ⟨by decide +kernel, by decide +kernel, by decide +kernel⟩⟩
set_option maxRecDepth 20000 in
theorem kC0_63 : hm_lV RX0 63 yX0_findPrintsOf cX0_findPrintsOf 5 none 2 := ⟨(hm_in 572 (by decide +kernel) (by decide +kernel)), (hm_in 574 (by decide +kernel) (by decide +kernel)), (hm_in 14 (by decide +kernel) (by decide +kernel)), (hm_in 69 (by decide +kernel) (by decide +kernel)), (hm_in 576 (by decide +kernel) (by decide +kernel)), ⟨by decide +kernel, by decide +kernel, by decide +kernel⟩⟩
set_option maxRecDepth 20000 in
theorem kC0_70 : hm_lV RX0 70 yX2_printAt cX2_printAt 2 (some .int) 1 := ⟨(hm_in 577 (by decide +kernel) (by decide +kernel)), (hm_in 578 (by decide +kernel) (by decide +kernel)), (hm_in 579 (by decide +kernel) (by decide +kernel)), (hm_in 70 (by decide +kernel) (by decide +kernel)), (hm_in 580 (by decide +kernel) (by decide +kernel)), ⟨by decide +kernel, by decide +kernel, by decide +kernel⟩⟩
set_option maxRecDepth 20000 in
theorem kC2_33 : hm_lSN RX2 "SheetVault" 33 yX5_printOf cX5_printOf 3 (some .int) 3 := ⟨by decide +kernel, (hm_in 582 (by decide +kernel) (by decide +kernel)), (hm_in 56 (by decide +kernel) (by decide +kernel)), (hm_in 583 (by decide +kernel) (by decide +kernel)), ⟨by decide +kernel, by decide +kernel, by decide +kernel⟩⟩
set_option maxRecDepth 20000 in
theorem kC0_74 : hm_lSN RX0 "SheetVault" 74 yX5_ruleHasPrint cX5_ruleHasPrint 4 (some .boolean) 2 := ⟨by decide +kernel, (hm_in 585 (by decide +kernel) (by decide +kernel)), (hm_in 56 (by decide +kernel) (by decide +kernel)), (hm_in 586 (by decide +kernel) (by decide +kernel)), ⟨by decide +kernel, by decide +kernel, by decide +kernel⟩⟩
set_option maxRecDepth 20000 in
theorem kC5_368 : hm_lS RX5 368 yX5_printOf cX5_printOf 3 (some .int) 3 := ⟨(hm_in 587 (by decide +kernel) (by decide +kernel)), (hm_in 582 (by decide +kernel) (by decide +kernel)), (hm_in 56 (by decide +kernel) (by decide +kernel)), (hm_in 583 (by decide +kernel) (by decide +kernel)), ⟨by decide +kernel, by decide +kernel, by decide +kernel⟩⟩
set_option maxRecDepth 20000 in
theorem kC0_78 : hm_lV RX0 78 yX0_insertPrint cX0_insertPrint 5 none 1 := ⟨(hm_in 588 (by decide +kernel) (by decide +kernel)), (hm_in 590 (by decide +kernel) (by decide +kernel)), (hm_in 15 (by decide +kernel) (by decide +kernel)), (hm_in 69 (by decide +kernel) (by decide +kernel)), (hm_in 591 (by decide +kernel) (by decide +kernel)), ⟨by decide +kernel, by decide +kernel, by decide +kernel⟩⟩
set_option maxRecDepth 20000 in
theorem kC0_82 : hm_lV RX0 82 yX0_placeOf cX0_placeOf 3 (some .int) 1 := ⟨(hm_in 592 (by decide +kernel) (by decide +kernel)), (hm_in 594 (by decide +kernel) (by decide +kernel)), (hm_in 16 (by decide +kernel) (by decide +kernel)), (hm_in 69 (by decide +kernel) (by decide +kernel)), (hm_in 595 (by decide +kernel) (by decide +kernel)), ⟨by decide +kernel, by decide +kernel, by decide +kernel⟩⟩
set_option maxRecDepth 20000 in
theorem kCL_63 : hm_lV RL 63 yX5_mendChoice cX5_mendChoice 7 (some .int) 4 := ⟨(hm_in 599 (by decide +kernel) (by decide +kernel)), (hm_in 600 (by decide +kernel) (by decide +kernel)), (hm_in 601 (by decide +kernel) (by decide +kernel)), (hm_in 56 (by decide +kernel) (by decide +kernel)), (hm_in 602 (by decide +kernel) (by decide +kernel)), ⟨by decide +kernel, by decide +kernel, by decide +kernel⟩⟩
set_option maxRecDepth 20000 in
theorem kCL_67 : hm_lV RL 67 yX5_mendWords cX5_mendWords 7 (some .int) 4 := ⟨(hm_in 606 (by decide +kernel) (by decide +kernel)), (hm_in 607 (by decide +kernel) (by decide +kernel)), (hm_in 608 (by decide +kernel) (by decide +kernel)), (hm_in 56 (by decide +kernel) (by decide +kernel)), (hm_in 609 (by decide +kernel) (by decide +kernel)), ⟨by decide +kernel, by decide +kernel, by decide +kernel⟩⟩
set_option maxRecDepth 20000 in
theorem kCL_70 : hm_lV RL 70 yX5_open cX5_open 6 (some .int) 2 := ⟨(hm_in 613 (by decide +kernel) (by decide +kernel)), (hm_in 614 (by decide +kernel) (by decide +kernel)), (hm_in 615 (by decide +kernel) (by decide +kernel)), (hm_in 56 (by decide +kernel) (by decide +kernel)), (hm_in 616 (by decide +kernel) (by decide +kernel)), ⟨by decide +kernel, by decide +kernel, by decide +kernel⟩⟩
set_option maxRecDepth 20000 in
theorem kC5_153 : hm_lS RX5 153 yX5_checkPupil cX5_checkPupil 1 none 1 := ⟨(hm_in 617 (by decide +kernel) (by decide +kernel)), (hm_in 618 (by decide +kernel) (by decide +kernel)), (hm_in 56 (by decide +kernel) (by decide +kernel)), (hm_in 619 (by decide +kernel) (by decide +kernel)), ⟨by decide +kernel, by decide +kernel, by decide +kernel⟩⟩
set_option maxRecDepth 20000 in
theorem kC5_174 : hm_lI RX5 174 yX0_init cX0_init 3 1 := ⟨(hm_in 624 (by decide +kernel) (by decide +kernel)), (hm_in 625 (by decide +kernel) (by decide +kernel)), (hm_in 69 (by decide +kernel) (by decide +kernel)), (hm_in 626 (by decide +kernel) (by decide +kernel)), ⟨by decide +kernel, by decide +kernel, by decide +kernel⟩, rfl⟩
set_option maxRecDepth 20000 in
theorem kC0_42 : hm_lIN RX0 "SheetVault" 42 yX2_init cX2_init 1 0 := ⟨by decide +kernel, (hm_in 632 (by decide +kernel) (by decide +kernel)), (hm_in 70 (by decide +kernel) (by decide +kernel)), (hm_in 633 (by decide +kernel) (by decide +kernel)), ⟨by decide +kernel, by decide +kernel, by decide +kernel⟩, rfl⟩
set_option maxRecDepth 20000 in
theorem kCL_73 : hm_lV RL 73 yX5_say cX5_say 10 (some .int) 4 := ⟨(hm_in 694 (by decide +kernel) (by decide +kernel)), (hm_in 695 (by decide +kernel) (by decide +kernel)), (hm_in 696 (by decide +kernel) (by decide +kernel)), (hm_in 56 (by decide +kernel) (by decide +kernel)), (hm_in 697 (by decide +kernel) (by decide +kernel)), ⟨by decide +kernel, by decide +kernel, by decide +kernel⟩⟩
set_option maxRecDepth 20000 in
theorem kC5_176 : hm_lS RX5 176 yX5_openAnswer cX5_openAnswer 3 (some (.object "SheetVault$Answer")) 2 := ⟨(hm_in 698 (by decide +kernel) (by decide +kernel)), (hm_in 699 (by decide +kernel) (by decide +kernel)), (hm_in 56 (by decide +kernel) (by decide +kernel)), (hm_in 700 (by decide +kernel) (by decide +kernel)), ⟨by decide +kernel, by decide +kernel, by decide +kernel⟩⟩
set_option maxRecDepth 20000 in
theorem kC5_189 : hm_lS RX5 189 yX5_checkSaid cX5_checkSaid 2 none 2 := ⟨(hm_in 703 (by decide +kernel) (by decide +kernel)), (hm_in 704 (by decide +kernel) (by decide +kernel)), (hm_in 56 (by decide +kernel) (by decide +kernel)), (hm_in 705 (by decide +kernel) (by decide +kernel)), ⟨by decide +kernel, by decide +kernel, by decide +kernel⟩⟩
set_option maxRecDepth 20000 in
theorem kC5_192 : hm_lV RX5 192 yX2_growthBy cX2_growthBy 3 (some .int) 2 := ⟨(hm_in 706 (by decide +kernel) (by decide +kernel)), (hm_in 707 (by decide +kernel) (by decide +kernel)), (hm_in 708 (by decide +kernel) (by decide +kernel)), (hm_in 70 (by decide +kernel) (by decide +kernel)), (hm_in 709 (by decide +kernel) (by decide +kernel)), ⟨by decide +kernel, by decide +kernel, by decide +kernel⟩⟩
set_option maxRecDepth 20000 in
theorem kC2_29 : hm_lS RX2 29 yX2_sizeOfSigns cX2_sizeOfSigns 1 (some .int) 1 := ⟨(hm_in 710 (by decide +kernel) (by decide +kernel)), (hm_in 711 (by decide +kernel) (by decide +kernel)), (hm_in 70 (by decide +kernel) (by decide +kernel)), (hm_in 712 (by decide +kernel) (by decide +kernel)), ⟨by decide +kernel, by decide +kernel, by decide +kernel⟩⟩
set_option maxRecDepth 20000 in
theorem kC5_198 : hm_lV RX5 198 yX2_isFull cX2_isFull 2 (some .boolean) 1 := ⟨(hm_in 713 (by decide +kernel) (by decide +kernel)), (hm_in 714 (by decide +kernel) (by decide +kernel)), (hm_in 715 (by decide +kernel) (by decide +kernel)), (hm_in 70 (by decide +kernel) (by decide +kernel)), (hm_in 716 (by decide +kernel) (by decide +kernel)), ⟨by decide +kernel, by decide +kernel, by decide +kernel⟩⟩
set_option maxRecDepth 20000 in
theorem kC5_204 : hm_lV RX5 204 yX2_add cX2_add 3 none 2 := ⟨(hm_in 718 (by decide +kernel) (by decide +kernel)), (hm_in 719 (by decide +kernel) (by decide +kernel)), (hm_in 720 (by decide +kernel) (by decide +kernel)), (hm_in 70 (by decide +kernel) (by decide +kernel)), (hm_in 721 (by decide +kernel) (by decide +kernel)), ⟨by decide +kernel, by decide +kernel, by decide +kernel⟩⟩
set_option maxRecDepth 20000 in
theorem kC5_207 : hm_lV RX5 207 yX0_size cX0_size 3 (some .int) 0 := ⟨(hm_in 722 (by decide +kernel) (by decide +kernel)), (hm_in 723 (by decide +kernel) (by decide +kernel)), (hm_in 724 (by decide +kernel) (by decide +kernel)), (hm_in 69 (by decide +kernel) (by decide +kernel)), (hm_in 725 (by decide +kernel) (by decide +kernel)), ⟨by decide +kernel, by decide +kernel, by decide +kernel⟩⟩
set_option maxRecDepth 20000 in
theorem kC0_43 : hm_lV RX0 43 yX2_size cX2_size 1 (some .int) 0 := ⟨(hm_in 726 (by decide +kernel) (by decide +kernel)), (hm_in 727 (by decide +kernel) (by decide +kernel)), (hm_in 728 (by decide +kernel) (by decide +kernel)), (hm_in 70 (by decide +kernel) (by decide +kernel)), (hm_in 729 (by decide +kernel) (by decide +kernel)), ⟨by decide +kernel, by decide +kernel, by decide +kernel⟩⟩
set_option maxRecDepth 20000 in
theorem kCL_76 : hm_lV RL 76 yX5_hand cX5_hand 5 (some .int) 2 := ⟨(hm_in 733 (by decide +kernel) (by decide +kernel)), (hm_in 734 (by decide +kernel) (by decide +kernel)), (hm_in 735 (by decide +kernel) (by decide +kernel)), (hm_in 56 (by decide +kernel) (by decide +kernel)), (hm_in 736 (by decide +kernel) (by decide +kernel)), ⟨by decide +kernel, by decide +kernel, by decide +kernel⟩⟩
set_option maxRecDepth 20000 in
theorem kCL_79 : hm_lV RL 79 yX5_close cX5_close 7 (some .int) 2 := ⟨(hm_in 740 (by decide +kernel) (by decide +kernel)), (hm_in 741 (by decide +kernel) (by decide +kernel)), (hm_in 742 (by decide +kernel) (by decide +kernel)), (hm_in 56 (by decide +kernel) (by decide +kernel)), (hm_in 743 (by decide +kernel) (by decide +kernel)), ⟨by decide +kernel, by decide +kernel, by decide +kernel⟩⟩
set_option maxRecDepth 20000 in
theorem kCL_82 : hm_lV RL 82 yX5_answer cX5_answer 4 (some .int) 2 := ⟨(hm_in 747 (by decide +kernel) (by decide +kernel)), (hm_in 748 (by decide +kernel) (by decide +kernel)), (hm_in 749 (by decide +kernel) (by decide +kernel)), (hm_in 56 (by decide +kernel) (by decide +kernel)), (hm_in 750 (by decide +kernel) (by decide +kernel)), ⟨by decide +kernel, by decide +kernel, by decide +kernel⟩⟩
set_option maxRecDepth 20000 in
theorem kC5_225 : hm_lV RX5 225 yX5_answerAt cX5_answerAt 3 (some (.object "SheetVault$Answer")) 2 := ⟨(hm_in 751 (by decide +kernel) (by decide +kernel)), (hm_in 753 (by decide +kernel) (by decide +kernel)), (hm_in 17 (by decide +kernel) (by decide +kernel)), (hm_in 56 (by decide +kernel) (by decide +kernel)), (hm_in 754 (by decide +kernel) (by decide +kernel)), ⟨by decide +kernel, by decide +kernel, by decide +kernel⟩⟩
set_option maxRecDepth 20000 in
theorem kCL_85 : hm_lV RL 85 yX5_mark cX5_mark 4 (some .int) 2 := ⟨(hm_in 758 (by decide +kernel) (by decide +kernel)), (hm_in 759 (by decide +kernel) (by decide +kernel)), (hm_in 760 (by decide +kernel) (by decide +kernel)), (hm_in 56 (by decide +kernel) (by decide +kernel)), (hm_in 761 (by decide +kernel) (by decide +kernel)), ⟨by decide +kernel, by decide +kernel, by decide +kernel⟩⟩
set_option maxRecDepth 20000 in
theorem kCL_88 : hm_lV RL 88 yX5_due cX5_due 4 (some .int) 2 := ⟨(hm_in 765 (by decide +kernel) (by decide +kernel)), (hm_in 766 (by decide +kernel) (by decide +kernel)), (hm_in 767 (by decide +kernel) (by decide +kernel)), (hm_in 56 (by decide +kernel) (by decide +kernel)), (hm_in 768 (by decide +kernel) (by decide +kernel)), ⟨by decide +kernel, by decide +kernel, by decide +kernel⟩⟩
set_option maxRecDepth 20000 in
theorem kCL_91 : hm_lV RL 91 yX5_told cX5_told 4 (some .int) 2 := ⟨(hm_in 772 (by decide +kernel) (by decide +kernel)), (hm_in 773 (by decide +kernel) (by decide +kernel)), (hm_in 774 (by decide +kernel) (by decide +kernel)), (hm_in 56 (by decide +kernel) (by decide +kernel)), (hm_in 775 (by decide +kernel) (by decide +kernel)), ⟨by decide +kernel, by decide +kernel, by decide +kernel⟩⟩
set_option maxRecDepth 20000 in
theorem kCL_94 : hm_lV RL 94 yX5_average cX5_average 8 (some .int) 2 := ⟨(hm_in 779 (by decide +kernel) (by decide +kernel)), (hm_in 780 (by decide +kernel) (by decide +kernel)), (hm_in 781 (by decide +kernel) (by decide +kernel)), (hm_in 56 (by decide +kernel) (by decide +kernel)), (hm_in 782 (by decide +kernel) (by decide +kernel)), ⟨by decide +kernel, by decide +kernel, by decide +kernel⟩⟩
set_option maxRecDepth 20000 in
theorem kCL_97 : hm_lV RL 97 yX5_fingerprints cX5_fingerprints 4 (some .int) 2 := ⟨(hm_in 786 (by decide +kernel) (by decide +kernel)), (hm_in 787 (by decide +kernel) (by decide +kernel)), (hm_in 788 (by decide +kernel) (by decide +kernel)), (hm_in 56 (by decide +kernel) (by decide +kernel)), (hm_in 789 (by decide +kernel) (by decide +kernel)), ⟨by decide +kernel, by decide +kernel, by decide +kernel⟩⟩
set_option maxRecDepth 20000 in
theorem kCL_100 : hm_lV RL 100 yX5_withPrint cX5_withPrint 7 (some .int) 2 := ⟨(hm_in 793 (by decide +kernel) (by decide +kernel)), (hm_in 794 (by decide +kernel) (by decide +kernel)), (hm_in 795 (by decide +kernel) (by decide +kernel)), (hm_in 56 (by decide +kernel) (by decide +kernel)), (hm_in 796 (by decide +kernel) (by decide +kernel)), ⟨by decide +kernel, by decide +kernel, by decide +kernel⟩⟩
set_option maxRecDepth 20000 in
theorem kC5_235 : hm_lV RX5 235 yX0_hasPrint cX0_hasPrint 3 (some .boolean) 1 := ⟨(hm_in 797 (by decide +kernel) (by decide +kernel)), (hm_in 798 (by decide +kernel) (by decide +kernel)), (hm_in 799 (by decide +kernel) (by decide +kernel)), (hm_in 69 (by decide +kernel) (by decide +kernel)), (hm_in 800 (by decide +kernel) (by decide +kernel)), ⟨by decide +kernel, by decide +kernel, by decide +kernel⟩⟩
set_option maxRecDepth 20000 in
theorem kCL_103 : hm_lV RL 103 yX5_likeness cX5_likeness 7 (some .int) 3 := ⟨(hm_in 804 (by decide +kernel) (by decide +kernel)), (hm_in 805 (by decide +kernel) (by decide +kernel)), (hm_in 806 (by decide +kernel) (by decide +kernel)), (hm_in 56 (by decide +kernel) (by decide +kernel)), (hm_in 807 (by decide +kernel) (by decide +kernel)), ⟨by decide +kernel, by decide +kernel, by decide +kernel⟩⟩
set_option maxRecDepth 20000 in
theorem kC5_238 : hm_lV RX5 238 yX0_commonPrints cX0_commonPrints 4 (some .int) 1 := ⟨(hm_in 808 (by decide +kernel) (by decide +kernel)), (hm_in 809 (by decide +kernel) (by decide +kernel)), (hm_in 810 (by decide +kernel) (by decide +kernel)), (hm_in 69 (by decide +kernel) (by decide +kernel)), (hm_in 811 (by decide +kernel) (by decide +kernel)), ⟨by decide +kernel, by decide +kernel, by decide +kernel⟩⟩
set_option maxRecDepth 20000 in
theorem kC0_85 : hm_lV RX0 85 yX0_hasPrint cX0_hasPrint 3 (some .boolean) 1 := ⟨(hm_in 812 (by decide +kernel) (by decide +kernel)), (hm_in 798 (by decide +kernel) (by decide +kernel)), (hm_in 799 (by decide +kernel) (by decide +kernel)), (hm_in 69 (by decide +kernel) (by decide +kernel)), (hm_in 800 (by decide +kernel) (by decide +kernel)), ⟨by decide +kernel, by decide +kernel, by decide +kernel⟩⟩
set_option maxRecDepth 20000 in
theorem kC5_242 : hm_lS RX5 242 yX5_likenessBy cX5_likenessBy 4 (some .int) 3 := ⟨(hm_in 813 (by decide +kernel) (by decide +kernel)), (hm_in 814 (by decide +kernel) (by decide +kernel)), (hm_in 56 (by decide +kernel) (by decide +kernel)), (hm_in 815 (by decide +kernel) (by decide +kernel)), ⟨by decide +kernel, by decide +kernel, by decide +kernel⟩⟩
set_option maxRecDepth 20000 in
theorem kC5_371 : hm_lS RX5 371 yJ9_min_7cf53 cJ9_min_7cf53 2 (some .int) 2 := ⟨(hm_in 816 (by decide +kernel) (by decide +kernel)), (hm_in 817 (by decide +kernel) (by decide +kernel)), (hm_in 68 (by decide +kernel) (by decide +kernel)), (hm_in 818 (by decide +kernel) (by decide +kernel)), ⟨by decide +kernel, by decide +kernel, by decide +kernel⟩⟩
set_option maxRecDepth 20000 in
theorem kCL_106 : hm_lV RL 106 yX5_pairs cX5_pairs 6 (some .int) 1 := ⟨(hm_in 822 (by decide +kernel) (by decide +kernel)), (hm_in 823 (by decide +kernel) (by decide +kernel)), (hm_in 824 (by decide +kernel) (by decide +kernel)), (hm_in 56 (by decide +kernel) (by decide +kernel)), (hm_in 825 (by decide +kernel) (by decide +kernel)), ⟨by decide +kernel, by decide +kernel, by decide +kernel⟩⟩
set_option maxRecDepth 20000 in
theorem kC5_246 : hm_lV RX5 246 yX3_arePair cX3_arePair 5 (some .boolean) 2 := ⟨(hm_in 826 (by decide +kernel) (by decide +kernel)), (hm_in 827 (by decide +kernel) (by decide +kernel)), (hm_in 828 (by decide +kernel) (by decide +kernel)), (hm_in 62 (by decide +kernel) (by decide +kernel)), (hm_in 829 (by decide +kernel) (by decide +kernel)), ⟨by decide +kernel, by decide +kernel, by decide +kernel⟩⟩
set_option maxRecDepth 20000 in
theorem kC3_58 : hm_lV RX3 58 yX0_commonPrints cX0_commonPrints 4 (some .int) 1 := ⟨(hm_in 830 (by decide +kernel) (by decide +kernel)), (hm_in 809 (by decide +kernel) (by decide +kernel)), (hm_in 810 (by decide +kernel) (by decide +kernel)), (hm_in 69 (by decide +kernel) (by decide +kernel)), (hm_in 811 (by decide +kernel) (by decide +kernel)), ⟨by decide +kernel, by decide +kernel, by decide +kernel⟩⟩
set_option maxRecDepth 20000 in
theorem kC3_65 : hm_lSN RX3 "SheetVault" 65 yX5_isPairBy cX5_isPairBy 3 (some .boolean) 3 := ⟨by decide +kernel, (hm_in 832 (by decide +kernel) (by decide +kernel)), (hm_in 56 (by decide +kernel) (by decide +kernel)), (hm_in 833 (by decide +kernel) (by decide +kernel)), ⟨by decide +kernel, by decide +kernel, by decide +kernel⟩⟩
set_option maxRecDepth 20000 in
theorem kCL_109 : hm_lV RL 109 yX5_pairAt cX5_pairAt 7 (some .int) 2 := ⟨(hm_in 837 (by decide +kernel) (by decide +kernel)), (hm_in 838 (by decide +kernel) (by decide +kernel)), (hm_in 839 (by decide +kernel) (by decide +kernel)), (hm_in 56 (by decide +kernel) (by decide +kernel)), (hm_in 840 (by decide +kernel) (by decide +kernel)), ⟨by decide +kernel, by decide +kernel, by decide +kernel⟩⟩
set_option maxRecDepth 20000 in
theorem kCL_112 : hm_lV RL 112 yX5_pairsAnew cX5_pairsAnew 6 (some .int) 1 := ⟨(hm_in 845 (by decide +kernel) (by decide +kernel)), (hm_in 846 (by decide +kernel) (by decide +kernel)), (hm_in 847 (by decide +kernel) (by decide +kernel)), (hm_in 56 (by decide +kernel) (by decide +kernel)), (hm_in 848 (by decide +kernel) (by decide +kernel)), ⟨by decide +kernel, by decide +kernel, by decide +kernel⟩⟩
set_option maxRecDepth 20000 in
theorem kC5_254 : hm_lV RX5 254 yX5_collectThrees cX5_collectThrees 8 none 2 := ⟨(hm_in 849 (by decide +kernel) (by decide +kernel)), (hm_in 851 (by decide +kernel) (by decide +kernel)), (hm_in 18 (by decide +kernel) (by decide +kernel)), (hm_in 56 (by decide +kernel) (by decide +kernel)), (hm_in 852 (by decide +kernel) (by decide +kernel)), ⟨by decide +kernel, by decide +kernel, by decide +kernel⟩⟩
set_option maxRecDepth 20000 in
theorem kC5_374 : hm_lV RX5 374 yX0_isInIndex cX0_isInIndex 1 (some .boolean) 0 := ⟨(hm_in 853 (by decide +kernel) (by decide +kernel)), (hm_in 568 (by decide +kernel) (by decide +kernel)), (hm_in 569 (by decide +kernel) (by decide +kernel)), (hm_in 69 (by decide +kernel) (by decide +kernel)), (hm_in 570 (by decide +kernel) (by decide +kernel)), ⟨by decide +kernel, by decide +kernel, by decide +kernel⟩⟩
set_option maxRecDepth 20000 in
theorem kC5_378 : hm_lV RX5 378 yX2_printAt cX2_printAt 2 (some .int) 1 := ⟨(hm_in 854 (by decide +kernel) (by decide +kernel)), (hm_in 578 (by decide +kernel) (by decide +kernel)), (hm_in 579 (by decide +kernel) (by decide +kernel)), (hm_in 70 (by decide +kernel) (by decide +kernel)), (hm_in 580 (by decide +kernel) (by decide +kernel)), ⟨by decide +kernel, by decide +kernel, by decide +kernel⟩⟩
set_option maxRecDepth 20000 in
theorem kC5_381 : hm_lS RX5 381 yX5_ruleHasPrint cX5_ruleHasPrint 4 (some .boolean) 2 := ⟨(hm_in 855 (by decide +kernel) (by decide +kernel)), (hm_in 585 (by decide +kernel) (by decide +kernel)), (hm_in 56 (by decide +kernel) (by decide +kernel)), (hm_in 586 (by decide +kernel) (by decide +kernel)), ⟨by decide +kernel, by decide +kernel, by decide +kernel⟩⟩
set_option maxRecDepth 20000 in
theorem kC5_384 : hm_lV RX5 384 yX5_collectThree cX5_collectThree 4 none 2 := ⟨(hm_in 856 (by decide +kernel) (by decide +kernel)), (hm_in 858 (by decide +kernel) (by decide +kernel)), (hm_in 19 (by decide +kernel) (by decide +kernel)), (hm_in 56 (by decide +kernel) (by decide +kernel)), (hm_in 859 (by decide +kernel) (by decide +kernel)), ⟨by decide +kernel, by decide +kernel, by decide +kernel⟩⟩
set_option maxRecDepth 20000 in
theorem kC5_387 : hm_lV RX5 387 yX5_isCollected cX5_isCollected 4 (some .boolean) 2 := ⟨(hm_in 860 (by decide +kernel) (by decide +kernel)), (hm_in 862 (by decide +kernel) (by decide +kernel)), (hm_in 20 (by decide +kernel) (by decide +kernel)), (hm_in 56 (by decide +kernel) (by decide +kernel)), (hm_in 863 (by decide +kernel) (by decide +kernel)), ⟨by decide +kernel, by decide +kernel, by decide +kernel⟩⟩
set_option maxRecDepth 20000 in
theorem kC5_258 : hm_lV RX5 258 yX5_commonThrees cX5_commonThrees 5 (some .int) 2 := ⟨(hm_in 864 (by decide +kernel) (by decide +kernel)), (hm_in 866 (by decide +kernel) (by decide +kernel)), (hm_in 21 (by decide +kernel) (by decide +kernel)), (hm_in 56 (by decide +kernel) (by decide +kernel)), (hm_in 867 (by decide +kernel) (by decide +kernel)), ⟨by decide +kernel, by decide +kernel, by decide +kernel⟩⟩
set_option maxRecDepth 20000 in
theorem kC5_261 : hm_lS RX5 261 yX5_isPairBy cX5_isPairBy 3 (some .boolean) 3 := ⟨(hm_in 868 (by decide +kernel) (by decide +kernel)), (hm_in 832 (by decide +kernel) (by decide +kernel)), (hm_in 56 (by decide +kernel) (by decide +kernel)), (hm_in 833 (by decide +kernel) (by decide +kernel)), ⟨by decide +kernel, by decide +kernel, by decide +kernel⟩⟩
set_option maxRecDepth 20000 in
theorem kCL_115 : hm_lV RL 115 yX5_setQuota cX5_setQuota 4 (some .int) 2 := ⟨(hm_in 872 (by decide +kernel) (by decide +kernel)), (hm_in 873 (by decide +kernel) (by decide +kernel)), (hm_in 874 (by decide +kernel) (by decide +kernel)), (hm_in 56 (by decide +kernel) (by decide +kernel)), (hm_in 875 (by decide +kernel) (by decide +kernel)), ⟨by decide +kernel, by decide +kernel, by decide +kernel⟩⟩
set_option maxRecDepth 20000 in
theorem kCL_118 : hm_lV RL 118 yX5_used cX5_used 2 (some .int) 1 := ⟨(hm_in 879 (by decide +kernel) (by decide +kernel)), (hm_in 880 (by decide +kernel) (by decide +kernel)), (hm_in 881 (by decide +kernel) (by decide +kernel)), (hm_in 56 (by decide +kernel) (by decide +kernel)), (hm_in 882 (by decide +kernel) (by decide +kernel)), ⟨by decide +kernel, by decide +kernel, by decide +kernel⟩⟩
set_option maxRecDepth 20000 in
theorem kCL_121 : hm_lV RL 121 yX5_usedAnew cX5_usedAnew 5 (some .int) 1 := ⟨(hm_in 886 (by decide +kernel) (by decide +kernel)), (hm_in 887 (by decide +kernel) (by decide +kernel)), (hm_in 888 (by decide +kernel) (by decide +kernel)), (hm_in 56 (by decide +kernel) (by decide +kernel)), (hm_in 889 (by decide +kernel) (by decide +kernel)), ⟨by decide +kernel, by decide +kernel, by decide +kernel⟩⟩
set_option maxRecDepth 20000 in
theorem kC5_265 : hm_lV RX5 265 yX3_sizeOfVersions cX3_sizeOfVersions 4 (some .int) 1 := ⟨(hm_in 890 (by decide +kernel) (by decide +kernel)), (hm_in 891 (by decide +kernel) (by decide +kernel)), (hm_in 892 (by decide +kernel) (by decide +kernel)), (hm_in 62 (by decide +kernel) (by decide +kernel)), (hm_in 893 (by decide +kernel) (by decide +kernel)), ⟨by decide +kernel, by decide +kernel, by decide +kernel⟩⟩
set_option maxRecDepth 20000 in
theorem kC3_72 : hm_lV RX3 72 yX4_size cX4_size 3 (some .int) 0 := ⟨(hm_in 894 (by decide +kernel) (by decide +kernel)), (hm_in 434 (by decide +kernel) (by decide +kernel)), (hm_in 435 (by decide +kernel) (by decide +kernel)), (hm_in 63 (by decide +kernel) (by decide +kernel)), (hm_in 436 (by decide +kernel) (by decide +kernel)), ⟨by decide +kernel, by decide +kernel, by decide +kernel⟩⟩
set_option maxRecDepth 20000 in
theorem kC5_268 : hm_lV RX5 268 yX3_sizeOfAnswers cX3_sizeOfAnswers 4 (some .int) 1 := ⟨(hm_in 895 (by decide +kernel) (by decide +kernel)), (hm_in 896 (by decide +kernel) (by decide +kernel)), (hm_in 897 (by decide +kernel) (by decide +kernel)), (hm_in 62 (by decide +kernel) (by decide +kernel)), (hm_in 898 (by decide +kernel) (by decide +kernel)), ⟨by decide +kernel, by decide +kernel, by decide +kernel⟩⟩
set_option maxRecDepth 20000 in
theorem kC3_76 : hm_lSN RX3 "SheetVault" 76 yX5_classOf cX5_classOf 1 (some .int) 1 := ⟨by decide +kernel, (hm_in 557 (by decide +kernel) (by decide +kernel)), (hm_in 56 (by decide +kernel) (by decide +kernel)), (hm_in 558 (by decide +kernel) (by decide +kernel)), ⟨by decide +kernel, by decide +kernel, by decide +kernel⟩⟩
set_option maxRecDepth 20000 in
theorem kC3_80 : hm_lV RX3 80 yX0_size cX0_size 3 (some .int) 0 := ⟨(hm_in 900 (by decide +kernel) (by decide +kernel)), (hm_in 723 (by decide +kernel) (by decide +kernel)), (hm_in 724 (by decide +kernel) (by decide +kernel)), (hm_in 69 (by decide +kernel) (by decide +kernel)), (hm_in 725 (by decide +kernel) (by decide +kernel)), ⟨by decide +kernel, by decide +kernel, by decide +kernel⟩⟩
set_option maxRecDepth 20000 in
theorem kCL_127 : hm_lI RL 127 yX6_init cX6_init 2 0 := ⟨(hm_in 903 (by decide +kernel) (by decide +kernel)), (hm_in 904 (by decide +kernel) (by decide +kernel)), (hm_in 57 (by decide +kernel) (by decide +kernel)), (hm_in 905 (by decide +kernel) (by decide +kernel)), ⟨by decide +kernel, by decide +kernel, by decide +kernel⟩, rfl⟩
set_option maxRecDepth 20000 in
theorem kCL_134 : hm_lV RL 134 yX6_thrown cX6_thrown 1 (some .int) 0 := ⟨(hm_in 989 (by decide +kernel) (by decide +kernel)), (hm_in 990 (by decide +kernel) (by decide +kernel)), (hm_in 991 (by decide +kernel) (by decide +kernel)), (hm_in 57 (by decide +kernel) (by decide +kernel)), (hm_in 992 (by decide +kernel) (by decide +kernel)), ⟨by decide +kernel, by decide +kernel, by decide +kernel⟩⟩
set_option maxRecDepth 20000 in
theorem kCL_133 : hm_lV RL 133 yX6_addSheet cX6_addSheet 1 (some .int) 0 := ⟨(hm_in 993 (by decide +kernel) (by decide +kernel)), (hm_in 994 (by decide +kernel) (by decide +kernel)), (hm_in 995 (by decide +kernel) (by decide +kernel)), (hm_in 57 (by decide +kernel) (by decide +kernel)), (hm_in 996 (by decide +kernel) (by decide +kernel)), ⟨by decide +kernel, by decide +kernel, by decide +kernel⟩⟩
set_option maxRecDepth 20000 in
theorem kC6_120 : hm_lV RX6 120 yX6_refused cX6_refused 2 (some .boolean) 1 := ⟨(hm_in 997 (by decide +kernel) (by decide +kernel)), (hm_in 999 (by decide +kernel) (by decide +kernel)), (hm_in 22 (by decide +kernel) (by decide +kernel)), (hm_in 57 (by decide +kernel) (by decide +kernel)), (hm_in 1000 (by decide +kernel) (by decide +kernel)), ⟨by decide +kernel, by decide +kernel, by decide +kernel⟩⟩
set_option maxRecDepth 20000 in
theorem kCL_140 : hm_lV RL 140 yX6_setNumber cX6_setNumber 9 (some .int) 6 := ⟨(hm_in 1001 (by decide +kernel) (by decide +kernel)), (hm_in 1002 (by decide +kernel) (by decide +kernel)), (hm_in 1003 (by decide +kernel) (by decide +kernel)), (hm_in 57 (by decide +kernel) (by decide +kernel)), (hm_in 1004 (by decide +kernel) (by decide +kernel)), ⟨by decide +kernel, by decide +kernel, by decide +kernel⟩⟩
set_option maxRecDepth 20000 in
theorem kC6_87 : hm_lS RX6 87 yX6_in cX6_in 3 (some .boolean) 3 := ⟨(hm_in 1005 (by decide +kernel) (by decide +kernel)), (hm_in 1006 (by decide +kernel) (by decide +kernel)), (hm_in 57 (by decide +kernel) (by decide +kernel)), (hm_in 1007 (by decide +kernel) (by decide +kernel)), ⟨by decide +kernel, by decide +kernel, by decide +kernel⟩⟩
set_option maxRecDepth 20000 in
theorem kC6_133 : hm_lV RX6 133 yX6_canName cX6_canName 4 (some .boolean) 3 := ⟨(hm_in 1008 (by decide +kernel) (by decide +kernel)), (hm_in 1010 (by decide +kernel) (by decide +kernel)), (hm_in 23 (by decide +kernel) (by decide +kernel)), (hm_in 57 (by decide +kernel) (by decide +kernel)), (hm_in 1011 (by decide +kernel) (by decide +kernel)), ⟨by decide +kernel, by decide +kernel, by decide +kernel⟩⟩
set_option maxRecDepth 20000 in
theorem kC6_127 : hm_lS RX6 127 yX6_isClass cX6_isClass 1 (some .boolean) 1 := ⟨(hm_in 1012 (by decide +kernel) (by decide +kernel)), (hm_in 1013 (by decide +kernel) (by decide +kernel)), (hm_in 57 (by decide +kernel) (by decide +kernel)), (hm_in 1014 (by decide +kernel) (by decide +kernel)), ⟨by decide +kernel, by decide +kernel, by decide +kernel⟩⟩
set_option maxRecDepth 20000 in
theorem kC6_94 : hm_lV RX6 94 yX6_isSheet cX6_isSheet 2 (some .boolean) 1 := ⟨(hm_in 1015 (by decide +kernel) (by decide +kernel)), (hm_in 1017 (by decide +kernel) (by decide +kernel)), (hm_in 24 (by decide +kernel) (by decide +kernel)), (hm_in 57 (by decide +kernel) (by decide +kernel)), (hm_in 1018 (by decide +kernel) (by decide +kernel)), ⟨by decide +kernel, by decide +kernel, by decide +kernel⟩⟩
set_option maxRecDepth 20000 in
theorem kC6_130 : hm_lS RX6 130 yX6_isTask cX6_isTask 1 (some .boolean) 1 := ⟨(hm_in 1019 (by decide +kernel) (by decide +kernel)), (hm_in 1020 (by decide +kernel) (by decide +kernel)), (hm_in 57 (by decide +kernel) (by decide +kernel)), (hm_in 1021 (by decide +kernel) (by decide +kernel)), ⟨by decide +kernel, by decide +kernel, by decide +kernel⟩⟩
set_option maxRecDepth 20000 in
theorem kC6_136 : hm_lV RX6 136 yX6_canRevise cX6_canRevise 4 (some .boolean) 3 := ⟨(hm_in 1022 (by decide +kernel) (by decide +kernel)), (hm_in 1024 (by decide +kernel) (by decide +kernel)), (hm_in 25 (by decide +kernel) (by decide +kernel)), (hm_in 57 (by decide +kernel) (by decide +kernel)), (hm_in 1025 (by decide +kernel) (by decide +kernel)), ⟨by decide +kernel, by decide +kernel, by decide +kernel⟩⟩
set_option maxRecDepth 20000 in
theorem kC6_123 : hm_lV RX6 123 yX6_fits cX6_fits 3 (some .boolean) 2 := ⟨(hm_in 1026 (by decide +kernel) (by decide +kernel)), (hm_in 1028 (by decide +kernel) (by decide +kernel)), (hm_in 26 (by decide +kernel) (by decide +kernel)), (hm_in 57 (by decide +kernel) (by decide +kernel)), (hm_in 1029 (by decide +kernel) (by decide +kernel)), ⟨by decide +kernel, by decide +kernel, by decide +kernel⟩⟩
set_option maxRecDepth 20000 in
theorem kC6_117 : hm_lV RX6 117 yX6_usedBy cX6_usedBy 4 (some .int) 1 := ⟨(hm_in 1030 (by decide +kernel) (by decide +kernel)), (hm_in 1032 (by decide +kernel) (by decide +kernel)), (hm_in 27 (by decide +kernel) (by decide +kernel)), (hm_in 57 (by decide +kernel) (by decide +kernel)), (hm_in 1033 (by decide +kernel) (by decide +kernel)), ⟨by decide +kernel, by decide +kernel, by decide +kernel⟩⟩
set_option maxRecDepth 20000 in
theorem kC6_111 : hm_lV RX6 111 yX6_costOf cX6_costOf 3 (some .int) 1 := ⟨(hm_in 1034 (by decide +kernel) (by decide +kernel)), (hm_in 1036 (by decide +kernel) (by decide +kernel)), (hm_in 28 (by decide +kernel) (by decide +kernel)), (hm_in 57 (by decide +kernel) (by decide +kernel)), (hm_in 1037 (by decide +kernel) (by decide +kernel)), ⟨by decide +kernel, by decide +kernel, by decide +kernel⟩⟩
set_option maxRecDepth 20000 in
theorem kC6_103 : hm_lS RX6 103 yX6_lengthOf cX6_lengthOf 2 (some .int) 1 := ⟨(hm_in 1038 (by decide +kernel) (by decide +kernel)), (hm_in 1039 (by decide +kernel) (by decide +kernel)), (hm_in 57 (by decide +kernel) (by decide +kernel)), (hm_in 1040 (by decide +kernel) (by decide +kernel)), ⟨by decide +kernel, by decide +kernel, by decide +kernel⟩⟩
set_option maxRecDepth 20000 in
theorem kC6_98 : hm_lS RX6 98 yX6_wordAt cX6_wordAt 2 (some .int) 2 := ⟨(hm_in 1041 (by decide +kernel) (by decide +kernel)), (hm_in 1042 (by decide +kernel) (by decide +kernel)), (hm_in 57 (by decide +kernel) (by decide +kernel)), (hm_in 1043 (by decide +kernel) (by decide +kernel)), ⟨by decide +kernel, by decide +kernel, by decide +kernel⟩⟩
set_option maxRecDepth 20000 in
theorem kC6_114 : hm_lV RX6 114 yX6_taken cX6_taken 4 (some .int) 1 := ⟨(hm_in 1044 (by decide +kernel) (by decide +kernel)), (hm_in 1046 (by decide +kernel) (by decide +kernel)), (hm_in 29 (by decide +kernel) (by decide +kernel)), (hm_in 57 (by decide +kernel) (by decide +kernel)), (hm_in 1047 (by decide +kernel) (by decide +kernel)), ⟨by decide +kernel, by decide +kernel, by decide +kernel⟩⟩
set_option maxRecDepth 20000 in
theorem kC6_139 : hm_lV RX6 139 yX6_revise cX6_revise 11 (some .int) 7 := ⟨(hm_in 1048 (by decide +kernel) (by decide +kernel)), (hm_in 1050 (by decide +kernel) (by decide +kernel)), (hm_in 30 (by decide +kernel) (by decide +kernel)), (hm_in 57 (by decide +kernel) (by decide +kernel)), (hm_in 1051 (by decide +kernel) (by decide +kernel)), ⟨by decide +kernel, by decide +kernel, by decide +kernel⟩⟩
set_option maxRecDepth 20000 in
theorem kCL_144 : hm_lV RL 144 yX6_setChoice cX6_setChoice 8 (some .int) 5 := ⟨(hm_in 1052 (by decide +kernel) (by decide +kernel)), (hm_in 1053 (by decide +kernel) (by decide +kernel)), (hm_in 1054 (by decide +kernel) (by decide +kernel)), (hm_in 57 (by decide +kernel) (by decide +kernel)), (hm_in 1055 (by decide +kernel) (by decide +kernel)), ⟨by decide +kernel, by decide +kernel, by decide +kernel⟩⟩
set_option maxRecDepth 20000 in
theorem kCL_147 : hm_lV RL 147 yX6_setWords cX6_setWords 8 (some .int) 5 := ⟨(hm_in 1056 (by decide +kernel) (by decide +kernel)), (hm_in 1057 (by decide +kernel) (by decide +kernel)), (hm_in 1058 (by decide +kernel) (by decide +kernel)), (hm_in 57 (by decide +kernel) (by decide +kernel)), (hm_in 1059 (by decide +kernel) (by decide +kernel)), ⟨by decide +kernel, by decide +kernel, by decide +kernel⟩⟩
set_option maxRecDepth 20000 in
theorem kC6_143 : hm_lS RX6 143 yX6_isRow cX6_isRow 1 (some .boolean) 1 := ⟨(hm_in 1060 (by decide +kernel) (by decide +kernel)), (hm_in 1061 (by decide +kernel) (by decide +kernel)), (hm_in 57 (by decide +kernel) (by decide +kernel)), (hm_in 1062 (by decide +kernel) (by decide +kernel)), ⟨by decide +kernel, by decide +kernel, by decide +kernel⟩⟩
set_option maxRecDepth 20000 in
theorem kCL_151 : hm_lV RL 151 yX6_drop cX6_drop 6 (some .int) 3 := ⟨(hm_in 1064 (by decide +kernel) (by decide +kernel)), (hm_in 1065 (by decide +kernel) (by decide +kernel)), (hm_in 1066 (by decide +kernel) (by decide +kernel)), (hm_in 57 (by decide +kernel) (by decide +kernel)), (hm_in 1067 (by decide +kernel) (by decide +kernel)), ⟨by decide +kernel, by decide +kernel, by decide +kernel⟩⟩
set_option maxRecDepth 20000 in
theorem kC6_146 : hm_lV RX6 146 yX6_has cX6_has 5 (some .int) 3 := ⟨(hm_in 1068 (by decide +kernel) (by decide +kernel)), (hm_in 1070 (by decide +kernel) (by decide +kernel)), (hm_in 31 (by decide +kernel) (by decide +kernel)), (hm_in 57 (by decide +kernel) (by decide +kernel)), (hm_in 1071 (by decide +kernel) (by decide +kernel)), ⟨by decide +kernel, by decide +kernel, by decide +kernel⟩⟩
set_option maxRecDepth 20000 in
theorem kC6_107 : hm_lV RX6 107 yX6_entryFor cX6_entryFor 5 (some .int) 3 := ⟨(hm_in 1072 (by decide +kernel) (by decide +kernel)), (hm_in 1074 (by decide +kernel) (by decide +kernel)), (hm_in 32 (by decide +kernel) (by decide +kernel)), (hm_in 57 (by decide +kernel) (by decide +kernel)), (hm_in 1075 (by decide +kernel) (by decide +kernel)), ⟨by decide +kernel, by decide +kernel, by decide +kernel⟩⟩
set_option maxRecDepth 20000 in
theorem kCL_154 : hm_lV RL 154 yX6_adopt cX6_adopt 5 (some .int) 3 := ⟨(hm_in 1076 (by decide +kernel) (by decide +kernel)), (hm_in 1077 (by decide +kernel) (by decide +kernel)), (hm_in 1078 (by decide +kernel) (by decide +kernel)), (hm_in 57 (by decide +kernel) (by decide +kernel)), (hm_in 1079 (by decide +kernel) (by decide +kernel)), ⟨by decide +kernel, by decide +kernel, by decide +kernel⟩⟩
set_option maxRecDepth 20000 in
theorem kC6_149 : hm_lV RX6 149 yX6_isVersion cX6_isVersion 3 (some .boolean) 2 := ⟨(hm_in 1080 (by decide +kernel) (by decide +kernel)), (hm_in 1082 (by decide +kernel) (by decide +kernel)), (hm_in 33 (by decide +kernel) (by decide +kernel)), (hm_in 57 (by decide +kernel) (by decide +kernel)), (hm_in 1083 (by decide +kernel) (by decide +kernel)), ⟨by decide +kernel, by decide +kernel, by decide +kernel⟩⟩
set_option maxRecDepth 20000 in
theorem kCL_158 : hm_lV RL 158 yX6_fold cX6_fold 10 (some .int) 2 := ⟨(hm_in 1084 (by decide +kernel) (by decide +kernel)), (hm_in 1085 (by decide +kernel) (by decide +kernel)), (hm_in 1086 (by decide +kernel) (by decide +kernel)), (hm_in 57 (by decide +kernel) (by decide +kernel)), (hm_in 1087 (by decide +kernel) (by decide +kernel)), ⟨by decide +kernel, by decide +kernel, by decide +kernel⟩⟩
set_option maxRecDepth 20000 in
theorem kC6_162 : hm_lV RX6 162 yX6_canFold cX6_canFold 7 (some .boolean) 2 := ⟨(hm_in 1088 (by decide +kernel) (by decide +kernel)), (hm_in 1090 (by decide +kernel) (by decide +kernel)), (hm_in 34 (by decide +kernel) (by decide +kernel)), (hm_in 57 (by decide +kernel) (by decide +kernel)), (hm_in 1091 (by decide +kernel) (by decide +kernel)), ⟨by decide +kernel, by decide +kernel, by decide +kernel⟩⟩
set_option maxRecDepth 20000 in
theorem kC6_155 : hm_lV RX6 155 yX6_isNeeded cX6_isNeeded 5 (some .boolean) 2 := ⟨(hm_in 1092 (by decide +kernel) (by decide +kernel)), (hm_in 1094 (by decide +kernel) (by decide +kernel)), (hm_in 35 (by decide +kernel) (by decide +kernel)), (hm_in 57 (by decide +kernel) (by decide +kernel)), (hm_in 1095 (by decide +kernel) (by decide +kernel)), ⟨by decide +kernel, by decide +kernel, by decide +kernel⟩⟩
set_option maxRecDepth 20000 in
theorem kC6_152 : hm_lV RX6 152 yX6_child cX6_child 6 (some .int) 2 := ⟨(hm_in 1096 (by decide +kernel) (by decide +kernel)), (hm_in 1098 (by decide +kernel) (by decide +kernel)), (hm_in 36 (by decide +kernel) (by decide +kernel)), (hm_in 57 (by decide +kernel) (by decide +kernel)), (hm_in 1099 (by decide +kernel) (by decide +kernel)), ⟨by decide +kernel, by decide +kernel, by decide +kernel⟩⟩
set_option maxRecDepth 20000 in
theorem kC6_158 : hm_lV RX6 158 yX6_passes cX6_passes 7 (some .int) 3 := ⟨(hm_in 1100 (by decide +kernel) (by decide +kernel)), (hm_in 1102 (by decide +kernel) (by decide +kernel)), (hm_in 37 (by decide +kernel) (by decide +kernel)), (hm_in 57 (by decide +kernel) (by decide +kernel)), (hm_in 1103 (by decide +kernel) (by decide +kernel)), ⟨by decide +kernel, by decide +kernel, by decide +kernel⟩⟩
set_option maxRecDepth 20000 in
theorem kCL_162 : hm_lV RL 162 yX6_sheets cX6_sheets 1 (some .int) 0 := ⟨(hm_in 1104 (by decide +kernel) (by decide +kernel)), (hm_in 1105 (by decide +kernel) (by decide +kernel)), (hm_in 1106 (by decide +kernel) (by decide +kernel)), (hm_in 57 (by decide +kernel) (by decide +kernel)), (hm_in 1107 (by decide +kernel) (by decide +kernel)), ⟨by decide +kernel, by decide +kernel, by decide +kernel⟩⟩
set_option maxRecDepth 20000 in
theorem kCL_166 : hm_lV RL 166 yX6_versions cX6_versions 4 (some .int) 1 := ⟨(hm_in 1108 (by decide +kernel) (by decide +kernel)), (hm_in 1109 (by decide +kernel) (by decide +kernel)), (hm_in 1110 (by decide +kernel) (by decide +kernel)), (hm_in 57 (by decide +kernel) (by decide +kernel)), (hm_in 1111 (by decide +kernel) (by decide +kernel)), ⟨by decide +kernel, by decide +kernel, by decide +kernel⟩⟩
set_option maxRecDepth 20000 in
theorem kC6_165 : hm_lV RX6 165 yX6_noSheet cX6_noSheet 2 (some .boolean) 1 := ⟨(hm_in 1112 (by decide +kernel) (by decide +kernel)), (hm_in 1114 (by decide +kernel) (by decide +kernel)), (hm_in 38 (by decide +kernel) (by decide +kernel)), (hm_in 57 (by decide +kernel) (by decide +kernel)), (hm_in 1115 (by decide +kernel) (by decide +kernel)), ⟨by decide +kernel, by decide +kernel, by decide +kernel⟩⟩
set_option maxRecDepth 20000 in
theorem kCL_169 : hm_lV RL 169 yX6_head cX6_head 3 (some .int) 2 := ⟨(hm_in 1116 (by decide +kernel) (by decide +kernel)), (hm_in 1117 (by decide +kernel) (by decide +kernel)), (hm_in 1118 (by decide +kernel) (by decide +kernel)), (hm_in 57 (by decide +kernel) (by decide +kernel)), (hm_in 1119 (by decide +kernel) (by decide +kernel)), ⟨by decide +kernel, by decide +kernel, by decide +kernel⟩⟩
set_option maxRecDepth 20000 in
theorem kCL_172 : hm_lV RL 172 yX6_parent cX6_parent 3 (some .int) 2 := ⟨(hm_in 1120 (by decide +kernel) (by decide +kernel)), (hm_in 1121 (by decide +kernel) (by decide +kernel)), (hm_in 1122 (by decide +kernel) (by decide +kernel)), (hm_in 57 (by decide +kernel) (by decide +kernel)), (hm_in 1123 (by decide +kernel) (by decide +kernel)), ⟨by decide +kernel, by decide +kernel, by decide +kernel⟩⟩
set_option maxRecDepth 20000 in
theorem kCL_175 : hm_lV RL 175 yX6_kindOf cX6_kindOf 5 (some .int) 3 := ⟨(hm_in 1124 (by decide +kernel) (by decide +kernel)), (hm_in 1125 (by decide +kernel) (by decide +kernel)), (hm_in 1126 (by decide +kernel) (by decide +kernel)), (hm_in 57 (by decide +kernel) (by decide +kernel)), (hm_in 1127 (by decide +kernel) (by decide +kernel)), ⟨by decide +kernel, by decide +kernel, by decide +kernel⟩⟩
set_option maxRecDepth 20000 in
theorem kC6_168 : hm_lV RX6 168 yX6_noTask cX6_noTask 4 (some .boolean) 3 := ⟨(hm_in 1128 (by decide +kernel) (by decide +kernel)), (hm_in 1130 (by decide +kernel) (by decide +kernel)), (hm_in 39 (by decide +kernel) (by decide +kernel)), (hm_in 57 (by decide +kernel) (by decide +kernel)), (hm_in 1131 (by decide +kernel) (by decide +kernel)), ⟨by decide +kernel, by decide +kernel, by decide +kernel⟩⟩
set_option maxRecDepth 20000 in
theorem kCL_178 : hm_lV RL 178 yX6_toldIn cX6_toldIn 5 (some .int) 3 := ⟨(hm_in 1132 (by decide +kernel) (by decide +kernel)), (hm_in 1133 (by decide +kernel) (by decide +kernel)), (hm_in 1134 (by decide +kernel) (by decide +kernel)), (hm_in 57 (by decide +kernel) (by decide +kernel)), (hm_in 1135 (by decide +kernel) (by decide +kernel)), ⟨by decide +kernel, by decide +kernel, by decide +kernel⟩⟩
set_option maxRecDepth 20000 in
theorem kCL_181 : hm_lV RL 181 yX6_points cX6_points 6 (some .int) 2 := ⟨(hm_in 1136 (by decide +kernel) (by decide +kernel)), (hm_in 1137 (by decide +kernel) (by decide +kernel)), (hm_in 1138 (by decide +kernel) (by decide +kernel)), (hm_in 57 (by decide +kernel) (by decide +kernel)), (hm_in 1139 (by decide +kernel) (by decide +kernel)), ⟨by decide +kernel, by decide +kernel, by decide +kernel⟩⟩
set_option maxRecDepth 20000 in
theorem kCL_184 : hm_lV RL 184 yX6_mendNumber cX6_mendNumber 8 (some .int) 5 := ⟨(hm_in 1140 (by decide +kernel) (by decide +kernel)), (hm_in 1141 (by decide +kernel) (by decide +kernel)), (hm_in 1142 (by decide +kernel) (by decide +kernel)), (hm_in 57 (by decide +kernel) (by decide +kernel)), (hm_in 1143 (by decide +kernel) (by decide +kernel)), ⟨by decide +kernel, by decide +kernel, by decide +kernel⟩⟩
set_option maxRecDepth 20000 in
theorem kC6_183 : hm_lV RX6 183 yX6_isNamed cX6_isNamed 4 (some .boolean) 3 := ⟨(hm_in 1144 (by decide +kernel) (by decide +kernel)), (hm_in 1146 (by decide +kernel) (by decide +kernel)), (hm_in 40 (by decide +kernel) (by decide +kernel)), (hm_in 57 (by decide +kernel) (by decide +kernel)), (hm_in 1147 (by decide +kernel) (by decide +kernel)), ⟨by decide +kernel, by decide +kernel, by decide +kernel⟩⟩
set_option maxRecDepth 20000 in
theorem kC6_186 : hm_lV RX6 186 yX6_mended cX6_mended 6 (some .int) 4 := ⟨(hm_in 1148 (by decide +kernel) (by decide +kernel)), (hm_in 1150 (by decide +kernel) (by decide +kernel)), (hm_in 41 (by decide +kernel) (by decide +kernel)), (hm_in 57 (by decide +kernel) (by decide +kernel)), (hm_in 1151 (by decide +kernel) (by decide +kernel)), ⟨by decide +kernel, by decide +kernel, by decide +kernel⟩⟩
set_option maxRecDepth 20000 in
theorem kC6_190 : hm_lV RX6 190 yX6_mend cX6_mend 8 (some .int) 4 := ⟨(hm_in 1152 (by decide +kernel) (by decide +kernel)), (hm_in 1154 (by decide +kernel) (by decide +kernel)), (hm_in 42 (by decide +kernel) (by decide +kernel)), (hm_in 57 (by decide +kernel) (by decide +kernel)), (hm_in 1155 (by decide +kernel) (by decide +kernel)), ⟨by decide +kernel, by decide +kernel, by decide +kernel⟩⟩
set_option maxRecDepth 20000 in
theorem kC6_180 : hm_lV RX6 180 yX6_dueOf cX6_dueOf 5 (some .int) 1 := ⟨(hm_in 1156 (by decide +kernel) (by decide +kernel)), (hm_in 1158 (by decide +kernel) (by decide +kernel)), (hm_in 43 (by decide +kernel) (by decide +kernel)), (hm_in 57 (by decide +kernel) (by decide +kernel)), (hm_in 1159 (by decide +kernel) (by decide +kernel)), ⟨by decide +kernel, by decide +kernel, by decide +kernel⟩⟩
set_option maxRecDepth 20000 in
theorem kC6_177 : hm_lV RX6 177 yX6_gained cX6_gained 6 (some .int) 2 := ⟨(hm_in 1160 (by decide +kernel) (by decide +kernel)), (hm_in 1162 (by decide +kernel) (by decide +kernel)), (hm_in 44 (by decide +kernel) (by decide +kernel)), (hm_in 57 (by decide +kernel) (by decide +kernel)), (hm_in 1163 (by decide +kernel) (by decide +kernel)), ⟨by decide +kernel, by decide +kernel, by decide +kernel⟩⟩
set_option maxRecDepth 20000 in
theorem kC6_171 : hm_lS RX6 171 yX6_bits cX6_bits 3 (some .int) 1 := ⟨(hm_in 1164 (by decide +kernel) (by decide +kernel)), (hm_in 1165 (by decide +kernel) (by decide +kernel)), (hm_in 57 (by decide +kernel) (by decide +kernel)), (hm_in 1166 (by decide +kernel) (by decide +kernel)), ⟨by decide +kernel, by decide +kernel, by decide +kernel⟩⟩
set_option maxRecDepth 20000 in
theorem kC6_174 : hm_lV RX6 174 yX6_common cX6_common 9 (some .int) 2 := ⟨(hm_in 1167 (by decide +kernel) (by decide +kernel)), (hm_in 1169 (by decide +kernel) (by decide +kernel)), (hm_in 45 (by decide +kernel) (by decide +kernel)), (hm_in 57 (by decide +kernel) (by decide +kernel)), (hm_in 1170 (by decide +kernel) (by decide +kernel)), ⟨by decide +kernel, by decide +kernel, by decide +kernel⟩⟩
set_option maxRecDepth 20000 in
theorem kCL_188 : hm_lV RL 188 yX6_mendChoice cX6_mendChoice 7 (some .int) 4 := ⟨(hm_in 1171 (by decide +kernel) (by decide +kernel)), (hm_in 1172 (by decide +kernel) (by decide +kernel)), (hm_in 1173 (by decide +kernel) (by decide +kernel)), (hm_in 57 (by decide +kernel) (by decide +kernel)), (hm_in 1174 (by decide +kernel) (by decide +kernel)), ⟨by decide +kernel, by decide +kernel, by decide +kernel⟩⟩
set_option maxRecDepth 20000 in
theorem kCL_191 : hm_lV RL 191 yX6_mendWords cX6_mendWords 9 (some .int) 4 := ⟨(hm_in 1175 (by decide +kernel) (by decide +kernel)), (hm_in 1176 (by decide +kernel) (by decide +kernel)), (hm_in 1177 (by decide +kernel) (by decide +kernel)), (hm_in 57 (by decide +kernel) (by decide +kernel)), (hm_in 1178 (by decide +kernel) (by decide +kernel)), ⟨by decide +kernel, by decide +kernel, by decide +kernel⟩⟩
set_option maxRecDepth 20000 in
theorem kCL_194 : hm_lV RL 194 yX6_open cX6_open 6 (some .int) 2 := ⟨(hm_in 1179 (by decide +kernel) (by decide +kernel)), (hm_in 1180 (by decide +kernel) (by decide +kernel)), (hm_in 1181 (by decide +kernel) (by decide +kernel)), (hm_in 57 (by decide +kernel) (by decide +kernel)), (hm_in 1182 (by decide +kernel) (by decide +kernel)), ⟨by decide +kernel, by decide +kernel, by decide +kernel⟩⟩
set_option maxRecDepth 20000 in
theorem kC6_196 : hm_lV RX6 196 yX6_areBoth cX6_areBoth 3 (some .boolean) 2 := ⟨(hm_in 1183 (by decide +kernel) (by decide +kernel)), (hm_in 1185 (by decide +kernel) (by decide +kernel)), (hm_in 46 (by decide +kernel) (by decide +kernel)), (hm_in 57 (by decide +kernel) (by decide +kernel)), (hm_in 1186 (by decide +kernel) (by decide +kernel)), ⟨by decide +kernel, by decide +kernel, by decide +kernel⟩⟩
set_option maxRecDepth 20000 in
theorem kC6_193 : hm_lS RX6 193 yX6_isPupil cX6_isPupil 1 (some .boolean) 1 := ⟨(hm_in 1187 (by decide +kernel) (by decide +kernel)), (hm_in 1188 (by decide +kernel) (by decide +kernel)), (hm_in 57 (by decide +kernel) (by decide +kernel)), (hm_in 1189 (by decide +kernel) (by decide +kernel)), ⟨by decide +kernel, by decide +kernel, by decide +kernel⟩⟩
set_option maxRecDepth 20000 in
theorem kCL_197 : hm_lV RL 197 yX6_say cX6_say 11 (some .int) 4 := ⟨(hm_in 1190 (by decide +kernel) (by decide +kernel)), (hm_in 1191 (by decide +kernel) (by decide +kernel)), (hm_in 1192 (by decide +kernel) (by decide +kernel)), (hm_in 57 (by decide +kernel) (by decide +kernel)), (hm_in 1193 (by decide +kernel) (by decide +kernel)), ⟨by decide +kernel, by decide +kernel, by decide +kernel⟩⟩
set_option maxRecDepth 20000 in
theorem kC6_199 : hm_lS RX6 199 yX6_isSaid cX6_isSaid 2 (some .boolean) 2 := ⟨(hm_in 1194 (by decide +kernel) (by decide +kernel)), (hm_in 1195 (by decide +kernel) (by decide +kernel)), (hm_in 57 (by decide +kernel) (by decide +kernel)), (hm_in 1196 (by decide +kernel) (by decide +kernel)), ⟨by decide +kernel, by decide +kernel, by decide +kernel⟩⟩
set_option maxRecDepth 20000 in
theorem kC6_202 : hm_lV RX6 202 yX6_more cX6_more 5 (some .int) 3 := ⟨(hm_in 1197 (by decide +kernel) (by decide +kernel)), (hm_in 1199 (by decide +kernel) (by decide +kernel)), (hm_in 47 (by decide +kernel) (by decide +kernel)), (hm_in 57 (by decide +kernel) (by decide +kernel)), (hm_in 1200 (by decide +kernel) (by decide +kernel)), ⟨by decide +kernel, by decide +kernel, by decide +kernel⟩⟩
set_option maxRecDepth 20000 in
theorem kCL_200 : hm_lV RL 200 yX6_hand cX6_hand 5 (some .int) 2 := ⟨(hm_in 1201 (by decide +kernel) (by decide +kernel)), (hm_in 1202 (by decide +kernel) (by decide +kernel)), (hm_in 1203 (by decide +kernel) (by decide +kernel)), (hm_in 57 (by decide +kernel) (by decide +kernel)), (hm_in 1204 (by decide +kernel) (by decide +kernel)), ⟨by decide +kernel, by decide +kernel, by decide +kernel⟩⟩
set_option maxRecDepth 20000 in
theorem kCL_203 : hm_lV RL 203 yX6_close cX6_close 6 (some .int) 2 := ⟨(hm_in 1205 (by decide +kernel) (by decide +kernel)), (hm_in 1206 (by decide +kernel) (by decide +kernel)), (hm_in 1207 (by decide +kernel) (by decide +kernel)), (hm_in 57 (by decide +kernel) (by decide +kernel)), (hm_in 1208 (by decide +kernel) (by decide +kernel)), ⟨by decide +kernel, by decide +kernel, by decide +kernel⟩⟩
set_option maxRecDepth 20000 in
theorem kC6_205 : hm_lV RX6 205 yX6_forget cX6_forget 3 none 1 := ⟨(hm_in 1209 (by decide +kernel) (by decide +kernel)), (hm_in 1211 (by decide +kernel) (by decide +kernel)), (hm_in 48 (by decide +kernel) (by decide +kernel)), (hm_in 57 (by decide +kernel) (by decide +kernel)), (hm_in 1212 (by decide +kernel) (by decide +kernel)), ⟨by decide +kernel, by decide +kernel, by decide +kernel⟩⟩
set_option maxRecDepth 20000 in
theorem kCL_206 : hm_lV RL 206 yX6_answer cX6_answer 3 (some .int) 2 := ⟨(hm_in 1213 (by decide +kernel) (by decide +kernel)), (hm_in 1214 (by decide +kernel) (by decide +kernel)), (hm_in 1215 (by decide +kernel) (by decide +kernel)), (hm_in 57 (by decide +kernel) (by decide +kernel)), (hm_in 1216 (by decide +kernel) (by decide +kernel)), ⟨by decide +kernel, by decide +kernel, by decide +kernel⟩⟩
set_option maxRecDepth 20000 in
theorem kC6_209 : hm_lV RX6 209 yX6_noAnswer cX6_noAnswer 3 (some .boolean) 2 := ⟨(hm_in 1217 (by decide +kernel) (by decide +kernel)), (hm_in 1219 (by decide +kernel) (by decide +kernel)), (hm_in 49 (by decide +kernel) (by decide +kernel)), (hm_in 57 (by decide +kernel) (by decide +kernel)), (hm_in 1220 (by decide +kernel) (by decide +kernel)), ⟨by decide +kernel, by decide +kernel, by decide +kernel⟩⟩
set_option maxRecDepth 20000 in
theorem kCL_209 : hm_lV RL 209 yX6_mark cX6_mark 3 (some .int) 2 := ⟨(hm_in 1221 (by decide +kernel) (by decide +kernel)), (hm_in 1222 (by decide +kernel) (by decide +kernel)), (hm_in 1223 (by decide +kernel) (by decide +kernel)), (hm_in 57 (by decide +kernel) (by decide +kernel)), (hm_in 1224 (by decide +kernel) (by decide +kernel)), ⟨by decide +kernel, by decide +kernel, by decide +kernel⟩⟩
set_option maxRecDepth 20000 in
theorem kCL_212 : hm_lV RL 212 yX6_due cX6_due 3 (some .int) 2 := ⟨(hm_in 1225 (by decide +kernel) (by decide +kernel)), (hm_in 1226 (by decide +kernel) (by decide +kernel)), (hm_in 1227 (by decide +kernel) (by decide +kernel)), (hm_in 57 (by decide +kernel) (by decide +kernel)), (hm_in 1228 (by decide +kernel) (by decide +kernel)), ⟨by decide +kernel, by decide +kernel, by decide +kernel⟩⟩
set_option maxRecDepth 20000 in
theorem kCL_215 : hm_lV RL 215 yX6_told cX6_told 3 (some .int) 2 := ⟨(hm_in 1229 (by decide +kernel) (by decide +kernel)), (hm_in 1230 (by decide +kernel) (by decide +kernel)), (hm_in 1231 (by decide +kernel) (by decide +kernel)), (hm_in 57 (by decide +kernel) (by decide +kernel)), (hm_in 1232 (by decide +kernel) (by decide +kernel)), ⟨by decide +kernel, by decide +kernel, by decide +kernel⟩⟩
set_option maxRecDepth 20000 in
theorem kCL_218 : hm_lV RL 218 yX6_average cX6_average 6 (some .int) 2 := ⟨(hm_in 1233 (by decide +kernel) (by decide +kernel)), (hm_in 1234 (by decide +kernel) (by decide +kernel)), (hm_in 1235 (by decide +kernel) (by decide +kernel)), (hm_in 57 (by decide +kernel) (by decide +kernel)), (hm_in 1236 (by decide +kernel) (by decide +kernel)), ⟨by decide +kernel, by decide +kernel, by decide +kernel⟩⟩
set_option maxRecDepth 20000 in
theorem kCL_221 : hm_lV RL 221 yX6_fingerprints cX6_fingerprints 3 (some .int) 2 := ⟨(hm_in 1237 (by decide +kernel) (by decide +kernel)), (hm_in 1238 (by decide +kernel) (by decide +kernel)), (hm_in 1239 (by decide +kernel) (by decide +kernel)), (hm_in 57 (by decide +kernel) (by decide +kernel)), (hm_in 1240 (by decide +kernel) (by decide +kernel)), ⟨by decide +kernel, by decide +kernel, by decide +kernel⟩⟩
set_option maxRecDepth 20000 in
theorem kC6_224 : hm_lV RX6 224 yX6_lay cX6_lay 7 none 1 := ⟨(hm_in 1241 (by decide +kernel) (by decide +kernel)), (hm_in 1243 (by decide +kernel) (by decide +kernel)), (hm_in 50 (by decide +kernel) (by decide +kernel)), (hm_in 57 (by decide +kernel) (by decide +kernel)), (hm_in 1244 (by decide +kernel) (by decide +kernel)), ⟨by decide +kernel, by decide +kernel, by decide +kernel⟩⟩
set_option maxRecDepth 20000 in
theorem kC6_212 : hm_lS RX6 212 yX6_print cX6_print 3 (some .int) 3 := ⟨(hm_in 1245 (by decide +kernel) (by decide +kernel)), (hm_in 1246 (by decide +kernel) (by decide +kernel)), (hm_in 57 (by decide +kernel) (by decide +kernel)), (hm_in 1247 (by decide +kernel) (by decide +kernel)), ⟨by decide +kernel, by decide +kernel, by decide +kernel⟩⟩
set_option maxRecDepth 20000 in
theorem kC6_218 : hm_lS RX6 218 yX6_isInRule cX6_isInRule 4 (some .boolean) 2 := ⟨(hm_in 1248 (by decide +kernel) (by decide +kernel)), (hm_in 1249 (by decide +kernel) (by decide +kernel)), (hm_in 57 (by decide +kernel) (by decide +kernel)), (hm_in 1250 (by decide +kernel) (by decide +kernel)), ⟨by decide +kernel, by decide +kernel, by decide +kernel⟩⟩
set_option maxRecDepth 20000 in
theorem kC6_221 : hm_lV RX6 221 yX6_isPrint cX6_isPrint 4 (some .boolean) 1 := ⟨(hm_in 1251 (by decide +kernel) (by decide +kernel)), (hm_in 1253 (by decide +kernel) (by decide +kernel)), (hm_in 51 (by decide +kernel) (by decide +kernel)), (hm_in 57 (by decide +kernel) (by decide +kernel)), (hm_in 1254 (by decide +kernel) (by decide +kernel)), ⟨by decide +kernel, by decide +kernel, by decide +kernel⟩⟩
set_option maxRecDepth 20000 in
theorem kCL_224 : hm_lV RL 224 yX6_withPrint cX6_withPrint 5 (some .int) 2 := ⟨(hm_in 1255 (by decide +kernel) (by decide +kernel)), (hm_in 1256 (by decide +kernel) (by decide +kernel)), (hm_in 1257 (by decide +kernel) (by decide +kernel)), (hm_in 57 (by decide +kernel) (by decide +kernel)), (hm_in 1258 (by decide +kernel) (by decide +kernel)), ⟨by decide +kernel, by decide +kernel, by decide +kernel⟩⟩
set_option maxRecDepth 20000 in
theorem kCL_227 : hm_lV RL 227 yX6_likeness cX6_likeness 5 (some .int) 3 := ⟨(hm_in 1259 (by decide +kernel) (by decide +kernel)), (hm_in 1260 (by decide +kernel) (by decide +kernel)), (hm_in 1261 (by decide +kernel) (by decide +kernel)), (hm_in 57 (by decide +kernel) (by decide +kernel)), (hm_in 1262 (by decide +kernel) (by decide +kernel)), ⟨by decide +kernel, by decide +kernel, by decide +kernel⟩⟩
set_option maxRecDepth 20000 in
theorem kC6_227 : hm_lV RX6 227 yX6_alike cX6_alike 6 (some .int) 2 := ⟨(hm_in 1263 (by decide +kernel) (by decide +kernel)), (hm_in 1265 (by decide +kernel) (by decide +kernel)), (hm_in 52 (by decide +kernel) (by decide +kernel)), (hm_in 57 (by decide +kernel) (by decide +kernel)), (hm_in 1266 (by decide +kernel) (by decide +kernel)), ⟨by decide +kernel, by decide +kernel, by decide +kernel⟩⟩
set_option maxRecDepth 20000 in
theorem kCL_230 : hm_lV RL 230 yX6_pairs cX6_pairs 2 (some .int) 1 := ⟨(hm_in 1267 (by decide +kernel) (by decide +kernel)), (hm_in 1268 (by decide +kernel) (by decide +kernel)), (hm_in 1269 (by decide +kernel) (by decide +kernel)), (hm_in 57 (by decide +kernel) (by decide +kernel)), (hm_in 1270 (by decide +kernel) (by decide +kernel)), ⟨by decide +kernel, by decide +kernel, by decide +kernel⟩⟩
set_option maxRecDepth 20000 in
theorem kC6_233 : hm_lV RX6 233 yX6_pairsOf cX6_pairsOf 4 (some .int) 1 := ⟨(hm_in 1271 (by decide +kernel) (by decide +kernel)), (hm_in 1273 (by decide +kernel) (by decide +kernel)), (hm_in 53 (by decide +kernel) (by decide +kernel)), (hm_in 57 (by decide +kernel) (by decide +kernel)), (hm_in 1274 (by decide +kernel) (by decide +kernel)), ⟨by decide +kernel, by decide +kernel, by decide +kernel⟩⟩
set_option maxRecDepth 20000 in
theorem kC6_230 : hm_lV RX6 230 yX6_isPair cX6_isPair 5 (some .boolean) 3 := ⟨(hm_in 1275 (by decide +kernel) (by decide +kernel)), (hm_in 1277 (by decide +kernel) (by decide +kernel)), (hm_in 54 (by decide +kernel) (by decide +kernel)), (hm_in 57 (by decide +kernel) (by decide +kernel)), (hm_in 1278 (by decide +kernel) (by decide +kernel)), ⟨by decide +kernel, by decide +kernel, by decide +kernel⟩⟩
set_option maxRecDepth 20000 in
theorem kCL_233 : hm_lV RL 233 yX6_pairAt cX6_pairAt 7 (some .int) 2 := ⟨(hm_in 1279 (by decide +kernel) (by decide +kernel)), (hm_in 1280 (by decide +kernel) (by decide +kernel)), (hm_in 1281 (by decide +kernel) (by decide +kernel)), (hm_in 57 (by decide +kernel) (by decide +kernel)), (hm_in 1282 (by decide +kernel) (by decide +kernel)), ⟨by decide +kernel, by decide +kernel, by decide +kernel⟩⟩
set_option maxRecDepth 20000 in
theorem kCL_236 : hm_lV RL 236 yX6_pairsAnew cX6_pairsAnew 2 (some .int) 1 := ⟨(hm_in 1283 (by decide +kernel) (by decide +kernel)), (hm_in 1284 (by decide +kernel) (by decide +kernel)), (hm_in 1285 (by decide +kernel) (by decide +kernel)), (hm_in 57 (by decide +kernel) (by decide +kernel)), (hm_in 1286 (by decide +kernel) (by decide +kernel)), ⟨by decide +kernel, by decide +kernel, by decide +kernel⟩⟩
set_option maxRecDepth 20000 in
theorem kC6_236 : hm_lV RX6 236 yX6_pairs cX6_pairs 2 (some .int) 1 := ⟨(hm_in 1287 (by decide +kernel) (by decide +kernel)), (hm_in 1268 (by decide +kernel) (by decide +kernel)), (hm_in 1269 (by decide +kernel) (by decide +kernel)), (hm_in 57 (by decide +kernel) (by decide +kernel)), (hm_in 1270 (by decide +kernel) (by decide +kernel)), ⟨by decide +kernel, by decide +kernel, by decide +kernel⟩⟩
set_option maxRecDepth 20000 in
theorem kCL_239 : hm_lV RL 239 yX6_setQuota cX6_setQuota 4 (some .int) 2 := ⟨(hm_in 1288 (by decide +kernel) (by decide +kernel)), (hm_in 1289 (by decide +kernel) (by decide +kernel)), (hm_in 1290 (by decide +kernel) (by decide +kernel)), (hm_in 57 (by decide +kernel) (by decide +kernel)), (hm_in 1291 (by decide +kernel) (by decide +kernel)), ⟨by decide +kernel, by decide +kernel, by decide +kernel⟩⟩
set_option maxRecDepth 20000 in
theorem kCL_242 : hm_lV RL 242 yX6_used cX6_used 2 (some .int) 1 := ⟨(hm_in 1292 (by decide +kernel) (by decide +kernel)), (hm_in 1293 (by decide +kernel) (by decide +kernel)), (hm_in 1294 (by decide +kernel) (by decide +kernel)), (hm_in 57 (by decide +kernel) (by decide +kernel)), (hm_in 1295 (by decide +kernel) (by decide +kernel)), ⟨by decide +kernel, by decide +kernel, by decide +kernel⟩⟩
set_option maxRecDepth 20000 in
theorem kCL_245 : hm_lV RL 245 yX6_usedAnew cX6_usedAnew 2 (some .int) 1 := ⟨(hm_in 1296 (by decide +kernel) (by decide +kernel)), (hm_in 1297 (by decide +kernel) (by decide +kernel)), (hm_in 1298 (by decide +kernel) (by decide +kernel)), (hm_in 57 (by decide +kernel) (by decide +kernel)), (hm_in 1299 (by decide +kernel) (by decide +kernel)), ⟨by decide +kernel, by decide +kernel, by decide +kernel⟩⟩
set_option maxRecDepth 20000 in
theorem kC6_239 : hm_lV RX6 239 yX6_used cX6_used 2 (some .int) 1 := ⟨(hm_in 1300 (by decide +kernel) (by decide +kernel)), (hm_in 1293 (by decide +kernel) (by decide +kernel)), (hm_in 1294 (by decide +kernel) (by decide +kernel)), (hm_in 57 (by decide +kernel) (by decide +kernel)), (hm_in 1295 (by decide +kernel) (by decide +kernel)), ⟨by decide +kernel, by decide +kernel, by decide +kernel⟩⟩
set_option maxRecDepth 20000 in
theorem kM5_29 : Cond.classLink RX5 29 ("[" ++ (FieldType.array .int).toString) ∈ hm_tbl := (hm_in 81 (by decide +kernel) (by decide +kernel))
