set_option maxRecDepth 20000 in
theorem hF_in0 : ∀ w ∈ u_ws RX0 TX0 8, w ∈ hm_tbl := fun w h => List.mem_filter.mpr ⟨inX0 w h, (show ∀ w ∈ u_ws RX0 TX0 8, goodWord w = true by decide +kernel) w h⟩
set_option maxRecDepth 20000 in
theorem hF_in1 : ∀ w ∈ u_ws RX1 TX1 4, w ∈ hm_tbl := fun w h => List.mem_filter.mpr ⟨inX1 w h, (show ∀ w ∈ u_ws RX1 TX1 4, goodWord w = true by decide +kernel) w h⟩
set_option maxRecDepth 20000 in
theorem hF_in2 : ∀ w ∈ u_ws RX2 TX2 5, w ∈ hm_tbl := fun w h => List.mem_filter.mpr ⟨inX2 w h, (show ∀ w ∈ u_ws RX2 TX2 5, goodWord w = true by decide +kernel) w h⟩
set_option maxRecDepth 20000 in
theorem hF_in3 : ∀ w ∈ u_ws RX3 TX3 5, w ∈ hm_tbl := fun w h => List.mem_filter.mpr ⟨inX3 w h, (show ∀ w ∈ u_ws RX3 TX3 5, goodWord w = true by decide +kernel) w h⟩
set_option maxRecDepth 20000 in
theorem hF_in4 : ∀ w ∈ u_ws RX4 TX4 4, w ∈ hm_tbl := fun w h => List.mem_filter.mpr ⟨inX4 w h, (show ∀ w ∈ u_ws RX4 TX4 4, goodWord w = true by decide +kernel) w h⟩
set_option maxRecDepth 20000 in
theorem hF_in5 : ∀ w ∈ u_ws RX5 TX5 7, w ∈ hm_tbl := fun w h => List.mem_filter.mpr ⟨inX5 w h, (show ∀ w ∈ u_ws RX5 TX5 7, goodWord w = true by decide +kernel) w h⟩
set_option maxRecDepth 20000 in
theorem kF5_11 : hm_lF RX5 11 5 0 (tyX5 0) true true := ⟨RX5, TX5, 7, tyX5, rfl, by decide, (hm_in 49 (by decide +kernel) (by decide +kernel)), hF_in5, tyX5_ok, nmX5, rfl, rfl, fun _ => ⟨rfl, rfl⟩⟩
set_option maxRecDepth 20000 in
theorem kF5_15 : hm_lF RX5 15 5 1 (tyX5 1) false false := ⟨RX5, TX5, 7, tyX5, rfl, by decide, (hm_in 50 (by decide +kernel) (by decide +kernel)), hF_in5, tyX5_ok, nmX5, rfl, rfl, fun h => absurd h (by decide)⟩
set_option maxRecDepth 20000 in
theorem kF5_19 : hm_lF RX5 19 5 2 (tyX5 2) true true := ⟨RX5, TX5, 7, tyX5, rfl, by decide, (hm_in 51 (by decide +kernel) (by decide +kernel)), hF_in5, tyX5_ok, nmX5, rfl, rfl, fun _ => ⟨rfl, rfl⟩⟩
set_option maxRecDepth 20000 in
theorem kF5_23 : hm_lF RX5 23 5 3 (tyX5 3) true true := ⟨RX5, TX5, 7, tyX5, rfl, by decide, (hm_in 52 (by decide +kernel) (by decide +kernel)), hF_in5, tyX5_ok, nmX5, rfl, rfl, fun _ => ⟨rfl, rfl⟩⟩
set_option maxRecDepth 20000 in
theorem kF5_26 : hm_lF RX5 26 5 4 (tyX5 4) true true := ⟨RX5, TX5, 7, tyX5, rfl, by decide, (hm_in 53 (by decide +kernel) (by decide +kernel)), hF_in5, tyX5_ok, nmX5, rfl, rfl, fun _ => ⟨rfl, rfl⟩⟩
set_option maxRecDepth 20000 in
theorem kF5_31 : hm_lF RX5 31 5 5 (tyX5 5) true true := ⟨RX5, TX5, 7, tyX5, rfl, by decide, (hm_in 54 (by decide +kernel) (by decide +kernel)), hF_in5, tyX5_ok, nmX5, rfl, rfl, fun _ => ⟨rfl, rfl⟩⟩
set_option maxRecDepth 20000 in
theorem kF5_34 : hm_lF RX5 34 5 6 (tyX5 6) true true := ⟨RX5, TX5, 7, tyX5, rfl, by decide, (hm_in 55 (by decide +kernel) (by decide +kernel)), hF_in5, tyX5_ok, nmX5, rfl, rfl, fun _ => ⟨rfl, rfl⟩⟩
set_option maxRecDepth 20000 in
theorem kF4_17 : hm_lF RX4 17 4 0 (tyX4 0) true true := ⟨RX4, TX4, 4, tyX4, rfl, by decide, (hm_in 164 (by decide +kernel) (by decide +kernel)), hF_in4, tyX4_ok, nmX4, rfl, rfl, fun _ => ⟨rfl, rfl⟩⟩
set_option maxRecDepth 20000 in
theorem kF3_37 : hm_lF RX3 37 4 0 (tyX4 0) true false := ⟨RX4, TX4, 4, tyX4, rfl, by decide, (hm_in 165 (by decide +kernel) (by decide +kernel)), hF_in4, tyX4_ok, nmX4, rfl, rfl, fun h => absurd h (by decide)⟩
set_option maxRecDepth 20000 in
theorem kF5_293 : hm_lF RX5 293 4 0 (tyX4 0) true false := ⟨RX4, TX4, 4, tyX4, rfl, by decide, (hm_in 166 (by decide +kernel) (by decide +kernel)), hF_in4, tyX4_ok, nmX4, rfl, rfl, fun h => absurd h (by decide)⟩
set_option maxRecDepth 20000 in
theorem kF4_21 : hm_lF RX4 21 4 1 (tyX4 1) true true := ⟨RX4, TX4, 4, tyX4, rfl, by decide, (hm_in 167 (by decide +kernel) (by decide +kernel)), hF_in4, tyX4_ok, nmX4, rfl, rfl, fun _ => ⟨rfl, rfl⟩⟩
set_option maxRecDepth 20000 in
theorem kF5_113 : hm_lF RX5 113 4 1 (tyX4 1) true false := ⟨RX4, TX4, 4, tyX4, rfl, by decide, (hm_in 168 (by decide +kernel) (by decide +kernel)), hF_in4, tyX4_ok, nmX4, rfl, rfl, fun h => absurd h (by decide)⟩
set_option maxRecDepth 20000 in
theorem kF3_69 : hm_lF RX3 69 4 1 (tyX4 1) true false := ⟨RX4, TX4, 4, tyX4, rfl, by decide, (hm_in 169 (by decide +kernel) (by decide +kernel)), hF_in4, tyX4_ok, nmX4, rfl, rfl, fun h => absurd h (by decide)⟩
set_option maxRecDepth 20000 in
theorem kF4_24 : hm_lF RX4 24 4 2 (tyX4 2) false false := ⟨RX4, TX4, 4, tyX4, rfl, by decide, (hm_in 170 (by decide +kernel) (by decide +kernel)), hF_in4, tyX4_ok, nmX4, rfl, rfl, fun h => absurd h (by decide)⟩
set_option maxRecDepth 20000 in
theorem kF3_55 : hm_lF RX3 55 4 2 (tyX4 2) false false := ⟨RX4, TX4, 4, tyX4, rfl, by decide, (hm_in 171 (by decide +kernel) (by decide +kernel)), hF_in4, tyX4_ok, nmX4, rfl, rfl, fun h => absurd h (by decide)⟩
set_option maxRecDepth 20000 in
theorem kF5_135 : hm_lF RX5 135 4 2 (tyX4 2) false false := ⟨RX4, TX4, 4, tyX4, rfl, by decide, (hm_in 172 (by decide +kernel) (by decide +kernel)), hF_in4, tyX4_ok, nmX4, rfl, rfl, fun h => absurd h (by decide)⟩
set_option maxRecDepth 20000 in
theorem kF4_11 : hm_lF RX4 11 4 3 (tyX4 3) true true := ⟨RX4, TX4, 4, tyX4, rfl, by decide, (hm_in 173 (by decide +kernel) (by decide +kernel)), hF_in4, tyX4_ok, nmX4, rfl, rfl, fun _ => ⟨rfl, rfl⟩⟩
set_option maxRecDepth 20000 in
theorem kF5_296 : hm_lF RX5 296 4 3 (tyX4 3) true false := ⟨RX4, TX4, 4, tyX4, rfl, by decide, (hm_in 174 (by decide +kernel) (by decide +kernel)), hF_in4, tyX4_ok, nmX4, rfl, rfl, fun h => absurd h (by decide)⟩
set_option maxRecDepth 20000 in
theorem kF3_11 : hm_lF RX3 11 3 0 (tyX3 0) true true := ⟨RX3, TX3, 5, tyX3, rfl, by decide, (hm_in 185 (by decide +kernel) (by decide +kernel)), hF_in3, tyX3_ok, nmX3, rfl, rfl, fun _ => ⟨rfl, rfl⟩⟩
set_option maxRecDepth 20000 in
theorem kF5_132 : hm_lF RX5 132 3 0 (tyX3 0) true false := ⟨RX3, TX3, 5, tyX3, rfl, by decide, (hm_in 186 (by decide +kernel) (by decide +kernel)), hF_in3, tyX3_ok, nmX3, rfl, rfl, fun h => absurd h (by decide)⟩
set_option maxRecDepth 20000 in
theorem kF3_17 : hm_lF RX3 17 3 1 (tyX3 1) false false := ⟨RX3, TX3, 5, tyX3, rfl, by decide, (hm_in 187 (by decide +kernel) (by decide +kernel)), hF_in3, tyX3_ok, nmX3, rfl, rfl, fun h => absurd h (by decide)⟩
set_option maxRecDepth 20000 in
theorem kF5_300 : hm_lF RX5 300 3 1 (tyX3 1) false false := ⟨RX3, TX3, 5, tyX3, rfl, by decide, (hm_in 188 (by decide +kernel) (by decide +kernel)), hF_in3, tyX3_ok, nmX3, rfl, rfl, fun h => absurd h (by decide)⟩
set_option maxRecDepth 20000 in
theorem kF3_21 : hm_lF RX3 21 3 2 (tyX3 2) true true := ⟨RX3, TX3, 5, tyX3, rfl, by decide, (hm_in 189 (by decide +kernel) (by decide +kernel)), hF_in3, tyX3_ok, nmX3, rfl, rfl, fun _ => ⟨rfl, rfl⟩⟩
set_option maxRecDepth 20000 in
theorem kF5_76 : hm_lF RX5 76 3 2 (tyX3 2) true false := ⟨RX3, TX3, 5, tyX3, rfl, by decide, (hm_in 190 (by decide +kernel) (by decide +kernel)), hF_in3, tyX3_ok, nmX3, rfl, rfl, fun h => absurd h (by decide)⟩
set_option maxRecDepth 20000 in
theorem kF3_24 : hm_lF RX3 24 3 3 (tyX3 3) true true := ⟨RX3, TX3, 5, tyX3, rfl, by decide, (hm_in 191 (by decide +kernel) (by decide +kernel)), hF_in3, tyX3_ok, nmX3, rfl, rfl, fun _ => ⟨rfl, rfl⟩⟩
set_option maxRecDepth 20000 in
theorem kF5_166 : hm_lF RX5 166 3 3 (tyX3 3) true false := ⟨RX3, TX3, 5, tyX3, rfl, by decide, (hm_in 192 (by decide +kernel) (by decide +kernel)), hF_in3, tyX3_ok, nmX3, rfl, rfl, fun h => absurd h (by decide)⟩
set_option maxRecDepth 20000 in
theorem kF3_30 : hm_lF RX3 30 3 4 (tyX3 4) true true := ⟨RX3, TX3, 5, tyX3, rfl, by decide, (hm_in 193 (by decide +kernel) (by decide +kernel)), hF_in3, tyX3_ok, nmX3, rfl, rfl, fun _ => ⟨rfl, rfl⟩⟩
set_option maxRecDepth 20000 in
theorem kF5_160 : hm_lF RX5 160 3 4 (tyX3 4) true false := ⟨RX3, TX3, 5, tyX3, rfl, by decide, (hm_in 194 (by decide +kernel) (by decide +kernel)), hF_in3, tyX3_ok, nmX3, rfl, rfl, fun h => absurd h (by decide)⟩
set_option maxRecDepth 20000 in
theorem kF1_9 : hm_lF RX1 9 1 0 (tyX1 0) true true := ⟨RX1, TX1, 4, tyX1, rfl, by decide, (hm_in 284 (by decide +kernel) (by decide +kernel)), hF_in1, tyX1_ok, nmX1, rfl, rfl, fun _ => ⟨rfl, rfl⟩⟩
set_option maxRecDepth 20000 in
theorem kF0_55 : hm_lF RX0 55 1 0 (tyX1 0) true false := ⟨RX1, TX1, 4, tyX1, rfl, by decide, (hm_in 285 (by decide +kernel) (by decide +kernel)), hF_in1, tyX1_ok, nmX1, rfl, rfl, fun h => absurd h (by decide)⟩
set_option maxRecDepth 20000 in
theorem kF5_139 : hm_lF RX5 139 1 0 (tyX1 0) true false := ⟨RX1, TX1, 4, tyX1, rfl, by decide, (hm_in 286 (by decide +kernel) (by decide +kernel)), hF_in1, tyX1_ok, nmX1, rfl, rfl, fun h => absurd h (by decide)⟩
set_option maxRecDepth 20000 in
theorem kF1_15 : hm_lF RX1 15 1 1 (tyX1 1) true true := ⟨RX1, TX1, 4, tyX1, rfl, by decide, (hm_in 287 (by decide +kernel) (by decide +kernel)), hF_in1, tyX1_ok, nmX1, rfl, rfl, fun _ => ⟨rfl, rfl⟩⟩
set_option maxRecDepth 20000 in
theorem kF5_146 : hm_lF RX5 146 1 1 (tyX1 1) true false := ⟨RX1, TX1, 4, tyX1, rfl, by decide, (hm_in 288 (by decide +kernel) (by decide +kernel)), hF_in1, tyX1_ok, nmX1, rfl, rfl, fun h => absurd h (by decide)⟩
set_option maxRecDepth 20000 in
theorem kF1_18 : hm_lF RX1 18 1 2 (tyX1 2) false false := ⟨RX1, TX1, 4, tyX1, rfl, by decide, (hm_in 289 (by decide +kernel) (by decide +kernel)), hF_in1, tyX1_ok, nmX1, rfl, rfl, fun h => absurd h (by decide)⟩
set_option maxRecDepth 20000 in
theorem kF0_60 : hm_lF RX0 60 1 2 (tyX1 2) false false := ⟨RX1, TX1, 4, tyX1, rfl, by decide, (hm_in 290 (by decide +kernel) (by decide +kernel)), hF_in1, tyX1_ok, nmX1, rfl, rfl, fun h => absurd h (by decide)⟩
set_option maxRecDepth 20000 in
theorem kF5_314 : hm_lF RX5 314 1 2 (tyX1 2) false false := ⟨RX1, TX1, 4, tyX1, rfl, by decide, (hm_in 291 (by decide +kernel) (by decide +kernel)), hF_in1, tyX1_ok, nmX1, rfl, rfl, fun h => absurd h (by decide)⟩
set_option maxRecDepth 20000 in
theorem kF1_21 : hm_lF RX1 21 1 3 (tyX1 3) false false := ⟨RX1, TX1, 4, tyX1, rfl, by decide, (hm_in 292 (by decide +kernel) (by decide +kernel)), hF_in1, tyX1_ok, nmX1, rfl, rfl, fun h => absurd h (by decide)⟩
set_option maxRecDepth 20000 in
theorem kF5_317 : hm_lF RX5 317 1 3 (tyX1 3) false false := ⟨RX1, TX1, 4, tyX1, rfl, by decide, (hm_in 293 (by decide +kernel) (by decide +kernel)), hF_in1, tyX1_ok, nmX1, rfl, rfl, fun h => absurd h (by decide)⟩
set_option maxRecDepth 20000 in
theorem kF2_9 : hm_lF RX2 9 2 0 (tyX2 0) false false := ⟨RX2, TX2, 5, tyX2, rfl, by decide, (hm_in 612 (by decide +kernel) (by decide +kernel)), hF_in2, tyX2_ok, nmX2, rfl, rfl, fun h => absurd h (by decide)⟩
set_option maxRecDepth 20000 in
theorem kF1_31 : hm_lF RX1 31 2 0 (tyX2 0) false false := ⟨RX2, TX2, 5, tyX2, rfl, by decide, (hm_in 613 (by decide +kernel) (by decide +kernel)), hF_in2, tyX2_ok, nmX2, rfl, rfl, fun h => absurd h (by decide)⟩
set_option maxRecDepth 20000 in
theorem kF2_15 : hm_lF RX2 15 2 1 (tyX2 1) false false := ⟨RX2, TX2, 5, tyX2, rfl, by decide, (hm_in 614 (by decide +kernel) (by decide +kernel)), hF_in2, tyX2_ok, nmX2, rfl, rfl, fun h => absurd h (by decide)⟩
set_option maxRecDepth 20000 in
theorem kF1_37 : hm_lF RX1 37 2 1 (tyX2 1) false false := ⟨RX2, TX2, 5, tyX2, rfl, by decide, (hm_in 615 (by decide +kernel) (by decide +kernel)), hF_in2, tyX2_ok, nmX2, rfl, rfl, fun h => absurd h (by decide)⟩
set_option maxRecDepth 20000 in
theorem kF2_19 : hm_lF RX2 19 2 2 (tyX2 2) false false := ⟨RX2, TX2, 5, tyX2, rfl, by decide, (hm_in 616 (by decide +kernel) (by decide +kernel)), hF_in2, tyX2_ok, nmX2, rfl, rfl, fun h => absurd h (by decide)⟩
set_option maxRecDepth 20000 in
theorem kF1_45 : hm_lF RX1 45 2 2 (tyX2 2) false false := ⟨RX2, TX2, 5, tyX2, rfl, by decide, (hm_in 617 (by decide +kernel) (by decide +kernel)), hF_in2, tyX2_ok, nmX2, rfl, rfl, fun h => absurd h (by decide)⟩
set_option maxRecDepth 20000 in
theorem kF2_22 : hm_lF RX2 22 2 3 (tyX2 3) true true := ⟨RX2, TX2, 5, tyX2, rfl, by decide, (hm_in 618 (by decide +kernel) (by decide +kernel)), hF_in2, tyX2_ok, nmX2, rfl, rfl, fun _ => ⟨rfl, rfl⟩⟩
set_option maxRecDepth 20000 in
theorem kF5_349 : hm_lF RX5 349 2 3 (tyX2 3) true false := ⟨RX2, TX2, 5, tyX2, rfl, by decide, (hm_in 619 (by decide +kernel) (by decide +kernel)), hF_in2, tyX2_ok, nmX2, rfl, rfl, fun h => absurd h (by decide)⟩
set_option maxRecDepth 20000 in
theorem kF2_26 : hm_lF RX2 26 2 4 (tyX2 4) false false := ⟨RX2, TX2, 5, tyX2, rfl, by decide, (hm_in 620 (by decide +kernel) (by decide +kernel)), hF_in2, tyX2_ok, nmX2, rfl, rfl, fun h => absurd h (by decide)⟩
set_option maxRecDepth 20000 in
theorem kF0_67 : hm_lF RX0 67 2 4 (tyX2 4) false false := ⟨RX2, TX2, 5, tyX2, rfl, by decide, (hm_in 621 (by decide +kernel) (by decide +kernel)), hF_in2, tyX2_ok, nmX2, rfl, rfl, fun h => absurd h (by decide)⟩
set_option maxRecDepth 20000 in
theorem kF5_343 : hm_lF RX5 343 2 4 (tyX2 4) false false := ⟨RX2, TX2, 5, tyX2, rfl, by decide, (hm_in 622 (by decide +kernel) (by decide +kernel)), hF_in2, tyX2_ok, nmX2, rfl, rfl, fun h => absurd h (by decide)⟩
set_option maxRecDepth 20000 in
theorem kF0_38 : hm_lF RX0 38 0 0 (tyX0 0) true true := ⟨RX0, TX0, 8, tyX0, rfl, by decide, (hm_in 634 (by decide +kernel) (by decide +kernel)), hF_in0, tyX0_ok, nmX0, rfl, rfl, fun _ => ⟨rfl, rfl⟩⟩
set_option maxRecDepth 20000 in
theorem kF3_51 : hm_lF RX3 51 0 0 (tyX0 0) true false := ⟨RX0, TX0, 8, tyX0, rfl, by decide, (hm_in 635 (by decide +kernel) (by decide +kernel)), hF_in0, tyX0_ok, nmX0, rfl, rfl, fun h => absurd h (by decide)⟩
set_option maxRecDepth 20000 in
theorem kF5_180 : hm_lF RX5 180 0 0 (tyX0 0) true false := ⟨RX0, TX0, 8, tyX0, rfl, by decide, (hm_in 636 (by decide +kernel) (by decide +kernel)), hF_in0, tyX0_ok, nmX0, rfl, rfl, fun h => absurd h (by decide)⟩
set_option maxRecDepth 20000 in
theorem kF0_11 : hm_lF RX0 11 0 1 (tyX0 1) true true := ⟨RX0, TX0, 8, tyX0, rfl, by decide, (hm_in 637 (by decide +kernel) (by decide +kernel)), hF_in0, tyX0_ok, nmX0, rfl, rfl, fun _ => ⟨rfl, rfl⟩⟩
set_option maxRecDepth 20000 in
theorem kF5_183 : hm_lF RX5 183 0 1 (tyX0 1) true false := ⟨RX0, TX0, 8, tyX0, rfl, by decide, (hm_in 638 (by decide +kernel) (by decide +kernel)), hF_in0, tyX0_ok, nmX0, rfl, rfl, fun h => absurd h (by decide)⟩
set_option maxRecDepth 20000 in
theorem kF0_17 : hm_lF RX0 17 0 2 (tyX0 2) false false := ⟨RX0, TX0, 8, tyX0, rfl, by decide, (hm_in 639 (by decide +kernel) (by decide +kernel)), hF_in0, tyX0_ok, nmX0, rfl, rfl, fun h => absurd h (by decide)⟩
set_option maxRecDepth 20000 in
theorem kF5_208 : hm_lF RX5 208 0 2 (tyX0 2) false false := ⟨RX0, TX0, 8, tyX0, rfl, by decide, (hm_in 640 (by decide +kernel) (by decide +kernel)), hF_in0, tyX0_ok, nmX0, rfl, rfl, fun h => absurd h (by decide)⟩
set_option maxRecDepth 20000 in
theorem kF0_21 : hm_lF RX0 21 0 3 (tyX0 3) false false := ⟨RX0, TX0, 8, tyX0, rfl, by decide, (hm_in 641 (by decide +kernel) (by decide +kernel)), hF_in0, tyX0_ok, nmX0, rfl, rfl, fun h => absurd h (by decide)⟩
set_option maxRecDepth 20000 in
theorem kF5_219 : hm_lF RX5 219 0 3 (tyX0 3) false false := ⟨RX0, TX0, 8, tyX0, rfl, by decide, (hm_in 642 (by decide +kernel) (by decide +kernel)), hF_in0, tyX0_ok, nmX0, rfl, rfl, fun h => absurd h (by decide)⟩
set_option maxRecDepth 20000 in
theorem kF0_25 : hm_lF RX0 25 0 4 (tyX0 4) false false := ⟨RX0, TX0, 8, tyX0, rfl, by decide, (hm_in 643 (by decide +kernel) (by decide +kernel)), hF_in0, tyX0_ok, nmX0, rfl, rfl, fun h => absurd h (by decide)⟩
set_option maxRecDepth 20000 in
theorem kF5_216 : hm_lF RX5 216 0 4 (tyX0 4) false false := ⟨RX0, TX0, 8, tyX0, rfl, by decide, (hm_in 644 (by decide +kernel) (by decide +kernel)), hF_in0, tyX0_ok, nmX0, rfl, rfl, fun h => absurd h (by decide)⟩
set_option maxRecDepth 20000 in
theorem kF0_28 : hm_lF RX0 28 0 5 (tyX0 5) false false := ⟨RX0, TX0, 8, tyX0, rfl, by decide, (hm_in 645 (by decide +kernel) (by decide +kernel)), hF_in0, tyX0_ok, nmX0, rfl, rfl, fun h => absurd h (by decide)⟩
set_option maxRecDepth 20000 in
theorem kF5_229 : hm_lF RX5 229 0 5 (tyX0 5) false false := ⟨RX0, TX0, 8, tyX0, rfl, by decide, (hm_in 646 (by decide +kernel) (by decide +kernel)), hF_in0, tyX0_ok, nmX0, rfl, rfl, fun h => absurd h (by decide)⟩
set_option maxRecDepth 20000 in
theorem kF0_31 : hm_lF RX0 31 0 6 (tyX0 6) true true := ⟨RX0, TX0, 8, tyX0, rfl, by decide, (hm_in 647 (by decide +kernel) (by decide +kernel)), hF_in0, tyX0_ok, nmX0, rfl, rfl, fun _ => ⟨rfl, rfl⟩⟩
set_option maxRecDepth 20000 in
theorem kF0_35 : hm_lF RX0 35 0 7 (tyX0 7) false false := ⟨RX0, TX0, 8, tyX0, rfl, by decide, (hm_in 648 (by decide +kernel) (by decide +kernel)), hF_in0, tyX0_ok, nmX0, rfl, rfl, fun h => absurd h (by decide)⟩
set_option maxRecDepth 20000 in
theorem kF3_62 : hm_lF RX3 62 0 7 (tyX0 7) false false := ⟨RX0, TX0, 8, tyX0, rfl, by decide, (hm_in 649 (by decide +kernel) (by decide +kernel)), hF_in0, tyX0_ok, nmX0, rfl, rfl, fun h => absurd h (by decide)⟩
set_option maxRecDepth 20000 in
theorem kF5_232 : hm_lF RX5 232 0 7 (tyX0 7) false false := ⟨RX0, TX0, 8, tyX0, rfl, by decide, (hm_in 650 (by decide +kernel) (by decide +kernel)), hF_in0, tyX0_ok, nmX0, rfl, rfl, fun h => absurd h (by decide)⟩
set_option maxRecDepth 20000 in
theorem kCL_231 : hm_lI RL 231 yX5_init cX5_init 2 0 := ⟨(hm_in 39 (by decide +kernel) (by decide +kernel)), (hm_in 40 (by decide +kernel) (by decide +kernel)), (hm_in 23 (by decide +kernel) (by decide +kernel)), (hm_in 41 (by decide +kernel) (by decide +kernel)), ⟨by decide +kernel, by decide +kernel, by decide +kernel⟩, rfl⟩
set_option maxRecDepth 20000 in
theorem kCL_7 : hm_lV RL 7 yX5_addSheet cX5_addSheet 2 (some .int) 0 := ⟨(hm_in 76 (by decide +kernel) (by decide +kernel)), (hm_in 77 (by decide +kernel) (by decide +kernel)), (hm_in 78 (by decide +kernel) (by decide +kernel)), (hm_in 23 (by decide +kernel) (by decide +kernel)), (hm_in 79 (by decide +kernel) (by decide +kernel)), ⟨by decide +kernel, by decide +kernel, by decide +kernel⟩⟩
set_option maxRecDepth 20000 in
theorem kC5_44 : hm_lI RX5 44 yX3_init cX3_init 3 0 := ⟨(hm_in 149 (by decide +kernel) (by decide +kernel)), (hm_in 150 (by decide +kernel) (by decide +kernel)), (hm_in 28 (by decide +kernel) (by decide +kernel)), (hm_in 151 (by decide +kernel) (by decide +kernel)), ⟨by decide +kernel, by decide +kernel, by decide +kernel⟩, rfl⟩
set_option maxRecDepth 20000 in
theorem kC3_34 : hm_lI RX3 34 yX4_init cX4_init 4 3 := ⟨(hm_in 158 (by decide +kernel) (by decide +kernel)), (hm_in 159 (by decide +kernel) (by decide +kernel)), (hm_in 29 (by decide +kernel) (by decide +kernel)), (hm_in 160 (by decide +kernel) (by decide +kernel)), ⟨by decide +kernel, by decide +kernel, by decide +kernel⟩, rfl⟩
set_option maxRecDepth 20000 in
theorem kCL_232 : hm_lS RL 232 yL_drawn cL_drawn 2 (some .int) 2 := ⟨(hm_in 207 (by decide +kernel) (by decide +kernel)), (hm_in 208 (by decide +kernel) (by decide +kernel)), (hm_in 22 (by decide +kernel) (by decide +kernel)), (hm_in 209 (by decide +kernel) (by decide +kernel)), ⟨by decide +kernel, by decide +kernel, by decide +kernel⟩⟩
set_option maxRecDepth 20000 in
theorem kCL_129 : hm_lV RL 129 yX5_sheets cX5_sheets 1 (some .int) 0 := ⟨(hm_in 215 (by decide +kernel) (by decide +kernel)), (hm_in 216 (by decide +kernel) (by decide +kernel)), (hm_in 217 (by decide +kernel) (by decide +kernel)), (hm_in 23 (by decide +kernel) (by decide +kernel)), (hm_in 218 (by decide +kernel) (by decide +kernel)), ⟨by decide +kernel, by decide +kernel, by decide +kernel⟩⟩
set_option maxRecDepth 20000 in
theorem kCL_16 : hm_lV RL 16 yX5_setNumber cX5_setNumber 8 (some .int) 6 := ⟨(hm_in 224 (by decide +kernel) (by decide +kernel)), (hm_in 225 (by decide +kernel) (by decide +kernel)), (hm_in 226 (by decide +kernel) (by decide +kernel)), (hm_in 23 (by decide +kernel) (by decide +kernel)), (hm_in 227 (by decide +kernel) (by decide +kernel)), ⟨by decide +kernel, by decide +kernel, by decide +kernel⟩⟩
set_option maxRecDepth 20000 in
theorem kC5_45 : hm_lS RX5 45 yX5_checkClass cX5_checkClass 1 none 1 := ⟨(hm_in 228 (by decide +kernel) (by decide +kernel)), (hm_in 229 (by decide +kernel) (by decide +kernel)), (hm_in 23 (by decide +kernel) (by decide +kernel)), (hm_in 230 (by decide +kernel) (by decide +kernel)), ⟨by decide +kernel, by decide +kernel, by decide +kernel⟩⟩
set_option maxRecDepth 20000 in
theorem kC5_49 : hm_lV RX5 49 yX5_sheetAt cX5_sheetAt 3 (some (.object "SheetVault$Sheet")) 1 := ⟨(hm_in 247 (by decide +kernel) (by decide +kernel)), (hm_in 249 (by decide +kernel) (by decide +kernel)), (hm_in 1 (by decide +kernel) (by decide +kernel)), (hm_in 23 (by decide +kernel) (by decide +kernel)), (hm_in 250 (by decide +kernel) (by decide +kernel)), ⟨by decide +kernel, by decide +kernel, by decide +kernel⟩⟩
set_option maxRecDepth 20000 in
theorem kC5_53 : hm_lS RX5 53 yX5_checkTask cX5_checkTask 1 none 1 := ⟨(hm_in 252 (by decide +kernel) (by decide +kernel)), (hm_in 253 (by decide +kernel) (by decide +kernel)), (hm_in 23 (by decide +kernel) (by decide +kernel)), (hm_in 254 (by decide +kernel) (by decide +kernel)), ⟨by decide +kernel, by decide +kernel, by decide +kernel⟩⟩
set_option maxRecDepth 20000 in
theorem kC5_56 : hm_lS RX5 56 yX5_checkRange cX5_checkRange 3 none 3 := ⟨(hm_in 256 (by decide +kernel) (by decide +kernel)), (hm_in 257 (by decide +kernel) (by decide +kernel)), (hm_in 23 (by decide +kernel) (by decide +kernel)), (hm_in 258 (by decide +kernel) (by decide +kernel)), ⟨by decide +kernel, by decide +kernel, by decide +kernel⟩⟩
set_option maxRecDepth 20000 in
theorem kC5_60 : hm_lS RX5 60 yX5_checkNumberRule cX5_checkNumberRule 2 none 2 := ⟨(hm_in 275 (by decide +kernel) (by decide +kernel)), (hm_in 276 (by decide +kernel) (by decide +kernel)), (hm_in 23 (by decide +kernel) (by decide +kernel)), (hm_in 277 (by decide +kernel) (by decide +kernel)), ⟨by decide +kernel, by decide +kernel, by decide +kernel⟩⟩
set_option maxRecDepth 20000 in
theorem kC5_66 : hm_lI RX5 66 yX1_init cX1_init 5 4 := ⟨(hm_in 280 (by decide +kernel) (by decide +kernel)), (hm_in 281 (by decide +kernel) (by decide +kernel)), (hm_in 32 (by decide +kernel) (by decide +kernel)), (hm_in 282 (by decide +kernel) (by decide +kernel)), ⟨by decide +kernel, by decide +kernel, by decide +kernel⟩, rfl⟩
set_option maxRecDepth 20000 in
theorem kC5_69 : hm_lV RX5 69 yX5_revise cX5_revise 6 (some .int) 4 := ⟨(hm_in 303 (by decide +kernel) (by decide +kernel)), (hm_in 305 (by decide +kernel) (by decide +kernel)), (hm_in 2 (by decide +kernel) (by decide +kernel)), (hm_in 23 (by decide +kernel) (by decide +kernel)), (hm_in 306 (by decide +kernel) (by decide +kernel)), ⟨by decide +kernel, by decide +kernel, by decide +kernel⟩⟩
set_option maxRecDepth 20000 in
theorem kC5_305 : hm_lV RX5 305 yX1_size cX1_size 1 (some .int) 0 := ⟨(hm_in 308 (by decide +kernel) (by decide +kernel)), (hm_in 309 (by decide +kernel) (by decide +kernel)), (hm_in 310 (by decide +kernel) (by decide +kernel)), (hm_in 32 (by decide +kernel) (by decide +kernel)), (hm_in 311 (by decide +kernel) (by decide +kernel)), ⟨by decide +kernel, by decide +kernel, by decide +kernel⟩⟩
set_option maxRecDepth 20000 in
theorem kC1_24 : hm_lV RX1 24 yX1_sizeWith cX1_sizeWith 2 (some .int) 1 := ⟨(hm_in 312 (by decide +kernel) (by decide +kernel)), (hm_in 313 (by decide +kernel) (by decide +kernel)), (hm_in 314 (by decide +kernel) (by decide +kernel)), (hm_in 32 (by decide +kernel) (by decide +kernel)), (hm_in 315 (by decide +kernel) (by decide +kernel)), ⟨by decide +kernel, by decide +kernel, by decide +kernel⟩⟩
set_option maxRecDepth 20000 in
theorem kC1_28 : hm_lSN RX1 "SheetVault" 28 yX5_rowLength cX5_rowLength 3 (some .int) 1 := ⟨by decide +kernel, (hm_in 317 (by decide +kernel) (by decide +kernel)), (hm_in 23 (by decide +kernel) (by decide +kernel)), (hm_in 318 (by decide +kernel) (by decide +kernel)), ⟨by decide +kernel, by decide +kernel, by decide +kernel⟩⟩
set_option maxRecDepth 20000 in
theorem kC5_116 : hm_lV RX5 116 yX5_passesQuota cX5_passesQuota 3 (some .boolean) 2 := ⟨(hm_in 319 (by decide +kernel) (by decide +kernel)), (hm_in 321 (by decide +kernel) (by decide +kernel)), (hm_in 3 (by decide +kernel) (by decide +kernel)), (hm_in 23 (by decide +kernel) (by decide +kernel)), (hm_in 322 (by decide +kernel) (by decide +kernel)), ⟨by decide +kernel, by decide +kernel, by decide +kernel⟩⟩
set_option maxRecDepth 20000 in
theorem kC5_390 : hm_lS RX5 390 yX5_isClass cX5_isClass 1 (some .boolean) 1 := ⟨(hm_in 323 (by decide +kernel) (by decide +kernel)), (hm_in 324 (by decide +kernel) (by decide +kernel)), (hm_in 23 (by decide +kernel) (by decide +kernel)), (hm_in 325 (by decide +kernel) (by decide +kernel)), ⟨by decide +kernel, by decide +kernel, by decide +kernel⟩⟩
set_option maxRecDepth 20000 in
theorem kC5_306 : hm_lI RX5 306 yX4_init cX4_init 4 3 := ⟨(hm_in 328 (by decide +kernel) (by decide +kernel)), (hm_in 159 (by decide +kernel) (by decide +kernel)), (hm_in 29 (by decide +kernel) (by decide +kernel)), (hm_in 160 (by decide +kernel) (by decide +kernel)), ⟨by decide +kernel, by decide +kernel, by decide +kernel⟩, rfl⟩
set_option maxRecDepth 20000 in
theorem kC5_122 : hm_lV RX5 122 yX5_addUse cX5_addUse 3 none 2 := ⟨(hm_in 329 (by decide +kernel) (by decide +kernel)), (hm_in 331 (by decide +kernel) (by decide +kernel)), (hm_in 4 (by decide +kernel) (by decide +kernel)), (hm_in 23 (by decide +kernel) (by decide +kernel)), (hm_in 332 (by decide +kernel) (by decide +kernel)), ⟨by decide +kernel, by decide +kernel, by decide +kernel⟩⟩
set_option maxRecDepth 20000 in
theorem kCL_26 : hm_lV RL 26 yX5_setChoice cX5_setChoice 7 (some .int) 5 := ⟨(hm_in 338 (by decide +kernel) (by decide +kernel)), (hm_in 339 (by decide +kernel) (by decide +kernel)), (hm_in 340 (by decide +kernel) (by decide +kernel)), (hm_in 23 (by decide +kernel) (by decide +kernel)), (hm_in 341 (by decide +kernel) (by decide +kernel)), ⟨by decide +kernel, by decide +kernel, by decide +kernel⟩⟩
set_option maxRecDepth 20000 in
theorem kCL_30 : hm_lV RL 30 yX5_setWords cX5_setWords 7 (some .int) 5 := ⟨(hm_in 345 (by decide +kernel) (by decide +kernel)), (hm_in 346 (by decide +kernel) (by decide +kernel)), (hm_in 347 (by decide +kernel) (by decide +kernel)), (hm_in 23 (by decide +kernel) (by decide +kernel)), (hm_in 348 (by decide +kernel) (by decide +kernel)), ⟨by decide +kernel, by decide +kernel, by decide +kernel⟩⟩
set_option maxRecDepth 20000 in
theorem kC5_73 : hm_lS RX5 73 yX5_checkWordsRule cX5_checkWordsRule 2 none 1 := ⟨(hm_in 349 (by decide +kernel) (by decide +kernel)), (hm_in 350 (by decide +kernel) (by decide +kernel)), (hm_in 23 (by decide +kernel) (by decide +kernel)), (hm_in 351 (by decide +kernel) (by decide +kernel)), ⟨by decide +kernel, by decide +kernel, by decide +kernel⟩⟩
set_option maxRecDepth 20000 in
theorem kC5_282 : hm_lS RX5 282 yX5_rowLength cX5_rowLength 3 (some .int) 1 := ⟨(hm_in 352 (by decide +kernel) (by decide +kernel)), (hm_in 317 (by decide +kernel) (by decide +kernel)), (hm_in 23 (by decide +kernel) (by decide +kernel)), (hm_in 318 (by decide +kernel) (by decide +kernel)), ⟨by decide +kernel, by decide +kernel, by decide +kernel⟩⟩
set_option maxRecDepth 20000 in
theorem kCL_33 : hm_lV RL 33 yX5_drop cX5_drop 5 (some .int) 3 := ⟨(hm_in 357 (by decide +kernel) (by decide +kernel)), (hm_in 358 (by decide +kernel) (by decide +kernel)), (hm_in 359 (by decide +kernel) (by decide +kernel)), (hm_in 23 (by decide +kernel) (by decide +kernel)), (hm_in 360 (by decide +kernel) (by decide +kernel)), ⟨by decide +kernel, by decide +kernel, by decide +kernel⟩⟩
set_option maxRecDepth 20000 in
theorem kC5_80 : hm_lS RX5 80 yX5_taskOf cX5_taskOf 4 (some (.object "SheetVault$Entry")) 2 := ⟨(hm_in 361 (by decide +kernel) (by decide +kernel)), (hm_in 362 (by decide +kernel) (by decide +kernel)), (hm_in 23 (by decide +kernel) (by decide +kernel)), (hm_in 363 (by decide +kernel) (by decide +kernel)), ⟨by decide +kernel, by decide +kernel, by decide +kernel⟩⟩
set_option maxRecDepth 20000 in
theorem kC5_142 : hm_lS RX5 142 yX5_tellerOf cX5_tellerOf 3 (some (.object "SheetVault$Version")) 2 := ⟨(hm_in 364 (by decide +kernel) (by decide +kernel)), (hm_in 365 (by decide +kernel) (by decide +kernel)), (hm_in 23 (by decide +kernel) (by decide +kernel)), (hm_in 366 (by decide +kernel) (by decide +kernel)), ⟨by decide +kernel, by decide +kernel, by decide +kernel⟩⟩
set_option maxRecDepth 20000 in
theorem kCL_37 : hm_lV RL 37 yX5_adopt cX5_adopt 7 (some .int) 3 := ⟨(hm_in 371 (by decide +kernel) (by decide +kernel)), (hm_in 372 (by decide +kernel) (by decide +kernel)), (hm_in 373 (by decide +kernel) (by decide +kernel)), (hm_in 23 (by decide +kernel) (by decide +kernel)), (hm_in 374 (by decide +kernel) (by decide +kernel)), ⟨by decide +kernel, by decide +kernel, by decide +kernel⟩⟩
set_option maxRecDepth 20000 in
theorem kC5_86 : hm_lS RX5 86 yX5_versionAt cX5_versionAt 3 (some (.object "SheetVault$Version")) 2 := ⟨(hm_in 375 (by decide +kernel) (by decide +kernel)), (hm_in 376 (by decide +kernel) (by decide +kernel)), (hm_in 23 (by decide +kernel) (by decide +kernel)), (hm_in 377 (by decide +kernel) (by decide +kernel)), ⟨by decide +kernel, by decide +kernel, by decide +kernel⟩⟩
set_option maxRecDepth 20000 in
theorem kC5_90 : hm_lS RX5 90 yX5_numberOf cX5_numberOf 1 (some .int) 1 := ⟨(hm_in 379 (by decide +kernel) (by decide +kernel)), (hm_in 380 (by decide +kernel) (by decide +kernel)), (hm_in 23 (by decide +kernel) (by decide +kernel)), (hm_in 381 (by decide +kernel) (by decide +kernel)), ⟨by decide +kernel, by decide +kernel, by decide +kernel⟩⟩
set_option maxRecDepth 20000 in
theorem kCL_40 : hm_lV RL 40 yX5_fold cX5_fold 8 (some .int) 2 := ⟨(hm_in 385 (by decide +kernel) (by decide +kernel)), (hm_in 386 (by decide +kernel) (by decide +kernel)), (hm_in 387 (by decide +kernel) (by decide +kernel)), (hm_in 23 (by decide +kernel) (by decide +kernel)), (hm_in 388 (by decide +kernel) (by decide +kernel)), ⟨by decide +kernel, by decide +kernel, by decide +kernel⟩⟩
set_option maxRecDepth 20000 in
theorem kC5_94 : hm_lV RX5 94 yX3_canFold cX3_canFold 2 (some .boolean) 1 := ⟨(hm_in 389 (by decide +kernel) (by decide +kernel)), (hm_in 390 (by decide +kernel) (by decide +kernel)), (hm_in 391 (by decide +kernel) (by decide +kernel)), (hm_in 28 (by decide +kernel) (by decide +kernel)), (hm_in 392 (by decide +kernel) (by decide +kernel)), ⟨by decide +kernel, by decide +kernel, by decide +kernel⟩⟩
set_option maxRecDepth 20000 in
theorem kC3_40 : hm_lV RX3 40 yX3_isHead cX3_isHead 3 (some .boolean) 1 := ⟨(hm_in 393 (by decide +kernel) (by decide +kernel)), (hm_in 395 (by decide +kernel) (by decide +kernel)), (hm_in 5 (by decide +kernel) (by decide +kernel)), (hm_in 28 (by decide +kernel) (by decide +kernel)), (hm_in 396 (by decide +kernel) (by decide +kernel)), ⟨by decide +kernel, by decide +kernel, by decide +kernel⟩⟩
set_option maxRecDepth 20000 in
theorem kC3_44 : hm_lV RX3 44 yX3_isTied cX3_isTied 3 (some .boolean) 1 := ⟨(hm_in 397 (by decide +kernel) (by decide +kernel)), (hm_in 399 (by decide +kernel) (by decide +kernel)), (hm_in 6 (by decide +kernel) (by decide +kernel)), (hm_in 28 (by decide +kernel) (by decide +kernel)), (hm_in 400 (by decide +kernel) (by decide +kernel)), ⟨by decide +kernel, by decide +kernel, by decide +kernel⟩⟩
set_option maxRecDepth 20000 in
theorem kC3_47 : hm_lV RX3 47 yX3_countChildren cX3_countChildren 4 (some .int) 1 := ⟨(hm_in 401 (by decide +kernel) (by decide +kernel)), (hm_in 403 (by decide +kernel) (by decide +kernel)), (hm_in 7 (by decide +kernel) (by decide +kernel)), (hm_in 28 (by decide +kernel) (by decide +kernel)), (hm_in 404 (by decide +kernel) (by decide +kernel)), ⟨by decide +kernel, by decide +kernel, by decide +kernel⟩⟩
set_option maxRecDepth 20000 in
theorem kC5_100 : hm_lV RX5 100 yX3_childOf cX3_childOf 3 (some (.object "SheetVault$Version")) 1 := ⟨(hm_in 406 (by decide +kernel) (by decide +kernel)), (hm_in 407 (by decide +kernel) (by decide +kernel)), (hm_in 408 (by decide +kernel) (by decide +kernel)), (hm_in 28 (by decide +kernel) (by decide +kernel)), (hm_in 409 (by decide +kernel) (by decide +kernel)), ⟨by decide +kernel, by decide +kernel, by decide +kernel⟩⟩
set_option maxRecDepth 20000 in
theorem kC5_104 : hm_lV RX5 104 yX4_size cX4_size 3 (some .int) 0 := ⟨(hm_in 410 (by decide +kernel) (by decide +kernel)), (hm_in 411 (by decide +kernel) (by decide +kernel)), (hm_in 412 (by decide +kernel) (by decide +kernel)), (hm_in 29 (by decide +kernel) (by decide +kernel)), (hm_in 413 (by decide +kernel) (by decide +kernel)), ⟨by decide +kernel, by decide +kernel, by decide +kernel⟩⟩
set_option maxRecDepth 20000 in
theorem kC4_28 : hm_lV RX4 28 yX1_size cX1_size 1 (some .int) 0 := ⟨(hm_in 414 (by decide +kernel) (by decide +kernel)), (hm_in 309 (by decide +kernel) (by decide +kernel)), (hm_in 310 (by decide +kernel) (by decide +kernel)), (hm_in 32 (by decide +kernel) (by decide +kernel)), (hm_in 311 (by decide +kernel) (by decide +kernel)), ⟨by decide +kernel, by decide +kernel, by decide +kernel⟩⟩
set_option maxRecDepth 20000 in
theorem kC5_110 : hm_lV RX5 110 yX4_sizeMissingIn cX4_sizeMissingIn 4 (some .int) 1 := ⟨(hm_in 415 (by decide +kernel) (by decide +kernel)), (hm_in 416 (by decide +kernel) (by decide +kernel)), (hm_in 417 (by decide +kernel) (by decide +kernel)), (hm_in 29 (by decide +kernel) (by decide +kernel)), (hm_in 418 (by decide +kernel) (by decide +kernel)), ⟨by decide +kernel, by decide +kernel, by decide +kernel⟩⟩
set_option maxRecDepth 20000 in
theorem kC5_125 : hm_lV RX5 125 yX4_inherit cX4_inherit 3 none 1 := ⟨(hm_in 419 (by decide +kernel) (by decide +kernel)), (hm_in 420 (by decide +kernel) (by decide +kernel)), (hm_in 421 (by decide +kernel) (by decide +kernel)), (hm_in 29 (by decide +kernel) (by decide +kernel)), (hm_in 422 (by decide +kernel) (by decide +kernel)), ⟨by decide +kernel, by decide +kernel, by decide +kernel⟩⟩
set_option maxRecDepth 20000 in
theorem kC5_129 : hm_lV RX5 129 yX3_remove cX3_remove 2 none 1 := ⟨(hm_in 423 (by decide +kernel) (by decide +kernel)), (hm_in 424 (by decide +kernel) (by decide +kernel)), (hm_in 425 (by decide +kernel) (by decide +kernel)), (hm_in 28 (by decide +kernel) (by decide +kernel)), (hm_in 426 (by decide +kernel) (by decide +kernel)), ⟨by decide +kernel, by decide +kernel, by decide +kernel⟩⟩
set_option maxRecDepth 20000 in
theorem kCL_44 : hm_lV RL 44 yX5_versions cX5_versions 5 (some .int) 1 := ⟨(hm_in 430 (by decide +kernel) (by decide +kernel)), (hm_in 431 (by decide +kernel) (by decide +kernel)), (hm_in 432 (by decide +kernel) (by decide +kernel)), (hm_in 23 (by decide +kernel) (by decide +kernel)), (hm_in 433 (by decide +kernel) (by decide +kernel)), ⟨by decide +kernel, by decide +kernel, by decide +kernel⟩⟩
set_option maxRecDepth 20000 in
theorem kCL_48 : hm_lV RL 48 yX5_head cX5_head 3 (some .int) 2 := ⟨(hm_in 437 (by decide +kernel) (by decide +kernel)), (hm_in 438 (by decide +kernel) (by decide +kernel)), (hm_in 439 (by decide +kernel) (by decide +kernel)), (hm_in 23 (by decide +kernel) (by decide +kernel)), (hm_in 440 (by decide +kernel) (by decide +kernel)), ⟨by decide +kernel, by decide +kernel, by decide +kernel⟩⟩
set_option maxRecDepth 20000 in
theorem kCL_51 : hm_lV RL 51 yX5_parent cX5_parent 3 (some .int) 2 := ⟨(hm_in 444 (by decide +kernel) (by decide +kernel)), (hm_in 445 (by decide +kernel) (by decide +kernel)), (hm_in 446 (by decide +kernel) (by decide +kernel)), (hm_in 23 (by decide +kernel) (by decide +kernel)), (hm_in 447 (by decide +kernel) (by decide +kernel)), ⟨by decide +kernel, by decide +kernel, by decide +kernel⟩⟩
set_option maxRecDepth 20000 in
theorem kCL_54 : hm_lV RL 54 yX5_kindOf cX5_kindOf 6 (some .int) 3 := ⟨(hm_in 451 (by decide +kernel) (by decide +kernel)), (hm_in 452 (by decide +kernel) (by decide +kernel)), (hm_in 453 (by decide +kernel) (by decide +kernel)), (hm_in 23 (by decide +kernel) (by decide +kernel)), (hm_in 454 (by decide +kernel) (by decide +kernel)), ⟨by decide +kernel, by decide +kernel, by decide +kernel⟩⟩
set_option maxRecDepth 20000 in
theorem kCL_57 : hm_lV RL 57 yX5_toldIn cX5_toldIn 5 (some .int) 3 := ⟨(hm_in 458 (by decide +kernel) (by decide +kernel)), (hm_in 459 (by decide +kernel) (by decide +kernel)), (hm_in 460 (by decide +kernel) (by decide +kernel)), (hm_in 23 (by decide +kernel) (by decide +kernel)), (hm_in 461 (by decide +kernel) (by decide +kernel)), ⟨by decide +kernel, by decide +kernel, by decide +kernel⟩⟩
set_option maxRecDepth 20000 in
theorem kCL_60 : hm_lV RL 60 yX5_points cX5_points 7 (some .int) 2 := ⟨(hm_in 465 (by decide +kernel) (by decide +kernel)), (hm_in 466 (by decide +kernel) (by decide +kernel)), (hm_in 467 (by decide +kernel) (by decide +kernel)), (hm_in 23 (by decide +kernel) (by decide +kernel)), (hm_in 468 (by decide +kernel) (by decide +kernel)), ⟨by decide +kernel, by decide +kernel, by decide +kernel⟩⟩
set_option maxRecDepth 20000 in
theorem kCL_63 : hm_lV RL 63 yX5_mendNumber cX5_mendNumber 8 (some .int) 5 := ⟨(hm_in 472 (by decide +kernel) (by decide +kernel)), (hm_in 473 (by decide +kernel) (by decide +kernel)), (hm_in 474 (by decide +kernel) (by decide +kernel)), (hm_in 23 (by decide +kernel) (by decide +kernel)), (hm_in 475 (by decide +kernel) (by decide +kernel)), ⟨by decide +kernel, by decide +kernel, by decide +kernel⟩⟩
set_option maxRecDepth 20000 in
theorem kC5_149 : hm_lV RX5 149 yX5_mend cX5_mend 10 (some .int) 6 := ⟨(hm_in 476 (by decide +kernel) (by decide +kernel)), (hm_in 478 (by decide +kernel) (by decide +kernel)), (hm_in 8 (by decide +kernel) (by decide +kernel)), (hm_in 23 (by decide +kernel) (by decide +kernel)), (hm_in 479 (by decide +kernel) (by decide +kernel)), ⟨by decide +kernel, by decide +kernel, by decide +kernel⟩⟩
set_option maxRecDepth 20000 in
theorem kC5_311 : hm_lV RX5 311 yX1_sizeWith cX1_sizeWith 2 (some .int) 1 := ⟨(hm_in 481 (by decide +kernel) (by decide +kernel)), (hm_in 313 (by decide +kernel) (by decide +kernel)), (hm_in 314 (by decide +kernel) (by decide +kernel)), (hm_in 32 (by decide +kernel) (by decide +kernel)), (hm_in 315 (by decide +kernel) (by decide +kernel)), ⟨by decide +kernel, by decide +kernel, by decide +kernel⟩⟩
set_option maxRecDepth 20000 in
theorem kC5_320 : hm_lV RX5 320 yX5_gradeAgain cX5_gradeAgain 6 (some .int) 1 := ⟨(hm_in 482 (by decide +kernel) (by decide +kernel)), (hm_in 484 (by decide +kernel) (by decide +kernel)), (hm_in 9 (by decide +kernel) (by decide +kernel)), (hm_in 23 (by decide +kernel) (by decide +kernel)), (hm_in 485 (by decide +kernel) (by decide +kernel)), ⟨by decide +kernel, by decide +kernel, by decide +kernel⟩⟩
set_option maxRecDepth 20000 in
theorem kC5_212 : hm_lV RX5 212 yX5_grade cX5_grade 7 (some .int) 2 := ⟨(hm_in 486 (by decide +kernel) (by decide +kernel)), (hm_in 488 (by decide +kernel) (by decide +kernel)), (hm_in 10 (by decide +kernel) (by decide +kernel)), (hm_in 23 (by decide +kernel) (by decide +kernel)), (hm_in 489 (by decide +kernel) (by decide +kernel)), ⟨by decide +kernel, by decide +kernel, by decide +kernel⟩⟩
set_option maxRecDepth 20000 in
theorem kC5_328 : hm_lV RX5 328 yX5_commonWords cX5_commonWords 4 (some .int) 3 := ⟨(hm_in 490 (by decide +kernel) (by decide +kernel)), (hm_in 492 (by decide +kernel) (by decide +kernel)), (hm_in 11 (by decide +kernel) (by decide +kernel)), (hm_in 23 (by decide +kernel) (by decide +kernel)), (hm_in 493 (by decide +kernel) (by decide +kernel)), ⟨by decide +kernel, by decide +kernel, by decide +kernel⟩⟩
set_option maxRecDepth 20000 in
theorem kC5_336 : hm_lS RX5 336 yX5_longestKept cX5_longestKept 6 (some .int) 2 := ⟨(hm_in 494 (by decide +kernel) (by decide +kernel)), (hm_in 495 (by decide +kernel) (by decide +kernel)), (hm_in 23 (by decide +kernel) (by decide +kernel)), (hm_in 496 (by decide +kernel) (by decide +kernel)), ⟨by decide +kernel, by decide +kernel, by decide +kernel⟩⟩
set_option maxRecDepth 20000 in
theorem kC5_357 : hm_lS RX5 357 yJ6_bitCount_0f7a4 cJ6_bitCount_0f7a4 1 (some .int) 1 := ⟨(hm_in 497 (by decide +kernel) (by decide +kernel)), (hm_in 498 (by decide +kernel) (by decide +kernel)), (hm_in 33 (by decide +kernel) (by decide +kernel)), (hm_in 499 (by decide +kernel) (by decide +kernel)), ⟨by decide +kernel, by decide +kernel, by decide +kernel⟩⟩
set_option maxRecDepth 20000 in
theorem kC5_362 : hm_lS RX5 362 yX5_keepWords cX5_keepWords 5 (some .int) 2 := ⟨(hm_in 503 (by decide +kernel) (by decide +kernel)), (hm_in 504 (by decide +kernel) (by decide +kernel)), (hm_in 23 (by decide +kernel) (by decide +kernel)), (hm_in 505 (by decide +kernel) (by decide +kernel)), ⟨by decide +kernel, by decide +kernel, by decide +kernel⟩⟩
set_option maxRecDepth 20000 in
theorem kC5_346 : hm_lS RX5 346 yX5_wordAt cX5_wordAt 2 (some .int) 2 := ⟨(hm_in 506 (by decide +kernel) (by decide +kernel)), (hm_in 507 (by decide +kernel) (by decide +kernel)), (hm_in 23 (by decide +kernel) (by decide +kernel)), (hm_in 508 (by decide +kernel) (by decide +kernel)), ⟨by decide +kernel, by decide +kernel, by decide +kernel⟩⟩
set_option maxRecDepth 20000 in
theorem kC5_365 : hm_lV RX5 365 yX2_holdsInOrder cX2_holdsInOrder 4 (some .boolean) 1 := ⟨(hm_in 509 (by decide +kernel) (by decide +kernel)), (hm_in 510 (by decide +kernel) (by decide +kernel)), (hm_in 511 (by decide +kernel) (by decide +kernel)), (hm_in 36 (by decide +kernel) (by decide +kernel)), (hm_in 512 (by decide +kernel) (by decide +kernel)), ⟨by decide +kernel, by decide +kernel, by decide +kernel⟩⟩
set_option maxRecDepth 20000 in
theorem kC5_340 : hm_lV RX5 340 yX5_longestCommon cX5_longestCommon 8 (some .int) 2 := ⟨(hm_in 513 (by decide +kernel) (by decide +kernel)), (hm_in 515 (by decide +kernel) (by decide +kernel)), (hm_in 12 (by decide +kernel) (by decide +kernel)), (hm_in 23 (by decide +kernel) (by decide +kernel)), (hm_in 516 (by decide +kernel) (by decide +kernel)), ⟨by decide +kernel, by decide +kernel, by decide +kernel⟩⟩
set_option maxRecDepth 20000 in
theorem kC5_352 : hm_lS RX5 352 yJ9_max_7cf53 cJ9_max_7cf53 2 (some .int) 2 := ⟨(hm_in 517 (by decide +kernel) (by decide +kernel)), (hm_in 518 (by decide +kernel) (by decide +kernel)), (hm_in 34 (by decide +kernel) (by decide +kernel)), (hm_in 519 (by decide +kernel) (by decide +kernel)), ⟨by decide +kernel, by decide +kernel, by decide +kernel⟩⟩
set_option maxRecDepth 20000 in
theorem kC5_332 : hm_lV RX5 332 yX1_earned cX1_earned 4 (some .int) 2 := ⟨(hm_in 520 (by decide +kernel) (by decide +kernel)), (hm_in 521 (by decide +kernel) (by decide +kernel)), (hm_in 522 (by decide +kernel) (by decide +kernel)), (hm_in 32 (by decide +kernel) (by decide +kernel)), (hm_in 523 (by decide +kernel) (by decide +kernel)), ⟨by decide +kernel, by decide +kernel, by decide +kernel⟩⟩
set_option maxRecDepth 20000 in
theorem kC1_40 : hm_lS RX1 40 yJ9_abs_0f7a4 cJ9_abs_0f7a4 1 (some .int) 1 := ⟨(hm_in 524 (by decide +kernel) (by decide +kernel)), (hm_in 525 (by decide +kernel) (by decide +kernel)), (hm_in 34 (by decide +kernel) (by decide +kernel)), (hm_in 526 (by decide +kernel) (by decide +kernel)), ⟨by decide +kernel, by decide +kernel, by decide +kernel⟩⟩
set_option maxRecDepth 20000 in
theorem kC1_48 : hm_lV RX1 48 yX1_earnedByChoice cX1_earnedByChoice 5 (some .int) 1 := ⟨(hm_in 527 (by decide +kernel) (by decide +kernel)), (hm_in 529 (by decide +kernel) (by decide +kernel)), (hm_in 13 (by decide +kernel) (by decide +kernel)), (hm_in 32 (by decide +kernel) (by decide +kernel)), (hm_in 530 (by decide +kernel) (by decide +kernel)), ⟨by decide +kernel, by decide +kernel, by decide +kernel⟩⟩
set_option maxRecDepth 20000 in
theorem kC1_51 : hm_lS RX1 51 yJ6_bitCount_0f7a4 cJ6_bitCount_0f7a4 1 (some .int) 1 := ⟨(hm_in 531 (by decide +kernel) (by decide +kernel)), (hm_in 498 (by decide +kernel) (by decide +kernel)), (hm_in 33 (by decide +kernel) (by decide +kernel)), (hm_in 499 (by decide +kernel) (by decide +kernel)), ⟨by decide +kernel, by decide +kernel, by decide +kernel⟩⟩
set_option maxRecDepth 20000 in
theorem kC1_56 : hm_lS RX1 56 yJ9_max_7cf53 cJ9_max_7cf53 2 (some .int) 2 := ⟨(hm_in 532 (by decide +kernel) (by decide +kernel)), (hm_in 518 (by decide +kernel) (by decide +kernel)), (hm_in 34 (by decide +kernel) (by decide +kernel)), (hm_in 519 (by decide +kernel) (by decide +kernel)), ⟨by decide +kernel, by decide +kernel, by decide +kernel⟩⟩
set_option maxRecDepth 20000 in
theorem kC5_156 : hm_lS RX5 156 yX5_classOf cX5_classOf 1 (some .int) 1 := ⟨(hm_in 533 (by decide +kernel) (by decide +kernel)), (hm_in 534 (by decide +kernel) (by decide +kernel)), (hm_in 23 (by decide +kernel) (by decide +kernel)), (hm_in 535 (by decide +kernel) (by decide +kernel)), ⟨by decide +kernel, by decide +kernel, by decide +kernel⟩⟩
set_option maxRecDepth 20000 in
theorem kC5_324 : hm_lV RX5 324 yX0_takeDueMark cX0_takeDueMark 3 none 2 := ⟨(hm_in 536 (by decide +kernel) (by decide +kernel)), (hm_in 537 (by decide +kernel) (by decide +kernel)), (hm_in 538 (by decide +kernel) (by decide +kernel)), (hm_in 35 (by decide +kernel) (by decide +kernel)), (hm_in 539 (by decide +kernel) (by decide +kernel)), ⟨by decide +kernel, by decide +kernel, by decide +kernel⟩⟩
set_option maxRecDepth 20000 in
theorem kC5_222 : hm_lV RX5 222 yX0_findPrints cX0_findPrints 3 none 0 := ⟨(hm_in 540 (by decide +kernel) (by decide +kernel)), (hm_in 541 (by decide +kernel) (by decide +kernel)), (hm_in 542 (by decide +kernel) (by decide +kernel)), (hm_in 35 (by decide +kernel) (by decide +kernel)), (hm_in 543 (by decide +kernel) (by decide +kernel)), ⟨by decide +kernel, by decide +kernel, by decide +kernel⟩⟩
set_option maxRecDepth 20000 in
theorem kC0_47 : hm_lV RX0 47 yX0_isInIndex cX0_isInIndex 1 (some .boolean) 0 := ⟨(hm_in 544 (by decide +kernel) (by decide +kernel)), (hm_in 545 (by decide +kernel) (by decide +kernel)), (hm_in 546 (by decide +kernel) (by decide +kernel)), (hm_in 35 (by decide +kernel) (by decide +kernel)), (hm_in 547 (by decide +kernel) (by decide +kernel)), ⟨by decide +kernel, by decide +kernel, by decide +kernel⟩⟩
set_option maxRecDepth 20000 in
theorem kC0_51 : hm_lSN RX0 "SheetVault" 51 yX5_taskOf cX5_taskOf 4 (some (.object "SheetVault$Entry")) 2 := ⟨by decide +kernel, (hm_in 362 (by decide +kernel) (by decide +kernel)), (hm_in 23 (by decide +kernel) (by decide +kernel)), (hm_in 363 (by decide +kernel) (by decide +kernel)), ⟨by decide +kernel, by decide +kernel, by decide +kernel⟩⟩
set_option maxRecDepth 20000 in
theorem kC0_63 : hm_lV RX0 63 yX0_findPrintsOf cX0_findPrintsOf 5 none 2 := ⟨(hm_in 549 (by decide +kernel) (by decide +kernel)), (hm_in 551 (by decide +kernel) (by decide +kernel)), (hm_in 14 (by decide +kernel) (by decide +kernel)), (hm_in 35 (by decide +kernel) (by decide +kernel)), (hm_in 553 (by decide +kernel) (by decide +kernel)), ⟨by decide +kernel, by decide +kernel, by decide +kernel⟩⟩
set_option maxRecDepth 20000 in
theorem kC0_70 : hm_lV RX0 70 yX2_printAt cX2_printAt 2 (some .int) 1 := ⟨(hm_in 554 (by decide +kernel) (by decide +kernel)), (hm_in 555 (by decide +kernel) (by decide +kernel)), (hm_in 556 (by decide +kernel) (by decide +kernel)), (hm_in 36 (by decide +kernel) (by decide +kernel)), (hm_in 557 (by decide +kernel) (by decide +kernel)), ⟨by decide +kernel, by decide +kernel, by decide +kernel⟩⟩
set_option maxRecDepth 20000 in
theorem kC2_33 : hm_lSN RX2 "SheetVault" 33 yX5_printOf cX5_printOf 3 (some .int) 3 := ⟨by decide +kernel, (hm_in 559 (by decide +kernel) (by decide +kernel)), (hm_in 23 (by decide +kernel) (by decide +kernel)), (hm_in 560 (by decide +kernel) (by decide +kernel)), ⟨by decide +kernel, by decide +kernel, by decide +kernel⟩⟩
set_option maxRecDepth 20000 in
theorem kC0_74 : hm_lSN RX0 "SheetVault" 74 yX5_ruleHasPrint cX5_ruleHasPrint 4 (some .boolean) 2 := ⟨by decide +kernel, (hm_in 562 (by decide +kernel) (by decide +kernel)), (hm_in 23 (by decide +kernel) (by decide +kernel)), (hm_in 563 (by decide +kernel) (by decide +kernel)), ⟨by decide +kernel, by decide +kernel, by decide +kernel⟩⟩
set_option maxRecDepth 20000 in
theorem kC5_368 : hm_lS RX5 368 yX5_printOf cX5_printOf 3 (some .int) 3 := ⟨(hm_in 564 (by decide +kernel) (by decide +kernel)), (hm_in 559 (by decide +kernel) (by decide +kernel)), (hm_in 23 (by decide +kernel) (by decide +kernel)), (hm_in 560 (by decide +kernel) (by decide +kernel)), ⟨by decide +kernel, by decide +kernel, by decide +kernel⟩⟩
set_option maxRecDepth 20000 in
theorem kC0_78 : hm_lV RX0 78 yX0_insertPrint cX0_insertPrint 5 none 1 := ⟨(hm_in 565 (by decide +kernel) (by decide +kernel)), (hm_in 567 (by decide +kernel) (by decide +kernel)), (hm_in 15 (by decide +kernel) (by decide +kernel)), (hm_in 35 (by decide +kernel) (by decide +kernel)), (hm_in 568 (by decide +kernel) (by decide +kernel)), ⟨by decide +kernel, by decide +kernel, by decide +kernel⟩⟩
set_option maxRecDepth 20000 in
theorem kC0_82 : hm_lV RX0 82 yX0_placeOf cX0_placeOf 3 (some .int) 1 := ⟨(hm_in 569 (by decide +kernel) (by decide +kernel)), (hm_in 571 (by decide +kernel) (by decide +kernel)), (hm_in 16 (by decide +kernel) (by decide +kernel)), (hm_in 35 (by decide +kernel) (by decide +kernel)), (hm_in 572 (by decide +kernel) (by decide +kernel)), ⟨by decide +kernel, by decide +kernel, by decide +kernel⟩⟩
set_option maxRecDepth 20000 in
theorem kCL_66 : hm_lV RL 66 yX5_mendChoice cX5_mendChoice 7 (some .int) 4 := ⟨(hm_in 576 (by decide +kernel) (by decide +kernel)), (hm_in 577 (by decide +kernel) (by decide +kernel)), (hm_in 578 (by decide +kernel) (by decide +kernel)), (hm_in 23 (by decide +kernel) (by decide +kernel)), (hm_in 579 (by decide +kernel) (by decide +kernel)), ⟨by decide +kernel, by decide +kernel, by decide +kernel⟩⟩
set_option maxRecDepth 20000 in
theorem kCL_70 : hm_lV RL 70 yX5_mendWords cX5_mendWords 7 (some .int) 4 := ⟨(hm_in 583 (by decide +kernel) (by decide +kernel)), (hm_in 584 (by decide +kernel) (by decide +kernel)), (hm_in 585 (by decide +kernel) (by decide +kernel)), (hm_in 23 (by decide +kernel) (by decide +kernel)), (hm_in 586 (by decide +kernel) (by decide +kernel)), ⟨by decide +kernel, by decide +kernel, by decide +kernel⟩⟩
set_option maxRecDepth 20000 in
theorem kCL_73 : hm_lV RL 73 yX5_open cX5_open 6 (some .int) 2 := ⟨(hm_in 590 (by decide +kernel) (by decide +kernel)), (hm_in 591 (by decide +kernel) (by decide +kernel)), (hm_in 592 (by decide +kernel) (by decide +kernel)), (hm_in 23 (by decide +kernel) (by decide +kernel)), (hm_in 593 (by decide +kernel) (by decide +kernel)), ⟨by decide +kernel, by decide +kernel, by decide +kernel⟩⟩
set_option maxRecDepth 20000 in
theorem kC5_153 : hm_lS RX5 153 yX5_checkPupil cX5_checkPupil 1 none 1 := ⟨(hm_in 594 (by decide +kernel) (by decide +kernel)), (hm_in 595 (by decide +kernel) (by decide +kernel)), (hm_in 23 (by decide +kernel) (by decide +kernel)), (hm_in 596 (by decide +kernel) (by decide +kernel)), ⟨by decide +kernel, by decide +kernel, by decide +kernel⟩⟩
set_option maxRecDepth 20000 in
theorem kC5_174 : hm_lI RX5 174 yX0_init cX0_init 3 1 := ⟨(hm_in 601 (by decide +kernel) (by decide +kernel)), (hm_in 602 (by decide +kernel) (by decide +kernel)), (hm_in 35 (by decide +kernel) (by decide +kernel)), (hm_in 603 (by decide +kernel) (by decide +kernel)), ⟨by decide +kernel, by decide +kernel, by decide +kernel⟩, rfl⟩
set_option maxRecDepth 20000 in
theorem kC0_42 : hm_lIN RX0 "SheetVault" 42 yX2_init cX2_init 1 0 := ⟨by decide +kernel, (hm_in 609 (by decide +kernel) (by decide +kernel)), (hm_in 36 (by decide +kernel) (by decide +kernel)), (hm_in 610 (by decide +kernel) (by decide +kernel)), ⟨by decide +kernel, by decide +kernel, by decide +kernel⟩, rfl⟩
set_option maxRecDepth 20000 in
theorem kCL_76 : hm_lV RL 76 yX5_say cX5_say 10 (some .int) 4 := ⟨(hm_in 671 (by decide +kernel) (by decide +kernel)), (hm_in 672 (by decide +kernel) (by decide +kernel)), (hm_in 673 (by decide +kernel) (by decide +kernel)), (hm_in 23 (by decide +kernel) (by decide +kernel)), (hm_in 674 (by decide +kernel) (by decide +kernel)), ⟨by decide +kernel, by decide +kernel, by decide +kernel⟩⟩
set_option maxRecDepth 20000 in
theorem kC5_176 : hm_lS RX5 176 yX5_openAnswer cX5_openAnswer 3 (some (.object "SheetVault$Answer")) 2 := ⟨(hm_in 675 (by decide +kernel) (by decide +kernel)), (hm_in 676 (by decide +kernel) (by decide +kernel)), (hm_in 23 (by decide +kernel) (by decide +kernel)), (hm_in 677 (by decide +kernel) (by decide +kernel)), ⟨by decide +kernel, by decide +kernel, by decide +kernel⟩⟩
set_option maxRecDepth 20000 in
theorem kC5_189 : hm_lS RX5 189 yX5_checkSaid cX5_checkSaid 2 none 2 := ⟨(hm_in 680 (by decide +kernel) (by decide +kernel)), (hm_in 681 (by decide +kernel) (by decide +kernel)), (hm_in 23 (by decide +kernel) (by decide +kernel)), (hm_in 682 (by decide +kernel) (by decide +kernel)), ⟨by decide +kernel, by decide +kernel, by decide +kernel⟩⟩
set_option maxRecDepth 20000 in
theorem kC5_192 : hm_lV RX5 192 yX2_growthBy cX2_growthBy 3 (some .int) 2 := ⟨(hm_in 683 (by decide +kernel) (by decide +kernel)), (hm_in 684 (by decide +kernel) (by decide +kernel)), (hm_in 685 (by decide +kernel) (by decide +kernel)), (hm_in 36 (by decide +kernel) (by decide +kernel)), (hm_in 686 (by decide +kernel) (by decide +kernel)), ⟨by decide +kernel, by decide +kernel, by decide +kernel⟩⟩
set_option maxRecDepth 20000 in
theorem kC2_29 : hm_lS RX2 29 yX2_sizeOfSigns cX2_sizeOfSigns 1 (some .int) 1 := ⟨(hm_in 687 (by decide +kernel) (by decide +kernel)), (hm_in 688 (by decide +kernel) (by decide +kernel)), (hm_in 36 (by decide +kernel) (by decide +kernel)), (hm_in 689 (by decide +kernel) (by decide +kernel)), ⟨by decide +kernel, by decide +kernel, by decide +kernel⟩⟩
set_option maxRecDepth 20000 in
theorem kC5_198 : hm_lV RX5 198 yX2_isFull cX2_isFull 2 (some .boolean) 1 := ⟨(hm_in 690 (by decide +kernel) (by decide +kernel)), (hm_in 691 (by decide +kernel) (by decide +kernel)), (hm_in 692 (by decide +kernel) (by decide +kernel)), (hm_in 36 (by decide +kernel) (by decide +kernel)), (hm_in 693 (by decide +kernel) (by decide +kernel)), ⟨by decide +kernel, by decide +kernel, by decide +kernel⟩⟩
set_option maxRecDepth 20000 in
theorem kC5_204 : hm_lV RX5 204 yX2_add cX2_add 3 none 2 := ⟨(hm_in 695 (by decide +kernel) (by decide +kernel)), (hm_in 696 (by decide +kernel) (by decide +kernel)), (hm_in 697 (by decide +kernel) (by decide +kernel)), (hm_in 36 (by decide +kernel) (by decide +kernel)), (hm_in 698 (by decide +kernel) (by decide +kernel)), ⟨by decide +kernel, by decide +kernel, by decide +kernel⟩⟩
set_option maxRecDepth 20000 in
theorem kC5_207 : hm_lV RX5 207 yX0_size cX0_size 3 (some .int) 0 := ⟨(hm_in 699 (by decide +kernel) (by decide +kernel)), (hm_in 700 (by decide +kernel) (by decide +kernel)), (hm_in 701 (by decide +kernel) (by decide +kernel)), (hm_in 35 (by decide +kernel) (by decide +kernel)), (hm_in 702 (by decide +kernel) (by decide +kernel)), ⟨by decide +kernel, by decide +kernel, by decide +kernel⟩⟩
set_option maxRecDepth 20000 in
theorem kC0_43 : hm_lV RX0 43 yX2_size cX2_size 1 (some .int) 0 := ⟨(hm_in 703 (by decide +kernel) (by decide +kernel)), (hm_in 704 (by decide +kernel) (by decide +kernel)), (hm_in 705 (by decide +kernel) (by decide +kernel)), (hm_in 36 (by decide +kernel) (by decide +kernel)), (hm_in 706 (by decide +kernel) (by decide +kernel)), ⟨by decide +kernel, by decide +kernel, by decide +kernel⟩⟩
set_option maxRecDepth 20000 in
theorem kCL_79 : hm_lV RL 79 yX5_hand cX5_hand 5 (some .int) 2 := ⟨(hm_in 710 (by decide +kernel) (by decide +kernel)), (hm_in 711 (by decide +kernel) (by decide +kernel)), (hm_in 712 (by decide +kernel) (by decide +kernel)), (hm_in 23 (by decide +kernel) (by decide +kernel)), (hm_in 713 (by decide +kernel) (by decide +kernel)), ⟨by decide +kernel, by decide +kernel, by decide +kernel⟩⟩
set_option maxRecDepth 20000 in
theorem kCL_82 : hm_lV RL 82 yX5_close cX5_close 7 (some .int) 2 := ⟨(hm_in 717 (by decide +kernel) (by decide +kernel)), (hm_in 718 (by decide +kernel) (by decide +kernel)), (hm_in 719 (by decide +kernel) (by decide +kernel)), (hm_in 23 (by decide +kernel) (by decide +kernel)), (hm_in 720 (by decide +kernel) (by decide +kernel)), ⟨by decide +kernel, by decide +kernel, by decide +kernel⟩⟩
set_option maxRecDepth 20000 in
theorem kCL_85 : hm_lV RL 85 yX5_answer cX5_answer 4 (some .int) 2 := ⟨(hm_in 724 (by decide +kernel) (by decide +kernel)), (hm_in 725 (by decide +kernel) (by decide +kernel)), (hm_in 726 (by decide +kernel) (by decide +kernel)), (hm_in 23 (by decide +kernel) (by decide +kernel)), (hm_in 727 (by decide +kernel) (by decide +kernel)), ⟨by decide +kernel, by decide +kernel, by decide +kernel⟩⟩
set_option maxRecDepth 20000 in
theorem kC5_225 : hm_lV RX5 225 yX5_answerAt cX5_answerAt 3 (some (.object "SheetVault$Answer")) 2 := ⟨(hm_in 728 (by decide +kernel) (by decide +kernel)), (hm_in 730 (by decide +kernel) (by decide +kernel)), (hm_in 17 (by decide +kernel) (by decide +kernel)), (hm_in 23 (by decide +kernel) (by decide +kernel)), (hm_in 731 (by decide +kernel) (by decide +kernel)), ⟨by decide +kernel, by decide +kernel, by decide +kernel⟩⟩
set_option maxRecDepth 20000 in
theorem kCL_88 : hm_lV RL 88 yX5_mark cX5_mark 4 (some .int) 2 := ⟨(hm_in 735 (by decide +kernel) (by decide +kernel)), (hm_in 736 (by decide +kernel) (by decide +kernel)), (hm_in 737 (by decide +kernel) (by decide +kernel)), (hm_in 23 (by decide +kernel) (by decide +kernel)), (hm_in 738 (by decide +kernel) (by decide +kernel)), ⟨by decide +kernel, by decide +kernel, by decide +kernel⟩⟩
set_option maxRecDepth 20000 in
theorem kCL_91 : hm_lV RL 91 yX5_due cX5_due 4 (some .int) 2 := ⟨(hm_in 742 (by decide +kernel) (by decide +kernel)), (hm_in 743 (by decide +kernel) (by decide +kernel)), (hm_in 744 (by decide +kernel) (by decide +kernel)), (hm_in 23 (by decide +kernel) (by decide +kernel)), (hm_in 745 (by decide +kernel) (by decide +kernel)), ⟨by decide +kernel, by decide +kernel, by decide +kernel⟩⟩
set_option maxRecDepth 20000 in
theorem kCL_94 : hm_lV RL 94 yX5_told cX5_told 4 (some .int) 2 := ⟨(hm_in 749 (by decide +kernel) (by decide +kernel)), (hm_in 750 (by decide +kernel) (by decide +kernel)), (hm_in 751 (by decide +kernel) (by decide +kernel)), (hm_in 23 (by decide +kernel) (by decide +kernel)), (hm_in 752 (by decide +kernel) (by decide +kernel)), ⟨by decide +kernel, by decide +kernel, by decide +kernel⟩⟩
set_option maxRecDepth 20000 in
theorem kCL_97 : hm_lV RL 97 yX5_average cX5_average 8 (some .int) 2 := ⟨(hm_in 756 (by decide +kernel) (by decide +kernel)), (hm_in 757 (by decide +kernel) (by decide +kernel)), (hm_in 758 (by decide +kernel) (by decide +kernel)), (hm_in 23 (by decide +kernel) (by decide +kernel)), (hm_in 759 (by decide +kernel) (by decide +kernel)), ⟨by decide +kernel, by decide +kernel, by decide +kernel⟩⟩
set_option maxRecDepth 20000 in
theorem kCL_100 : hm_lV RL 100 yX5_fingerprints cX5_fingerprints 4 (some .int) 2 := ⟨(hm_in 763 (by decide +kernel) (by decide +kernel)), (hm_in 764 (by decide +kernel) (by decide +kernel)), (hm_in 765 (by decide +kernel) (by decide +kernel)), (hm_in 23 (by decide +kernel) (by decide +kernel)), (hm_in 766 (by decide +kernel) (by decide +kernel)), ⟨by decide +kernel, by decide +kernel, by decide +kernel⟩⟩
set_option maxRecDepth 20000 in
theorem kCL_103 : hm_lV RL 103 yX5_withPrint cX5_withPrint 7 (some .int) 2 := ⟨(hm_in 770 (by decide +kernel) (by decide +kernel)), (hm_in 771 (by decide +kernel) (by decide +kernel)), (hm_in 772 (by decide +kernel) (by decide +kernel)), (hm_in 23 (by decide +kernel) (by decide +kernel)), (hm_in 773 (by decide +kernel) (by decide +kernel)), ⟨by decide +kernel, by decide +kernel, by decide +kernel⟩⟩
set_option maxRecDepth 20000 in
theorem kC5_235 : hm_lV RX5 235 yX0_hasPrint cX0_hasPrint 3 (some .boolean) 1 := ⟨(hm_in 774 (by decide +kernel) (by decide +kernel)), (hm_in 775 (by decide +kernel) (by decide +kernel)), (hm_in 776 (by decide +kernel) (by decide +kernel)), (hm_in 35 (by decide +kernel) (by decide +kernel)), (hm_in 777 (by decide +kernel) (by decide +kernel)), ⟨by decide +kernel, by decide +kernel, by decide +kernel⟩⟩
set_option maxRecDepth 20000 in
theorem kCL_106 : hm_lV RL 106 yX5_likeness cX5_likeness 7 (some .int) 3 := ⟨(hm_in 781 (by decide +kernel) (by decide +kernel)), (hm_in 782 (by decide +kernel) (by decide +kernel)), (hm_in 783 (by decide +kernel) (by decide +kernel)), (hm_in 23 (by decide +kernel) (by decide +kernel)), (hm_in 784 (by decide +kernel) (by decide +kernel)), ⟨by decide +kernel, by decide +kernel, by decide +kernel⟩⟩
set_option maxRecDepth 20000 in
theorem kC5_238 : hm_lV RX5 238 yX0_commonPrints cX0_commonPrints 4 (some .int) 1 := ⟨(hm_in 785 (by decide +kernel) (by decide +kernel)), (hm_in 786 (by decide +kernel) (by decide +kernel)), (hm_in 787 (by decide +kernel) (by decide +kernel)), (hm_in 35 (by decide +kernel) (by decide +kernel)), (hm_in 788 (by decide +kernel) (by decide +kernel)), ⟨by decide +kernel, by decide +kernel, by decide +kernel⟩⟩
set_option maxRecDepth 20000 in
theorem kC0_85 : hm_lV RX0 85 yX0_hasPrint cX0_hasPrint 3 (some .boolean) 1 := ⟨(hm_in 789 (by decide +kernel) (by decide +kernel)), (hm_in 775 (by decide +kernel) (by decide +kernel)), (hm_in 776 (by decide +kernel) (by decide +kernel)), (hm_in 35 (by decide +kernel) (by decide +kernel)), (hm_in 777 (by decide +kernel) (by decide +kernel)), ⟨by decide +kernel, by decide +kernel, by decide +kernel⟩⟩
set_option maxRecDepth 20000 in
theorem kC5_242 : hm_lS RX5 242 yX5_likenessBy cX5_likenessBy 4 (some .int) 3 := ⟨(hm_in 790 (by decide +kernel) (by decide +kernel)), (hm_in 791 (by decide +kernel) (by decide +kernel)), (hm_in 23 (by decide +kernel) (by decide +kernel)), (hm_in 792 (by decide +kernel) (by decide +kernel)), ⟨by decide +kernel, by decide +kernel, by decide +kernel⟩⟩
set_option maxRecDepth 20000 in
theorem kC5_371 : hm_lS RX5 371 yJ9_min_7cf53 cJ9_min_7cf53 2 (some .int) 2 := ⟨(hm_in 793 (by decide +kernel) (by decide +kernel)), (hm_in 794 (by decide +kernel) (by decide +kernel)), (hm_in 34 (by decide +kernel) (by decide +kernel)), (hm_in 795 (by decide +kernel) (by decide +kernel)), ⟨by decide +kernel, by decide +kernel, by decide +kernel⟩⟩
set_option maxRecDepth 20000 in
theorem kCL_109 : hm_lV RL 109 yX5_pairs cX5_pairs 6 (some .int) 1 := ⟨(hm_in 799 (by decide +kernel) (by decide +kernel)), (hm_in 800 (by decide +kernel) (by decide +kernel)), (hm_in 801 (by decide +kernel) (by decide +kernel)), (hm_in 23 (by decide +kernel) (by decide +kernel)), (hm_in 802 (by decide +kernel) (by decide +kernel)), ⟨by decide +kernel, by decide +kernel, by decide +kernel⟩⟩
set_option maxRecDepth 20000 in
theorem kC5_246 : hm_lV RX5 246 yX3_arePair cX3_arePair 5 (some .boolean) 2 := ⟨(hm_in 803 (by decide +kernel) (by decide +kernel)), (hm_in 804 (by decide +kernel) (by decide +kernel)), (hm_in 805 (by decide +kernel) (by decide +kernel)), (hm_in 28 (by decide +kernel) (by decide +kernel)), (hm_in 806 (by decide +kernel) (by decide +kernel)), ⟨by decide +kernel, by decide +kernel, by decide +kernel⟩⟩
set_option maxRecDepth 20000 in
theorem kC3_58 : hm_lV RX3 58 yX0_commonPrints cX0_commonPrints 4 (some .int) 1 := ⟨(hm_in 807 (by decide +kernel) (by decide +kernel)), (hm_in 786 (by decide +kernel) (by decide +kernel)), (hm_in 787 (by decide +kernel) (by decide +kernel)), (hm_in 35 (by decide +kernel) (by decide +kernel)), (hm_in 788 (by decide +kernel) (by decide +kernel)), ⟨by decide +kernel, by decide +kernel, by decide +kernel⟩⟩
set_option maxRecDepth 20000 in
theorem kC3_65 : hm_lSN RX3 "SheetVault" 65 yX5_isPairBy cX5_isPairBy 3 (some .boolean) 3 := ⟨by decide +kernel, (hm_in 809 (by decide +kernel) (by decide +kernel)), (hm_in 23 (by decide +kernel) (by decide +kernel)), (hm_in 810 (by decide +kernel) (by decide +kernel)), ⟨by decide +kernel, by decide +kernel, by decide +kernel⟩⟩
set_option maxRecDepth 20000 in
theorem kCL_112 : hm_lV RL 112 yX5_pairAt cX5_pairAt 7 (some .int) 2 := ⟨(hm_in 814 (by decide +kernel) (by decide +kernel)), (hm_in 815 (by decide +kernel) (by decide +kernel)), (hm_in 816 (by decide +kernel) (by decide +kernel)), (hm_in 23 (by decide +kernel) (by decide +kernel)), (hm_in 817 (by decide +kernel) (by decide +kernel)), ⟨by decide +kernel, by decide +kernel, by decide +kernel⟩⟩
set_option maxRecDepth 20000 in
theorem kCL_115 : hm_lV RL 115 yX5_pairsAnew cX5_pairsAnew 6 (some .int) 1 := ⟨(hm_in 822 (by decide +kernel) (by decide +kernel)), (hm_in 823 (by decide +kernel) (by decide +kernel)), (hm_in 824 (by decide +kernel) (by decide +kernel)), (hm_in 23 (by decide +kernel) (by decide +kernel)), (hm_in 825 (by decide +kernel) (by decide +kernel)), ⟨by decide +kernel, by decide +kernel, by decide +kernel⟩⟩
set_option maxRecDepth 20000 in
theorem kC5_254 : hm_lV RX5 254 yX5_collectThrees cX5_collectThrees 8 none 2 := ⟨(hm_in 826 (by decide +kernel) (by decide +kernel)), (hm_in 828 (by decide +kernel) (by decide +kernel)), (hm_in 18 (by decide +kernel) (by decide +kernel)), (hm_in 23 (by decide +kernel) (by decide +kernel)), (hm_in 829 (by decide +kernel) (by decide +kernel)), ⟨by decide +kernel, by decide +kernel, by decide +kernel⟩⟩
set_option maxRecDepth 20000 in
theorem kC5_374 : hm_lV RX5 374 yX0_isInIndex cX0_isInIndex 1 (some .boolean) 0 := ⟨(hm_in 830 (by decide +kernel) (by decide +kernel)), (hm_in 545 (by decide +kernel) (by decide +kernel)), (hm_in 546 (by decide +kernel) (by decide +kernel)), (hm_in 35 (by decide +kernel) (by decide +kernel)), (hm_in 547 (by decide +kernel) (by decide +kernel)), ⟨by decide +kernel, by decide +kernel, by decide +kernel⟩⟩
set_option maxRecDepth 20000 in
theorem kC5_378 : hm_lV RX5 378 yX2_printAt cX2_printAt 2 (some .int) 1 := ⟨(hm_in 831 (by decide +kernel) (by decide +kernel)), (hm_in 555 (by decide +kernel) (by decide +kernel)), (hm_in 556 (by decide +kernel) (by decide +kernel)), (hm_in 36 (by decide +kernel) (by decide +kernel)), (hm_in 557 (by decide +kernel) (by decide +kernel)), ⟨by decide +kernel, by decide +kernel, by decide +kernel⟩⟩
set_option maxRecDepth 20000 in
theorem kC5_381 : hm_lS RX5 381 yX5_ruleHasPrint cX5_ruleHasPrint 4 (some .boolean) 2 := ⟨(hm_in 832 (by decide +kernel) (by decide +kernel)), (hm_in 562 (by decide +kernel) (by decide +kernel)), (hm_in 23 (by decide +kernel) (by decide +kernel)), (hm_in 563 (by decide +kernel) (by decide +kernel)), ⟨by decide +kernel, by decide +kernel, by decide +kernel⟩⟩
set_option maxRecDepth 20000 in
theorem kC5_384 : hm_lV RX5 384 yX5_collectThree cX5_collectThree 4 none 2 := ⟨(hm_in 833 (by decide +kernel) (by decide +kernel)), (hm_in 835 (by decide +kernel) (by decide +kernel)), (hm_in 19 (by decide +kernel) (by decide +kernel)), (hm_in 23 (by decide +kernel) (by decide +kernel)), (hm_in 836 (by decide +kernel) (by decide +kernel)), ⟨by decide +kernel, by decide +kernel, by decide +kernel⟩⟩
set_option maxRecDepth 20000 in
theorem kC5_387 : hm_lV RX5 387 yX5_isCollected cX5_isCollected 4 (some .boolean) 2 := ⟨(hm_in 837 (by decide +kernel) (by decide +kernel)), (hm_in 839 (by decide +kernel) (by decide +kernel)), (hm_in 20 (by decide +kernel) (by decide +kernel)), (hm_in 23 (by decide +kernel) (by decide +kernel)), (hm_in 840 (by decide +kernel) (by decide +kernel)), ⟨by decide +kernel, by decide +kernel, by decide +kernel⟩⟩
set_option maxRecDepth 20000 in
theorem kC5_258 : hm_lV RX5 258 yX5_commonThrees cX5_commonThrees 5 (some .int) 2 := ⟨(hm_in 841 (by decide +kernel) (by decide +kernel)), (hm_in 843 (by decide +kernel) (by decide +kernel)), (hm_in 21 (by decide +kernel) (by decide +kernel)), (hm_in 23 (by decide +kernel) (by decide +kernel)), (hm_in 844 (by decide +kernel) (by decide +kernel)), ⟨by decide +kernel, by decide +kernel, by decide +kernel⟩⟩
set_option maxRecDepth 20000 in
theorem kC5_261 : hm_lS RX5 261 yX5_isPairBy cX5_isPairBy 3 (some .boolean) 3 := ⟨(hm_in 845 (by decide +kernel) (by decide +kernel)), (hm_in 809 (by decide +kernel) (by decide +kernel)), (hm_in 23 (by decide +kernel) (by decide +kernel)), (hm_in 810 (by decide +kernel) (by decide +kernel)), ⟨by decide +kernel, by decide +kernel, by decide +kernel⟩⟩
set_option maxRecDepth 20000 in
theorem kCL_118 : hm_lV RL 118 yX5_setQuota cX5_setQuota 4 (some .int) 2 := ⟨(hm_in 849 (by decide +kernel) (by decide +kernel)), (hm_in 850 (by decide +kernel) (by decide +kernel)), (hm_in 851 (by decide +kernel) (by decide +kernel)), (hm_in 23 (by decide +kernel) (by decide +kernel)), (hm_in 852 (by decide +kernel) (by decide +kernel)), ⟨by decide +kernel, by decide +kernel, by decide +kernel⟩⟩
set_option maxRecDepth 20000 in
theorem kCL_121 : hm_lV RL 121 yX5_used cX5_used 2 (some .int) 1 := ⟨(hm_in 856 (by decide +kernel) (by decide +kernel)), (hm_in 857 (by decide +kernel) (by decide +kernel)), (hm_in 858 (by decide +kernel) (by decide +kernel)), (hm_in 23 (by decide +kernel) (by decide +kernel)), (hm_in 859 (by decide +kernel) (by decide +kernel)), ⟨by decide +kernel, by decide +kernel, by decide +kernel⟩⟩
set_option maxRecDepth 20000 in
theorem kCL_124 : hm_lV RL 124 yX5_usedAnew cX5_usedAnew 5 (some .int) 1 := ⟨(hm_in 863 (by decide +kernel) (by decide +kernel)), (hm_in 864 (by decide +kernel) (by decide +kernel)), (hm_in 865 (by decide +kernel) (by decide +kernel)), (hm_in 23 (by decide +kernel) (by decide +kernel)), (hm_in 866 (by decide +kernel) (by decide +kernel)), ⟨by decide +kernel, by decide +kernel, by decide +kernel⟩⟩
set_option maxRecDepth 20000 in
theorem kC5_265 : hm_lV RX5 265 yX3_sizeOfVersions cX3_sizeOfVersions 4 (some .int) 1 := ⟨(hm_in 867 (by decide +kernel) (by decide +kernel)), (hm_in 868 (by decide +kernel) (by decide +kernel)), (hm_in 869 (by decide +kernel) (by decide +kernel)), (hm_in 28 (by decide +kernel) (by decide +kernel)), (hm_in 870 (by decide +kernel) (by decide +kernel)), ⟨by decide +kernel, by decide +kernel, by decide +kernel⟩⟩
set_option maxRecDepth 20000 in
theorem kC3_72 : hm_lV RX3 72 yX4_size cX4_size 3 (some .int) 0 := ⟨(hm_in 871 (by decide +kernel) (by decide +kernel)), (hm_in 411 (by decide +kernel) (by decide +kernel)), (hm_in 412 (by decide +kernel) (by decide +kernel)), (hm_in 29 (by decide +kernel) (by decide +kernel)), (hm_in 413 (by decide +kernel) (by decide +kernel)), ⟨by decide +kernel, by decide +kernel, by decide +kernel⟩⟩
set_option maxRecDepth 20000 in
theorem kC5_268 : hm_lV RX5 268 yX3_sizeOfAnswers cX3_sizeOfAnswers 4 (some .int) 1 := ⟨(hm_in 872 (by decide +kernel) (by decide +kernel)), (hm_in 873 (by decide +kernel) (by decide +kernel)), (hm_in 874 (by decide +kernel) (by decide +kernel)), (hm_in 28 (by decide +kernel) (by decide +kernel)), (hm_in 875 (by decide +kernel) (by decide +kernel)), ⟨by decide +kernel, by decide +kernel, by decide +kernel⟩⟩
set_option maxRecDepth 20000 in
theorem kC3_76 : hm_lSN RX3 "SheetVault" 76 yX5_classOf cX5_classOf 1 (some .int) 1 := ⟨by decide +kernel, (hm_in 534 (by decide +kernel) (by decide +kernel)), (hm_in 23 (by decide +kernel) (by decide +kernel)), (hm_in 535 (by decide +kernel) (by decide +kernel)), ⟨by decide +kernel, by decide +kernel, by decide +kernel⟩⟩
set_option maxRecDepth 20000 in
theorem kC3_80 : hm_lV RX3 80 yX0_size cX0_size 3 (some .int) 0 := ⟨(hm_in 877 (by decide +kernel) (by decide +kernel)), (hm_in 700 (by decide +kernel) (by decide +kernel)), (hm_in 701 (by decide +kernel) (by decide +kernel)), (hm_in 35 (by decide +kernel) (by decide +kernel)), (hm_in 702 (by decide +kernel) (by decide +kernel)), ⟨by decide +kernel, by decide +kernel, by decide +kernel⟩⟩
set_option maxRecDepth 20000 in
theorem kCL_224 : hm_lS RL 224 yL_row cL_row 4 (some .int) 1 := ⟨(hm_in 881 (by decide +kernel) (by decide +kernel)), (hm_in 882 (by decide +kernel) (by decide +kernel)), (hm_in 22 (by decide +kernel) (by decide +kernel)), (hm_in 883 (by decide +kernel) (by decide +kernel)), ⟨by decide +kernel, by decide +kernel, by decide +kernel⟩⟩
set_option maxRecDepth 20000 in
theorem kM5_29 : Cond.classLink RX5 29 ("[" ++ (FieldType.array .int).toString) ∈ hm_tbl := (hm_in 47 (by decide +kernel) (by decide +kernel))
