/-! the law: a case a call -/
abbrev lw_L (sc b mo o i : Nat) : List (Option Value) := [some (.ref sc), some (.ref b), some (.ref mo), some (.ref o), some (.int (nI i)), none, none]
set_option maxRecDepth 20000 in
theorem kSL_addSheet : hm_lSH RL 128 yL_addSheet cL_addSheet 3 (some .int) [(0, 8, 11, 13)] 2 := ⟨(hm_in 110 (by decide +kernel) (by decide +kernel)), (hm_in 111 (by decide +kernel) (by decide +kernel)), (hm_in 55 (by decide +kernel) (by decide +kernel)), (hm_in 112 (by decide +kernel) (by decide +kernel)), ⟨by decide +kernel, by decide +kernel, by decide +kernel⟩⟩
set_option maxRecDepth 20000 in
theorem kSL_setNumber : hm_lSH RL 137 yL_setNumber cL_setNumber 9 (some .int) [(0, 18, 21, 19), (0, 18, 25, 21), (0, 18, 29, 13)] 8 := ⟨(hm_in 244 (by decide +kernel) (by decide +kernel)), (hm_in 245 (by decide +kernel) (by decide +kernel)), (hm_in 55 (by decide +kernel) (by decide +kernel)), (hm_in 246 (by decide +kernel) (by decide +kernel)), ⟨by decide +kernel, by decide +kernel, by decide +kernel⟩⟩
set_option maxRecDepth 20000 in
theorem kSL_setChoice : hm_lSH RL 141 yL_setChoice cL_setChoice 8 (some .int) [(0, 16, 19, 19), (0, 16, 23, 21), (0, 16, 27, 13)] 7 := ⟨(hm_in 358 (by decide +kernel) (by decide +kernel)), (hm_in 359 (by decide +kernel) (by decide +kernel)), (hm_in 55 (by decide +kernel) (by decide +kernel)), (hm_in 360 (by decide +kernel) (by decide +kernel)), ⟨by decide +kernel, by decide +kernel, by decide +kernel⟩⟩
set_option maxRecDepth 20000 in
theorem kSL_setWords : hm_lSH RL 145 yL_setWords cL_setWords 8 (some .int) [(0, 16, 19, 19), (0, 16, 23, 21), (0, 16, 27, 13)] 7 := ⟨(hm_in 365 (by decide +kernel) (by decide +kernel)), (hm_in 366 (by decide +kernel) (by decide +kernel)), (hm_in 55 (by decide +kernel) (by decide +kernel)), (hm_in 367 (by decide +kernel) (by decide +kernel)), ⟨by decide +kernel, by decide +kernel, by decide +kernel⟩⟩
set_option maxRecDepth 20000 in
theorem kSL_drop : hm_lSH RL 148 yL_drop cL_drop 6 (some .int) [(0, 12, 15, 19), (0, 12, 19, 13)] 5 := ⟨(hm_in 377 (by decide +kernel) (by decide +kernel)), (hm_in 378 (by decide +kernel) (by decide +kernel)), (hm_in 55 (by decide +kernel) (by decide +kernel)), (hm_in 379 (by decide +kernel) (by decide +kernel)), ⟨by decide +kernel, by decide +kernel, by decide +kernel⟩⟩
set_option maxRecDepth 20000 in
theorem kSL_adopt : hm_lSH RL 152 yL_adopt cL_adopt 6 (some .int) [(0, 12, 15, 19)] 5 := ⟨(hm_in 391 (by decide +kernel) (by decide +kernel)), (hm_in 392 (by decide +kernel) (by decide +kernel)), (hm_in 55 (by decide +kernel) (by decide +kernel)), (hm_in 393 (by decide +kernel) (by decide +kernel)), ⟨by decide +kernel, by decide +kernel, by decide +kernel⟩⟩
set_option maxRecDepth 20000 in
theorem kSL_fold : hm_lSH RL 155 yL_fold cL_fold 5 (some .int) [(0, 10, 13, 19), (0, 10, 17, 13)] 4 := ⟨(hm_in 405 (by decide +kernel) (by decide +kernel)), (hm_in 406 (by decide +kernel) (by decide +kernel)), (hm_in 55 (by decide +kernel) (by decide +kernel)), (hm_in 407 (by decide +kernel) (by decide +kernel)), ⟨by decide +kernel, by decide +kernel, by decide +kernel⟩⟩
set_option maxRecDepth 20000 in
theorem kSL_versions : hm_lSH RL 163 yL_versions cL_versions 4 (some .int) [(0, 9, 12, 19)] 3 := ⟨(hm_in 450 (by decide +kernel) (by decide +kernel)), (hm_in 451 (by decide +kernel) (by decide +kernel)), (hm_in 55 (by decide +kernel) (by decide +kernel)), (hm_in 452 (by decide +kernel) (by decide +kernel)), ⟨by decide +kernel, by decide +kernel, by decide +kernel⟩⟩
set_option maxRecDepth 20000 in
theorem kSL_head : hm_lSH RL 167 yL_head cL_head 5 (some .int) [(0, 10, 13, 19)] 4 := ⟨(hm_in 457 (by decide +kernel) (by decide +kernel)), (hm_in 458 (by decide +kernel) (by decide +kernel)), (hm_in 55 (by decide +kernel) (by decide +kernel)), (hm_in 459 (by decide +kernel) (by decide +kernel)), ⟨by decide +kernel, by decide +kernel, by decide +kernel⟩⟩
set_option maxRecDepth 20000 in
theorem kSL_parent : hm_lSH RL 170 yL_parent cL_parent 5 (some .int) [(0, 10, 13, 19)] 4 := ⟨(hm_in 464 (by decide +kernel) (by decide +kernel)), (hm_in 465 (by decide +kernel) (by decide +kernel)), (hm_in 55 (by decide +kernel) (by decide +kernel)), (hm_in 466 (by decide +kernel) (by decide +kernel)), ⟨by decide +kernel, by decide +kernel, by decide +kernel⟩⟩
set_option maxRecDepth 20000 in
theorem kSL_kindOf : hm_lSH RL 173 yL_kindOf cL_kindOf 6 (some .int) [(0, 12, 15, 19)] 5 := ⟨(hm_in 471 (by decide +kernel) (by decide +kernel)), (hm_in 472 (by decide +kernel) (by decide +kernel)), (hm_in 55 (by decide +kernel) (by decide +kernel)), (hm_in 473 (by decide +kernel) (by decide +kernel)), ⟨by decide +kernel, by decide +kernel, by decide +kernel⟩⟩
set_option maxRecDepth 20000 in
theorem kSL_toldIn : hm_lSH RL 176 yL_toldIn cL_toldIn 6 (some .int) [(0, 12, 15, 19)] 5 := ⟨(hm_in 478 (by decide +kernel) (by decide +kernel)), (hm_in 479 (by decide +kernel) (by decide +kernel)), (hm_in 55 (by decide +kernel) (by decide +kernel)), (hm_in 480 (by decide +kernel) (by decide +kernel)), ⟨by decide +kernel, by decide +kernel, by decide +kernel⟩⟩
set_option maxRecDepth 20000 in
theorem kSL_points : hm_lSH RL 179 yL_points cL_points 5 (some .int) [(0, 10, 13, 19)] 4 := ⟨(hm_in 485 (by decide +kernel) (by decide +kernel)), (hm_in 486 (by decide +kernel) (by decide +kernel)), (hm_in 55 (by decide +kernel) (by decide +kernel)), (hm_in 487 (by decide +kernel) (by decide +kernel)), ⟨by decide +kernel, by decide +kernel, by decide +kernel⟩⟩
set_option maxRecDepth 20000 in
theorem kSL_mendNumber : hm_lSH RL 182 yL_mendNumber cL_mendNumber 8 (some .int) [(0, 16, 19, 19), (0, 16, 23, 21), (0, 16, 27, 13)] 7 := ⟨(hm_in 492 (by decide +kernel) (by decide +kernel)), (hm_in 493 (by decide +kernel) (by decide +kernel)), (hm_in 55 (by decide +kernel) (by decide +kernel)), (hm_in 494 (by decide +kernel) (by decide +kernel)), ⟨by decide +kernel, by decide +kernel, by decide +kernel⟩⟩
set_option maxRecDepth 20000 in
theorem kSL_mendChoice : hm_lSH RL 185 yL_mendChoice cL_mendChoice 7 (some .int) [(0, 14, 17, 19), (0, 14, 21, 21), (0, 14, 25, 13)] 6 := ⟨(hm_in 596 (by decide +kernel) (by decide +kernel)), (hm_in 597 (by decide +kernel) (by decide +kernel)), (hm_in 55 (by decide +kernel) (by decide +kernel)), (hm_in 598 (by decide +kernel) (by decide +kernel)), ⟨by decide +kernel, by decide +kernel, by decide +kernel⟩⟩
set_option maxRecDepth 20000 in
theorem kSL_mendWords : hm_lSH RL 189 yL_mendWords cL_mendWords 7 (some .int) [(0, 14, 17, 19), (0, 14, 21, 21), (0, 14, 25, 13)] 6 := ⟨(hm_in 603 (by decide +kernel) (by decide +kernel)), (hm_in 604 (by decide +kernel) (by decide +kernel)), (hm_in 55 (by decide +kernel) (by decide +kernel)), (hm_in 605 (by decide +kernel) (by decide +kernel)), ⟨by decide +kernel, by decide +kernel, by decide +kernel⟩⟩
set_option maxRecDepth 20000 in
theorem kSL_open : hm_lSH RL 192 yL_open cL_open 5 (some .int) [(0, 10, 13, 19), (0, 10, 17, 13)] 4 := ⟨(hm_in 610 (by decide +kernel) (by decide +kernel)), (hm_in 611 (by decide +kernel) (by decide +kernel)), (hm_in 55 (by decide +kernel) (by decide +kernel)), (hm_in 612 (by decide +kernel) (by decide +kernel)), ⟨by decide +kernel, by decide +kernel, by decide +kernel⟩⟩
set_option maxRecDepth 20000 in
theorem kSL_say : hm_lSH RL 195 yL_say cL_say 7 (some .int) [(0, 14, 17, 19), (0, 14, 21, 21), (0, 14, 25, 13)] 6 := ⟨(hm_in 691 (by decide +kernel) (by decide +kernel)), (hm_in 692 (by decide +kernel) (by decide +kernel)), (hm_in 55 (by decide +kernel) (by decide +kernel)), (hm_in 693 (by decide +kernel) (by decide +kernel)), ⟨by decide +kernel, by decide +kernel, by decide +kernel⟩⟩
set_option maxRecDepth 20000 in
theorem kSL_hand : hm_lSH RL 198 yL_hand cL_hand 5 (some .int) [(0, 10, 13, 19), (0, 10, 17, 13)] 4 := ⟨(hm_in 730 (by decide +kernel) (by decide +kernel)), (hm_in 731 (by decide +kernel) (by decide +kernel)), (hm_in 55 (by decide +kernel) (by decide +kernel)), (hm_in 732 (by decide +kernel) (by decide +kernel)), ⟨by decide +kernel, by decide +kernel, by decide +kernel⟩⟩
set_option maxRecDepth 20000 in
theorem kSL_close : hm_lSH RL 201 yL_close cL_close 5 (some .int) [(0, 10, 13, 19), (0, 10, 17, 13)] 4 := ⟨(hm_in 737 (by decide +kernel) (by decide +kernel)), (hm_in 738 (by decide +kernel) (by decide +kernel)), (hm_in 55 (by decide +kernel) (by decide +kernel)), (hm_in 739 (by decide +kernel) (by decide +kernel)), ⟨by decide +kernel, by decide +kernel, by decide +kernel⟩⟩
set_option maxRecDepth 20000 in
theorem kSL_answer : hm_lSH RL 204 yL_answer cL_answer 5 (some .int) [(0, 10, 13, 19)] 4 := ⟨(hm_in 744 (by decide +kernel) (by decide +kernel)), (hm_in 745 (by decide +kernel) (by decide +kernel)), (hm_in 55 (by decide +kernel) (by decide +kernel)), (hm_in 746 (by decide +kernel) (by decide +kernel)), ⟨by decide +kernel, by decide +kernel, by decide +kernel⟩⟩
set_option maxRecDepth 20000 in
theorem kSL_mark : hm_lSH RL 207 yL_mark cL_mark 5 (some .int) [(0, 10, 13, 19)] 4 := ⟨(hm_in 755 (by decide +kernel) (by decide +kernel)), (hm_in 756 (by decide +kernel) (by decide +kernel)), (hm_in 55 (by decide +kernel) (by decide +kernel)), (hm_in 757 (by decide +kernel) (by decide +kernel)), ⟨by decide +kernel, by decide +kernel, by decide +kernel⟩⟩
set_option maxRecDepth 20000 in
theorem kSL_due : hm_lSH RL 210 yL_due cL_due 5 (some .int) [(0, 10, 13, 19)] 4 := ⟨(hm_in 762 (by decide +kernel) (by decide +kernel)), (hm_in 763 (by decide +kernel) (by decide +kernel)), (hm_in 55 (by decide +kernel) (by decide +kernel)), (hm_in 764 (by decide +kernel) (by decide +kernel)), ⟨by decide +kernel, by decide +kernel, by decide +kernel⟩⟩
set_option maxRecDepth 20000 in
theorem kSL_told : hm_lSH RL 213 yL_told cL_told 5 (some .int) [(0, 10, 13, 19)] 4 := ⟨(hm_in 769 (by decide +kernel) (by decide +kernel)), (hm_in 770 (by decide +kernel) (by decide +kernel)), (hm_in 55 (by decide +kernel) (by decide +kernel)), (hm_in 771 (by decide +kernel) (by decide +kernel)), ⟨by decide +kernel, by decide +kernel, by decide +kernel⟩⟩
set_option maxRecDepth 20000 in
theorem kSL_average : hm_lSH RL 216 yL_average cL_average 5 (some .int) [(0, 10, 13, 19)] 4 := ⟨(hm_in 776 (by decide +kernel) (by decide +kernel)), (hm_in 777 (by decide +kernel) (by decide +kernel)), (hm_in 55 (by decide +kernel) (by decide +kernel)), (hm_in 778 (by decide +kernel) (by decide +kernel)), ⟨by decide +kernel, by decide +kernel, by decide +kernel⟩⟩
set_option maxRecDepth 20000 in
theorem kSL_fingerprints : hm_lSH RL 219 yL_fingerprints cL_fingerprints 5 (some .int) [(0, 10, 13, 19)] 4 := ⟨(hm_in 783 (by decide +kernel) (by decide +kernel)), (hm_in 784 (by decide +kernel) (by decide +kernel)), (hm_in 55 (by decide +kernel) (by decide +kernel)), (hm_in 785 (by decide +kernel) (by decide +kernel)), ⟨by decide +kernel, by decide +kernel, by decide +kernel⟩⟩
set_option maxRecDepth 20000 in
theorem kSL_withPrint : hm_lSH RL 222 yL_withPrint cL_withPrint 5 (some .int) [(0, 10, 13, 19)] 4 := ⟨(hm_in 790 (by decide +kernel) (by decide +kernel)), (hm_in 791 (by decide +kernel) (by decide +kernel)), (hm_in 55 (by decide +kernel) (by decide +kernel)), (hm_in 792 (by decide +kernel) (by decide +kernel)), ⟨by decide +kernel, by decide +kernel, by decide +kernel⟩⟩
set_option maxRecDepth 20000 in
theorem kSL_likeness : hm_lSH RL 225 yL_likeness cL_likeness 6 (some .int) [(0, 12, 15, 19)] 5 := ⟨(hm_in 801 (by decide +kernel) (by decide +kernel)), (hm_in 802 (by decide +kernel) (by decide +kernel)), (hm_in 55 (by decide +kernel) (by decide +kernel)), (hm_in 803 (by decide +kernel) (by decide +kernel)), ⟨by decide +kernel, by decide +kernel, by decide +kernel⟩⟩
set_option maxRecDepth 20000 in
theorem kSL_pairs : hm_lSH RL 228 yL_pairs cL_pairs 4 (some .int) [(0, 9, 12, 19)] 3 := ⟨(hm_in 819 (by decide +kernel) (by decide +kernel)), (hm_in 820 (by decide +kernel) (by decide +kernel)), (hm_in 55 (by decide +kernel) (by decide +kernel)), (hm_in 821 (by decide +kernel) (by decide +kernel)), ⟨by decide +kernel, by decide +kernel, by decide +kernel⟩⟩
set_option maxRecDepth 20000 in
theorem kSL_pairAt : hm_lSH RL 231 yL_pairAt cL_pairAt 5 (some .int) [(0, 10, 13, 19)] 4 := ⟨(hm_in 834 (by decide +kernel) (by decide +kernel)), (hm_in 835 (by decide +kernel) (by decide +kernel)), (hm_in 55 (by decide +kernel) (by decide +kernel)), (hm_in 836 (by decide +kernel) (by decide +kernel)), ⟨by decide +kernel, by decide +kernel, by decide +kernel⟩⟩
set_option maxRecDepth 20000 in
theorem kSL_pairsAnew : hm_lSH RL 234 yL_pairsAnew cL_pairsAnew 4 (some .int) [(0, 9, 12, 19)] 3 := ⟨(hm_in 842 (by decide +kernel) (by decide +kernel)), (hm_in 843 (by decide +kernel) (by decide +kernel)), (hm_in 55 (by decide +kernel) (by decide +kernel)), (hm_in 844 (by decide +kernel) (by decide +kernel)), ⟨by decide +kernel, by decide +kernel, by decide +kernel⟩⟩
set_option maxRecDepth 20000 in
theorem kSL_setQuota : hm_lSH RL 237 yL_setQuota cL_setQuota 5 (some .int) [(0, 10, 13, 19), (0, 10, 17, 21)] 4 := ⟨(hm_in 869 (by decide +kernel) (by decide +kernel)), (hm_in 870 (by decide +kernel) (by decide +kernel)), (hm_in 55 (by decide +kernel) (by decide +kernel)), (hm_in 871 (by decide +kernel) (by decide +kernel)), ⟨by decide +kernel, by decide +kernel, by decide +kernel⟩⟩
set_option maxRecDepth 20000 in
theorem kSL_used : hm_lSH RL 240 yL_used cL_used 4 (some .int) [(0, 9, 12, 19)] 3 := ⟨(hm_in 876 (by decide +kernel) (by decide +kernel)), (hm_in 877 (by decide +kernel) (by decide +kernel)), (hm_in 55 (by decide +kernel) (by decide +kernel)), (hm_in 878 (by decide +kernel) (by decide +kernel)), ⟨by decide +kernel, by decide +kernel, by decide +kernel⟩⟩
set_option maxRecDepth 20000 in
theorem kSL_usedAnew : hm_lSH RL 243 yL_usedAnew cL_usedAnew 4 (some .int) [(0, 9, 12, 19)] 3 := ⟨(hm_in 883 (by decide +kernel) (by decide +kernel)), (hm_in 884 (by decide +kernel) (by decide +kernel)), (hm_in 55 (by decide +kernel) (by decide +kernel)), (hm_in 885 (by decide +kernel) (by decide +kernel)), ⟨by decide +kernel, by decide +kernel, by decide +kernel⟩⟩
