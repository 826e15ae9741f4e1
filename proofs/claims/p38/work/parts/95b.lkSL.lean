/-! the links of the law's calls of its helpers -/
set_option maxRecDepth 20000 in
theorem kSL_sheets : hm_lSH RL 227 yL_sheets cL_sheets 2 (some .int) [(0, 4, 5, 13)] 1 := ⟨(hm_in 72 (by decide +kernel) (by decide +kernel)), (hm_in 73 (by decide +kernel) (by decide +kernel)), (hm_in 22 (by decide +kernel) (by decide +kernel)), (hm_in 74 (by decide +kernel) (by decide +kernel)), ⟨by decide +kernel, by decide +kernel, by decide +kernel⟩⟩
set_option maxRecDepth 20000 in
theorem kSL_numbers : hm_lSH RL 132 yL_numbers cL_numbers 8 (some .int) [(0, 13, 14, 20), (0, 13, 19, 23), (0, 13, 24, 13)] 7 := ⟨(hm_in 219 (by decide +kernel) (by decide +kernel)), (hm_in 220 (by decide +kernel) (by decide +kernel)), (hm_in 22 (by decide +kernel) (by decide +kernel)), (hm_in 221 (by decide +kernel) (by decide +kernel)), ⟨by decide +kernel, by decide +kernel, by decide +kernel⟩⟩
set_option maxRecDepth 20000 in
theorem kSL_choices : hm_lSH RL 138 yL_choices cL_choices 7 (some .int) [(0, 11, 12, 20), (0, 11, 17, 23), (0, 11, 22, 13)] 6 := ⟨(hm_in 335 (by decide +kernel) (by decide +kernel)), (hm_in 336 (by decide +kernel) (by decide +kernel)), (hm_in 22 (by decide +kernel) (by decide +kernel)), (hm_in 337 (by decide +kernel) (by decide +kernel)), ⟨by decide +kernel, by decide +kernel, by decide +kernel⟩⟩
set_option maxRecDepth 20000 in
theorem kSL_words : hm_lSH RL 142 yL_words cL_words 7 (some .int) [(0, 11, 12, 20), (0, 11, 17, 23), (0, 11, 22, 13)] 6 := ⟨(hm_in 342 (by decide +kernel) (by decide +kernel)), (hm_in 343 (by decide +kernel) (by decide +kernel)), (hm_in 22 (by decide +kernel) (by decide +kernel)), (hm_in 344 (by decide +kernel) (by decide +kernel)), ⟨by decide +kernel, by decide +kernel, by decide +kernel⟩⟩
set_option maxRecDepth 20000 in
theorem kSL_drops : hm_lSH RL 145 yL_drops cL_drops 5 (some .int) [(0, 7, 8, 20), (0, 7, 13, 13)] 4 := ⟨(hm_in 354 (by decide +kernel) (by decide +kernel)), (hm_in 355 (by decide +kernel) (by decide +kernel)), (hm_in 22 (by decide +kernel) (by decide +kernel)), (hm_in 356 (by decide +kernel) (by decide +kernel)), ⟨by decide +kernel, by decide +kernel, by decide +kernel⟩⟩
set_option maxRecDepth 20000 in
theorem kSL_adopts : hm_lSH RL 149 yL_adopts cL_adopts 5 (some .int) [(0, 7, 8, 20)] 4 := ⟨(hm_in 368 (by decide +kernel) (by decide +kernel)), (hm_in 369 (by decide +kernel) (by decide +kernel)), (hm_in 22 (by decide +kernel) (by decide +kernel)), (hm_in 370 (by decide +kernel) (by decide +kernel)), ⟨by decide +kernel, by decide +kernel, by decide +kernel⟩⟩
set_option maxRecDepth 20000 in
theorem kSL_folds : hm_lSH RL 152 yL_folds cL_folds 4 (some .int) [(0, 6, 7, 20), (0, 6, 11, 13)] 3 := ⟨(hm_in 382 (by decide +kernel) (by decide +kernel)), (hm_in 383 (by decide +kernel) (by decide +kernel)), (hm_in 22 (by decide +kernel) (by decide +kernel)), (hm_in 384 (by decide +kernel) (by decide +kernel)), ⟨by decide +kernel, by decide +kernel, by decide +kernel⟩⟩
set_option maxRecDepth 20000 in
theorem kSL_versions : hm_lSH RL 156 yL_versions cL_versions 3 (some .int) [(0, 5, 6, 20)] 2 := ⟨(hm_in 427 (by decide +kernel) (by decide +kernel)), (hm_in 428 (by decide +kernel) (by decide +kernel)), (hm_in 22 (by decide +kernel) (by decide +kernel)), (hm_in 429 (by decide +kernel) (by decide +kernel)), ⟨by decide +kernel, by decide +kernel, by decide +kernel⟩⟩
set_option maxRecDepth 20000 in
theorem kSL_head : hm_lSH RL 159 yL_head cL_head 4 (some .int) [(0, 6, 7, 20)] 3 := ⟨(hm_in 434 (by decide +kernel) (by decide +kernel)), (hm_in 435 (by decide +kernel) (by decide +kernel)), (hm_in 22 (by decide +kernel) (by decide +kernel)), (hm_in 436 (by decide +kernel) (by decide +kernel)), ⟨by decide +kernel, by decide +kernel, by decide +kernel⟩⟩
set_option maxRecDepth 20000 in
theorem kSL_parent : hm_lSH RL 161 yL_parent cL_parent 4 (some .int) [(0, 6, 7, 20)] 3 := ⟨(hm_in 441 (by decide +kernel) (by decide +kernel)), (hm_in 442 (by decide +kernel) (by decide +kernel)), (hm_in 22 (by decide +kernel) (by decide +kernel)), (hm_in 443 (by decide +kernel) (by decide +kernel)), ⟨by decide +kernel, by decide +kernel, by decide +kernel⟩⟩
set_option maxRecDepth 20000 in
theorem kSL_kind : hm_lSH RL 163 yL_kind cL_kind 5 (some .int) [(0, 7, 8, 20)] 4 := ⟨(hm_in 448 (by decide +kernel) (by decide +kernel)), (hm_in 449 (by decide +kernel) (by decide +kernel)), (hm_in 22 (by decide +kernel) (by decide +kernel)), (hm_in 450 (by decide +kernel) (by decide +kernel)), ⟨by decide +kernel, by decide +kernel, by decide +kernel⟩⟩
set_option maxRecDepth 20000 in
theorem kSL_toldIn : hm_lSH RL 166 yL_toldIn cL_toldIn 5 (some .int) [(0, 7, 8, 20)] 4 := ⟨(hm_in 455 (by decide +kernel) (by decide +kernel)), (hm_in 456 (by decide +kernel) (by decide +kernel)), (hm_in 22 (by decide +kernel) (by decide +kernel)), (hm_in 457 (by decide +kernel) (by decide +kernel)), ⟨by decide +kernel, by decide +kernel, by decide +kernel⟩⟩
set_option maxRecDepth 20000 in
theorem kSL_points : hm_lSH RL 168 yL_points cL_points 4 (some .int) [(0, 6, 7, 20)] 3 := ⟨(hm_in 462 (by decide +kernel) (by decide +kernel)), (hm_in 463 (by decide +kernel) (by decide +kernel)), (hm_in 22 (by decide +kernel) (by decide +kernel)), (hm_in 464 (by decide +kernel) (by decide +kernel)), ⟨by decide +kernel, by decide +kernel, by decide +kernel⟩⟩
set_option maxRecDepth 20000 in
theorem kSL_mendsNumber : hm_lSH RL 170 yL_mendsNumber cL_mendsNumber 7 (some .int) [(0, 11, 12, 20), (0, 11, 17, 23), (0, 11, 22, 13)] 6 := ⟨(hm_in 469 (by decide +kernel) (by decide +kernel)), (hm_in 470 (by decide +kernel) (by decide +kernel)), (hm_in 22 (by decide +kernel) (by decide +kernel)), (hm_in 471 (by decide +kernel) (by decide +kernel)), ⟨by decide +kernel, by decide +kernel, by decide +kernel⟩⟩
set_option maxRecDepth 20000 in
theorem kSL_mendsChoice : hm_lSH RL 173 yL_mendsChoice cL_mendsChoice 6 (some .int) [(0, 9, 10, 20), (0, 9, 15, 23), (0, 9, 20, 13)] 5 := ⟨(hm_in 573 (by decide +kernel) (by decide +kernel)), (hm_in 574 (by decide +kernel) (by decide +kernel)), (hm_in 22 (by decide +kernel) (by decide +kernel)), (hm_in 575 (by decide +kernel) (by decide +kernel)), ⟨by decide +kernel, by decide +kernel, by decide +kernel⟩⟩
set_option maxRecDepth 20000 in
theorem kSL_mendsWords : hm_lSH RL 177 yL_mendsWords cL_mendsWords 6 (some .int) [(0, 9, 10, 20), (0, 9, 15, 23), (0, 9, 20, 13)] 5 := ⟨(hm_in 580 (by decide +kernel) (by decide +kernel)), (hm_in 581 (by decide +kernel) (by decide +kernel)), (hm_in 22 (by decide +kernel) (by decide +kernel)), (hm_in 582 (by decide +kernel) (by decide +kernel)), ⟨by decide +kernel, by decide +kernel, by decide +kernel⟩⟩
set_option maxRecDepth 20000 in
theorem kSL_opens : hm_lSH RL 180 yL_opens cL_opens 4 (some .int) [(0, 6, 7, 20), (0, 6, 11, 13)] 3 := ⟨(hm_in 587 (by decide +kernel) (by decide +kernel)), (hm_in 588 (by decide +kernel) (by decide +kernel)), (hm_in 22 (by decide +kernel) (by decide +kernel)), (hm_in 589 (by decide +kernel) (by decide +kernel)), ⟨by decide +kernel, by decide +kernel, by decide +kernel⟩⟩
set_option maxRecDepth 20000 in
theorem kSL_says : hm_lSH RL 183 yL_says cL_says 6 (some .int) [(0, 9, 10, 20), (0, 9, 15, 23), (0, 9, 20, 13)] 5 := ⟨(hm_in 668 (by decide +kernel) (by decide +kernel)), (hm_in 669 (by decide +kernel) (by decide +kernel)), (hm_in 22 (by decide +kernel) (by decide +kernel)), (hm_in 670 (by decide +kernel) (by decide +kernel)), ⟨by decide +kernel, by decide +kernel, by decide +kernel⟩⟩
set_option maxRecDepth 20000 in
theorem kSL_hands : hm_lSH RL 186 yL_hands cL_hands 4 (some .int) [(0, 6, 7, 20), (0, 6, 11, 13)] 3 := ⟨(hm_in 707 (by decide +kernel) (by decide +kernel)), (hm_in 708 (by decide +kernel) (by decide +kernel)), (hm_in 22 (by decide +kernel) (by decide +kernel)), (hm_in 709 (by decide +kernel) (by decide +kernel)), ⟨by decide +kernel, by decide +kernel, by decide +kernel⟩⟩
set_option maxRecDepth 20000 in
theorem kSL_closes : hm_lSH RL 189 yL_closes cL_closes 4 (some .int) [(0, 6, 7, 20), (0, 6, 11, 13)] 3 := ⟨(hm_in 714 (by decide +kernel) (by decide +kernel)), (hm_in 715 (by decide +kernel) (by decide +kernel)), (hm_in 22 (by decide +kernel) (by decide +kernel)), (hm_in 716 (by decide +kernel) (by decide +kernel)), ⟨by decide +kernel, by decide +kernel, by decide +kernel⟩⟩
set_option maxRecDepth 20000 in
theorem kSL_answer : hm_lSH RL 192 yL_answer cL_answer 4 (some .int) [(0, 6, 7, 20)] 3 := ⟨(hm_in 721 (by decide +kernel) (by decide +kernel)), (hm_in 722 (by decide +kernel) (by decide +kernel)), (hm_in 22 (by decide +kernel) (by decide +kernel)), (hm_in 723 (by decide +kernel) (by decide +kernel)), ⟨by decide +kernel, by decide +kernel, by decide +kernel⟩⟩
set_option maxRecDepth 20000 in
theorem kSL_mark : hm_lSH RL 194 yL_mark cL_mark 4 (some .int) [(0, 6, 7, 20)] 3 := ⟨(hm_in 732 (by decide +kernel) (by decide +kernel)), (hm_in 733 (by decide +kernel) (by decide +kernel)), (hm_in 22 (by decide +kernel) (by decide +kernel)), (hm_in 734 (by decide +kernel) (by decide +kernel)), ⟨by decide +kernel, by decide +kernel, by decide +kernel⟩⟩
set_option maxRecDepth 20000 in
theorem kSL_due : hm_lSH RL 196 yL_due cL_due 4 (some .int) [(0, 6, 7, 20)] 3 := ⟨(hm_in 739 (by decide +kernel) (by decide +kernel)), (hm_in 740 (by decide +kernel) (by decide +kernel)), (hm_in 22 (by decide +kernel) (by decide +kernel)), (hm_in 741 (by decide +kernel) (by decide +kernel)), ⟨by decide +kernel, by decide +kernel, by decide +kernel⟩⟩
set_option maxRecDepth 20000 in
theorem kSL_told : hm_lSH RL 198 yL_told cL_told 4 (some .int) [(0, 6, 7, 20)] 3 := ⟨(hm_in 746 (by decide +kernel) (by decide +kernel)), (hm_in 747 (by decide +kernel) (by decide +kernel)), (hm_in 22 (by decide +kernel) (by decide +kernel)), (hm_in 748 (by decide +kernel) (by decide +kernel)), ⟨by decide +kernel, by decide +kernel, by decide +kernel⟩⟩
set_option maxRecDepth 20000 in
theorem kSL_average : hm_lSH RL 200 yL_average cL_average 4 (some .int) [(0, 6, 7, 20)] 3 := ⟨(hm_in 753 (by decide +kernel) (by decide +kernel)), (hm_in 754 (by decide +kernel) (by decide +kernel)), (hm_in 22 (by decide +kernel) (by decide +kernel)), (hm_in 755 (by decide +kernel) (by decide +kernel)), ⟨by decide +kernel, by decide +kernel, by decide +kernel⟩⟩
set_option maxRecDepth 20000 in
theorem kSL_prints : hm_lSH RL 202 yL_prints cL_prints 4 (some .int) [(0, 6, 7, 20)] 3 := ⟨(hm_in 760 (by decide +kernel) (by decide +kernel)), (hm_in 761 (by decide +kernel) (by decide +kernel)), (hm_in 22 (by decide +kernel) (by decide +kernel)), (hm_in 762 (by decide +kernel) (by decide +kernel)), ⟨by decide +kernel, by decide +kernel, by decide +kernel⟩⟩
set_option maxRecDepth 20000 in
theorem kSL_with : hm_lSH RL 205 yL_with cL_with 4 (some .int) [(0, 6, 7, 20)] 3 := ⟨(hm_in 767 (by decide +kernel) (by decide +kernel)), (hm_in 768 (by decide +kernel) (by decide +kernel)), (hm_in 22 (by decide +kernel) (by decide +kernel)), (hm_in 769 (by decide +kernel) (by decide +kernel)), ⟨by decide +kernel, by decide +kernel, by decide +kernel⟩⟩
set_option maxRecDepth 20000 in
theorem kSL_likeness : hm_lSH RL 208 yL_likeness cL_likeness 5 (some .int) [(0, 7, 8, 20)] 4 := ⟨(hm_in 778 (by decide +kernel) (by decide +kernel)), (hm_in 779 (by decide +kernel) (by decide +kernel)), (hm_in 22 (by decide +kernel) (by decide +kernel)), (hm_in 780 (by decide +kernel) (by decide +kernel)), ⟨by decide +kernel, by decide +kernel, by decide +kernel⟩⟩
set_option maxRecDepth 20000 in
theorem kSL_pairs : hm_lSH RL 210 yL_pairs cL_pairs 3 (some .int) [(0, 5, 6, 20)] 2 := ⟨(hm_in 796 (by decide +kernel) (by decide +kernel)), (hm_in 797 (by decide +kernel) (by decide +kernel)), (hm_in 22 (by decide +kernel) (by decide +kernel)), (hm_in 798 (by decide +kernel) (by decide +kernel)), ⟨by decide +kernel, by decide +kernel, by decide +kernel⟩⟩
set_option maxRecDepth 20000 in
theorem kSL_pairAt : hm_lSH RL 212 yL_pairAt cL_pairAt 4 (some .int) [(0, 6, 7, 20)] 3 := ⟨(hm_in 811 (by decide +kernel) (by decide +kernel)), (hm_in 812 (by decide +kernel) (by decide +kernel)), (hm_in 22 (by decide +kernel) (by decide +kernel)), (hm_in 813 (by decide +kernel) (by decide +kernel)), ⟨by decide +kernel, by decide +kernel, by decide +kernel⟩⟩
set_option maxRecDepth 20000 in
theorem kSL_anew : hm_lSH RL 214 yL_anew cL_anew 3 (some .int) [(0, 5, 6, 20)] 2 := ⟨(hm_in 819 (by decide +kernel) (by decide +kernel)), (hm_in 820 (by decide +kernel) (by decide +kernel)), (hm_in 22 (by decide +kernel) (by decide +kernel)), (hm_in 821 (by decide +kernel) (by decide +kernel)), ⟨by decide +kernel, by decide +kernel, by decide +kernel⟩⟩
set_option maxRecDepth 20000 in
theorem kSL_quotas : hm_lSH RL 217 yL_quotas cL_quotas 4 (some .int) [(0, 6, 7, 20), (0, 6, 11, 23)] 3 := ⟨(hm_in 846 (by decide +kernel) (by decide +kernel)), (hm_in 847 (by decide +kernel) (by decide +kernel)), (hm_in 22 (by decide +kernel) (by decide +kernel)), (hm_in 848 (by decide +kernel) (by decide +kernel)), ⟨by decide +kernel, by decide +kernel, by decide +kernel⟩⟩
set_option maxRecDepth 20000 in
theorem kSL_used : hm_lSH RL 220 yL_used cL_used 3 (some .int) [(0, 5, 6, 20)] 2 := ⟨(hm_in 853 (by decide +kernel) (by decide +kernel)), (hm_in 854 (by decide +kernel) (by decide +kernel)), (hm_in 22 (by decide +kernel) (by decide +kernel)), (hm_in 855 (by decide +kernel) (by decide +kernel)), ⟨by decide +kernel, by decide +kernel, by decide +kernel⟩⟩
set_option maxRecDepth 20000 in
theorem kSL_usedAnew : hm_lSH RL 222 yL_usedAnew cL_usedAnew 3 (some .int) [(0, 5, 6, 20)] 2 := ⟨(hm_in 860 (by decide +kernel) (by decide +kernel)), (hm_in 861 (by decide +kernel) (by decide +kernel)), (hm_in 22 (by decide +kernel) (by decide +kernel)), (hm_in 862 (by decide +kernel) (by decide +kernel)), ⟨by decide +kernel, by decide +kernel, by decide +kernel⟩⟩
