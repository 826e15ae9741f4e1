theorem dJ6_bitCount_0f7a4_0 : decode cJ6_bitCount_0f7a4 0 = .ok (.iload_n 0, 1) := by decide +kernel
theorem dJ6_bitCount_0f7a4_1 : decode cJ6_bitCount_0f7a4 1 = .ok (.iload_n 0, 1) := by decide +kernel
theorem dJ6_bitCount_0f7a4_2 : decode cJ6_bitCount_0f7a4 2 = .ok (.iconst 1, 1) := by decide +kernel
theorem dJ6_bitCount_0f7a4_3 : decode cJ6_bitCount_0f7a4 3 = .ok (.iushr, 1) := by decide +kernel
theorem dJ6_bitCount_0f7a4_4 : decode cJ6_bitCount_0f7a4 4 = .ok (.ldc_w 265, 3) := by decide +kernel
theorem dJ6_bitCount_0f7a4_7 : decode cJ6_bitCount_0f7a4 7 = .ok (.iand, 1) := by decide +kernel
theorem dJ6_bitCount_0f7a4_8 : decode cJ6_bitCount_0f7a4 8 = .ok (.isub, 1) := by decide +kernel
theorem dJ6_bitCount_0f7a4_9 : decode cJ6_bitCount_0f7a4 9 = .ok (.istore_n 0, 1) := by decide +kernel
theorem dJ6_bitCount_0f7a4_10 : decode cJ6_bitCount_0f7a4 10 = .ok (.iload_n 0, 1) := by decide +kernel
theorem dJ6_bitCount_0f7a4_11 : decode cJ6_bitCount_0f7a4 11 = .ok (.ldc_w 266, 3) := by decide +kernel
theorem dJ6_bitCount_0f7a4_14 : decode cJ6_bitCount_0f7a4 14 = .ok (.iand, 1) := by decide +kernel
theorem dJ6_bitCount_0f7a4_15 : decode cJ6_bitCount_0f7a4 15 = .ok (.iload_n 0, 1) := by decide +kernel
theorem dJ6_bitCount_0f7a4_16 : decode cJ6_bitCount_0f7a4 16 = .ok (.iconst 2, 1) := by decide +kernel
theorem dJ6_bitCount_0f7a4_17 : decode cJ6_bitCount_0f7a4 17 = .ok (.iushr, 1) := by decide +kernel
theorem dJ6_bitCount_0f7a4_18 : decode cJ6_bitCount_0f7a4 18 = .ok (.ldc_w 266, 3) := by decide +kernel
theorem dJ6_bitCount_0f7a4_21 : decode cJ6_bitCount_0f7a4 21 = .ok (.iand, 1) := by decide +kernel
theorem dJ6_bitCount_0f7a4_22 : decode cJ6_bitCount_0f7a4 22 = .ok (.iadd, 1) := by decide +kernel
theorem dJ6_bitCount_0f7a4_23 : decode cJ6_bitCount_0f7a4 23 = .ok (.istore_n 0, 1) := by decide +kernel
theorem dJ6_bitCount_0f7a4_24 : decode cJ6_bitCount_0f7a4 24 = .ok (.iload_n 0, 1) := by decide +kernel
theorem dJ6_bitCount_0f7a4_25 : decode cJ6_bitCount_0f7a4 25 = .ok (.iload_n 0, 1) := by decide +kernel
theorem dJ6_bitCount_0f7a4_26 : decode cJ6_bitCount_0f7a4 26 = .ok (.iconst 4, 1) := by decide +kernel
theorem dJ6_bitCount_0f7a4_27 : decode cJ6_bitCount_0f7a4 27 = .ok (.iushr, 1) := by decide +kernel
theorem dJ6_bitCount_0f7a4_28 : decode cJ6_bitCount_0f7a4 28 = .ok (.iadd, 1) := by decide +kernel
theorem dJ6_bitCount_0f7a4_29 : decode cJ6_bitCount_0f7a4 29 = .ok (.ldc_w 267, 3) := by decide +kernel
theorem dJ6_bitCount_0f7a4_32 : decode cJ6_bitCount_0f7a4 32 = .ok (.iand, 1) := by decide +kernel
theorem dJ6_bitCount_0f7a4_33 : decode cJ6_bitCount_0f7a4 33 = .ok (.istore_n 0, 1) := by decide +kernel
theorem dJ6_bitCount_0f7a4_34 : decode cJ6_bitCount_0f7a4 34 = .ok (.iload_n 0, 1) := by decide +kernel
theorem dJ6_bitCount_0f7a4_35 : decode cJ6_bitCount_0f7a4 35 = .ok (.iload_n 0, 1) := by decide +kernel
theorem dJ6_bitCount_0f7a4_36 : decode cJ6_bitCount_0f7a4 36 = .ok (.bipush 8, 2) := by decide +kernel
theorem dJ6_bitCount_0f7a4_38 : decode cJ6_bitCount_0f7a4 38 = .ok (.iushr, 1) := by decide +kernel
theorem dJ6_bitCount_0f7a4_39 : decode cJ6_bitCount_0f7a4 39 = .ok (.iadd, 1) := by decide +kernel
theorem dJ6_bitCount_0f7a4_40 : decode cJ6_bitCount_0f7a4 40 = .ok (.istore_n 0, 1) := by decide +kernel
theorem dJ6_bitCount_0f7a4_41 : decode cJ6_bitCount_0f7a4 41 = .ok (.iload_n 0, 1) := by decide +kernel
theorem dJ6_bitCount_0f7a4_42 : decode cJ6_bitCount_0f7a4 42 = .ok (.iload_n 0, 1) := by decide +kernel
theorem dJ6_bitCount_0f7a4_43 : decode cJ6_bitCount_0f7a4 43 = .ok (.bipush 16, 2) := by decide +kernel
theorem dJ6_bitCount_0f7a4_45 : decode cJ6_bitCount_0f7a4 45 = .ok (.iushr, 1) := by decide +kernel
theorem dJ6_bitCount_0f7a4_46 : decode cJ6_bitCount_0f7a4 46 = .ok (.iadd, 1) := by decide +kernel
theorem dJ6_bitCount_0f7a4_47 : decode cJ6_bitCount_0f7a4 47 = .ok (.istore_n 0, 1) := by decide +kernel
theorem dJ6_bitCount_0f7a4_48 : decode cJ6_bitCount_0f7a4 48 = .ok (.iload_n 0, 1) := by decide +kernel
theorem dJ6_bitCount_0f7a4_49 : decode cJ6_bitCount_0f7a4 49 = .ok (.bipush 63, 2) := by decide +kernel
theorem dJ6_bitCount_0f7a4_51 : decode cJ6_bitCount_0f7a4 51 = .ok (.iand, 1) := by decide +kernel
theorem dJ6_bitCount_0f7a4_52 : decode cJ6_bitCount_0f7a4 52 = .ok (.ireturn, 1) := by decide +kernel
theorem dJ9_abs_0f7a4_0 : decode cJ9_abs_0f7a4 0 = .ok (.iload_n 0, 1) := by decide +kernel
theorem dJ9_abs_0f7a4_1 : decode cJ9_abs_0f7a4 1 = .ok (.ifCond .ge 8, 3) := by decide +kernel
theorem dJ9_abs_0f7a4_4 : decode cJ9_abs_0f7a4 4 = .ok (.iload_n 0, 1) := by decide +kernel
theorem dJ9_abs_0f7a4_5 : decode cJ9_abs_0f7a4 5 = .ok (.ineg, 1) := by decide +kernel
theorem dJ9_abs_0f7a4_6 : decode cJ9_abs_0f7a4 6 = .ok (.goto 4, 3) := by decide +kernel
theorem dJ9_abs_0f7a4_9 : decode cJ9_abs_0f7a4 9 = .ok (.iload_n 0, 1) := by decide +kernel
theorem dJ9_abs_0f7a4_10 : decode cJ9_abs_0f7a4 10 = .ok (.ireturn, 1) := by decide +kernel
theorem dJ9_max_7cf53_0 : decode cJ9_max_7cf53 0 = .ok (.iload_n 0, 1) := by decide +kernel
theorem dJ9_max_7cf53_1 : decode cJ9_max_7cf53 1 = .ok (.iload_n 1, 1) := by decide +kernel
theorem dJ9_max_7cf53_2 : decode cJ9_max_7cf53 2 = .ok (.if_icmp .lt 7, 3) := by decide +kernel
theorem dJ9_max_7cf53_5 : decode cJ9_max_7cf53 5 = .ok (.iload_n 0, 1) := by decide +kernel
theorem dJ9_max_7cf53_6 : decode cJ9_max_7cf53 6 = .ok (.goto 4, 3) := by decide +kernel
theorem dJ9_max_7cf53_9 : decode cJ9_max_7cf53 9 = .ok (.iload_n 1, 1) := by decide +kernel
theorem dJ9_max_7cf53_10 : decode cJ9_max_7cf53 10 = .ok (.ireturn, 1) := by decide +kernel
theorem dJ9_min_7cf53_0 : decode cJ9_min_7cf53 0 = .ok (.iload_n 0, 1) := by decide +kernel
theorem dJ9_min_7cf53_1 : decode cJ9_min_7cf53 1 = .ok (.iload_n 1, 1) := by decide +kernel
theorem dJ9_min_7cf53_2 : decode cJ9_min_7cf53 2 = .ok (.if_icmp .gt 7, 3) := by decide +kernel
theorem dJ9_min_7cf53_5 : decode cJ9_min_7cf53 5 = .ok (.iload_n 0, 1) := by decide +kernel
theorem dJ9_min_7cf53_6 : decode cJ9_min_7cf53 6 = .ok (.goto 4, 3) := by decide +kernel
theorem dJ9_min_7cf53_9 : decode cJ9_min_7cf53 9 = .ok (.iload_n 1, 1) := by decide +kernel
theorem dJ9_min_7cf53_10 : decode cJ9_min_7cf53 10 = .ok (.ireturn, 1) := by decide +kernel
theorem dX0_init_0 : decode cX0_init 0 = .ok (.aload_n 0, 1) := by decide +kernel
theorem dX0_init_1 : decode cX0_init 1 = .ok (.invokespecial 3, 3) := by decide +kernel
theorem dX0_init_4 : decode cX0_init 4 = .ok (.aload_n 0, 1) := by decide +kernel
theorem dX0_init_5 : decode cX0_init 5 = .ok (.iconst 5, 1) := by decide +kernel
theorem dX0_init_6 : decode cX0_init 6 = .ok (.anewarray 9, 3) := by decide +kernel
theorem dX0_init_9 : decode cX0_init 9 = .ok (.putfield 11, 3) := by decide +kernel
theorem dX0_init_12 : decode cX0_init 12 = .ok (.aload_n 0, 1) := by decide +kernel
theorem dX0_init_13 : decode cX0_init 13 = .ok (.iconst 0, 1) := by decide +kernel
theorem dX0_init_14 : decode cX0_init 14 = .ok (.putfield 17, 3) := by decide +kernel
theorem dX0_init_17 : decode cX0_init 17 = .ok (.aload_n 0, 1) := by decide +kernel
theorem dX0_init_18 : decode cX0_init 18 = .ok (.iconst (-1), 1) := by decide +kernel
theorem dX0_init_19 : decode cX0_init 19 = .ok (.putfield 21, 3) := by decide +kernel
theorem dX0_init_22 : decode cX0_init 22 = .ok (.aload_n 0, 1) := by decide +kernel
theorem dX0_init_23 : decode cX0_init 23 = .ok (.iconst (-1), 1) := by decide +kernel
theorem dX0_init_24 : decode cX0_init 24 = .ok (.putfield 25, 3) := by decide +kernel
theorem dX0_init_27 : decode cX0_init 27 = .ok (.aload_n 0, 1) := by decide +kernel
theorem dX0_init_28 : decode cX0_init 28 = .ok (.iconst 0, 1) := by decide +kernel
theorem dX0_init_29 : decode cX0_init 29 = .ok (.putfield 28, 3) := by decide +kernel
theorem dX0_init_32 : decode cX0_init 32 = .ok (.aload_n 0, 1) := by decide +kernel
theorem dX0_init_33 : decode cX0_init 33 = .ok (.bipush 50, 2) := by decide +kernel
theorem dX0_init_35 : decode cX0_init 35 = .ok (.newarray .int, 2) := by decide +kernel
theorem dX0_init_37 : decode cX0_init 37 = .ok (.putfield 31, 3) := by decide +kernel
theorem dX0_init_40 : decode cX0_init 40 = .ok (.aload_n 0, 1) := by decide +kernel
theorem dX0_init_41 : decode cX0_init 41 = .ok (.iconst 0, 1) := by decide +kernel
theorem dX0_init_42 : decode cX0_init 42 = .ok (.putfield 35, 3) := by decide +kernel
theorem dX0_init_45 : decode cX0_init 45 = .ok (.aload_n 0, 1) := by decide +kernel
theorem dX0_init_46 : decode cX0_init 46 = .ok (.aload_n 1, 1) := by decide +kernel
theorem dX0_init_47 : decode cX0_init 47 = .ok (.putfield 38, 3) := by decide +kernel
theorem dX0_init_50 : decode cX0_init 50 = .ok (.iconst 0, 1) := by decide +kernel
theorem dX0_init_51 : decode cX0_init 51 = .ok (.istore_n 2, 1) := by decide +kernel
theorem dX0_init_52 : decode cX0_init 52 = .ok (.iload_n 2, 1) := by decide +kernel
theorem dX0_init_53 : decode cX0_init 53 = .ok (.iconst 5, 1) := by decide +kernel
theorem dX0_init_54 : decode cX0_init 54 = .ok (.if_icmp .ge 22, 3) := by decide +kernel
theorem dX0_init_57 : decode cX0_init 57 = .ok (.aload_n 0, 1) := by decide +kernel
theorem dX0_init_58 : decode cX0_init 58 = .ok (.getfield 11, 3) := by decide +kernel
theorem dX0_init_61 : decode cX0_init 61 = .ok (.iload_n 2, 1) := by decide +kernel
theorem dX0_init_62 : decode cX0_init 62 = .ok (.new 9, 3) := by decide +kernel
theorem dX0_init_65 : decode cX0_init 65 = .ok (.dup, 1) := by decide +kernel
theorem dX0_init_66 : decode cX0_init 66 = .ok (.invokespecial 42, 3) := by decide +kernel
theorem dX0_init_69 : decode cX0_init 69 = .ok (.aastore, 1) := by decide +kernel
theorem dX0_init_70 : decode cX0_init 70 = .ok (.iinc 2 1, 3) := by decide +kernel
theorem dX0_init_73 : decode cX0_init 73 = .ok (.goto (-21), 3) := by decide +kernel
theorem dX0_init_76 : decode cX0_init 76 = .ok (.return_, 1) := by decide +kernel
theorem dX0_size_0 : decode cX0_size 0 = .ok (.iconst 0, 1) := by decide +kernel
theorem dX0_size_1 : decode cX0_size 1 = .ok (.istore_n 1, 1) := by decide +kernel
theorem dX0_size_2 : decode cX0_size 2 = .ok (.iconst 0, 1) := by decide +kernel
theorem dX0_size_3 : decode cX0_size 3 = .ok (.istore_n 2, 1) := by decide +kernel
theorem dX0_size_4 : decode cX0_size 4 = .ok (.iload_n 2, 1) := by decide +kernel
theorem dX0_size_5 : decode cX0_size 5 = .ok (.iconst 5, 1) := by decide +kernel
theorem dX0_size_6 : decode cX0_size 6 = .ok (.if_icmp .ge 30, 3) := by decide +kernel
theorem dX0_size_9 : decode cX0_size 9 = .ok (.aload_n 0, 1) := by decide +kernel
theorem dX0_size_10 : decode cX0_size 10 = .ok (.getfield 11, 3) := by decide +kernel
theorem dX0_size_13 : decode cX0_size 13 = .ok (.iload_n 2, 1) := by decide +kernel
theorem dX0_size_14 : decode cX0_size 14 = .ok (.aaload, 1) := by decide +kernel
theorem dX0_size_15 : decode cX0_size 15 = .ok (.ifnull 15, 3) := by decide +kernel
theorem dX0_size_18 : decode cX0_size 18 = .ok (.iload_n 1, 1) := by decide +kernel
theorem dX0_size_19 : decode cX0_size 19 = .ok (.aload_n 0, 1) := by decide +kernel
theorem dX0_size_20 : decode cX0_size 20 = .ok (.getfield 11, 3) := by decide +kernel
theorem dX0_size_23 : decode cX0_size 23 = .ok (.iload_n 2, 1) := by decide +kernel
theorem dX0_size_24 : decode cX0_size 24 = .ok (.aaload, 1) := by decide +kernel
theorem dX0_size_25 : decode cX0_size 25 = .ok (.invokevirtual 43, 3) := by decide +kernel
theorem dX0_size_28 : decode cX0_size 28 = .ok (.iadd, 1) := by decide +kernel
theorem dX0_size_29 : decode cX0_size 29 = .ok (.istore_n 1, 1) := by decide +kernel
theorem dX0_size_30 : decode cX0_size 30 = .ok (.iinc 2 1, 3) := by decide +kernel
theorem dX0_size_33 : decode cX0_size 33 = .ok (.goto (-29), 3) := by decide +kernel
theorem dX0_size_36 : decode cX0_size 36 = .ok (.iload_n 1, 1) := by decide +kernel
theorem dX0_size_37 : decode cX0_size 37 = .ok (.ireturn, 1) := by decide +kernel
theorem dX0_isInIndex_0 : decode cX0_isInIndex 0 = .ok (.aload_n 0, 1) := by decide +kernel
theorem dX0_isInIndex_1 : decode cX0_isInIndex 1 = .ok (.getfield 17, 3) := by decide +kernel
theorem dX0_isInIndex_4 : decode cX0_isInIndex 4 = .ok (.ifCond .eq 14, 3) := by decide +kernel
theorem dX0_isInIndex_7 : decode cX0_isInIndex 7 = .ok (.aload_n 0, 1) := by decide +kernel
theorem dX0_isInIndex_8 : decode cX0_isInIndex 8 = .ok (.getfield 21, 3) := by decide +kernel
theorem dX0_isInIndex_11 : decode cX0_isInIndex 11 = .ok (.ifCond .le 7, 3) := by decide +kernel
theorem dX0_isInIndex_14 : decode cX0_isInIndex 14 = .ok (.iconst 1, 1) := by decide +kernel
theorem dX0_isInIndex_15 : decode cX0_isInIndex 15 = .ok (.goto 4, 3) := by decide +kernel
theorem dX0_isInIndex_18 : decode cX0_isInIndex 18 = .ok (.iconst 0, 1) := by decide +kernel
theorem dX0_isInIndex_19 : decode cX0_isInIndex 19 = .ok (.ireturn, 1) := by decide +kernel
theorem dX0_takeDueMark_0 : decode cX0_takeDueMark 0 = .ok (.aload_n 0, 1) := by decide +kernel
theorem dX0_takeDueMark_1 : decode cX0_takeDueMark 1 = .ok (.iload_n 1, 1) := by decide +kernel
theorem dX0_takeDueMark_2 : decode cX0_takeDueMark 2 = .ok (.putfield 25, 3) := by decide +kernel
theorem dX0_takeDueMark_5 : decode cX0_takeDueMark 5 = .ok (.iload_n 2, 1) := by decide +kernel
theorem dX0_takeDueMark_6 : decode cX0_takeDueMark 6 = .ok (.ifCond .eq 16, 3) := by decide +kernel
theorem dX0_takeDueMark_9 : decode cX0_takeDueMark 9 = .ok (.aload_n 0, 1) := by decide +kernel
theorem dX0_takeDueMark_10 : decode cX0_takeDueMark 10 = .ok (.dup, 1) := by decide +kernel
theorem dX0_takeDueMark_11 : decode cX0_takeDueMark 11 = .ok (.getfield 28, 3) := by decide +kernel
theorem dX0_takeDueMark_14 : decode cX0_takeDueMark 14 = .ok (.iconst 1, 1) := by decide +kernel
theorem dX0_takeDueMark_15 : decode cX0_takeDueMark 15 = .ok (.iadd, 1) := by decide +kernel
theorem dX0_takeDueMark_16 : decode cX0_takeDueMark 16 = .ok (.putfield 28, 3) := by decide +kernel
theorem dX0_takeDueMark_19 : decode cX0_takeDueMark 19 = .ok (.goto 8, 3) := by decide +kernel
theorem dX0_takeDueMark_22 : decode cX0_takeDueMark 22 = .ok (.aload_n 0, 1) := by decide +kernel
theorem dX0_takeDueMark_23 : decode cX0_takeDueMark 23 = .ok (.iload_n 1, 1) := by decide +kernel
theorem dX0_takeDueMark_24 : decode cX0_takeDueMark 24 = .ok (.putfield 21, 3) := by decide +kernel
theorem dX0_takeDueMark_27 : decode cX0_takeDueMark 27 = .ok (.return_, 1) := by decide +kernel
theorem dX0_findPrints_0 : decode cX0_findPrints 0 = .ok (.aload_n 0, 1) := by decide +kernel
theorem dX0_findPrints_1 : decode cX0_findPrints 1 = .ok (.iconst 0, 1) := by decide +kernel
theorem dX0_findPrints_2 : decode cX0_findPrints 2 = .ok (.putfield 35, 3) := by decide +kernel
theorem dX0_findPrints_5 : decode cX0_findPrints 5 = .ok (.aload_n 0, 1) := by decide +kernel
theorem dX0_findPrints_6 : decode cX0_findPrints 6 = .ok (.invokevirtual 47, 3) := by decide +kernel
theorem dX0_findPrints_9 : decode cX0_findPrints 9 = .ok (.ifCond .ne 4, 3) := by decide +kernel
theorem dX0_findPrints_12 : decode cX0_findPrints 12 = .ok (.return_, 1) := by decide +kernel
theorem dX0_findPrints_13 : decode cX0_findPrints 13 = .ok (.iconst 0, 1) := by decide +kernel
theorem dX0_findPrints_14 : decode cX0_findPrints 14 = .ok (.istore_n 1, 1) := by decide +kernel
theorem dX0_findPrints_15 : decode cX0_findPrints 15 = .ok (.iload_n 1, 1) := by decide +kernel
theorem dX0_findPrints_16 : decode cX0_findPrints 16 = .ok (.iconst 5, 1) := by decide +kernel
theorem dX0_findPrints_17 : decode cX0_findPrints 17 = .ok (.if_icmp .ge 53, 3) := by decide +kernel
theorem dX0_findPrints_20 : decode cX0_findPrints 20 = .ok (.aload_n 0, 1) := by decide +kernel
theorem dX0_findPrints_21 : decode cX0_findPrints 21 = .ok (.getfield 38, 3) := by decide +kernel
theorem dX0_findPrints_24 : decode cX0_findPrints 24 = .ok (.iload_n 1, 1) := by decide +kernel
theorem dX0_findPrints_25 : decode cX0_findPrints 25 = .ok (.invokestatic 51, 3) := by decide +kernel
theorem dX0_findPrints_28 : decode cX0_findPrints 28 = .ok (.astore_n 2, 1) := by decide +kernel
theorem dX0_findPrints_29 : decode cX0_findPrints 29 = .ok (.aload_n 2, 1) := by decide +kernel
theorem dX0_findPrints_30 : decode cX0_findPrints 30 = .ok (.ifnull 34, 3) := by decide +kernel
theorem dX0_findPrints_33 : decode cX0_findPrints 33 = .ok (.aload_n 2, 1) := by decide +kernel
theorem dX0_findPrints_34 : decode cX0_findPrints 34 = .ok (.getfield 55, 3) := by decide +kernel
theorem dX0_findPrints_37 : decode cX0_findPrints 37 = .ok (.iconst 2, 1) := by decide +kernel
theorem dX0_findPrints_38 : decode cX0_findPrints 38 = .ok (.if_icmp .ne 26, 3) := by decide +kernel
theorem dX0_findPrints_41 : decode cX0_findPrints 41 = .ok (.aload_n 0, 1) := by decide +kernel
theorem dX0_findPrints_42 : decode cX0_findPrints 42 = .ok (.getfield 11, 3) := by decide +kernel
theorem dX0_findPrints_45 : decode cX0_findPrints 45 = .ok (.iload_n 1, 1) := by decide +kernel
theorem dX0_findPrints_46 : decode cX0_findPrints 46 = .ok (.aaload, 1) := by decide +kernel
theorem dX0_findPrints_47 : decode cX0_findPrints 47 = .ok (.ifnull 17, 3) := by decide +kernel
theorem dX0_findPrints_50 : decode cX0_findPrints 50 = .ok (.aload_n 0, 1) := by decide +kernel
theorem dX0_findPrints_51 : decode cX0_findPrints 51 = .ok (.aload_n 0, 1) := by decide +kernel
theorem dX0_findPrints_52 : decode cX0_findPrints 52 = .ok (.getfield 11, 3) := by decide +kernel
theorem dX0_findPrints_55 : decode cX0_findPrints 55 = .ok (.iload_n 1, 1) := by decide +kernel
theorem dX0_findPrints_56 : decode cX0_findPrints 56 = .ok (.aaload, 1) := by decide +kernel
theorem dX0_findPrints_57 : decode cX0_findPrints 57 = .ok (.aload_n 2, 1) := by decide +kernel
theorem dX0_findPrints_58 : decode cX0_findPrints 58 = .ok (.getfield 60, 3) := by decide +kernel
theorem dX0_findPrints_61 : decode cX0_findPrints 61 = .ok (.invokevirtual 63, 3) := by decide +kernel
theorem dX0_findPrints_64 : decode cX0_findPrints 64 = .ok (.iinc 1 1, 3) := by decide +kernel
theorem dX0_findPrints_67 : decode cX0_findPrints 67 = .ok (.goto (-52), 3) := by decide +kernel
theorem dX0_findPrints_70 : decode cX0_findPrints 70 = .ok (.return_, 1) := by decide +kernel
theorem dX0_findPrintsOf_0 : decode cX0_findPrintsOf 0 = .ok (.iconst 0, 1) := by decide +kernel
theorem dX0_findPrintsOf_1 : decode cX0_findPrintsOf 1 = .ok (.istore_n 3, 1) := by decide +kernel
theorem dX0_findPrintsOf_2 : decode cX0_findPrintsOf 2 = .ok (.iload_n 3, 1) := by decide +kernel
theorem dX0_findPrintsOf_3 : decode cX0_findPrintsOf 3 = .ok (.iconst 3, 1) := by decide +kernel
theorem dX0_findPrintsOf_4 : decode cX0_findPrintsOf 4 = .ok (.iadd, 1) := by decide +kernel
theorem dX0_findPrintsOf_5 : decode cX0_findPrintsOf 5 = .ok (.aload_n 1, 1) := by decide +kernel
theorem dX0_findPrintsOf_6 : decode cX0_findPrintsOf 6 = .ok (.getfield 67, 3) := by decide +kernel
theorem dX0_findPrintsOf_9 : decode cX0_findPrintsOf 9 = .ok (.if_icmp .gt 31, 3) := by decide +kernel
theorem dX0_findPrintsOf_12 : decode cX0_findPrintsOf 12 = .ok (.aload_n 1, 1) := by decide +kernel
theorem dX0_findPrintsOf_13 : decode cX0_findPrintsOf 13 = .ok (.iload_n 3, 1) := by decide +kernel
theorem dX0_findPrintsOf_14 : decode cX0_findPrintsOf 14 = .ok (.invokevirtual 70, 3) := by decide +kernel
theorem dX0_findPrintsOf_17 : decode cX0_findPrintsOf 17 = .ok (.istore 4, 2) := by decide +kernel
theorem dX0_findPrintsOf_19 : decode cX0_findPrintsOf 19 = .ok (.iload_n 2, 1) := by decide +kernel
theorem dX0_findPrintsOf_20 : decode cX0_findPrintsOf 20 = .ok (.iload 4, 2) := by decide +kernel
theorem dX0_findPrintsOf_22 : decode cX0_findPrintsOf 22 = .ok (.invokestatic 74, 3) := by decide +kernel
theorem dX0_findPrintsOf_25 : decode cX0_findPrintsOf 25 = .ok (.ifCond .ne 9, 3) := by decide +kernel
theorem dX0_findPrintsOf_28 : decode cX0_findPrintsOf 28 = .ok (.aload_n 0, 1) := by decide +kernel
theorem dX0_findPrintsOf_29 : decode cX0_findPrintsOf 29 = .ok (.iload 4, 2) := by decide +kernel
theorem dX0_findPrintsOf_31 : decode cX0_findPrintsOf 31 = .ok (.invokevirtual 78, 3) := by decide +kernel
theorem dX0_findPrintsOf_34 : decode cX0_findPrintsOf 34 = .ok (.iinc 3 1, 3) := by decide +kernel
theorem dX0_findPrintsOf_37 : decode cX0_findPrintsOf 37 = .ok (.goto (-35), 3) := by decide +kernel
theorem dX0_findPrintsOf_40 : decode cX0_findPrintsOf 40 = .ok (.return_, 1) := by decide +kernel
theorem dX0_insertPrint_0 : decode cX0_insertPrint 0 = .ok (.aload_n 0, 1) := by decide +kernel
theorem dX0_insertPrint_1 : decode cX0_insertPrint 1 = .ok (.iload_n 1, 1) := by decide +kernel
theorem dX0_insertPrint_2 : decode cX0_insertPrint 2 = .ok (.invokevirtual 82, 3) := by decide +kernel
theorem dX0_insertPrint_5 : decode cX0_insertPrint 5 = .ok (.istore_n 2, 1) := by decide +kernel
theorem dX0_insertPrint_6 : decode cX0_insertPrint 6 = .ok (.iload_n 2, 1) := by decide +kernel
theorem dX0_insertPrint_7 : decode cX0_insertPrint 7 = .ok (.aload_n 0, 1) := by decide +kernel
theorem dX0_insertPrint_8 : decode cX0_insertPrint 8 = .ok (.getfield 35, 3) := by decide +kernel
theorem dX0_insertPrint_11 : decode cX0_insertPrint 11 = .ok (.if_icmp .ge 17, 3) := by decide +kernel
theorem dX0_insertPrint_14 : decode cX0_insertPrint 14 = .ok (.aload_n 0, 1) := by decide +kernel
theorem dX0_insertPrint_15 : decode cX0_insertPrint 15 = .ok (.getfield 31, 3) := by decide +kernel
theorem dX0_insertPrint_18 : decode cX0_insertPrint 18 = .ok (.iload_n 2, 1) := by decide +kernel
theorem dX0_insertPrint_19 : decode cX0_insertPrint 19 = .ok (.iaload, 1) := by decide +kernel
theorem dX0_insertPrint_20 : decode cX0_insertPrint 20 = .ok (.iload_n 1, 1) := by decide +kernel
theorem dX0_insertPrint_21 : decode cX0_insertPrint 21 = .ok (.if_icmp .ne 7, 3) := by decide +kernel
theorem dX0_insertPrint_24 : decode cX0_insertPrint 24 = .ok (.iconst 1, 1) := by decide +kernel
theorem dX0_insertPrint_25 : decode cX0_insertPrint 25 = .ok (.goto 4, 3) := by decide +kernel
theorem dX0_insertPrint_28 : decode cX0_insertPrint 28 = .ok (.iconst 0, 1) := by decide +kernel
theorem dX0_insertPrint_29 : decode cX0_insertPrint 29 = .ok (.istore_n 3, 1) := by decide +kernel
theorem dX0_insertPrint_30 : decode cX0_insertPrint 30 = .ok (.iload_n 3, 1) := by decide +kernel
theorem dX0_insertPrint_31 : decode cX0_insertPrint 31 = .ok (.ifCond .ne 12, 3) := by decide +kernel
theorem dX0_insertPrint_34 : decode cX0_insertPrint 34 = .ok (.aload_n 0, 1) := by decide +kernel
theorem dX0_insertPrint_35 : decode cX0_insertPrint 35 = .ok (.getfield 35, 3) := by decide +kernel
theorem dX0_insertPrint_38 : decode cX0_insertPrint 38 = .ok (.bipush 50, 2) := by decide +kernel
theorem dX0_insertPrint_40 : decode cX0_insertPrint 40 = .ok (.if_icmp .lt 4, 3) := by decide +kernel
theorem dX0_insertPrint_43 : decode cX0_insertPrint 43 = .ok (.return_, 1) := by decide +kernel
theorem dX0_insertPrint_44 : decode cX0_insertPrint 44 = .ok (.aload_n 0, 1) := by decide +kernel
theorem dX0_insertPrint_45 : decode cX0_insertPrint 45 = .ok (.getfield 35, 3) := by decide +kernel
theorem dX0_insertPrint_48 : decode cX0_insertPrint 48 = .ok (.istore 4, 2) := by decide +kernel
theorem dX0_insertPrint_50 : decode cX0_insertPrint 50 = .ok (.iload 4, 2) := by decide +kernel
theorem dX0_insertPrint_52 : decode cX0_insertPrint 52 = .ok (.iload_n 2, 1) := by decide +kernel
theorem dX0_insertPrint_53 : decode cX0_insertPrint 53 = .ok (.if_icmp .le 25, 3) := by decide +kernel
theorem dX0_insertPrint_56 : decode cX0_insertPrint 56 = .ok (.aload_n 0, 1) := by decide +kernel
theorem dX0_insertPrint_57 : decode cX0_insertPrint 57 = .ok (.getfield 31, 3) := by decide +kernel
theorem dX0_insertPrint_60 : decode cX0_insertPrint 60 = .ok (.iload 4, 2) := by decide +kernel
theorem dX0_insertPrint_62 : decode cX0_insertPrint 62 = .ok (.aload_n 0, 1) := by decide +kernel
theorem dX0_insertPrint_63 : decode cX0_insertPrint 63 = .ok (.getfield 31, 3) := by decide +kernel
theorem dX0_insertPrint_66 : decode cX0_insertPrint 66 = .ok (.iload 4, 2) := by decide +kernel
theorem dX0_insertPrint_68 : decode cX0_insertPrint 68 = .ok (.iconst 1, 1) := by decide +kernel
theorem dX0_insertPrint_69 : decode cX0_insertPrint 69 = .ok (.isub, 1) := by decide +kernel
theorem dX0_insertPrint_70 : decode cX0_insertPrint 70 = .ok (.iaload, 1) := by decide +kernel
theorem dX0_insertPrint_71 : decode cX0_insertPrint 71 = .ok (.iastore, 1) := by decide +kernel
theorem dX0_insertPrint_72 : decode cX0_insertPrint 72 = .ok (.iinc 4 (-1), 3) := by decide +kernel
theorem dX0_insertPrint_75 : decode cX0_insertPrint 75 = .ok (.goto (-25), 3) := by decide +kernel
theorem dX0_insertPrint_78 : decode cX0_insertPrint 78 = .ok (.aload_n 0, 1) := by decide +kernel
theorem dX0_insertPrint_79 : decode cX0_insertPrint 79 = .ok (.getfield 31, 3) := by decide +kernel
theorem dX0_insertPrint_82 : decode cX0_insertPrint 82 = .ok (.iload_n 2, 1) := by decide +kernel
theorem dX0_insertPrint_83 : decode cX0_insertPrint 83 = .ok (.iload_n 1, 1) := by decide +kernel
theorem dX0_insertPrint_84 : decode cX0_insertPrint 84 = .ok (.iastore, 1) := by decide +kernel
theorem dX0_insertPrint_85 : decode cX0_insertPrint 85 = .ok (.aload_n 0, 1) := by decide +kernel
theorem dX0_insertPrint_86 : decode cX0_insertPrint 86 = .ok (.dup, 1) := by decide +kernel
theorem dX0_insertPrint_87 : decode cX0_insertPrint 87 = .ok (.getfield 35, 3) := by decide +kernel
theorem dX0_insertPrint_90 : decode cX0_insertPrint 90 = .ok (.iconst 1, 1) := by decide +kernel
theorem dX0_insertPrint_91 : decode cX0_insertPrint 91 = .ok (.iadd, 1) := by decide +kernel
theorem dX0_insertPrint_92 : decode cX0_insertPrint 92 = .ok (.putfield 35, 3) := by decide +kernel
theorem dX0_insertPrint_95 : decode cX0_insertPrint 95 = .ok (.return_, 1) := by decide +kernel
theorem dX0_placeOf_0 : decode cX0_placeOf 0 = .ok (.iconst 0, 1) := by decide +kernel
theorem dX0_placeOf_1 : decode cX0_placeOf 1 = .ok (.istore_n 2, 1) := by decide +kernel
theorem dX0_placeOf_2 : decode cX0_placeOf 2 = .ok (.iload_n 2, 1) := by decide +kernel
theorem dX0_placeOf_3 : decode cX0_placeOf 3 = .ok (.aload_n 0, 1) := by decide +kernel
theorem dX0_placeOf_4 : decode cX0_placeOf 4 = .ok (.getfield 35, 3) := by decide +kernel
theorem dX0_placeOf_7 : decode cX0_placeOf 7 = .ok (.if_icmp .ge 19, 3) := by decide +kernel
theorem dX0_placeOf_10 : decode cX0_placeOf 10 = .ok (.aload_n 0, 1) := by decide +kernel
theorem dX0_placeOf_11 : decode cX0_placeOf 11 = .ok (.getfield 31, 3) := by decide +kernel
theorem dX0_placeOf_14 : decode cX0_placeOf 14 = .ok (.iload_n 2, 1) := by decide +kernel
theorem dX0_placeOf_15 : decode cX0_placeOf 15 = .ok (.iaload, 1) := by decide +kernel
theorem dX0_placeOf_16 : decode cX0_placeOf 16 = .ok (.iload_n 1, 1) := by decide +kernel
theorem dX0_placeOf_17 : decode cX0_placeOf 17 = .ok (.if_icmp .ge 9, 3) := by decide +kernel
theorem dX0_placeOf_20 : decode cX0_placeOf 20 = .ok (.iinc 2 1, 3) := by decide +kernel
theorem dX0_placeOf_23 : decode cX0_placeOf 23 = .ok (.goto (-21), 3) := by decide +kernel
theorem dX0_placeOf_26 : decode cX0_placeOf 26 = .ok (.iload_n 2, 1) := by decide +kernel
theorem dX0_placeOf_27 : decode cX0_placeOf 27 = .ok (.ireturn, 1) := by decide +kernel
theorem dX0_hasPrint_0 : decode cX0_hasPrint 0 = .ok (.aload_n 0, 1) := by decide +kernel
theorem dX0_hasPrint_1 : decode cX0_hasPrint 1 = .ok (.iload_n 1, 1) := by decide +kernel
theorem dX0_hasPrint_2 : decode cX0_hasPrint 2 = .ok (.invokevirtual 82, 3) := by decide +kernel
theorem dX0_hasPrint_5 : decode cX0_hasPrint 5 = .ok (.istore_n 2, 1) := by decide +kernel
theorem dX0_hasPrint_6 : decode cX0_hasPrint 6 = .ok (.iload_n 2, 1) := by decide +kernel
theorem dX0_hasPrint_7 : decode cX0_hasPrint 7 = .ok (.aload_n 0, 1) := by decide +kernel
theorem dX0_hasPrint_8 : decode cX0_hasPrint 8 = .ok (.getfield 35, 3) := by decide +kernel
theorem dX0_hasPrint_11 : decode cX0_hasPrint 11 = .ok (.if_icmp .ge 17, 3) := by decide +kernel
theorem dX0_hasPrint_14 : decode cX0_hasPrint 14 = .ok (.aload_n 0, 1) := by decide +kernel
theorem dX0_hasPrint_15 : decode cX0_hasPrint 15 = .ok (.getfield 31, 3) := by decide +kernel
theorem dX0_hasPrint_18 : decode cX0_hasPrint 18 = .ok (.iload_n 2, 1) := by decide +kernel
theorem dX0_hasPrint_19 : decode cX0_hasPrint 19 = .ok (.iaload, 1) := by decide +kernel
theorem dX0_hasPrint_20 : decode cX0_hasPrint 20 = .ok (.iload_n 1, 1) := by decide +kernel
theorem dX0_hasPrint_21 : decode cX0_hasPrint 21 = .ok (.if_icmp .ne 7, 3) := by decide +kernel
theorem dX0_hasPrint_24 : decode cX0_hasPrint 24 = .ok (.iconst 1, 1) := by decide +kernel
theorem dX0_hasPrint_25 : decode cX0_hasPrint 25 = .ok (.goto 4, 3) := by decide +kernel
theorem dX0_hasPrint_28 : decode cX0_hasPrint 28 = .ok (.iconst 0, 1) := by decide +kernel
theorem dX0_hasPrint_29 : decode cX0_hasPrint 29 = .ok (.ireturn, 1) := by decide +kernel
theorem dX0_commonPrints_0 : decode cX0_commonPrints 0 = .ok (.iconst 0, 1) := by decide +kernel
theorem dX0_commonPrints_1 : decode cX0_commonPrints 1 = .ok (.istore_n 2, 1) := by decide +kernel
theorem dX0_commonPrints_2 : decode cX0_commonPrints 2 = .ok (.iconst 0, 1) := by decide +kernel
theorem dX0_commonPrints_3 : decode cX0_commonPrints 3 = .ok (.istore_n 3, 1) := by decide +kernel
theorem dX0_commonPrints_4 : decode cX0_commonPrints 4 = .ok (.iload_n 3, 1) := by decide +kernel
theorem dX0_commonPrints_5 : decode cX0_commonPrints 5 = .ok (.aload_n 0, 1) := by decide +kernel
theorem dX0_commonPrints_6 : decode cX0_commonPrints 6 = .ok (.getfield 35, 3) := by decide +kernel
theorem dX0_commonPrints_9 : decode cX0_commonPrints 9 = .ok (.if_icmp .ge 25, 3) := by decide +kernel
theorem dX0_commonPrints_12 : decode cX0_commonPrints 12 = .ok (.aload_n 1, 1) := by decide +kernel
theorem dX0_commonPrints_13 : decode cX0_commonPrints 13 = .ok (.aload_n 0, 1) := by decide +kernel
theorem dX0_commonPrints_14 : decode cX0_commonPrints 14 = .ok (.getfield 31, 3) := by decide +kernel
theorem dX0_commonPrints_17 : decode cX0_commonPrints 17 = .ok (.iload_n 3, 1) := by decide +kernel
theorem dX0_commonPrints_18 : decode cX0_commonPrints 18 = .ok (.iaload, 1) := by decide +kernel
theorem dX0_commonPrints_19 : decode cX0_commonPrints 19 = .ok (.invokevirtual 85, 3) := by decide +kernel
theorem dX0_commonPrints_22 : decode cX0_commonPrints 22 = .ok (.ifCond .eq 6, 3) := by decide +kernel
theorem dX0_commonPrints_25 : decode cX0_commonPrints 25 = .ok (.iinc 2 1, 3) := by decide +kernel
theorem dX0_commonPrints_28 : decode cX0_commonPrints 28 = .ok (.iinc 3 1, 3) := by decide +kernel
theorem dX0_commonPrints_31 : decode cX0_commonPrints 31 = .ok (.goto (-27), 3) := by decide +kernel
theorem dX0_commonPrints_34 : decode cX0_commonPrints 34 = .ok (.iload_n 2, 1) := by decide +kernel
theorem dX0_commonPrints_35 : decode cX0_commonPrints 35 = .ok (.ireturn, 1) := by decide +kernel
theorem dX1_init_0 : decode cX1_init 0 = .ok (.aload_n 0, 1) := by decide +kernel
theorem dX1_init_1 : decode cX1_init 1 = .ok (.invokespecial 3, 3) := by decide +kernel
theorem dX1_init_4 : decode cX1_init 4 = .ok (.aload_n 0, 1) := by decide +kernel
theorem dX1_init_5 : decode cX1_init 5 = .ok (.iload_n 1, 1) := by decide +kernel
theorem dX1_init_6 : decode cX1_init 6 = .ok (.putfield 9, 3) := by decide +kernel
theorem dX1_init_9 : decode cX1_init 9 = .ok (.aload_n 0, 1) := by decide +kernel
theorem dX1_init_10 : decode cX1_init 10 = .ok (.iload_n 2, 1) := by decide +kernel
theorem dX1_init_11 : decode cX1_init 11 = .ok (.putfield 15, 3) := by decide +kernel
theorem dX1_init_14 : decode cX1_init 14 = .ok (.aload_n 0, 1) := by decide +kernel
theorem dX1_init_15 : decode cX1_init 15 = .ok (.iload_n 3, 1) := by decide +kernel
theorem dX1_init_16 : decode cX1_init 16 = .ok (.putfield 18, 3) := by decide +kernel
theorem dX1_init_19 : decode cX1_init 19 = .ok (.aload_n 0, 1) := by decide +kernel
theorem dX1_init_20 : decode cX1_init 20 = .ok (.iload 4, 2) := by decide +kernel
theorem dX1_init_22 : decode cX1_init 22 = .ok (.putfield 21, 3) := by decide +kernel
theorem dX1_init_25 : decode cX1_init 25 = .ok (.return_, 1) := by decide +kernel
theorem dX1_size_0 : decode cX1_size 0 = .ok (.aload_n 0, 1) := by decide +kernel
theorem dX1_size_1 : decode cX1_size 1 = .ok (.aload_n 0, 1) := by decide +kernel
theorem dX1_size_2 : decode cX1_size 2 = .ok (.getfield 18, 3) := by decide +kernel
theorem dX1_size_5 : decode cX1_size 5 = .ok (.invokevirtual 24, 3) := by decide +kernel
theorem dX1_size_8 : decode cX1_size 8 = .ok (.ireturn, 1) := by decide +kernel
theorem dX1_sizeWith_0 : decode cX1_sizeWith 0 = .ok (.aload_n 0, 1) := by decide +kernel
theorem dX1_sizeWith_1 : decode cX1_sizeWith 1 = .ok (.getfield 9, 3) := by decide +kernel
theorem dX1_sizeWith_4 : decode cX1_sizeWith 4 = .ok (.ifCond .ne 5, 3) := by decide +kernel
theorem dX1_sizeWith_7 : decode cX1_sizeWith 7 = .ok (.iconst 2, 1) := by decide +kernel
theorem dX1_sizeWith_8 : decode cX1_sizeWith 8 = .ok (.ireturn, 1) := by decide +kernel
theorem dX1_sizeWith_9 : decode cX1_sizeWith 9 = .ok (.aload_n 0, 1) := by decide +kernel
theorem dX1_sizeWith_10 : decode cX1_sizeWith 10 = .ok (.getfield 9, 3) := by decide +kernel
theorem dX1_sizeWith_13 : decode cX1_sizeWith 13 = .ok (.iconst 2, 1) := by decide +kernel
theorem dX1_sizeWith_14 : decode cX1_sizeWith 14 = .ok (.if_icmp .ne 10, 3) := by decide +kernel
theorem dX1_sizeWith_17 : decode cX1_sizeWith 17 = .ok (.iload_n 1, 1) := by decide +kernel
theorem dX1_sizeWith_18 : decode cX1_sizeWith 18 = .ok (.invokestatic 28, 3) := by decide +kernel
theorem dX1_sizeWith_21 : decode cX1_sizeWith 21 = .ok (.goto 4, 3) := by decide +kernel
theorem dX1_sizeWith_24 : decode cX1_sizeWith 24 = .ok (.iconst 1, 1) := by decide +kernel
theorem dX1_sizeWith_25 : decode cX1_sizeWith 25 = .ok (.ireturn, 1) := by decide +kernel
theorem dX1_earned_0 : decode cX1_earned 0 = .ok (.aload_n 0, 1) := by decide +kernel
theorem dX1_earned_1 : decode cX1_earned 1 = .ok (.getfield 9, 3) := by decide +kernel
theorem dX1_earned_4 : decode cX1_earned 4 = .ok (.ifCond .ne 38, 3) := by decide +kernel
theorem dX1_earned_7 : decode cX1_earned 7 = .ok (.aload_n 1, 1) := by decide +kernel
theorem dX1_earned_8 : decode cX1_earned 8 = .ok (.getfield 31, 3) := by decide +kernel
theorem dX1_earned_11 : decode cX1_earned 11 = .ok (.ifCond .eq 29, 3) := by decide +kernel
theorem dX1_earned_14 : decode cX1_earned 14 = .ok (.aload_n 1, 1) := by decide +kernel
theorem dX1_earned_15 : decode cX1_earned 15 = .ok (.getfield 37, 3) := by decide +kernel
theorem dX1_earned_18 : decode cX1_earned 18 = .ok (.aload_n 0, 1) := by decide +kernel
theorem dX1_earned_19 : decode cX1_earned 19 = .ok (.getfield 18, 3) := by decide +kernel
theorem dX1_earned_22 : decode cX1_earned 22 = .ok (.isub, 1) := by decide +kernel
theorem dX1_earned_23 : decode cX1_earned 23 = .ok (.invokestatic 40, 3) := by decide +kernel
theorem dX1_earned_26 : decode cX1_earned 26 = .ok (.aload_n 0, 1) := by decide +kernel
theorem dX1_earned_27 : decode cX1_earned 27 = .ok (.getfield 21, 3) := by decide +kernel
theorem dX1_earned_30 : decode cX1_earned 30 = .ok (.if_icmp .gt 10, 3) := by decide +kernel
theorem dX1_earned_33 : decode cX1_earned 33 = .ok (.aload_n 0, 1) := by decide +kernel
theorem dX1_earned_34 : decode cX1_earned 34 = .ok (.getfield 15, 3) := by decide +kernel
theorem dX1_earned_37 : decode cX1_earned 37 = .ok (.goto 4, 3) := by decide +kernel
theorem dX1_earned_40 : decode cX1_earned 40 = .ok (.iconst 0, 1) := by decide +kernel
theorem dX1_earned_41 : decode cX1_earned 41 = .ok (.ireturn, 1) := by decide +kernel
theorem dX1_earned_42 : decode cX1_earned 42 = .ok (.aload_n 0, 1) := by decide +kernel
theorem dX1_earned_43 : decode cX1_earned 43 = .ok (.getfield 9, 3) := by decide +kernel
theorem dX1_earned_46 : decode cX1_earned 46 = .ok (.iconst 1, 1) := by decide +kernel
theorem dX1_earned_47 : decode cX1_earned 47 = .ok (.if_icmp .ne 12, 3) := by decide +kernel
theorem dX1_earned_50 : decode cX1_earned 50 = .ok (.aload_n 0, 1) := by decide +kernel
theorem dX1_earned_51 : decode cX1_earned 51 = .ok (.aload_n 1, 1) := by decide +kernel
theorem dX1_earned_52 : decode cX1_earned 52 = .ok (.getfield 45, 3) := by decide +kernel
theorem dX1_earned_55 : decode cX1_earned 55 = .ok (.invokevirtual 48, 3) := by decide +kernel
theorem dX1_earned_58 : decode cX1_earned 58 = .ok (.ireturn, 1) := by decide +kernel
theorem dX1_earned_59 : decode cX1_earned 59 = .ok (.aload_n 0, 1) := by decide +kernel
theorem dX1_earned_60 : decode cX1_earned 60 = .ok (.getfield 18, 3) := by decide +kernel
theorem dX1_earned_63 : decode cX1_earned 63 = .ok (.invokestatic 28, 3) := by decide +kernel
theorem dX1_earned_66 : decode cX1_earned 66 = .ok (.istore_n 3, 1) := by decide +kernel
theorem dX1_earned_67 : decode cX1_earned 67 = .ok (.iload_n 3, 1) := by decide +kernel
theorem dX1_earned_68 : decode cX1_earned 68 = .ok (.ifCond .ne 7, 3) := by decide +kernel
theorem dX1_earned_71 : decode cX1_earned 71 = .ok (.iconst 0, 1) := by decide +kernel
theorem dX1_earned_72 : decode cX1_earned 72 = .ok (.goto 11, 3) := by decide +kernel
theorem dX1_earned_75 : decode cX1_earned 75 = .ok (.aload_n 0, 1) := by decide +kernel
theorem dX1_earned_76 : decode cX1_earned 76 = .ok (.getfield 15, 3) := by decide +kernel
theorem dX1_earned_79 : decode cX1_earned 79 = .ok (.iload_n 2, 1) := by decide +kernel
theorem dX1_earned_80 : decode cX1_earned 80 = .ok (.imul, 1) := by decide +kernel
theorem dX1_earned_81 : decode cX1_earned 81 = .ok (.iload_n 3, 1) := by decide +kernel
theorem dX1_earned_82 : decode cX1_earned 82 = .ok (.idiv, 1) := by decide +kernel
theorem dX1_earned_83 : decode cX1_earned 83 = .ok (.ireturn, 1) := by decide +kernel
theorem dX1_earnedByChoice_0 : decode cX1_earnedByChoice 0 = .ok (.aload_n 0, 1) := by decide +kernel
theorem dX1_earnedByChoice_1 : decode cX1_earnedByChoice 1 = .ok (.getfield 18, 3) := by decide +kernel
theorem dX1_earnedByChoice_4 : decode cX1_earnedByChoice 4 = .ok (.invokestatic 51, 3) := by decide +kernel
theorem dX1_earnedByChoice_7 : decode cX1_earnedByChoice 7 = .ok (.istore_n 2, 1) := by decide +kernel
theorem dX1_earnedByChoice_8 : decode cX1_earnedByChoice 8 = .ok (.iload_n 2, 1) := by decide +kernel
theorem dX1_earnedByChoice_9 : decode cX1_earnedByChoice 9 = .ok (.ifCond .ne 16, 3) := by decide +kernel
theorem dX1_earnedByChoice_12 : decode cX1_earnedByChoice 12 = .ok (.iload_n 1, 1) := by decide +kernel
theorem dX1_earnedByChoice_13 : decode cX1_earnedByChoice 13 = .ok (.ifCond .ne 10, 3) := by decide +kernel
theorem dX1_earnedByChoice_16 : decode cX1_earnedByChoice 16 = .ok (.aload_n 0, 1) := by decide +kernel
theorem dX1_earnedByChoice_17 : decode cX1_earnedByChoice 17 = .ok (.getfield 15, 3) := by decide +kernel
theorem dX1_earnedByChoice_20 : decode cX1_earnedByChoice 20 = .ok (.goto 4, 3) := by decide +kernel
theorem dX1_earnedByChoice_23 : decode cX1_earnedByChoice 23 = .ok (.iconst 0, 1) := by decide +kernel
theorem dX1_earnedByChoice_24 : decode cX1_earnedByChoice 24 = .ok (.ireturn, 1) := by decide +kernel
theorem dX1_earnedByChoice_25 : decode cX1_earnedByChoice 25 = .ok (.iload_n 1, 1) := by decide +kernel
theorem dX1_earnedByChoice_26 : decode cX1_earnedByChoice 26 = .ok (.aload_n 0, 1) := by decide +kernel
theorem dX1_earnedByChoice_27 : decode cX1_earnedByChoice 27 = .ok (.getfield 18, 3) := by decide +kernel
theorem dX1_earnedByChoice_30 : decode cX1_earnedByChoice 30 = .ok (.iand, 1) := by decide +kernel
theorem dX1_earnedByChoice_31 : decode cX1_earnedByChoice 31 = .ok (.invokestatic 51, 3) := by decide +kernel
theorem dX1_earnedByChoice_34 : decode cX1_earnedByChoice 34 = .ok (.istore_n 3, 1) := by decide +kernel
theorem dX1_earnedByChoice_35 : decode cX1_earnedByChoice 35 = .ok (.iload_n 1, 1) := by decide +kernel
theorem dX1_earnedByChoice_36 : decode cX1_earnedByChoice 36 = .ok (.aload_n 0, 1) := by decide +kernel
theorem dX1_earnedByChoice_37 : decode cX1_earnedByChoice 37 = .ok (.getfield 18, 3) := by decide +kernel
theorem dX1_earnedByChoice_40 : decode cX1_earnedByChoice 40 = .ok (.iconst (-1), 1) := by decide +kernel
theorem dX1_earnedByChoice_41 : decode cX1_earnedByChoice 41 = .ok (.ixor, 1) := by decide +kernel
theorem dX1_earnedByChoice_42 : decode cX1_earnedByChoice 42 = .ok (.iand, 1) := by decide +kernel
theorem dX1_earnedByChoice_43 : decode cX1_earnedByChoice 43 = .ok (.invokestatic 51, 3) := by decide +kernel
theorem dX1_earnedByChoice_46 : decode cX1_earnedByChoice 46 = .ok (.istore 4, 2) := by decide +kernel
theorem dX1_earnedByChoice_48 : decode cX1_earnedByChoice 48 = .ok (.aload_n 0, 1) := by decide +kernel
theorem dX1_earnedByChoice_49 : decode cX1_earnedByChoice 49 = .ok (.getfield 15, 3) := by decide +kernel
theorem dX1_earnedByChoice_52 : decode cX1_earnedByChoice 52 = .ok (.iload_n 3, 1) := by decide +kernel
theorem dX1_earnedByChoice_53 : decode cX1_earnedByChoice 53 = .ok (.iload 4, 2) := by decide +kernel
theorem dX1_earnedByChoice_55 : decode cX1_earnedByChoice 55 = .ok (.isub, 1) := by decide +kernel
theorem dX1_earnedByChoice_56 : decode cX1_earnedByChoice 56 = .ok (.iconst 0, 1) := by decide +kernel
theorem dX1_earnedByChoice_57 : decode cX1_earnedByChoice 57 = .ok (.invokestatic 56, 3) := by decide +kernel
theorem dX1_earnedByChoice_60 : decode cX1_earnedByChoice 60 = .ok (.imul, 1) := by decide +kernel
theorem dX1_earnedByChoice_61 : decode cX1_earnedByChoice 61 = .ok (.iload_n 2, 1) := by decide +kernel
theorem dX1_earnedByChoice_62 : decode cX1_earnedByChoice 62 = .ok (.idiv, 1) := by decide +kernel
theorem dX1_earnedByChoice_63 : decode cX1_earnedByChoice 63 = .ok (.ireturn, 1) := by decide +kernel
theorem dX2_init_0 : decode cX2_init 0 = .ok (.aload_n 0, 1) := by decide +kernel
theorem dX2_init_1 : decode cX2_init 1 = .ok (.invokespecial 3, 3) := by decide +kernel
theorem dX2_init_4 : decode cX2_init 4 = .ok (.aload_n 0, 1) := by decide +kernel
theorem dX2_init_5 : decode cX2_init 5 = .ok (.iconst 0, 1) := by decide +kernel
theorem dX2_init_6 : decode cX2_init 6 = .ok (.putfield 9, 3) := by decide +kernel
theorem dX2_init_9 : decode cX2_init 9 = .ok (.aload_n 0, 1) := by decide +kernel
theorem dX2_init_10 : decode cX2_init 10 = .ok (.iconst 0, 1) := by decide +kernel
theorem dX2_init_11 : decode cX2_init 11 = .ok (.putfield 15, 3) := by decide +kernel
theorem dX2_init_14 : decode cX2_init 14 = .ok (.aload_n 0, 1) := by decide +kernel
theorem dX2_init_15 : decode cX2_init 15 = .ok (.iconst 0, 1) := by decide +kernel
theorem dX2_init_16 : decode cX2_init 16 = .ok (.putfield 19, 3) := by decide +kernel
theorem dX2_init_19 : decode cX2_init 19 = .ok (.aload_n 0, 1) := by decide +kernel
theorem dX2_init_20 : decode cX2_init 20 = .ok (.bipush 12, 2) := by decide +kernel
theorem dX2_init_22 : decode cX2_init 22 = .ok (.newarray .int, 2) := by decide +kernel
theorem dX2_init_24 : decode cX2_init 24 = .ok (.putfield 22, 3) := by decide +kernel
theorem dX2_init_27 : decode cX2_init 27 = .ok (.aload_n 0, 1) := by decide +kernel
theorem dX2_init_28 : decode cX2_init 28 = .ok (.iconst 0, 1) := by decide +kernel
theorem dX2_init_29 : decode cX2_init 29 = .ok (.putfield 26, 3) := by decide +kernel
theorem dX2_init_32 : decode cX2_init 32 = .ok (.return_, 1) := by decide +kernel
theorem dX2_size_0 : decode cX2_size 0 = .ok (.aload_n 0, 1) := by decide +kernel
theorem dX2_size_1 : decode cX2_size 1 = .ok (.getfield 9, 3) := by decide +kernel
theorem dX2_size_4 : decode cX2_size 4 = .ok (.ifCond .eq 7, 3) := by decide +kernel
theorem dX2_size_7 : decode cX2_size 7 = .ok (.iconst 1, 1) := by decide +kernel
theorem dX2_size_8 : decode cX2_size 8 = .ok (.goto 4, 3) := by decide +kernel
theorem dX2_size_11 : decode cX2_size 11 = .ok (.iconst 0, 1) := by decide +kernel
theorem dX2_size_12 : decode cX2_size 12 = .ok (.aload_n 0, 1) := by decide +kernel
theorem dX2_size_13 : decode cX2_size 13 = .ok (.getfield 19, 3) := by decide +kernel
theorem dX2_size_16 : decode cX2_size 16 = .ok (.invokestatic 29, 3) := by decide +kernel
theorem dX2_size_19 : decode cX2_size 19 = .ok (.iadd, 1) := by decide +kernel
theorem dX2_size_20 : decode cX2_size 20 = .ok (.aload_n 0, 1) := by decide +kernel
theorem dX2_size_21 : decode cX2_size 21 = .ok (.getfield 26, 3) := by decide +kernel
theorem dX2_size_24 : decode cX2_size 24 = .ok (.iadd, 1) := by decide +kernel
theorem dX2_size_25 : decode cX2_size 25 = .ok (.ireturn, 1) := by decide +kernel
theorem dX2_sizeOfSigns_0 : decode cX2_sizeOfSigns 0 = .ok (.iload_n 0, 1) := by decide +kernel
theorem dX2_sizeOfSigns_1 : decode cX2_sizeOfSigns 1 = .ok (.ifCond .ne 7, 3) := by decide +kernel
theorem dX2_sizeOfSigns_4 : decode cX2_sizeOfSigns 4 = .ok (.iconst 0, 1) := by decide +kernel
theorem dX2_sizeOfSigns_5 : decode cX2_sizeOfSigns 5 = .ok (.goto 4, 3) := by decide +kernel
theorem dX2_sizeOfSigns_8 : decode cX2_sizeOfSigns 8 = .ok (.iconst 1, 1) := by decide +kernel
theorem dX2_sizeOfSigns_9 : decode cX2_sizeOfSigns 9 = .ok (.ireturn, 1) := by decide +kernel
theorem dX2_growthBy_0 : decode cX2_growthBy 0 = .ok (.iload_n 1, 1) := by decide +kernel
theorem dX2_growthBy_1 : decode cX2_growthBy 1 = .ok (.ifCond .ne 16, 3) := by decide +kernel
theorem dX2_growthBy_4 : decode cX2_growthBy 4 = .ok (.aload_n 0, 1) := by decide +kernel
theorem dX2_growthBy_5 : decode cX2_growthBy 5 = .ok (.getfield 9, 3) := by decide +kernel
theorem dX2_growthBy_8 : decode cX2_growthBy 8 = .ok (.ifCond .eq 7, 3) := by decide +kernel
theorem dX2_growthBy_11 : decode cX2_growthBy 11 = .ok (.iconst 0, 1) := by decide +kernel
theorem dX2_growthBy_12 : decode cX2_growthBy 12 = .ok (.goto 4, 3) := by decide +kernel
theorem dX2_growthBy_15 : decode cX2_growthBy 15 = .ok (.iconst 1, 1) := by decide +kernel
theorem dX2_growthBy_16 : decode cX2_growthBy 16 = .ok (.ireturn, 1) := by decide +kernel
theorem dX2_growthBy_17 : decode cX2_growthBy 17 = .ok (.iload_n 1, 1) := by decide +kernel
theorem dX2_growthBy_18 : decode cX2_growthBy 18 = .ok (.iconst 1, 1) := by decide +kernel
theorem dX2_growthBy_19 : decode cX2_growthBy 19 = .ok (.if_icmp .ne 23, 3) := by decide +kernel
theorem dX2_growthBy_22 : decode cX2_growthBy 22 = .ok (.aload_n 0, 1) := by decide +kernel
theorem dX2_growthBy_23 : decode cX2_growthBy 23 = .ok (.getfield 19, 3) := by decide +kernel
theorem dX2_growthBy_26 : decode cX2_growthBy 26 = .ok (.iconst 1, 1) := by decide +kernel
theorem dX2_growthBy_27 : decode cX2_growthBy 27 = .ok (.iload_n 2, 1) := by decide +kernel
theorem dX2_growthBy_28 : decode cX2_growthBy 28 = .ok (.ishl, 1) := by decide +kernel
theorem dX2_growthBy_29 : decode cX2_growthBy 29 = .ok (.ixor, 1) := by decide +kernel
theorem dX2_growthBy_30 : decode cX2_growthBy 30 = .ok (.invokestatic 29, 3) := by decide +kernel
theorem dX2_growthBy_33 : decode cX2_growthBy 33 = .ok (.aload_n 0, 1) := by decide +kernel
theorem dX2_growthBy_34 : decode cX2_growthBy 34 = .ok (.getfield 19, 3) := by decide +kernel
theorem dX2_growthBy_37 : decode cX2_growthBy 37 = .ok (.invokestatic 29, 3) := by decide +kernel
theorem dX2_growthBy_40 : decode cX2_growthBy 40 = .ok (.isub, 1) := by decide +kernel
theorem dX2_growthBy_41 : decode cX2_growthBy 41 = .ok (.ireturn, 1) := by decide +kernel
theorem dX2_growthBy_42 : decode cX2_growthBy 42 = .ok (.iconst 1, 1) := by decide +kernel
theorem dX2_growthBy_43 : decode cX2_growthBy 43 = .ok (.ireturn, 1) := by decide +kernel
theorem dX2_isFull_0 : decode cX2_isFull 0 = .ok (.iload_n 1, 1) := by decide +kernel
theorem dX2_isFull_1 : decode cX2_isFull 1 = .ok (.iconst 2, 1) := by decide +kernel
theorem dX2_isFull_2 : decode cX2_isFull 2 = .ok (.if_icmp .ne 16, 3) := by decide +kernel
theorem dX2_isFull_5 : decode cX2_isFull 5 = .ok (.aload_n 0, 1) := by decide +kernel
theorem dX2_isFull_6 : decode cX2_isFull 6 = .ok (.getfield 26, 3) := by decide +kernel
theorem dX2_isFull_9 : decode cX2_isFull 9 = .ok (.bipush 12, 2) := by decide +kernel
theorem dX2_isFull_11 : decode cX2_isFull 11 = .ok (.if_icmp .lt 7, 3) := by decide +kernel
theorem dX2_isFull_14 : decode cX2_isFull 14 = .ok (.iconst 1, 1) := by decide +kernel
theorem dX2_isFull_15 : decode cX2_isFull 15 = .ok (.goto 4, 3) := by decide +kernel
theorem dX2_isFull_18 : decode cX2_isFull 18 = .ok (.iconst 0, 1) := by decide +kernel
theorem dX2_isFull_19 : decode cX2_isFull 19 = .ok (.ireturn, 1) := by decide +kernel
theorem dX2_add_0 : decode cX2_add 0 = .ok (.iload_n 1, 1) := by decide +kernel
theorem dX2_add_1 : decode cX2_add 1 = .ok (.ifCond .ne 16, 3) := by decide +kernel
theorem dX2_add_4 : decode cX2_add 4 = .ok (.aload_n 0, 1) := by decide +kernel
theorem dX2_add_5 : decode cX2_add 5 = .ok (.iconst 1, 1) := by decide +kernel
theorem dX2_add_6 : decode cX2_add 6 = .ok (.putfield 9, 3) := by decide +kernel
theorem dX2_add_9 : decode cX2_add 9 = .ok (.aload_n 0, 1) := by decide +kernel
theorem dX2_add_10 : decode cX2_add 10 = .ok (.iload_n 2, 1) := by decide +kernel
theorem dX2_add_11 : decode cX2_add 11 = .ok (.putfield 15, 3) := by decide +kernel
theorem dX2_add_14 : decode cX2_add 14 = .ok (.goto 52, 3) := by decide +kernel
theorem dX2_add_17 : decode cX2_add 17 = .ok (.iload_n 1, 1) := by decide +kernel
theorem dX2_add_18 : decode cX2_add 18 = .ok (.iconst 1, 1) := by decide +kernel
theorem dX2_add_19 : decode cX2_add 19 = .ok (.if_icmp .ne 18, 3) := by decide +kernel
theorem dX2_add_22 : decode cX2_add 22 = .ok (.aload_n 0, 1) := by decide +kernel
theorem dX2_add_23 : decode cX2_add 23 = .ok (.dup, 1) := by decide +kernel
theorem dX2_add_24 : decode cX2_add 24 = .ok (.getfield 19, 3) := by decide +kernel
theorem dX2_add_27 : decode cX2_add 27 = .ok (.iconst 1, 1) := by decide +kernel
theorem dX2_add_28 : decode cX2_add 28 = .ok (.iload_n 2, 1) := by decide +kernel
theorem dX2_add_29 : decode cX2_add 29 = .ok (.ishl, 1) := by decide +kernel
theorem dX2_add_30 : decode cX2_add 30 = .ok (.ixor, 1) := by decide +kernel
theorem dX2_add_31 : decode cX2_add 31 = .ok (.putfield 19, 3) := by decide +kernel
theorem dX2_add_34 : decode cX2_add 34 = .ok (.goto 32, 3) := by decide +kernel
theorem dX2_add_37 : decode cX2_add 37 = .ok (.aload_n 0, 1) := by decide +kernel
theorem dX2_add_38 : decode cX2_add 38 = .ok (.getfield 26, 3) := by decide +kernel
theorem dX2_add_41 : decode cX2_add 41 = .ok (.bipush 12, 2) := by decide +kernel
theorem dX2_add_43 : decode cX2_add 43 = .ok (.if_icmp .ge 23, 3) := by decide +kernel
theorem dX2_add_46 : decode cX2_add 46 = .ok (.aload_n 0, 1) := by decide +kernel
theorem dX2_add_47 : decode cX2_add 47 = .ok (.getfield 22, 3) := by decide +kernel
theorem dX2_add_50 : decode cX2_add 50 = .ok (.aload_n 0, 1) := by decide +kernel
theorem dX2_add_51 : decode cX2_add 51 = .ok (.getfield 26, 3) := by decide +kernel
theorem dX2_add_54 : decode cX2_add 54 = .ok (.iload_n 2, 1) := by decide +kernel
theorem dX2_add_55 : decode cX2_add 55 = .ok (.iastore, 1) := by decide +kernel
theorem dX2_add_56 : decode cX2_add 56 = .ok (.aload_n 0, 1) := by decide +kernel
theorem dX2_add_57 : decode cX2_add 57 = .ok (.dup, 1) := by decide +kernel
theorem dX2_add_58 : decode cX2_add 58 = .ok (.getfield 26, 3) := by decide +kernel
theorem dX2_add_61 : decode cX2_add 61 = .ok (.iconst 1, 1) := by decide +kernel
theorem dX2_add_62 : decode cX2_add 62 = .ok (.iadd, 1) := by decide +kernel
theorem dX2_add_63 : decode cX2_add 63 = .ok (.putfield 26, 3) := by decide +kernel
theorem dX2_add_66 : decode cX2_add 66 = .ok (.return_, 1) := by decide +kernel
theorem dX2_holdsInOrder_0 : decode cX2_holdsInOrder 0 = .ok (.iload_n 1, 1) := by decide +kernel
theorem dX2_holdsInOrder_1 : decode cX2_holdsInOrder 1 = .ok (.istore_n 2, 1) := by decide +kernel
theorem dX2_holdsInOrder_2 : decode cX2_holdsInOrder 2 = .ok (.iconst 0, 1) := by decide +kernel
theorem dX2_holdsInOrder_3 : decode cX2_holdsInOrder 3 = .ok (.istore_n 3, 1) := by decide +kernel
theorem dX2_holdsInOrder_4 : decode cX2_holdsInOrder 4 = .ok (.iload_n 3, 1) := by decide +kernel
theorem dX2_holdsInOrder_5 : decode cX2_holdsInOrder 5 = .ok (.aload_n 0, 1) := by decide +kernel
theorem dX2_holdsInOrder_6 : decode cX2_holdsInOrder 6 = .ok (.getfield 26, 3) := by decide +kernel
theorem dX2_holdsInOrder_9 : decode cX2_holdsInOrder 9 = .ok (.if_icmp .ge 26, 3) := by decide +kernel
theorem dX2_holdsInOrder_12 : decode cX2_holdsInOrder 12 = .ok (.iload_n 2, 1) := by decide +kernel
theorem dX2_holdsInOrder_13 : decode cX2_holdsInOrder 13 = .ok (.bipush 31, 2) := by decide +kernel
theorem dX2_holdsInOrder_15 : decode cX2_holdsInOrder 15 = .ok (.iand, 1) := by decide +kernel
theorem dX2_holdsInOrder_16 : decode cX2_holdsInOrder 16 = .ok (.aload_n 0, 1) := by decide +kernel
theorem dX2_holdsInOrder_17 : decode cX2_holdsInOrder 17 = .ok (.getfield 22, 3) := by decide +kernel
theorem dX2_holdsInOrder_20 : decode cX2_holdsInOrder 20 = .ok (.iload_n 3, 1) := by decide +kernel
theorem dX2_holdsInOrder_21 : decode cX2_holdsInOrder 21 = .ok (.iaload, 1) := by decide +kernel
theorem dX2_holdsInOrder_22 : decode cX2_holdsInOrder 22 = .ok (.if_icmp .ne 7, 3) := by decide +kernel
theorem dX2_holdsInOrder_25 : decode cX2_holdsInOrder 25 = .ok (.iload_n 2, 1) := by decide +kernel
theorem dX2_holdsInOrder_26 : decode cX2_holdsInOrder 26 = .ok (.iconst 5, 1) := by decide +kernel
theorem dX2_holdsInOrder_27 : decode cX2_holdsInOrder 27 = .ok (.iushr, 1) := by decide +kernel
theorem dX2_holdsInOrder_28 : decode cX2_holdsInOrder 28 = .ok (.istore_n 2, 1) := by decide +kernel
theorem dX2_holdsInOrder_29 : decode cX2_holdsInOrder 29 = .ok (.iinc 3 1, 3) := by decide +kernel
theorem dX2_holdsInOrder_32 : decode cX2_holdsInOrder 32 = .ok (.goto (-28), 3) := by decide +kernel
theorem dX2_holdsInOrder_35 : decode cX2_holdsInOrder 35 = .ok (.iload_n 2, 1) := by decide +kernel
theorem dX2_holdsInOrder_36 : decode cX2_holdsInOrder 36 = .ok (.ifCond .ne 7, 3) := by decide +kernel
theorem dX2_holdsInOrder_39 : decode cX2_holdsInOrder 39 = .ok (.iconst 1, 1) := by decide +kernel
theorem dX2_holdsInOrder_40 : decode cX2_holdsInOrder 40 = .ok (.goto 4, 3) := by decide +kernel
theorem dX2_holdsInOrder_43 : decode cX2_holdsInOrder 43 = .ok (.iconst 0, 1) := by decide +kernel
theorem dX2_holdsInOrder_44 : decode cX2_holdsInOrder 44 = .ok (.ireturn, 1) := by decide +kernel
theorem dX2_printAt_0 : decode cX2_printAt 0 = .ok (.aload_n 0, 1) := by decide +kernel
theorem dX2_printAt_1 : decode cX2_printAt 1 = .ok (.getfield 22, 3) := by decide +kernel
theorem dX2_printAt_4 : decode cX2_printAt 4 = .ok (.iload_n 1, 1) := by decide +kernel
theorem dX2_printAt_5 : decode cX2_printAt 5 = .ok (.iaload, 1) := by decide +kernel
theorem dX2_printAt_6 : decode cX2_printAt 6 = .ok (.aload_n 0, 1) := by decide +kernel
theorem dX2_printAt_7 : decode cX2_printAt 7 = .ok (.getfield 22, 3) := by decide +kernel
theorem dX2_printAt_10 : decode cX2_printAt 10 = .ok (.iload_n 1, 1) := by decide +kernel
theorem dX2_printAt_11 : decode cX2_printAt 11 = .ok (.iconst 1, 1) := by decide +kernel
theorem dX2_printAt_12 : decode cX2_printAt 12 = .ok (.iadd, 1) := by decide +kernel
theorem dX2_printAt_13 : decode cX2_printAt 13 = .ok (.iaload, 1) := by decide +kernel
theorem dX2_printAt_14 : decode cX2_printAt 14 = .ok (.aload_n 0, 1) := by decide +kernel
theorem dX2_printAt_15 : decode cX2_printAt 15 = .ok (.getfield 22, 3) := by decide +kernel
theorem dX2_printAt_18 : decode cX2_printAt 18 = .ok (.iload_n 1, 1) := by decide +kernel
theorem dX2_printAt_19 : decode cX2_printAt 19 = .ok (.iconst 2, 1) := by decide +kernel
theorem dX2_printAt_20 : decode cX2_printAt 20 = .ok (.iadd, 1) := by decide +kernel
theorem dX2_printAt_21 : decode cX2_printAt 21 = .ok (.iaload, 1) := by decide +kernel
theorem dX2_printAt_22 : decode cX2_printAt 22 = .ok (.invokestatic 33, 3) := by decide +kernel
theorem dX2_printAt_25 : decode cX2_printAt 25 = .ok (.ireturn, 1) := by decide +kernel
theorem dX3_init_0 : decode cX3_init 0 = .ok (.aload_n 0, 1) := by decide +kernel
theorem dX3_init_1 : decode cX3_init 1 = .ok (.invokespecial 3, 3) := by decide +kernel
theorem dX3_init_4 : decode cX3_init 4 = .ok (.aload_n 0, 1) := by decide +kernel
theorem dX3_init_5 : decode cX3_init 5 = .ok (.bipush 16, 2) := by decide +kernel
theorem dX3_init_7 : decode cX3_init 7 = .ok (.anewarray 9, 3) := by decide +kernel
theorem dX3_init_10 : decode cX3_init 10 = .ok (.putfield 11, 3) := by decide +kernel
theorem dX3_init_13 : decode cX3_init 13 = .ok (.aload_n 0, 1) := by decide +kernel
theorem dX3_init_14 : decode cX3_init 14 = .ok (.iconst 1, 1) := by decide +kernel
theorem dX3_init_15 : decode cX3_init 15 = .ok (.putfield 17, 3) := by decide +kernel
theorem dX3_init_18 : decode cX3_init 18 = .ok (.aload_n 0, 1) := by decide +kernel
theorem dX3_init_19 : decode cX3_init 19 = .ok (.iconst 4, 1) := by decide +kernel
theorem dX3_init_20 : decode cX3_init 20 = .ok (.anewarray 9, 3) := by decide +kernel
theorem dX3_init_23 : decode cX3_init 23 = .ok (.putfield 21, 3) := by decide +kernel
theorem dX3_init_26 : decode cX3_init 26 = .ok (.aload_n 0, 1) := by decide +kernel
theorem dX3_init_27 : decode cX3_init 27 = .ok (.iconst 4, 1) := by decide +kernel
theorem dX3_init_28 : decode cX3_init 28 = .ok (.newarray .boolean, 2) := by decide +kernel
theorem dX3_init_30 : decode cX3_init 30 = .ok (.putfield 24, 3) := by decide +kernel
theorem dX3_init_33 : decode cX3_init 33 = .ok (.aload_n 0, 1) := by decide +kernel
theorem dX3_init_34 : decode cX3_init 34 = .ok (.bipush 12, 2) := by decide +kernel
theorem dX3_init_36 : decode cX3_init 36 = .ok (.anewarray 28, 3) := by decide +kernel
theorem dX3_init_39 : decode cX3_init 39 = .ok (.putfield 30, 3) := by decide +kernel
theorem dX3_init_42 : decode cX3_init 42 = .ok (.new 9, 3) := by decide +kernel
theorem dX3_init_45 : decode cX3_init 45 = .ok (.dup, 1) := by decide +kernel
theorem dX3_init_46 : decode cX3_init 46 = .ok (.iconst 0, 1) := by decide +kernel
theorem dX3_init_47 : decode cX3_init 47 = .ok (.iconst (-1), 1) := by decide +kernel
theorem dX3_init_48 : decode cX3_init 48 = .ok (.aconst_null, 1) := by decide +kernel
theorem dX3_init_49 : decode cX3_init 49 = .ok (.invokespecial 34, 3) := by decide +kernel
theorem dX3_init_52 : decode cX3_init 52 = .ok (.astore_n 1, 1) := by decide +kernel
theorem dX3_init_53 : decode cX3_init 53 = .ok (.aload_n 0, 1) := by decide +kernel
theorem dX3_init_54 : decode cX3_init 54 = .ok (.getfield 11, 3) := by decide +kernel
theorem dX3_init_57 : decode cX3_init 57 = .ok (.iconst 0, 1) := by decide +kernel
theorem dX3_init_58 : decode cX3_init 58 = .ok (.aload_n 1, 1) := by decide +kernel
theorem dX3_init_59 : decode cX3_init 59 = .ok (.aastore, 1) := by decide +kernel
theorem dX3_init_60 : decode cX3_init 60 = .ok (.iconst 0, 1) := by decide +kernel
theorem dX3_init_61 : decode cX3_init 61 = .ok (.istore_n 2, 1) := by decide +kernel
theorem dX3_init_62 : decode cX3_init 62 = .ok (.iload_n 2, 1) := by decide +kernel
theorem dX3_init_63 : decode cX3_init 63 = .ok (.iconst 4, 1) := by decide +kernel
theorem dX3_init_64 : decode cX3_init 64 = .ok (.if_icmp .ge 16, 3) := by decide +kernel
theorem dX3_init_67 : decode cX3_init 67 = .ok (.aload_n 0, 1) := by decide +kernel
theorem dX3_init_68 : decode cX3_init 68 = .ok (.getfield 21, 3) := by decide +kernel
theorem dX3_init_71 : decode cX3_init 71 = .ok (.iload_n 2, 1) := by decide +kernel
theorem dX3_init_72 : decode cX3_init 72 = .ok (.aload_n 1, 1) := by decide +kernel
theorem dX3_init_73 : decode cX3_init 73 = .ok (.aastore, 1) := by decide +kernel
theorem dX3_init_74 : decode cX3_init 74 = .ok (.iinc 2 1, 3) := by decide +kernel
theorem dX3_init_77 : decode cX3_init 77 = .ok (.goto (-15), 3) := by decide +kernel
theorem dX3_init_80 : decode cX3_init 80 = .ok (.return_, 1) := by decide +kernel
theorem dX3_canFold_0 : decode cX3_canFold 0 = .ok (.aload_n 1, 1) := by decide +kernel
theorem dX3_canFold_1 : decode cX3_canFold 1 = .ok (.getfield 37, 3) := by decide +kernel
theorem dX3_canFold_4 : decode cX3_canFold 4 = .ok (.ifCond .eq 32, 3) := by decide +kernel
theorem dX3_canFold_7 : decode cX3_canFold 7 = .ok (.aload_n 0, 1) := by decide +kernel
theorem dX3_canFold_8 : decode cX3_canFold 8 = .ok (.aload_n 1, 1) := by decide +kernel
theorem dX3_canFold_9 : decode cX3_canFold 9 = .ok (.invokevirtual 40, 3) := by decide +kernel
theorem dX3_canFold_12 : decode cX3_canFold 12 = .ok (.ifCond .ne 24, 3) := by decide +kernel
theorem dX3_canFold_15 : decode cX3_canFold 15 = .ok (.aload_n 0, 1) := by decide +kernel
theorem dX3_canFold_16 : decode cX3_canFold 16 = .ok (.aload_n 1, 1) := by decide +kernel
theorem dX3_canFold_17 : decode cX3_canFold 17 = .ok (.invokevirtual 44, 3) := by decide +kernel
theorem dX3_canFold_20 : decode cX3_canFold 20 = .ok (.ifCond .ne 16, 3) := by decide +kernel
theorem dX3_canFold_23 : decode cX3_canFold 23 = .ok (.aload_n 0, 1) := by decide +kernel
theorem dX3_canFold_24 : decode cX3_canFold 24 = .ok (.aload_n 1, 1) := by decide +kernel
theorem dX3_canFold_25 : decode cX3_canFold 25 = .ok (.invokevirtual 47, 3) := by decide +kernel
theorem dX3_canFold_28 : decode cX3_canFold 28 = .ok (.iconst 1, 1) := by decide +kernel
theorem dX3_canFold_29 : decode cX3_canFold 29 = .ok (.if_icmp .gt 7, 3) := by decide +kernel
theorem dX3_canFold_32 : decode cX3_canFold 32 = .ok (.iconst 1, 1) := by decide +kernel
theorem dX3_canFold_33 : decode cX3_canFold 33 = .ok (.goto 4, 3) := by decide +kernel
theorem dX3_canFold_36 : decode cX3_canFold 36 = .ok (.iconst 0, 1) := by decide +kernel
theorem dX3_canFold_37 : decode cX3_canFold 37 = .ok (.ireturn, 1) := by decide +kernel
theorem dX3_isHead_0 : decode cX3_isHead 0 = .ok (.iconst 0, 1) := by decide +kernel
theorem dX3_isHead_1 : decode cX3_isHead 1 = .ok (.istore_n 2, 1) := by decide +kernel
theorem dX3_isHead_2 : decode cX3_isHead 2 = .ok (.iload_n 2, 1) := by decide +kernel
theorem dX3_isHead_3 : decode cX3_isHead 3 = .ok (.iconst 4, 1) := by decide +kernel
theorem dX3_isHead_4 : decode cX3_isHead 4 = .ok (.if_icmp .ge 21, 3) := by decide +kernel
theorem dX3_isHead_7 : decode cX3_isHead 7 = .ok (.aload_n 0, 1) := by decide +kernel
theorem dX3_isHead_8 : decode cX3_isHead 8 = .ok (.getfield 21, 3) := by decide +kernel
theorem dX3_isHead_11 : decode cX3_isHead 11 = .ok (.iload_n 2, 1) := by decide +kernel
theorem dX3_isHead_12 : decode cX3_isHead 12 = .ok (.aaload, 1) := by decide +kernel
theorem dX3_isHead_13 : decode cX3_isHead 13 = .ok (.aload_n 1, 1) := by decide +kernel
theorem dX3_isHead_14 : decode cX3_isHead 14 = .ok (.if_acmp .ne 5, 3) := by decide +kernel
theorem dX3_isHead_17 : decode cX3_isHead 17 = .ok (.iconst 1, 1) := by decide +kernel
theorem dX3_isHead_18 : decode cX3_isHead 18 = .ok (.ireturn, 1) := by decide +kernel
theorem dX3_isHead_19 : decode cX3_isHead 19 = .ok (.iinc 2 1, 3) := by decide +kernel
theorem dX3_isHead_22 : decode cX3_isHead 22 = .ok (.goto (-20), 3) := by decide +kernel
theorem dX3_isHead_25 : decode cX3_isHead 25 = .ok (.iconst 0, 1) := by decide +kernel
theorem dX3_isHead_26 : decode cX3_isHead 26 = .ok (.ireturn, 1) := by decide +kernel
theorem dX3_isTied_0 : decode cX3_isTied 0 = .ok (.iconst 0, 1) := by decide +kernel
theorem dX3_isTied_1 : decode cX3_isTied 1 = .ok (.istore_n 2, 1) := by decide +kernel
theorem dX3_isTied_2 : decode cX3_isTied 2 = .ok (.iload_n 2, 1) := by decide +kernel
theorem dX3_isTied_3 : decode cX3_isTied 3 = .ok (.bipush 12, 2) := by decide +kernel
theorem dX3_isTied_5 : decode cX3_isTied 5 = .ok (.if_icmp .ge 33, 3) := by decide +kernel
theorem dX3_isTied_8 : decode cX3_isTied 8 = .ok (.aload_n 0, 1) := by decide +kernel
theorem dX3_isTied_9 : decode cX3_isTied 9 = .ok (.getfield 30, 3) := by decide +kernel
theorem dX3_isTied_12 : decode cX3_isTied 12 = .ok (.iload_n 2, 1) := by decide +kernel
theorem dX3_isTied_13 : decode cX3_isTied 13 = .ok (.aaload, 1) := by decide +kernel
theorem dX3_isTied_14 : decode cX3_isTied 14 = .ok (.ifnull 18, 3) := by decide +kernel
theorem dX3_isTied_17 : decode cX3_isTied 17 = .ok (.aload_n 0, 1) := by decide +kernel
theorem dX3_isTied_18 : decode cX3_isTied 18 = .ok (.getfield 30, 3) := by decide +kernel
theorem dX3_isTied_21 : decode cX3_isTied 21 = .ok (.iload_n 2, 1) := by decide +kernel
theorem dX3_isTied_22 : decode cX3_isTied 22 = .ok (.aaload, 1) := by decide +kernel
theorem dX3_isTied_23 : decode cX3_isTied 23 = .ok (.getfield 51, 3) := by decide +kernel
theorem dX3_isTied_26 : decode cX3_isTied 26 = .ok (.aload_n 1, 1) := by decide +kernel
theorem dX3_isTied_27 : decode cX3_isTied 27 = .ok (.if_acmp .ne 5, 3) := by decide +kernel
theorem dX3_isTied_30 : decode cX3_isTied 30 = .ok (.iconst 1, 1) := by decide +kernel
theorem dX3_isTied_31 : decode cX3_isTied 31 = .ok (.ireturn, 1) := by decide +kernel
theorem dX3_isTied_32 : decode cX3_isTied 32 = .ok (.iinc 2 1, 3) := by decide +kernel
theorem dX3_isTied_35 : decode cX3_isTied 35 = .ok (.goto (-33), 3) := by decide +kernel
theorem dX3_isTied_38 : decode cX3_isTied 38 = .ok (.iconst 0, 1) := by decide +kernel
theorem dX3_isTied_39 : decode cX3_isTied 39 = .ok (.ireturn, 1) := by decide +kernel
theorem dX3_countChildren_0 : decode cX3_countChildren 0 = .ok (.iconst 0, 1) := by decide +kernel
theorem dX3_countChildren_1 : decode cX3_countChildren 1 = .ok (.istore_n 2, 1) := by decide +kernel
theorem dX3_countChildren_2 : decode cX3_countChildren 2 = .ok (.iconst 0, 1) := by decide +kernel
theorem dX3_countChildren_3 : decode cX3_countChildren 3 = .ok (.istore_n 3, 1) := by decide +kernel
theorem dX3_countChildren_4 : decode cX3_countChildren 4 = .ok (.iload_n 3, 1) := by decide +kernel
theorem dX3_countChildren_5 : decode cX3_countChildren 5 = .ok (.bipush 16, 2) := by decide +kernel
theorem dX3_countChildren_7 : decode cX3_countChildren 7 = .ok (.if_icmp .ge 34, 3) := by decide +kernel
theorem dX3_countChildren_10 : decode cX3_countChildren 10 = .ok (.aload_n 0, 1) := by decide +kernel
theorem dX3_countChildren_11 : decode cX3_countChildren 11 = .ok (.getfield 11, 3) := by decide +kernel
theorem dX3_countChildren_14 : decode cX3_countChildren 14 = .ok (.iload_n 3, 1) := by decide +kernel
theorem dX3_countChildren_15 : decode cX3_countChildren 15 = .ok (.aaload, 1) := by decide +kernel
theorem dX3_countChildren_16 : decode cX3_countChildren 16 = .ok (.ifnull 19, 3) := by decide +kernel
theorem dX3_countChildren_19 : decode cX3_countChildren 19 = .ok (.aload_n 0, 1) := by decide +kernel
theorem dX3_countChildren_20 : decode cX3_countChildren 20 = .ok (.getfield 11, 3) := by decide +kernel
theorem dX3_countChildren_23 : decode cX3_countChildren 23 = .ok (.iload_n 3, 1) := by decide +kernel
theorem dX3_countChildren_24 : decode cX3_countChildren 24 = .ok (.aaload, 1) := by decide +kernel
theorem dX3_countChildren_25 : decode cX3_countChildren 25 = .ok (.getfield 55, 3) := by decide +kernel
theorem dX3_countChildren_28 : decode cX3_countChildren 28 = .ok (.aload_n 1, 1) := by decide +kernel
theorem dX3_countChildren_29 : decode cX3_countChildren 29 = .ok (.if_acmp .ne 6, 3) := by decide +kernel
theorem dX3_countChildren_32 : decode cX3_countChildren 32 = .ok (.iinc 2 1, 3) := by decide +kernel
theorem dX3_countChildren_35 : decode cX3_countChildren 35 = .ok (.iinc 3 1, 3) := by decide +kernel
theorem dX3_countChildren_38 : decode cX3_countChildren 38 = .ok (.goto (-34), 3) := by decide +kernel
theorem dX3_countChildren_41 : decode cX3_countChildren 41 = .ok (.iload_n 2, 1) := by decide +kernel
theorem dX3_countChildren_42 : decode cX3_countChildren 42 = .ok (.ireturn, 1) := by decide +kernel
theorem dX3_childOf_0 : decode cX3_childOf 0 = .ok (.iconst 0, 1) := by decide +kernel
theorem dX3_childOf_1 : decode cX3_childOf 1 = .ok (.istore_n 2, 1) := by decide +kernel
theorem dX3_childOf_2 : decode cX3_childOf 2 = .ok (.iload_n 2, 1) := by decide +kernel
theorem dX3_childOf_3 : decode cX3_childOf 3 = .ok (.bipush 16, 2) := by decide +kernel
theorem dX3_childOf_5 : decode cX3_childOf 5 = .ok (.if_icmp .ge 38, 3) := by decide +kernel
theorem dX3_childOf_8 : decode cX3_childOf 8 = .ok (.aload_n 0, 1) := by decide +kernel
theorem dX3_childOf_9 : decode cX3_childOf 9 = .ok (.getfield 11, 3) := by decide +kernel
theorem dX3_childOf_12 : decode cX3_childOf 12 = .ok (.iload_n 2, 1) := by decide +kernel
theorem dX3_childOf_13 : decode cX3_childOf 13 = .ok (.aaload, 1) := by decide +kernel
theorem dX3_childOf_14 : decode cX3_childOf 14 = .ok (.ifnull 23, 3) := by decide +kernel
theorem dX3_childOf_17 : decode cX3_childOf 17 = .ok (.aload_n 0, 1) := by decide +kernel
theorem dX3_childOf_18 : decode cX3_childOf 18 = .ok (.getfield 11, 3) := by decide +kernel
theorem dX3_childOf_21 : decode cX3_childOf 21 = .ok (.iload_n 2, 1) := by decide +kernel
theorem dX3_childOf_22 : decode cX3_childOf 22 = .ok (.aaload, 1) := by decide +kernel
theorem dX3_childOf_23 : decode cX3_childOf 23 = .ok (.getfield 55, 3) := by decide +kernel
theorem dX3_childOf_26 : decode cX3_childOf 26 = .ok (.aload_n 1, 1) := by decide +kernel
theorem dX3_childOf_27 : decode cX3_childOf 27 = .ok (.if_acmp .ne 10, 3) := by decide +kernel
theorem dX3_childOf_30 : decode cX3_childOf 30 = .ok (.aload_n 0, 1) := by decide +kernel
theorem dX3_childOf_31 : decode cX3_childOf 31 = .ok (.getfield 11, 3) := by decide +kernel
theorem dX3_childOf_34 : decode cX3_childOf 34 = .ok (.iload_n 2, 1) := by decide +kernel
theorem dX3_childOf_35 : decode cX3_childOf 35 = .ok (.aaload, 1) := by decide +kernel
theorem dX3_childOf_36 : decode cX3_childOf 36 = .ok (.areturn, 1) := by decide +kernel
theorem dX3_childOf_37 : decode cX3_childOf 37 = .ok (.iinc 2 1, 3) := by decide +kernel
theorem dX3_childOf_40 : decode cX3_childOf 40 = .ok (.goto (-38), 3) := by decide +kernel
theorem dX3_childOf_43 : decode cX3_childOf 43 = .ok (.aconst_null, 1) := by decide +kernel
theorem dX3_childOf_44 : decode cX3_childOf 44 = .ok (.areturn, 1) := by decide +kernel
theorem dX3_remove_0 : decode cX3_remove 0 = .ok (.aload_n 1, 1) := by decide +kernel
theorem dX3_remove_1 : decode cX3_remove 1 = .ok (.getfield 37, 3) := by decide +kernel
theorem dX3_remove_4 : decode cX3_remove 4 = .ok (.ifCond .lt 22, 3) := by decide +kernel
theorem dX3_remove_7 : decode cX3_remove 7 = .ok (.aload_n 1, 1) := by decide +kernel
theorem dX3_remove_8 : decode cX3_remove 8 = .ok (.getfield 37, 3) := by decide +kernel
theorem dX3_remove_11 : decode cX3_remove 11 = .ok (.bipush 16, 2) := by decide +kernel
theorem dX3_remove_13 : decode cX3_remove 13 = .ok (.if_icmp .ge 13, 3) := by decide +kernel
theorem dX3_remove_16 : decode cX3_remove 16 = .ok (.aload_n 0, 1) := by decide +kernel
theorem dX3_remove_17 : decode cX3_remove 17 = .ok (.getfield 11, 3) := by decide +kernel
theorem dX3_remove_20 : decode cX3_remove 20 = .ok (.aload_n 1, 1) := by decide +kernel
theorem dX3_remove_21 : decode cX3_remove 21 = .ok (.getfield 37, 3) := by decide +kernel
theorem dX3_remove_24 : decode cX3_remove 24 = .ok (.aconst_null, 1) := by decide +kernel
theorem dX3_remove_25 : decode cX3_remove 25 = .ok (.aastore, 1) := by decide +kernel
theorem dX3_remove_26 : decode cX3_remove 26 = .ok (.return_, 1) := by decide +kernel
theorem dX3_arePair_0 : decode cX3_arePair 0 = .ok (.aload_n 0, 1) := by decide +kernel
theorem dX3_arePair_1 : decode cX3_arePair 1 = .ok (.getfield 30, 3) := by decide +kernel
theorem dX3_arePair_4 : decode cX3_arePair 4 = .ok (.iload_n 1, 1) := by decide +kernel
theorem dX3_arePair_5 : decode cX3_arePair 5 = .ok (.aaload, 1) := by decide +kernel
theorem dX3_arePair_6 : decode cX3_arePair 6 = .ok (.astore_n 3, 1) := by decide +kernel
theorem dX3_arePair_7 : decode cX3_arePair 7 = .ok (.aload_n 0, 1) := by decide +kernel
theorem dX3_arePair_8 : decode cX3_arePair 8 = .ok (.getfield 30, 3) := by decide +kernel
theorem dX3_arePair_11 : decode cX3_arePair 11 = .ok (.iload_n 2, 1) := by decide +kernel
theorem dX3_arePair_12 : decode cX3_arePair 12 = .ok (.aaload, 1) := by decide +kernel
theorem dX3_arePair_13 : decode cX3_arePair 13 = .ok (.astore 4, 2) := by decide +kernel
theorem dX3_arePair_15 : decode cX3_arePair 15 = .ok (.aload_n 3, 1) := by decide +kernel
theorem dX3_arePair_16 : decode cX3_arePair 16 = .ok (.ifnull 33, 3) := by decide +kernel
theorem dX3_arePair_19 : decode cX3_arePair 19 = .ok (.aload 4, 2) := by decide +kernel
theorem dX3_arePair_21 : decode cX3_arePair 21 = .ok (.ifnull 28, 3) := by decide +kernel
theorem dX3_arePair_24 : decode cX3_arePair 24 = .ok (.aload_n 3, 1) := by decide +kernel
theorem dX3_arePair_25 : decode cX3_arePair 25 = .ok (.aload 4, 2) := by decide +kernel
theorem dX3_arePair_27 : decode cX3_arePair 27 = .ok (.invokevirtual 58, 3) := by decide +kernel
theorem dX3_arePair_30 : decode cX3_arePair 30 = .ok (.aload_n 3, 1) := by decide +kernel
theorem dX3_arePair_31 : decode cX3_arePair 31 = .ok (.getfield 62, 3) := by decide +kernel
theorem dX3_arePair_34 : decode cX3_arePair 34 = .ok (.aload 4, 2) := by decide +kernel
theorem dX3_arePair_36 : decode cX3_arePair 36 = .ok (.getfield 62, 3) := by decide +kernel
theorem dX3_arePair_39 : decode cX3_arePair 39 = .ok (.invokestatic 65, 3) := by decide +kernel
theorem dX3_arePair_42 : decode cX3_arePair 42 = .ok (.ifCond .eq 7, 3) := by decide +kernel
theorem dX3_arePair_45 : decode cX3_arePair 45 = .ok (.iconst 1, 1) := by decide +kernel
theorem dX3_arePair_46 : decode cX3_arePair 46 = .ok (.goto 4, 3) := by decide +kernel
theorem dX3_arePair_49 : decode cX3_arePair 49 = .ok (.iconst 0, 1) := by decide +kernel
theorem dX3_arePair_50 : decode cX3_arePair 50 = .ok (.ireturn, 1) := by decide +kernel
theorem dX3_sizeOfVersions_0 : decode cX3_sizeOfVersions 0 = .ok (.iconst 0, 1) := by decide +kernel
theorem dX3_sizeOfVersions_1 : decode cX3_sizeOfVersions 1 = .ok (.istore_n 2, 1) := by decide +kernel
theorem dX3_sizeOfVersions_2 : decode cX3_sizeOfVersions 2 = .ok (.iconst 0, 1) := by decide +kernel
theorem dX3_sizeOfVersions_3 : decode cX3_sizeOfVersions 3 = .ok (.istore_n 3, 1) := by decide +kernel
theorem dX3_sizeOfVersions_4 : decode cX3_sizeOfVersions 4 = .ok (.iload_n 3, 1) := by decide +kernel
theorem dX3_sizeOfVersions_5 : decode cX3_sizeOfVersions 5 = .ok (.bipush 16, 2) := by decide +kernel
theorem dX3_sizeOfVersions_7 : decode cX3_sizeOfVersions 7 = .ok (.if_icmp .ge 43, 3) := by decide +kernel
theorem dX3_sizeOfVersions_10 : decode cX3_sizeOfVersions 10 = .ok (.aload_n 0, 1) := by decide +kernel
theorem dX3_sizeOfVersions_11 : decode cX3_sizeOfVersions 11 = .ok (.getfield 11, 3) := by decide +kernel
theorem dX3_sizeOfVersions_14 : decode cX3_sizeOfVersions 14 = .ok (.iload_n 3, 1) := by decide +kernel
theorem dX3_sizeOfVersions_15 : decode cX3_sizeOfVersions 15 = .ok (.aaload, 1) := by decide +kernel
theorem dX3_sizeOfVersions_16 : decode cX3_sizeOfVersions 16 = .ok (.ifnull 28, 3) := by decide +kernel
theorem dX3_sizeOfVersions_19 : decode cX3_sizeOfVersions 19 = .ok (.aload_n 0, 1) := by decide +kernel
theorem dX3_sizeOfVersions_20 : decode cX3_sizeOfVersions 20 = .ok (.getfield 11, 3) := by decide +kernel
theorem dX3_sizeOfVersions_23 : decode cX3_sizeOfVersions 23 = .ok (.iload_n 3, 1) := by decide +kernel
theorem dX3_sizeOfVersions_24 : decode cX3_sizeOfVersions 24 = .ok (.aaload, 1) := by decide +kernel
theorem dX3_sizeOfVersions_25 : decode cX3_sizeOfVersions 25 = .ok (.getfield 69, 3) := by decide +kernel
theorem dX3_sizeOfVersions_28 : decode cX3_sizeOfVersions 28 = .ok (.iload_n 1, 1) := by decide +kernel
theorem dX3_sizeOfVersions_29 : decode cX3_sizeOfVersions 29 = .ok (.if_icmp .ne 15, 3) := by decide +kernel
theorem dX3_sizeOfVersions_32 : decode cX3_sizeOfVersions 32 = .ok (.iload_n 2, 1) := by decide +kernel
theorem dX3_sizeOfVersions_33 : decode cX3_sizeOfVersions 33 = .ok (.aload_n 0, 1) := by decide +kernel
theorem dX3_sizeOfVersions_34 : decode cX3_sizeOfVersions 34 = .ok (.getfield 11, 3) := by decide +kernel
theorem dX3_sizeOfVersions_37 : decode cX3_sizeOfVersions 37 = .ok (.iload_n 3, 1) := by decide +kernel
theorem dX3_sizeOfVersions_38 : decode cX3_sizeOfVersions 38 = .ok (.aaload, 1) := by decide +kernel
theorem dX3_sizeOfVersions_39 : decode cX3_sizeOfVersions 39 = .ok (.invokevirtual 72, 3) := by decide +kernel
theorem dX3_sizeOfVersions_42 : decode cX3_sizeOfVersions 42 = .ok (.iadd, 1) := by decide +kernel
theorem dX3_sizeOfVersions_43 : decode cX3_sizeOfVersions 43 = .ok (.istore_n 2, 1) := by decide +kernel
theorem dX3_sizeOfVersions_44 : decode cX3_sizeOfVersions 44 = .ok (.iinc 3 1, 3) := by decide +kernel
theorem dX3_sizeOfVersions_47 : decode cX3_sizeOfVersions 47 = .ok (.goto (-43), 3) := by decide +kernel
theorem dX3_sizeOfVersions_50 : decode cX3_sizeOfVersions 50 = .ok (.iload_n 2, 1) := by decide +kernel
theorem dX3_sizeOfVersions_51 : decode cX3_sizeOfVersions 51 = .ok (.ireturn, 1) := by decide +kernel
theorem dX3_sizeOfAnswers_0 : decode cX3_sizeOfAnswers 0 = .ok (.iconst 0, 1) := by decide +kernel
theorem dX3_sizeOfAnswers_1 : decode cX3_sizeOfAnswers 1 = .ok (.istore_n 2, 1) := by decide +kernel
theorem dX3_sizeOfAnswers_2 : decode cX3_sizeOfAnswers 2 = .ok (.iconst 0, 1) := by decide +kernel
theorem dX3_sizeOfAnswers_3 : decode cX3_sizeOfAnswers 3 = .ok (.istore_n 3, 1) := by decide +kernel
theorem dX3_sizeOfAnswers_4 : decode cX3_sizeOfAnswers 4 = .ok (.iload_n 3, 1) := by decide +kernel
theorem dX3_sizeOfAnswers_5 : decode cX3_sizeOfAnswers 5 = .ok (.bipush 12, 2) := by decide +kernel
theorem dX3_sizeOfAnswers_7 : decode cX3_sizeOfAnswers 7 = .ok (.if_icmp .ge 38, 3) := by decide +kernel
theorem dX3_sizeOfAnswers_10 : decode cX3_sizeOfAnswers 10 = .ok (.aload_n 0, 1) := by decide +kernel
theorem dX3_sizeOfAnswers_11 : decode cX3_sizeOfAnswers 11 = .ok (.getfield 30, 3) := by decide +kernel
theorem dX3_sizeOfAnswers_14 : decode cX3_sizeOfAnswers 14 = .ok (.iload_n 3, 1) := by decide +kernel
theorem dX3_sizeOfAnswers_15 : decode cX3_sizeOfAnswers 15 = .ok (.aaload, 1) := by decide +kernel
theorem dX3_sizeOfAnswers_16 : decode cX3_sizeOfAnswers 16 = .ok (.ifnull 23, 3) := by decide +kernel
theorem dX3_sizeOfAnswers_19 : decode cX3_sizeOfAnswers 19 = .ok (.iload_n 3, 1) := by decide +kernel
theorem dX3_sizeOfAnswers_20 : decode cX3_sizeOfAnswers 20 = .ok (.invokestatic 76, 3) := by decide +kernel
theorem dX3_sizeOfAnswers_23 : decode cX3_sizeOfAnswers 23 = .ok (.iload_n 1, 1) := by decide +kernel
theorem dX3_sizeOfAnswers_24 : decode cX3_sizeOfAnswers 24 = .ok (.if_icmp .ne 15, 3) := by decide +kernel
theorem dX3_sizeOfAnswers_27 : decode cX3_sizeOfAnswers 27 = .ok (.iload_n 2, 1) := by decide +kernel
theorem dX3_sizeOfAnswers_28 : decode cX3_sizeOfAnswers 28 = .ok (.aload_n 0, 1) := by decide +kernel
theorem dX3_sizeOfAnswers_29 : decode cX3_sizeOfAnswers 29 = .ok (.getfield 30, 3) := by decide +kernel
theorem dX3_sizeOfAnswers_32 : decode cX3_sizeOfAnswers 32 = .ok (.iload_n 3, 1) := by decide +kernel
theorem dX3_sizeOfAnswers_33 : decode cX3_sizeOfAnswers 33 = .ok (.aaload, 1) := by decide +kernel
theorem dX3_sizeOfAnswers_34 : decode cX3_sizeOfAnswers 34 = .ok (.invokevirtual 80, 3) := by decide +kernel
theorem dX3_sizeOfAnswers_37 : decode cX3_sizeOfAnswers 37 = .ok (.iadd, 1) := by decide +kernel
theorem dX3_sizeOfAnswers_38 : decode cX3_sizeOfAnswers 38 = .ok (.istore_n 2, 1) := by decide +kernel
theorem dX3_sizeOfAnswers_39 : decode cX3_sizeOfAnswers 39 = .ok (.iinc 3 1, 3) := by decide +kernel
theorem dX3_sizeOfAnswers_42 : decode cX3_sizeOfAnswers 42 = .ok (.goto (-38), 3) := by decide +kernel
theorem dX3_sizeOfAnswers_45 : decode cX3_sizeOfAnswers 45 = .ok (.iload_n 2, 1) := by decide +kernel
theorem dX3_sizeOfAnswers_46 : decode cX3_sizeOfAnswers 46 = .ok (.ireturn, 1) := by decide +kernel
theorem dX4_init_0 : decode cX4_init 0 = .ok (.aload_n 0, 1) := by decide +kernel
theorem dX4_init_1 : decode cX4_init 1 = .ok (.invokespecial 3, 3) := by decide +kernel
theorem dX4_init_4 : decode cX4_init 4 = .ok (.aload_n 0, 1) := by decide +kernel
theorem dX4_init_5 : decode cX4_init 5 = .ok (.iconst 5, 1) := by decide +kernel
theorem dX4_init_6 : decode cX4_init 6 = .ok (.anewarray 9, 3) := by decide +kernel
theorem dX4_init_9 : decode cX4_init 9 = .ok (.putfield 11, 3) := by decide +kernel
theorem dX4_init_12 : decode cX4_init 12 = .ok (.aload_n 0, 1) := by decide +kernel
theorem dX4_init_13 : decode cX4_init 13 = .ok (.iload_n 1, 1) := by decide +kernel
theorem dX4_init_14 : decode cX4_init 14 = .ok (.putfield 17, 3) := by decide +kernel
theorem dX4_init_17 : decode cX4_init 17 = .ok (.aload_n 0, 1) := by decide +kernel
theorem dX4_init_18 : decode cX4_init 18 = .ok (.iload_n 2, 1) := by decide +kernel
theorem dX4_init_19 : decode cX4_init 19 = .ok (.putfield 21, 3) := by decide +kernel
theorem dX4_init_22 : decode cX4_init 22 = .ok (.aload_n 0, 1) := by decide +kernel
theorem dX4_init_23 : decode cX4_init 23 = .ok (.aload_n 3, 1) := by decide +kernel
theorem dX4_init_24 : decode cX4_init 24 = .ok (.putfield 24, 3) := by decide +kernel
theorem dX4_init_27 : decode cX4_init 27 = .ok (.return_, 1) := by decide +kernel
theorem dX4_size_0 : decode cX4_size 0 = .ok (.iconst 0, 1) := by decide +kernel
theorem dX4_size_1 : decode cX4_size 1 = .ok (.istore_n 1, 1) := by decide +kernel
theorem dX4_size_2 : decode cX4_size 2 = .ok (.iconst 0, 1) := by decide +kernel
theorem dX4_size_3 : decode cX4_size 3 = .ok (.istore_n 2, 1) := by decide +kernel
theorem dX4_size_4 : decode cX4_size 4 = .ok (.iload_n 2, 1) := by decide +kernel
theorem dX4_size_5 : decode cX4_size 5 = .ok (.iconst 5, 1) := by decide +kernel
theorem dX4_size_6 : decode cX4_size 6 = .ok (.if_icmp .ge 30, 3) := by decide +kernel
theorem dX4_size_9 : decode cX4_size 9 = .ok (.aload_n 0, 1) := by decide +kernel
theorem dX4_size_10 : decode cX4_size 10 = .ok (.getfield 11, 3) := by decide +kernel
theorem dX4_size_13 : decode cX4_size 13 = .ok (.iload_n 2, 1) := by decide +kernel
theorem dX4_size_14 : decode cX4_size 14 = .ok (.aaload, 1) := by decide +kernel
theorem dX4_size_15 : decode cX4_size 15 = .ok (.ifnull 15, 3) := by decide +kernel
theorem dX4_size_18 : decode cX4_size 18 = .ok (.iload_n 1, 1) := by decide +kernel
theorem dX4_size_19 : decode cX4_size 19 = .ok (.aload_n 0, 1) := by decide +kernel
theorem dX4_size_20 : decode cX4_size 20 = .ok (.getfield 11, 3) := by decide +kernel
theorem dX4_size_23 : decode cX4_size 23 = .ok (.iload_n 2, 1) := by decide +kernel
theorem dX4_size_24 : decode cX4_size 24 = .ok (.aaload, 1) := by decide +kernel
theorem dX4_size_25 : decode cX4_size 25 = .ok (.invokevirtual 28, 3) := by decide +kernel
theorem dX4_size_28 : decode cX4_size 28 = .ok (.iadd, 1) := by decide +kernel
theorem dX4_size_29 : decode cX4_size 29 = .ok (.istore_n 1, 1) := by decide +kernel
theorem dX4_size_30 : decode cX4_size 30 = .ok (.iinc 2 1, 3) := by decide +kernel
theorem dX4_size_33 : decode cX4_size 33 = .ok (.goto (-29), 3) := by decide +kernel
theorem dX4_size_36 : decode cX4_size 36 = .ok (.iload_n 1, 1) := by decide +kernel
theorem dX4_size_37 : decode cX4_size 37 = .ok (.ireturn, 1) := by decide +kernel
theorem dX4_sizeMissingIn_0 : decode cX4_sizeMissingIn 0 = .ok (.iconst 0, 1) := by decide +kernel
theorem dX4_sizeMissingIn_1 : decode cX4_sizeMissingIn 1 = .ok (.istore_n 2, 1) := by decide +kernel
theorem dX4_sizeMissingIn_2 : decode cX4_sizeMissingIn 2 = .ok (.iconst 0, 1) := by decide +kernel
theorem dX4_sizeMissingIn_3 : decode cX4_sizeMissingIn 3 = .ok (.istore_n 3, 1) := by decide +kernel
theorem dX4_sizeMissingIn_4 : decode cX4_sizeMissingIn 4 = .ok (.iload_n 3, 1) := by decide +kernel
theorem dX4_sizeMissingIn_5 : decode cX4_sizeMissingIn 5 = .ok (.iconst 5, 1) := by decide +kernel
theorem dX4_sizeMissingIn_6 : decode cX4_sizeMissingIn 6 = .ok (.if_icmp .ge 39, 3) := by decide +kernel
theorem dX4_sizeMissingIn_9 : decode cX4_sizeMissingIn 9 = .ok (.aload_n 0, 1) := by decide +kernel
theorem dX4_sizeMissingIn_10 : decode cX4_sizeMissingIn 10 = .ok (.getfield 11, 3) := by decide +kernel
theorem dX4_sizeMissingIn_13 : decode cX4_sizeMissingIn 13 = .ok (.iload_n 3, 1) := by decide +kernel
theorem dX4_sizeMissingIn_14 : decode cX4_sizeMissingIn 14 = .ok (.aaload, 1) := by decide +kernel
theorem dX4_sizeMissingIn_15 : decode cX4_sizeMissingIn 15 = .ok (.ifnull 24, 3) := by decide +kernel
theorem dX4_sizeMissingIn_18 : decode cX4_sizeMissingIn 18 = .ok (.aload_n 1, 1) := by decide +kernel
theorem dX4_sizeMissingIn_19 : decode cX4_sizeMissingIn 19 = .ok (.getfield 11, 3) := by decide +kernel
theorem dX4_sizeMissingIn_22 : decode cX4_sizeMissingIn 22 = .ok (.iload_n 3, 1) := by decide +kernel
theorem dX4_sizeMissingIn_23 : decode cX4_sizeMissingIn 23 = .ok (.aaload, 1) := by decide +kernel
theorem dX4_sizeMissingIn_24 : decode cX4_sizeMissingIn 24 = .ok (.ifnonnull 15, 3) := by decide +kernel
theorem dX4_sizeMissingIn_27 : decode cX4_sizeMissingIn 27 = .ok (.iload_n 2, 1) := by decide +kernel
theorem dX4_sizeMissingIn_28 : decode cX4_sizeMissingIn 28 = .ok (.aload_n 0, 1) := by decide +kernel
theorem dX4_sizeMissingIn_29 : decode cX4_sizeMissingIn 29 = .ok (.getfield 11, 3) := by decide +kernel
theorem dX4_sizeMissingIn_32 : decode cX4_sizeMissingIn 32 = .ok (.iload_n 3, 1) := by decide +kernel
theorem dX4_sizeMissingIn_33 : decode cX4_sizeMissingIn 33 = .ok (.aaload, 1) := by decide +kernel
theorem dX4_sizeMissingIn_34 : decode cX4_sizeMissingIn 34 = .ok (.invokevirtual 28, 3) := by decide +kernel
theorem dX4_sizeMissingIn_37 : decode cX4_sizeMissingIn 37 = .ok (.iadd, 1) := by decide +kernel
theorem dX4_sizeMissingIn_38 : decode cX4_sizeMissingIn 38 = .ok (.istore_n 2, 1) := by decide +kernel
theorem dX4_sizeMissingIn_39 : decode cX4_sizeMissingIn 39 = .ok (.iinc 3 1, 3) := by decide +kernel
theorem dX4_sizeMissingIn_42 : decode cX4_sizeMissingIn 42 = .ok (.goto (-38), 3) := by decide +kernel
theorem dX4_sizeMissingIn_45 : decode cX4_sizeMissingIn 45 = .ok (.iload_n 2, 1) := by decide +kernel
theorem dX4_sizeMissingIn_46 : decode cX4_sizeMissingIn 46 = .ok (.ireturn, 1) := by decide +kernel
theorem dX4_inherit_0 : decode cX4_inherit 0 = .ok (.iconst 0, 1) := by decide +kernel
theorem dX4_inherit_1 : decode cX4_inherit 1 = .ok (.istore_n 2, 1) := by decide +kernel
theorem dX4_inherit_2 : decode cX4_inherit 2 = .ok (.iload_n 2, 1) := by decide +kernel
theorem dX4_inherit_3 : decode cX4_inherit 3 = .ok (.iconst 5, 1) := by decide +kernel
theorem dX4_inherit_4 : decode cX4_inherit 4 = .ok (.if_icmp .ge 30, 3) := by decide +kernel
theorem dX4_inherit_7 : decode cX4_inherit 7 = .ok (.aload_n 0, 1) := by decide +kernel
theorem dX4_inherit_8 : decode cX4_inherit 8 = .ok (.getfield 11, 3) := by decide +kernel
theorem dX4_inherit_11 : decode cX4_inherit 11 = .ok (.iload_n 2, 1) := by decide +kernel
theorem dX4_inherit_12 : decode cX4_inherit 12 = .ok (.aaload, 1) := by decide +kernel
theorem dX4_inherit_13 : decode cX4_inherit 13 = .ok (.ifnonnull 15, 3) := by decide +kernel
theorem dX4_inherit_16 : decode cX4_inherit 16 = .ok (.aload_n 0, 1) := by decide +kernel
theorem dX4_inherit_17 : decode cX4_inherit 17 = .ok (.getfield 11, 3) := by decide +kernel
theorem dX4_inherit_20 : decode cX4_inherit 20 = .ok (.iload_n 2, 1) := by decide +kernel
theorem dX4_inherit_21 : decode cX4_inherit 21 = .ok (.aload_n 1, 1) := by decide +kernel
theorem dX4_inherit_22 : decode cX4_inherit 22 = .ok (.getfield 11, 3) := by decide +kernel
theorem dX4_inherit_25 : decode cX4_inherit 25 = .ok (.iload_n 2, 1) := by decide +kernel
theorem dX4_inherit_26 : decode cX4_inherit 26 = .ok (.aaload, 1) := by decide +kernel
theorem dX4_inherit_27 : decode cX4_inherit 27 = .ok (.aastore, 1) := by decide +kernel
theorem dX4_inherit_28 : decode cX4_inherit 28 = .ok (.iinc 2 1, 3) := by decide +kernel
theorem dX4_inherit_31 : decode cX4_inherit 31 = .ok (.goto (-29), 3) := by decide +kernel
theorem dX4_inherit_34 : decode cX4_inherit 34 = .ok (.aload_n 0, 1) := by decide +kernel
theorem dX4_inherit_35 : decode cX4_inherit 35 = .ok (.aload_n 1, 1) := by decide +kernel
theorem dX4_inherit_36 : decode cX4_inherit 36 = .ok (.getfield 24, 3) := by decide +kernel
theorem dX4_inherit_39 : decode cX4_inherit 39 = .ok (.putfield 24, 3) := by decide +kernel
theorem dX4_inherit_42 : decode cX4_inherit 42 = .ok (.return_, 1) := by decide +kernel
theorem dX5_init_0 : decode cX5_init 0 = .ok (.aload_n 0, 1) := by decide +kernel
theorem dX5_init_1 : decode cX5_init 1 = .ok (.invokespecial 3, 3) := by decide +kernel
theorem dX5_init_4 : decode cX5_init 4 = .ok (.aload_n 0, 1) := by decide +kernel
theorem dX5_init_5 : decode cX5_init 5 = .ok (.iconst 4, 1) := by decide +kernel
theorem dX5_init_6 : decode cX5_init 6 = .ok (.anewarray 9, 3) := by decide +kernel
theorem dX5_init_9 : decode cX5_init 9 = .ok (.putfield 11, 3) := by decide +kernel
theorem dX5_init_12 : decode cX5_init 12 = .ok (.aload_n 0, 1) := by decide +kernel
theorem dX5_init_13 : decode cX5_init 13 = .ok (.iconst 0, 1) := by decide +kernel
theorem dX5_init_14 : decode cX5_init 14 = .ok (.putfield 15, 3) := by decide +kernel
theorem dX5_init_17 : decode cX5_init 17 = .ok (.aload_n 0, 1) := by decide +kernel
theorem dX5_init_18 : decode cX5_init 18 = .ok (.iconst 4, 1) := by decide +kernel
theorem dX5_init_19 : decode cX5_init 19 = .ok (.newarray .int, 2) := by decide +kernel
theorem dX5_init_21 : decode cX5_init 21 = .ok (.putfield 19, 3) := by decide +kernel
theorem dX5_init_24 : decode cX5_init 24 = .ok (.aload_n 0, 1) := by decide +kernel
theorem dX5_init_25 : decode cX5_init 25 = .ok (.iconst 4, 1) := by decide +kernel
theorem dX5_init_26 : decode cX5_init 26 = .ok (.newarray .int, 2) := by decide +kernel
theorem dX5_init_28 : decode cX5_init 28 = .ok (.putfield 23, 3) := by decide +kernel
theorem dX5_init_31 : decode cX5_init 31 = .ok (.aload_n 0, 1) := by decide +kernel
theorem dX5_init_32 : decode cX5_init 32 = .ok (.bipush 7, 2) := by decide +kernel
theorem dX5_init_34 : decode cX5_init 34 = .ok (.newarray .int, 2) := by decide +kernel
theorem dX5_init_36 : decode cX5_init 36 = .ok (.putfield 26, 3) := by decide +kernel
theorem dX5_init_39 : decode cX5_init 39 = .ok (.aload_n 0, 1) := by decide +kernel
theorem dX5_init_40 : decode cX5_init 40 = .ok (.bipush 12, 2) := by decide +kernel
theorem dX5_init_42 : decode cX5_init 42 = .ok (.bipush 50, 2) := by decide +kernel
theorem dX5_init_44 : decode cX5_init 44 = .ok (.multianewarray 29 2, 4) := by decide +kernel
theorem dX5_init_48 : decode cX5_init 48 = .ok (.putfield 31, 3) := by decide +kernel
theorem dX5_init_51 : decode cX5_init 51 = .ok (.aload_n 0, 1) := by decide +kernel
theorem dX5_init_52 : decode cX5_init 52 = .ok (.bipush 12, 2) := by decide +kernel
theorem dX5_init_54 : decode cX5_init 54 = .ok (.newarray .int, 2) := by decide +kernel
theorem dX5_init_56 : decode cX5_init 56 = .ok (.putfield 34, 3) := by decide +kernel
theorem dX5_init_59 : decode cX5_init 59 = .ok (.iconst 0, 1) := by decide +kernel
theorem dX5_init_60 : decode cX5_init 60 = .ok (.istore_n 1, 1) := by decide +kernel
theorem dX5_init_61 : decode cX5_init 61 = .ok (.iload_n 1, 1) := by decide +kernel
theorem dX5_init_62 : decode cX5_init 62 = .ok (.iconst 4, 1) := by decide +kernel
theorem dX5_init_63 : decode cX5_init 63 = .ok (.if_icmp .ge 17, 3) := by decide +kernel
theorem dX5_init_66 : decode cX5_init 66 = .ok (.aload_n 0, 1) := by decide +kernel
theorem dX5_init_67 : decode cX5_init 67 = .ok (.getfield 19, 3) := by decide +kernel
theorem dX5_init_70 : decode cX5_init 70 = .ok (.iload_n 1, 1) := by decide +kernel
theorem dX5_init_71 : decode cX5_init 71 = .ok (.bipush 100, 2) := by decide +kernel
theorem dX5_init_73 : decode cX5_init 73 = .ok (.iastore, 1) := by decide +kernel
theorem dX5_init_74 : decode cX5_init 74 = .ok (.iinc 1 1, 3) := by decide +kernel
theorem dX5_init_77 : decode cX5_init 77 = .ok (.goto (-16), 3) := by decide +kernel
theorem dX5_init_80 : decode cX5_init 80 = .ok (.return_, 1) := by decide +kernel
theorem dX5_addSheet_0 : decode cX5_addSheet 0 = .ok (.aload_n 0, 1) := by decide +kernel
theorem dX5_addSheet_1 : decode cX5_addSheet 1 = .ok (.getfield 15, 3) := by decide +kernel
theorem dX5_addSheet_4 : decode cX5_addSheet 4 = .ok (.iconst 4, 1) := by decide +kernel
theorem dX5_addSheet_5 : decode cX5_addSheet 5 = .ok (.if_icmp .lt 13, 3) := by decide +kernel
theorem dX5_addSheet_8 : decode cX5_addSheet 8 = .ok (.new 37, 3) := by decide +kernel
theorem dX5_addSheet_11 : decode cX5_addSheet 11 = .ok (.dup, 1) := by decide +kernel
theorem dX5_addSheet_12 : decode cX5_addSheet 12 = .ok (.ldc 39, 2) := by decide +kernel
theorem dX5_addSheet_14 : decode cX5_addSheet 14 = .ok (.invokespecial 41, 3) := by decide +kernel
theorem dX5_addSheet_17 : decode cX5_addSheet 17 = .ok (.athrow, 1) := by decide +kernel
theorem dX5_addSheet_18 : decode cX5_addSheet 18 = .ok (.aload_n 0, 1) := by decide +kernel
theorem dX5_addSheet_19 : decode cX5_addSheet 19 = .ok (.getfield 15, 3) := by decide +kernel
theorem dX5_addSheet_22 : decode cX5_addSheet 22 = .ok (.istore_n 1, 1) := by decide +kernel
theorem dX5_addSheet_23 : decode cX5_addSheet 23 = .ok (.aload_n 0, 1) := by decide +kernel
theorem dX5_addSheet_24 : decode cX5_addSheet 24 = .ok (.getfield 11, 3) := by decide +kernel
theorem dX5_addSheet_27 : decode cX5_addSheet 27 = .ok (.iload_n 1, 1) := by decide +kernel
theorem dX5_addSheet_28 : decode cX5_addSheet 28 = .ok (.new 9, 3) := by decide +kernel
theorem dX5_addSheet_31 : decode cX5_addSheet 31 = .ok (.dup, 1) := by decide +kernel
theorem dX5_addSheet_32 : decode cX5_addSheet 32 = .ok (.invokespecial 44, 3) := by decide +kernel
theorem dX5_addSheet_35 : decode cX5_addSheet 35 = .ok (.aastore, 1) := by decide +kernel
theorem dX5_addSheet_36 : decode cX5_addSheet 36 = .ok (.aload_n 0, 1) := by decide +kernel
theorem dX5_addSheet_37 : decode cX5_addSheet 37 = .ok (.dup, 1) := by decide +kernel
theorem dX5_addSheet_38 : decode cX5_addSheet 38 = .ok (.getfield 15, 3) := by decide +kernel
theorem dX5_addSheet_41 : decode cX5_addSheet 41 = .ok (.iconst 1, 1) := by decide +kernel
theorem dX5_addSheet_42 : decode cX5_addSheet 42 = .ok (.iadd, 1) := by decide +kernel
theorem dX5_addSheet_43 : decode cX5_addSheet 43 = .ok (.putfield 15, 3) := by decide +kernel
theorem dX5_addSheet_46 : decode cX5_addSheet 46 = .ok (.iload_n 1, 1) := by decide +kernel
theorem dX5_addSheet_47 : decode cX5_addSheet 47 = .ok (.ireturn, 1) := by decide +kernel
theorem dX5_setNumber_0 : decode cX5_setNumber 0 = .ok (.iload_n 1, 1) := by decide +kernel
theorem dX5_setNumber_1 : decode cX5_setNumber 1 = .ok (.invokestatic 45, 3) := by decide +kernel
theorem dX5_setNumber_4 : decode cX5_setNumber 4 = .ok (.aload_n 0, 1) := by decide +kernel
theorem dX5_setNumber_5 : decode cX5_setNumber 5 = .ok (.iload_n 2, 1) := by decide +kernel
theorem dX5_setNumber_6 : decode cX5_setNumber 6 = .ok (.invokevirtual 49, 3) := by decide +kernel
theorem dX5_setNumber_9 : decode cX5_setNumber 9 = .ok (.astore 7, 2) := by decide +kernel
theorem dX5_setNumber_11 : decode cX5_setNumber 11 = .ok (.iload_n 3, 1) := by decide +kernel
theorem dX5_setNumber_12 : decode cX5_setNumber 12 = .ok (.invokestatic 53, 3) := by decide +kernel
theorem dX5_setNumber_15 : decode cX5_setNumber 15 = .ok (.iload 4, 2) := by decide +kernel
theorem dX5_setNumber_17 : decode cX5_setNumber 17 = .ok (.iconst 1, 1) := by decide +kernel
theorem dX5_setNumber_18 : decode cX5_setNumber 18 = .ok (.bipush 10, 2) := by decide +kernel
theorem dX5_setNumber_20 : decode cX5_setNumber 20 = .ok (.invokestatic 56, 3) := by decide +kernel
theorem dX5_setNumber_23 : decode cX5_setNumber 23 = .ok (.iload 5, 2) := by decide +kernel
theorem dX5_setNumber_25 : decode cX5_setNumber 25 = .ok (.iload 6, 2) := by decide +kernel
theorem dX5_setNumber_27 : decode cX5_setNumber 27 = .ok (.invokestatic 60, 3) := by decide +kernel
theorem dX5_setNumber_30 : decode cX5_setNumber 30 = .ok (.aload_n 0, 1) := by decide +kernel
theorem dX5_setNumber_31 : decode cX5_setNumber 31 = .ok (.iload_n 1, 1) := by decide +kernel
theorem dX5_setNumber_32 : decode cX5_setNumber 32 = .ok (.aload 7, 2) := by decide +kernel
theorem dX5_setNumber_34 : decode cX5_setNumber 34 = .ok (.iload_n 3, 1) := by decide +kernel
theorem dX5_setNumber_35 : decode cX5_setNumber 35 = .ok (.new 64, 3) := by decide +kernel
theorem dX5_setNumber_38 : decode cX5_setNumber 38 = .ok (.dup, 1) := by decide +kernel
theorem dX5_setNumber_39 : decode cX5_setNumber 39 = .ok (.iconst 0, 1) := by decide +kernel
theorem dX5_setNumber_40 : decode cX5_setNumber 40 = .ok (.iload 4, 2) := by decide +kernel
theorem dX5_setNumber_42 : decode cX5_setNumber 42 = .ok (.iload 5, 2) := by decide +kernel
theorem dX5_setNumber_44 : decode cX5_setNumber 44 = .ok (.iload 6, 2) := by decide +kernel
theorem dX5_setNumber_46 : decode cX5_setNumber 46 = .ok (.invokespecial 66, 3) := by decide +kernel
theorem dX5_setNumber_49 : decode cX5_setNumber 49 = .ok (.invokevirtual 69, 3) := by decide +kernel
theorem dX5_setNumber_52 : decode cX5_setNumber 52 = .ok (.ireturn, 1) := by decide +kernel
theorem dX5_setChoice_0 : decode cX5_setChoice 0 = .ok (.iload_n 1, 1) := by decide +kernel
theorem dX5_setChoice_1 : decode cX5_setChoice 1 = .ok (.invokestatic 45, 3) := by decide +kernel
theorem dX5_setChoice_4 : decode cX5_setChoice 4 = .ok (.aload_n 0, 1) := by decide +kernel
theorem dX5_setChoice_5 : decode cX5_setChoice 5 = .ok (.iload_n 2, 1) := by decide +kernel
theorem dX5_setChoice_6 : decode cX5_setChoice 6 = .ok (.invokevirtual 49, 3) := by decide +kernel
theorem dX5_setChoice_9 : decode cX5_setChoice 9 = .ok (.astore 6, 2) := by decide +kernel
theorem dX5_setChoice_11 : decode cX5_setChoice 11 = .ok (.iload_n 3, 1) := by decide +kernel
theorem dX5_setChoice_12 : decode cX5_setChoice 12 = .ok (.invokestatic 53, 3) := by decide +kernel
theorem dX5_setChoice_15 : decode cX5_setChoice 15 = .ok (.iload 4, 2) := by decide +kernel
theorem dX5_setChoice_17 : decode cX5_setChoice 17 = .ok (.iconst 1, 1) := by decide +kernel
theorem dX5_setChoice_18 : decode cX5_setChoice 18 = .ok (.bipush 10, 2) := by decide +kernel
theorem dX5_setChoice_20 : decode cX5_setChoice 20 = .ok (.invokestatic 56, 3) := by decide +kernel
theorem dX5_setChoice_23 : decode cX5_setChoice 23 = .ok (.iload 5, 2) := by decide +kernel
theorem dX5_setChoice_25 : decode cX5_setChoice 25 = .ok (.iconst 0, 1) := by decide +kernel
theorem dX5_setChoice_26 : decode cX5_setChoice 26 = .ok (.bipush 31, 2) := by decide +kernel
theorem dX5_setChoice_28 : decode cX5_setChoice 28 = .ok (.invokestatic 56, 3) := by decide +kernel
theorem dX5_setChoice_31 : decode cX5_setChoice 31 = .ok (.aload_n 0, 1) := by decide +kernel
theorem dX5_setChoice_32 : decode cX5_setChoice 32 = .ok (.iload_n 1, 1) := by decide +kernel
theorem dX5_setChoice_33 : decode cX5_setChoice 33 = .ok (.aload 6, 2) := by decide +kernel
theorem dX5_setChoice_35 : decode cX5_setChoice 35 = .ok (.iload_n 3, 1) := by decide +kernel
theorem dX5_setChoice_36 : decode cX5_setChoice 36 = .ok (.new 64, 3) := by decide +kernel
theorem dX5_setChoice_39 : decode cX5_setChoice 39 = .ok (.dup, 1) := by decide +kernel
theorem dX5_setChoice_40 : decode cX5_setChoice 40 = .ok (.iconst 1, 1) := by decide +kernel
theorem dX5_setChoice_41 : decode cX5_setChoice 41 = .ok (.iload 4, 2) := by decide +kernel
theorem dX5_setChoice_43 : decode cX5_setChoice 43 = .ok (.iload 5, 2) := by decide +kernel
theorem dX5_setChoice_45 : decode cX5_setChoice 45 = .ok (.iconst 0, 1) := by decide +kernel
theorem dX5_setChoice_46 : decode cX5_setChoice 46 = .ok (.invokespecial 66, 3) := by decide +kernel
theorem dX5_setChoice_49 : decode cX5_setChoice 49 = .ok (.invokevirtual 69, 3) := by decide +kernel
theorem dX5_setChoice_52 : decode cX5_setChoice 52 = .ok (.ireturn, 1) := by decide +kernel
theorem dX5_setWords_0 : decode cX5_setWords 0 = .ok (.iload_n 1, 1) := by decide +kernel
theorem dX5_setWords_1 : decode cX5_setWords 1 = .ok (.invokestatic 45, 3) := by decide +kernel
theorem dX5_setWords_4 : decode cX5_setWords 4 = .ok (.aload_n 0, 1) := by decide +kernel
theorem dX5_setWords_5 : decode cX5_setWords 5 = .ok (.iload_n 2, 1) := by decide +kernel
theorem dX5_setWords_6 : decode cX5_setWords 6 = .ok (.invokevirtual 49, 3) := by decide +kernel
theorem dX5_setWords_9 : decode cX5_setWords 9 = .ok (.astore 6, 2) := by decide +kernel
theorem dX5_setWords_11 : decode cX5_setWords 11 = .ok (.iload_n 3, 1) := by decide +kernel
theorem dX5_setWords_12 : decode cX5_setWords 12 = .ok (.invokestatic 53, 3) := by decide +kernel
theorem dX5_setWords_15 : decode cX5_setWords 15 = .ok (.iload 4, 2) := by decide +kernel
theorem dX5_setWords_17 : decode cX5_setWords 17 = .ok (.iconst 1, 1) := by decide +kernel
theorem dX5_setWords_18 : decode cX5_setWords 18 = .ok (.bipush 10, 2) := by decide +kernel
theorem dX5_setWords_20 : decode cX5_setWords 20 = .ok (.invokestatic 56, 3) := by decide +kernel
theorem dX5_setWords_23 : decode cX5_setWords 23 = .ok (.iload 5, 2) := by decide +kernel
theorem dX5_setWords_25 : decode cX5_setWords 25 = .ok (.invokestatic 73, 3) := by decide +kernel
theorem dX5_setWords_28 : decode cX5_setWords 28 = .ok (.aload_n 0, 1) := by decide +kernel
theorem dX5_setWords_29 : decode cX5_setWords 29 = .ok (.iload_n 1, 1) := by decide +kernel
theorem dX5_setWords_30 : decode cX5_setWords 30 = .ok (.aload 6, 2) := by decide +kernel
theorem dX5_setWords_32 : decode cX5_setWords 32 = .ok (.iload_n 3, 1) := by decide +kernel
theorem dX5_setWords_33 : decode cX5_setWords 33 = .ok (.new 64, 3) := by decide +kernel
theorem dX5_setWords_36 : decode cX5_setWords 36 = .ok (.dup, 1) := by decide +kernel
theorem dX5_setWords_37 : decode cX5_setWords 37 = .ok (.iconst 2, 1) := by decide +kernel
theorem dX5_setWords_38 : decode cX5_setWords 38 = .ok (.iload 4, 2) := by decide +kernel
theorem dX5_setWords_40 : decode cX5_setWords 40 = .ok (.iload 5, 2) := by decide +kernel
theorem dX5_setWords_42 : decode cX5_setWords 42 = .ok (.iconst 0, 1) := by decide +kernel
theorem dX5_setWords_43 : decode cX5_setWords 43 = .ok (.invokespecial 66, 3) := by decide +kernel
theorem dX5_setWords_46 : decode cX5_setWords 46 = .ok (.invokevirtual 69, 3) := by decide +kernel
theorem dX5_setWords_49 : decode cX5_setWords 49 = .ok (.ireturn, 1) := by decide +kernel
theorem dX5_drop_0 : decode cX5_drop 0 = .ok (.iload_n 1, 1) := by decide +kernel
theorem dX5_drop_1 : decode cX5_drop 1 = .ok (.invokestatic 45, 3) := by decide +kernel
theorem dX5_drop_4 : decode cX5_drop 4 = .ok (.aload_n 0, 1) := by decide +kernel
theorem dX5_drop_5 : decode cX5_drop 5 = .ok (.iload_n 2, 1) := by decide +kernel
theorem dX5_drop_6 : decode cX5_drop 6 = .ok (.invokevirtual 49, 3) := by decide +kernel
theorem dX5_drop_9 : decode cX5_drop 9 = .ok (.astore 4, 2) := by decide +kernel
theorem dX5_drop_11 : decode cX5_drop 11 = .ok (.iload_n 3, 1) := by decide +kernel
theorem dX5_drop_12 : decode cX5_drop 12 = .ok (.invokestatic 53, 3) := by decide +kernel
theorem dX5_drop_15 : decode cX5_drop 15 = .ok (.aload 4, 2) := by decide +kernel
theorem dX5_drop_17 : decode cX5_drop 17 = .ok (.getfield 76, 3) := by decide +kernel
theorem dX5_drop_20 : decode cX5_drop 20 = .ok (.iload_n 1, 1) := by decide +kernel
theorem dX5_drop_21 : decode cX5_drop 21 = .ok (.aaload, 1) := by decide +kernel
theorem dX5_drop_22 : decode cX5_drop 22 = .ok (.iload_n 3, 1) := by decide +kernel
theorem dX5_drop_23 : decode cX5_drop 23 = .ok (.invokestatic 80, 3) := by decide +kernel
theorem dX5_drop_26 : decode cX5_drop 26 = .ok (.ifnonnull 13, 3) := by decide +kernel
theorem dX5_drop_29 : decode cX5_drop 29 = .ok (.new 37, 3) := by decide +kernel
theorem dX5_drop_32 : decode cX5_drop 32 = .ok (.dup, 1) := by decide +kernel
theorem dX5_drop_33 : decode cX5_drop 33 = .ok (.ldc 84, 2) := by decide +kernel
theorem dX5_drop_35 : decode cX5_drop 35 = .ok (.invokespecial 41, 3) := by decide +kernel
theorem dX5_drop_38 : decode cX5_drop 38 = .ok (.athrow, 1) := by decide +kernel
theorem dX5_drop_39 : decode cX5_drop 39 = .ok (.aload_n 0, 1) := by decide +kernel
theorem dX5_drop_40 : decode cX5_drop 40 = .ok (.iload_n 1, 1) := by decide +kernel
theorem dX5_drop_41 : decode cX5_drop 41 = .ok (.aload 4, 2) := by decide +kernel
theorem dX5_drop_43 : decode cX5_drop 43 = .ok (.iload_n 3, 1) := by decide +kernel
theorem dX5_drop_44 : decode cX5_drop 44 = .ok (.new 64, 3) := by decide +kernel
theorem dX5_drop_47 : decode cX5_drop 47 = .ok (.dup, 1) := by decide +kernel
theorem dX5_drop_48 : decode cX5_drop 48 = .ok (.iconst (-1), 1) := by decide +kernel
theorem dX5_drop_49 : decode cX5_drop 49 = .ok (.iconst 0, 1) := by decide +kernel
theorem dX5_drop_50 : decode cX5_drop 50 = .ok (.iconst 0, 1) := by decide +kernel
theorem dX5_drop_51 : decode cX5_drop 51 = .ok (.iconst 0, 1) := by decide +kernel
theorem dX5_drop_52 : decode cX5_drop 52 = .ok (.invokespecial 66, 3) := by decide +kernel
theorem dX5_drop_55 : decode cX5_drop 55 = .ok (.invokevirtual 69, 3) := by decide +kernel
theorem dX5_drop_58 : decode cX5_drop 58 = .ok (.ireturn, 1) := by decide +kernel
theorem dX5_adopt_0 : decode cX5_adopt 0 = .ok (.iload_n 1, 1) := by decide +kernel
theorem dX5_adopt_1 : decode cX5_adopt 1 = .ok (.invokestatic 45, 3) := by decide +kernel
theorem dX5_adopt_4 : decode cX5_adopt 4 = .ok (.aload_n 0, 1) := by decide +kernel
theorem dX5_adopt_5 : decode cX5_adopt 5 = .ok (.iload_n 2, 1) := by decide +kernel
theorem dX5_adopt_6 : decode cX5_adopt 6 = .ok (.invokevirtual 49, 3) := by decide +kernel
theorem dX5_adopt_9 : decode cX5_adopt 9 = .ok (.astore 4, 2) := by decide +kernel
theorem dX5_adopt_11 : decode cX5_adopt 11 = .ok (.aload 4, 2) := by decide +kernel
theorem dX5_adopt_13 : decode cX5_adopt 13 = .ok (.iload_n 3, 1) := by decide +kernel
theorem dX5_adopt_14 : decode cX5_adopt 14 = .ok (.invokestatic 86, 3) := by decide +kernel
theorem dX5_adopt_17 : decode cX5_adopt 17 = .ok (.astore 5, 2) := by decide +kernel
theorem dX5_adopt_19 : decode cX5_adopt 19 = .ok (.aload 4, 2) := by decide +kernel
theorem dX5_adopt_21 : decode cX5_adopt 21 = .ok (.getfield 76, 3) := by decide +kernel
theorem dX5_adopt_24 : decode cX5_adopt 24 = .ok (.iload_n 1, 1) := by decide +kernel
theorem dX5_adopt_25 : decode cX5_adopt 25 = .ok (.aaload, 1) := by decide +kernel
theorem dX5_adopt_26 : decode cX5_adopt 26 = .ok (.invokestatic 90, 3) := by decide +kernel
theorem dX5_adopt_29 : decode cX5_adopt 29 = .ok (.istore 6, 2) := by decide +kernel
theorem dX5_adopt_31 : decode cX5_adopt 31 = .ok (.aload 4, 2) := by decide +kernel
theorem dX5_adopt_33 : decode cX5_adopt 33 = .ok (.getfield 76, 3) := by decide +kernel
theorem dX5_adopt_36 : decode cX5_adopt 36 = .ok (.iload_n 1, 1) := by decide +kernel
theorem dX5_adopt_37 : decode cX5_adopt 37 = .ok (.aload 5, 2) := by decide +kernel
theorem dX5_adopt_39 : decode cX5_adopt 39 = .ok (.aastore, 1) := by decide +kernel
theorem dX5_adopt_40 : decode cX5_adopt 40 = .ok (.iload 6, 2) := by decide +kernel
theorem dX5_adopt_42 : decode cX5_adopt 42 = .ok (.ireturn, 1) := by decide +kernel
theorem dX5_fold_0 : decode cX5_fold 0 = .ok (.aload_n 0, 1) := by decide +kernel
theorem dX5_fold_1 : decode cX5_fold 1 = .ok (.iload_n 1, 1) := by decide +kernel
theorem dX5_fold_2 : decode cX5_fold 2 = .ok (.invokevirtual 49, 3) := by decide +kernel
theorem dX5_fold_5 : decode cX5_fold 5 = .ok (.astore_n 3, 1) := by decide +kernel
theorem dX5_fold_6 : decode cX5_fold 6 = .ok (.aload_n 3, 1) := by decide +kernel
theorem dX5_fold_7 : decode cX5_fold 7 = .ok (.iload_n 2, 1) := by decide +kernel
theorem dX5_fold_8 : decode cX5_fold 8 = .ok (.invokestatic 86, 3) := by decide +kernel
theorem dX5_fold_11 : decode cX5_fold 11 = .ok (.astore 4, 2) := by decide +kernel
theorem dX5_fold_13 : decode cX5_fold 13 = .ok (.aload_n 3, 1) := by decide +kernel
theorem dX5_fold_14 : decode cX5_fold 14 = .ok (.aload 4, 2) := by decide +kernel
theorem dX5_fold_16 : decode cX5_fold 16 = .ok (.invokevirtual 94, 3) := by decide +kernel
theorem dX5_fold_19 : decode cX5_fold 19 = .ok (.ifCond .ne 13, 3) := by decide +kernel
theorem dX5_fold_22 : decode cX5_fold 22 = .ok (.new 37, 3) := by decide +kernel
theorem dX5_fold_25 : decode cX5_fold 25 = .ok (.dup, 1) := by decide +kernel
theorem dX5_fold_26 : decode cX5_fold 26 = .ok (.ldc 98, 2) := by decide +kernel
theorem dX5_fold_28 : decode cX5_fold 28 = .ok (.invokespecial 41, 3) := by decide +kernel
theorem dX5_fold_31 : decode cX5_fold 31 = .ok (.athrow, 1) := by decide +kernel
theorem dX5_fold_32 : decode cX5_fold 32 = .ok (.aload_n 3, 1) := by decide +kernel
theorem dX5_fold_33 : decode cX5_fold 33 = .ok (.aload 4, 2) := by decide +kernel
theorem dX5_fold_35 : decode cX5_fold 35 = .ok (.invokevirtual 100, 3) := by decide +kernel
theorem dX5_fold_38 : decode cX5_fold 38 = .ok (.astore 5, 2) := by decide +kernel
theorem dX5_fold_40 : decode cX5_fold 40 = .ok (.aload 4, 2) := by decide +kernel
theorem dX5_fold_42 : decode cX5_fold 42 = .ok (.invokevirtual 104, 3) := by decide +kernel
theorem dX5_fold_45 : decode cX5_fold 45 = .ok (.istore 6, 2) := by decide +kernel
theorem dX5_fold_47 : decode cX5_fold 47 = .ok (.iconst 0, 1) := by decide +kernel
theorem dX5_fold_48 : decode cX5_fold 48 = .ok (.istore 7, 2) := by decide +kernel
theorem dX5_fold_50 : decode cX5_fold 50 = .ok (.aload 5, 2) := by decide +kernel
theorem dX5_fold_52 : decode cX5_fold 52 = .ok (.ifnull 67, 3) := by decide +kernel
theorem dX5_fold_55 : decode cX5_fold 55 = .ok (.aload 4, 2) := by decide +kernel
theorem dX5_fold_57 : decode cX5_fold 57 = .ok (.aload 5, 2) := by decide +kernel
theorem dX5_fold_59 : decode cX5_fold 59 = .ok (.invokevirtual 110, 3) := by decide +kernel
theorem dX5_fold_62 : decode cX5_fold 62 = .ok (.istore 7, 2) := by decide +kernel
theorem dX5_fold_64 : decode cX5_fold 64 = .ok (.aload 5, 2) := by decide +kernel
theorem dX5_fold_66 : decode cX5_fold 66 = .ok (.getfield 113, 3) := by decide +kernel
theorem dX5_fold_69 : decode cX5_fold 69 = .ok (.aload 4, 2) := by decide +kernel
theorem dX5_fold_71 : decode cX5_fold 71 = .ok (.getfield 113, 3) := by decide +kernel
theorem dX5_fold_74 : decode cX5_fold 74 = .ok (.if_icmp .eq 27, 3) := by decide +kernel
theorem dX5_fold_77 : decode cX5_fold 77 = .ok (.aload_n 0, 1) := by decide +kernel
theorem dX5_fold_78 : decode cX5_fold 78 = .ok (.aload 5, 2) := by decide +kernel
theorem dX5_fold_80 : decode cX5_fold 80 = .ok (.getfield 113, 3) := by decide +kernel
theorem dX5_fold_83 : decode cX5_fold 83 = .ok (.iload 7, 2) := by decide +kernel
theorem dX5_fold_85 : decode cX5_fold 85 = .ok (.invokevirtual 116, 3) := by decide +kernel
theorem dX5_fold_88 : decode cX5_fold 88 = .ok (.ifCond .eq 13, 3) := by decide +kernel
theorem dX5_fold_91 : decode cX5_fold 91 = .ok (.new 37, 3) := by decide +kernel
theorem dX5_fold_94 : decode cX5_fold 94 = .ok (.dup, 1) := by decide +kernel
theorem dX5_fold_95 : decode cX5_fold 95 = .ok (.ldc 120, 2) := by decide +kernel
theorem dX5_fold_97 : decode cX5_fold 97 = .ok (.invokespecial 41, 3) := by decide +kernel
theorem dX5_fold_100 : decode cX5_fold 100 = .ok (.athrow, 1) := by decide +kernel
theorem dX5_fold_101 : decode cX5_fold 101 = .ok (.aload_n 0, 1) := by decide +kernel
theorem dX5_fold_102 : decode cX5_fold 102 = .ok (.aload 5, 2) := by decide +kernel
theorem dX5_fold_104 : decode cX5_fold 104 = .ok (.getfield 113, 3) := by decide +kernel
theorem dX5_fold_107 : decode cX5_fold 107 = .ok (.iload 7, 2) := by decide +kernel
theorem dX5_fold_109 : decode cX5_fold 109 = .ok (.invokevirtual 122, 3) := by decide +kernel
theorem dX5_fold_112 : decode cX5_fold 112 = .ok (.aload 5, 2) := by decide +kernel
theorem dX5_fold_114 : decode cX5_fold 114 = .ok (.aload 4, 2) := by decide +kernel
theorem dX5_fold_116 : decode cX5_fold 116 = .ok (.invokevirtual 125, 3) := by decide +kernel
theorem dX5_fold_119 : decode cX5_fold 119 = .ok (.aload_n 0, 1) := by decide +kernel
theorem dX5_fold_120 : decode cX5_fold 120 = .ok (.aload 4, 2) := by decide +kernel
theorem dX5_fold_122 : decode cX5_fold 122 = .ok (.getfield 113, 3) := by decide +kernel
theorem dX5_fold_125 : decode cX5_fold 125 = .ok (.iload 6, 2) := by decide +kernel
theorem dX5_fold_127 : decode cX5_fold 127 = .ok (.ineg, 1) := by decide +kernel
theorem dX5_fold_128 : decode cX5_fold 128 = .ok (.invokevirtual 122, 3) := by decide +kernel
theorem dX5_fold_131 : decode cX5_fold 131 = .ok (.aload_n 3, 1) := by decide +kernel
theorem dX5_fold_132 : decode cX5_fold 132 = .ok (.aload 4, 2) := by decide +kernel
theorem dX5_fold_134 : decode cX5_fold 134 = .ok (.invokevirtual 129, 3) := by decide +kernel
theorem dX5_fold_137 : decode cX5_fold 137 = .ok (.iload 6, 2) := by decide +kernel
theorem dX5_fold_139 : decode cX5_fold 139 = .ok (.iload 7, 2) := by decide +kernel
theorem dX5_fold_141 : decode cX5_fold 141 = .ok (.isub, 1) := by decide +kernel
theorem dX5_fold_142 : decode cX5_fold 142 = .ok (.ireturn, 1) := by decide +kernel
theorem dX5_sheets_0 : decode cX5_sheets 0 = .ok (.aload_n 0, 1) := by decide +kernel
theorem dX5_sheets_1 : decode cX5_sheets 1 = .ok (.getfield 15, 3) := by decide +kernel
theorem dX5_sheets_4 : decode cX5_sheets 4 = .ok (.ireturn, 1) := by decide +kernel
theorem dX5_versions_0 : decode cX5_versions 0 = .ok (.aload_n 0, 1) := by decide +kernel
theorem dX5_versions_1 : decode cX5_versions 1 = .ok (.iload_n 1, 1) := by decide +kernel
theorem dX5_versions_2 : decode cX5_versions 2 = .ok (.invokevirtual 49, 3) := by decide +kernel
theorem dX5_versions_5 : decode cX5_versions 5 = .ok (.astore_n 2, 1) := by decide +kernel
theorem dX5_versions_6 : decode cX5_versions 6 = .ok (.iconst 0, 1) := by decide +kernel
theorem dX5_versions_7 : decode cX5_versions 7 = .ok (.istore_n 3, 1) := by decide +kernel
theorem dX5_versions_8 : decode cX5_versions 8 = .ok (.iconst 0, 1) := by decide +kernel
theorem dX5_versions_9 : decode cX5_versions 9 = .ok (.istore 4, 2) := by decide +kernel
theorem dX5_versions_11 : decode cX5_versions 11 = .ok (.iload 4, 2) := by decide +kernel
theorem dX5_versions_13 : decode cX5_versions 13 = .ok (.bipush 16, 2) := by decide +kernel
theorem dX5_versions_15 : decode cX5_versions 15 = .ok (.if_icmp .ge 22, 3) := by decide +kernel
theorem dX5_versions_18 : decode cX5_versions 18 = .ok (.aload_n 2, 1) := by decide +kernel
theorem dX5_versions_19 : decode cX5_versions 19 = .ok (.getfield 132, 3) := by decide +kernel
theorem dX5_versions_22 : decode cX5_versions 22 = .ok (.iload 4, 2) := by decide +kernel
theorem dX5_versions_24 : decode cX5_versions 24 = .ok (.aaload, 1) := by decide +kernel
theorem dX5_versions_25 : decode cX5_versions 25 = .ok (.ifnull 6, 3) := by decide +kernel
theorem dX5_versions_28 : decode cX5_versions 28 = .ok (.iinc 3 1, 3) := by decide +kernel
theorem dX5_versions_31 : decode cX5_versions 31 = .ok (.iinc 4 1, 3) := by decide +kernel
theorem dX5_versions_34 : decode cX5_versions 34 = .ok (.goto (-23), 3) := by decide +kernel
theorem dX5_versions_37 : decode cX5_versions 37 = .ok (.iload_n 3, 1) := by decide +kernel
theorem dX5_versions_38 : decode cX5_versions 38 = .ok (.ireturn, 1) := by decide +kernel
theorem dX5_head_0 : decode cX5_head 0 = .ok (.iload_n 1, 1) := by decide +kernel
theorem dX5_head_1 : decode cX5_head 1 = .ok (.invokestatic 45, 3) := by decide +kernel
theorem dX5_head_4 : decode cX5_head 4 = .ok (.aload_n 0, 1) := by decide +kernel
theorem dX5_head_5 : decode cX5_head 5 = .ok (.iload_n 2, 1) := by decide +kernel
theorem dX5_head_6 : decode cX5_head 6 = .ok (.invokevirtual 49, 3) := by decide +kernel
theorem dX5_head_9 : decode cX5_head 9 = .ok (.getfield 76, 3) := by decide +kernel
theorem dX5_head_12 : decode cX5_head 12 = .ok (.iload_n 1, 1) := by decide +kernel
theorem dX5_head_13 : decode cX5_head 13 = .ok (.aaload, 1) := by decide +kernel
theorem dX5_head_14 : decode cX5_head 14 = .ok (.invokestatic 90, 3) := by decide +kernel
theorem dX5_head_17 : decode cX5_head 17 = .ok (.ireturn, 1) := by decide +kernel
theorem dX5_parent_0 : decode cX5_parent 0 = .ok (.aload_n 0, 1) := by decide +kernel
theorem dX5_parent_1 : decode cX5_parent 1 = .ok (.iload_n 1, 1) := by decide +kernel
theorem dX5_parent_2 : decode cX5_parent 2 = .ok (.invokevirtual 49, 3) := by decide +kernel
theorem dX5_parent_5 : decode cX5_parent 5 = .ok (.iload_n 2, 1) := by decide +kernel
theorem dX5_parent_6 : decode cX5_parent 6 = .ok (.invokestatic 86, 3) := by decide +kernel
theorem dX5_parent_9 : decode cX5_parent 9 = .ok (.getfield 135, 3) := by decide +kernel
theorem dX5_parent_12 : decode cX5_parent 12 = .ok (.invokestatic 90, 3) := by decide +kernel
theorem dX5_parent_15 : decode cX5_parent 15 = .ok (.ireturn, 1) := by decide +kernel
theorem dX5_kindOf_0 : decode cX5_kindOf 0 = .ok (.aload_n 0, 1) := by decide +kernel
theorem dX5_kindOf_1 : decode cX5_kindOf 1 = .ok (.iload_n 1, 1) := by decide +kernel
theorem dX5_kindOf_2 : decode cX5_kindOf 2 = .ok (.invokevirtual 49, 3) := by decide +kernel
theorem dX5_kindOf_5 : decode cX5_kindOf 5 = .ok (.iload_n 2, 1) := by decide +kernel
theorem dX5_kindOf_6 : decode cX5_kindOf 6 = .ok (.invokestatic 86, 3) := by decide +kernel
theorem dX5_kindOf_9 : decode cX5_kindOf 9 = .ok (.astore 4, 2) := by decide +kernel
theorem dX5_kindOf_11 : decode cX5_kindOf 11 = .ok (.iload_n 3, 1) := by decide +kernel
theorem dX5_kindOf_12 : decode cX5_kindOf 12 = .ok (.invokestatic 53, 3) := by decide +kernel
theorem dX5_kindOf_15 : decode cX5_kindOf 15 = .ok (.aload 4, 2) := by decide +kernel
theorem dX5_kindOf_17 : decode cX5_kindOf 17 = .ok (.iload_n 3, 1) := by decide +kernel
theorem dX5_kindOf_18 : decode cX5_kindOf 18 = .ok (.invokestatic 80, 3) := by decide +kernel
theorem dX5_kindOf_21 : decode cX5_kindOf 21 = .ok (.astore 5, 2) := by decide +kernel
theorem dX5_kindOf_23 : decode cX5_kindOf 23 = .ok (.aload 5, 2) := by decide +kernel
theorem dX5_kindOf_25 : decode cX5_kindOf 25 = .ok (.ifnonnull 7, 3) := by decide +kernel
theorem dX5_kindOf_28 : decode cX5_kindOf 28 = .ok (.iconst (-1), 1) := by decide +kernel
theorem dX5_kindOf_29 : decode cX5_kindOf 29 = .ok (.goto 8, 3) := by decide +kernel
theorem dX5_kindOf_32 : decode cX5_kindOf 32 = .ok (.aload 5, 2) := by decide +kernel
theorem dX5_kindOf_34 : decode cX5_kindOf 34 = .ok (.getfield 139, 3) := by decide +kernel
theorem dX5_kindOf_37 : decode cX5_kindOf 37 = .ok (.ireturn, 1) := by decide +kernel
theorem dX5_toldIn_0 : decode cX5_toldIn 0 = .ok (.aload_n 0, 1) := by decide +kernel
theorem dX5_toldIn_1 : decode cX5_toldIn 1 = .ok (.iload_n 1, 1) := by decide +kernel
theorem dX5_toldIn_2 : decode cX5_toldIn 2 = .ok (.invokevirtual 49, 3) := by decide +kernel
theorem dX5_toldIn_5 : decode cX5_toldIn 5 = .ok (.iload_n 2, 1) := by decide +kernel
theorem dX5_toldIn_6 : decode cX5_toldIn 6 = .ok (.invokestatic 86, 3) := by decide +kernel
theorem dX5_toldIn_9 : decode cX5_toldIn 9 = .ok (.astore 4, 2) := by decide +kernel
theorem dX5_toldIn_11 : decode cX5_toldIn 11 = .ok (.iload_n 3, 1) := by decide +kernel
theorem dX5_toldIn_12 : decode cX5_toldIn 12 = .ok (.invokestatic 53, 3) := by decide +kernel
theorem dX5_toldIn_15 : decode cX5_toldIn 15 = .ok (.aload 4, 2) := by decide +kernel
theorem dX5_toldIn_17 : decode cX5_toldIn 17 = .ok (.iload_n 3, 1) := by decide +kernel
theorem dX5_toldIn_18 : decode cX5_toldIn 18 = .ok (.invokestatic 142, 3) := by decide +kernel
theorem dX5_toldIn_21 : decode cX5_toldIn 21 = .ok (.invokestatic 90, 3) := by decide +kernel
theorem dX5_toldIn_24 : decode cX5_toldIn 24 = .ok (.ireturn, 1) := by decide +kernel
theorem dX5_points_0 : decode cX5_points 0 = .ok (.aload_n 0, 1) := by decide +kernel
theorem dX5_points_1 : decode cX5_points 1 = .ok (.iload_n 1, 1) := by decide +kernel
theorem dX5_points_2 : decode cX5_points 2 = .ok (.invokevirtual 49, 3) := by decide +kernel
theorem dX5_points_5 : decode cX5_points 5 = .ok (.iload_n 2, 1) := by decide +kernel
theorem dX5_points_6 : decode cX5_points 6 = .ok (.invokestatic 86, 3) := by decide +kernel
theorem dX5_points_9 : decode cX5_points 9 = .ok (.astore_n 3, 1) := by decide +kernel
theorem dX5_points_10 : decode cX5_points 10 = .ok (.iconst 0, 1) := by decide +kernel
theorem dX5_points_11 : decode cX5_points 11 = .ok (.istore 4, 2) := by decide +kernel
theorem dX5_points_13 : decode cX5_points 13 = .ok (.iconst 0, 1) := by decide +kernel
theorem dX5_points_14 : decode cX5_points 14 = .ok (.istore 5, 2) := by decide +kernel
theorem dX5_points_16 : decode cX5_points 16 = .ok (.iload 5, 2) := by decide +kernel
theorem dX5_points_18 : decode cX5_points 18 = .ok (.iconst 5, 1) := by decide +kernel
theorem dX5_points_19 : decode cX5_points 19 = .ok (.if_icmp .ge 32, 3) := by decide +kernel
theorem dX5_points_22 : decode cX5_points 22 = .ok (.aload_n 3, 1) := by decide +kernel
theorem dX5_points_23 : decode cX5_points 23 = .ok (.iload 5, 2) := by decide +kernel
theorem dX5_points_25 : decode cX5_points 25 = .ok (.invokestatic 80, 3) := by decide +kernel
theorem dX5_points_28 : decode cX5_points 28 = .ok (.astore 6, 2) := by decide +kernel
theorem dX5_points_30 : decode cX5_points 30 = .ok (.aload 6, 2) := by decide +kernel
theorem dX5_points_32 : decode cX5_points 32 = .ok (.ifnull 13, 3) := by decide +kernel
theorem dX5_points_35 : decode cX5_points 35 = .ok (.iload 4, 2) := by decide +kernel
theorem dX5_points_37 : decode cX5_points 37 = .ok (.aload 6, 2) := by decide +kernel
theorem dX5_points_39 : decode cX5_points 39 = .ok (.getfield 146, 3) := by decide +kernel
theorem dX5_points_42 : decode cX5_points 42 = .ok (.iadd, 1) := by decide +kernel
theorem dX5_points_43 : decode cX5_points 43 = .ok (.istore 4, 2) := by decide +kernel
theorem dX5_points_45 : decode cX5_points 45 = .ok (.iinc 5 1, 3) := by decide +kernel
theorem dX5_points_48 : decode cX5_points 48 = .ok (.goto (-32), 3) := by decide +kernel
theorem dX5_points_51 : decode cX5_points 51 = .ok (.iload 4, 2) := by decide +kernel
theorem dX5_points_53 : decode cX5_points 53 = .ok (.ireturn, 1) := by decide +kernel
theorem dX5_mendNumber_0 : decode cX5_mendNumber 0 = .ok (.aload_n 0, 1) := by decide +kernel
theorem dX5_mendNumber_1 : decode cX5_mendNumber 1 = .ok (.iload_n 1, 1) := by decide +kernel
theorem dX5_mendNumber_2 : decode cX5_mendNumber 2 = .ok (.invokevirtual 49, 3) := by decide +kernel
theorem dX5_mendNumber_5 : decode cX5_mendNumber 5 = .ok (.astore 6, 2) := by decide +kernel
theorem dX5_mendNumber_7 : decode cX5_mendNumber 7 = .ok (.aload 6, 2) := by decide +kernel
theorem dX5_mendNumber_9 : decode cX5_mendNumber 9 = .ok (.iload_n 2, 1) := by decide +kernel
theorem dX5_mendNumber_10 : decode cX5_mendNumber 10 = .ok (.invokestatic 86, 3) := by decide +kernel
theorem dX5_mendNumber_13 : decode cX5_mendNumber 13 = .ok (.astore 7, 2) := by decide +kernel
theorem dX5_mendNumber_15 : decode cX5_mendNumber 15 = .ok (.iload_n 3, 1) := by decide +kernel
theorem dX5_mendNumber_16 : decode cX5_mendNumber 16 = .ok (.invokestatic 53, 3) := by decide +kernel
theorem dX5_mendNumber_19 : decode cX5_mendNumber 19 = .ok (.iload 4, 2) := by decide +kernel
theorem dX5_mendNumber_21 : decode cX5_mendNumber 21 = .ok (.iload 5, 2) := by decide +kernel
theorem dX5_mendNumber_23 : decode cX5_mendNumber 23 = .ok (.invokestatic 60, 3) := by decide +kernel
theorem dX5_mendNumber_26 : decode cX5_mendNumber 26 = .ok (.aload_n 0, 1) := by decide +kernel
theorem dX5_mendNumber_27 : decode cX5_mendNumber 27 = .ok (.aload 6, 2) := by decide +kernel
theorem dX5_mendNumber_29 : decode cX5_mendNumber 29 = .ok (.aload 7, 2) := by decide +kernel
theorem dX5_mendNumber_31 : decode cX5_mendNumber 31 = .ok (.iload_n 3, 1) := by decide +kernel
theorem dX5_mendNumber_32 : decode cX5_mendNumber 32 = .ok (.iconst 0, 1) := by decide +kernel
theorem dX5_mendNumber_33 : decode cX5_mendNumber 33 = .ok (.iload 4, 2) := by decide +kernel
theorem dX5_mendNumber_35 : decode cX5_mendNumber 35 = .ok (.iload 5, 2) := by decide +kernel
theorem dX5_mendNumber_37 : decode cX5_mendNumber 37 = .ok (.invokevirtual 149, 3) := by decide +kernel
theorem dX5_mendNumber_40 : decode cX5_mendNumber 40 = .ok (.ireturn, 1) := by decide +kernel
theorem dX5_mendChoice_0 : decode cX5_mendChoice 0 = .ok (.aload_n 0, 1) := by decide +kernel
theorem dX5_mendChoice_1 : decode cX5_mendChoice 1 = .ok (.iload_n 1, 1) := by decide +kernel
theorem dX5_mendChoice_2 : decode cX5_mendChoice 2 = .ok (.invokevirtual 49, 3) := by decide +kernel
theorem dX5_mendChoice_5 : decode cX5_mendChoice 5 = .ok (.astore 5, 2) := by decide +kernel
theorem dX5_mendChoice_7 : decode cX5_mendChoice 7 = .ok (.aload 5, 2) := by decide +kernel
theorem dX5_mendChoice_9 : decode cX5_mendChoice 9 = .ok (.iload_n 2, 1) := by decide +kernel
theorem dX5_mendChoice_10 : decode cX5_mendChoice 10 = .ok (.invokestatic 86, 3) := by decide +kernel
theorem dX5_mendChoice_13 : decode cX5_mendChoice 13 = .ok (.astore 6, 2) := by decide +kernel
theorem dX5_mendChoice_15 : decode cX5_mendChoice 15 = .ok (.iload_n 3, 1) := by decide +kernel
theorem dX5_mendChoice_16 : decode cX5_mendChoice 16 = .ok (.invokestatic 53, 3) := by decide +kernel
theorem dX5_mendChoice_19 : decode cX5_mendChoice 19 = .ok (.iload 4, 2) := by decide +kernel
theorem dX5_mendChoice_21 : decode cX5_mendChoice 21 = .ok (.iconst 0, 1) := by decide +kernel
theorem dX5_mendChoice_22 : decode cX5_mendChoice 22 = .ok (.bipush 31, 2) := by decide +kernel
theorem dX5_mendChoice_24 : decode cX5_mendChoice 24 = .ok (.invokestatic 56, 3) := by decide +kernel
theorem dX5_mendChoice_27 : decode cX5_mendChoice 27 = .ok (.aload_n 0, 1) := by decide +kernel
theorem dX5_mendChoice_28 : decode cX5_mendChoice 28 = .ok (.aload 5, 2) := by decide +kernel
theorem dX5_mendChoice_30 : decode cX5_mendChoice 30 = .ok (.aload 6, 2) := by decide +kernel
theorem dX5_mendChoice_32 : decode cX5_mendChoice 32 = .ok (.iload_n 3, 1) := by decide +kernel
theorem dX5_mendChoice_33 : decode cX5_mendChoice 33 = .ok (.iconst 1, 1) := by decide +kernel
theorem dX5_mendChoice_34 : decode cX5_mendChoice 34 = .ok (.iload 4, 2) := by decide +kernel
theorem dX5_mendChoice_36 : decode cX5_mendChoice 36 = .ok (.iconst 0, 1) := by decide +kernel
theorem dX5_mendChoice_37 : decode cX5_mendChoice 37 = .ok (.invokevirtual 149, 3) := by decide +kernel
theorem dX5_mendChoice_40 : decode cX5_mendChoice 40 = .ok (.ireturn, 1) := by decide +kernel
theorem dX5_mendWords_0 : decode cX5_mendWords 0 = .ok (.aload_n 0, 1) := by decide +kernel
theorem dX5_mendWords_1 : decode cX5_mendWords 1 = .ok (.iload_n 1, 1) := by decide +kernel
theorem dX5_mendWords_2 : decode cX5_mendWords 2 = .ok (.invokevirtual 49, 3) := by decide +kernel
theorem dX5_mendWords_5 : decode cX5_mendWords 5 = .ok (.astore 5, 2) := by decide +kernel
theorem dX5_mendWords_7 : decode cX5_mendWords 7 = .ok (.aload 5, 2) := by decide +kernel
theorem dX5_mendWords_9 : decode cX5_mendWords 9 = .ok (.iload_n 2, 1) := by decide +kernel
theorem dX5_mendWords_10 : decode cX5_mendWords 10 = .ok (.invokestatic 86, 3) := by decide +kernel
theorem dX5_mendWords_13 : decode cX5_mendWords 13 = .ok (.astore 6, 2) := by decide +kernel
theorem dX5_mendWords_15 : decode cX5_mendWords 15 = .ok (.iload_n 3, 1) := by decide +kernel
theorem dX5_mendWords_16 : decode cX5_mendWords 16 = .ok (.invokestatic 53, 3) := by decide +kernel
theorem dX5_mendWords_19 : decode cX5_mendWords 19 = .ok (.iload 4, 2) := by decide +kernel
theorem dX5_mendWords_21 : decode cX5_mendWords 21 = .ok (.invokestatic 73, 3) := by decide +kernel
theorem dX5_mendWords_24 : decode cX5_mendWords 24 = .ok (.aload_n 0, 1) := by decide +kernel
theorem dX5_mendWords_25 : decode cX5_mendWords 25 = .ok (.aload 5, 2) := by decide +kernel
theorem dX5_mendWords_27 : decode cX5_mendWords 27 = .ok (.aload 6, 2) := by decide +kernel
theorem dX5_mendWords_29 : decode cX5_mendWords 29 = .ok (.iload_n 3, 1) := by decide +kernel
theorem dX5_mendWords_30 : decode cX5_mendWords 30 = .ok (.iconst 2, 1) := by decide +kernel
theorem dX5_mendWords_31 : decode cX5_mendWords 31 = .ok (.iload 4, 2) := by decide +kernel
theorem dX5_mendWords_33 : decode cX5_mendWords 33 = .ok (.iconst 0, 1) := by decide +kernel
theorem dX5_mendWords_34 : decode cX5_mendWords 34 = .ok (.invokevirtual 149, 3) := by decide +kernel
theorem dX5_mendWords_37 : decode cX5_mendWords 37 = .ok (.ireturn, 1) := by decide +kernel
theorem dX5_open_0 : decode cX5_open 0 = .ok (.iload_n 1, 1) := by decide +kernel
theorem dX5_open_1 : decode cX5_open 1 = .ok (.invokestatic 153, 3) := by decide +kernel
theorem dX5_open_4 : decode cX5_open 4 = .ok (.aload_n 0, 1) := by decide +kernel
theorem dX5_open_5 : decode cX5_open 5 = .ok (.iload_n 2, 1) := by decide +kernel
theorem dX5_open_6 : decode cX5_open 6 = .ok (.invokevirtual 49, 3) := by decide +kernel
theorem dX5_open_9 : decode cX5_open 9 = .ok (.astore_n 3, 1) := by decide +kernel
theorem dX5_open_10 : decode cX5_open 10 = .ok (.iload_n 1, 1) := by decide +kernel
theorem dX5_open_11 : decode cX5_open 11 = .ok (.invokestatic 156, 3) := by decide +kernel
theorem dX5_open_14 : decode cX5_open 14 = .ok (.istore 4, 2) := by decide +kernel
theorem dX5_open_16 : decode cX5_open 16 = .ok (.aload_n 3, 1) := by decide +kernel
theorem dX5_open_17 : decode cX5_open 17 = .ok (.getfield 160, 3) := by decide +kernel
theorem dX5_open_20 : decode cX5_open 20 = .ok (.iload_n 1, 1) := by decide +kernel
theorem dX5_open_21 : decode cX5_open 21 = .ok (.aaload, 1) := by decide +kernel
theorem dX5_open_22 : decode cX5_open 22 = .ok (.ifnull 13, 3) := by decide +kernel
theorem dX5_open_25 : decode cX5_open 25 = .ok (.new 37, 3) := by decide +kernel
theorem dX5_open_28 : decode cX5_open 28 = .ok (.dup, 1) := by decide +kernel
theorem dX5_open_29 : decode cX5_open 29 = .ok (.ldc 164, 2) := by decide +kernel
theorem dX5_open_31 : decode cX5_open 31 = .ok (.invokespecial 41, 3) := by decide +kernel
theorem dX5_open_34 : decode cX5_open 34 = .ok (.athrow, 1) := by decide +kernel
theorem dX5_open_35 : decode cX5_open 35 = .ok (.aload_n 3, 1) := by decide +kernel
theorem dX5_open_36 : decode cX5_open 36 = .ok (.getfield 166, 3) := by decide +kernel
theorem dX5_open_39 : decode cX5_open 39 = .ok (.iload 4, 2) := by decide +kernel
theorem dX5_open_41 : decode cX5_open 41 = .ok (.baload, 1) := by decide +kernel
theorem dX5_open_42 : decode cX5_open 42 = .ok (.ifCond .eq 13, 3) := by decide +kernel
theorem dX5_open_45 : decode cX5_open 45 = .ok (.new 37, 3) := by decide +kernel
theorem dX5_open_48 : decode cX5_open 48 = .ok (.dup, 1) := by decide +kernel
theorem dX5_open_49 : decode cX5_open 49 = .ok (.ldc 170, 2) := by decide +kernel
theorem dX5_open_51 : decode cX5_open 51 = .ok (.invokespecial 41, 3) := by decide +kernel
theorem dX5_open_54 : decode cX5_open 54 = .ok (.athrow, 1) := by decide +kernel
theorem dX5_open_55 : decode cX5_open 55 = .ok (.aload_n 3, 1) := by decide +kernel
theorem dX5_open_56 : decode cX5_open 56 = .ok (.getfield 76, 3) := by decide +kernel
theorem dX5_open_59 : decode cX5_open 59 = .ok (.iload 4, 2) := by decide +kernel
theorem dX5_open_61 : decode cX5_open 61 = .ok (.aaload, 1) := by decide +kernel
theorem dX5_open_62 : decode cX5_open 62 = .ok (.astore 5, 2) := by decide +kernel
theorem dX5_open_64 : decode cX5_open 64 = .ok (.aload_n 3, 1) := by decide +kernel
theorem dX5_open_65 : decode cX5_open 65 = .ok (.getfield 160, 3) := by decide +kernel
theorem dX5_open_68 : decode cX5_open 68 = .ok (.iload_n 1, 1) := by decide +kernel
theorem dX5_open_69 : decode cX5_open 69 = .ok (.new 172, 3) := by decide +kernel
theorem dX5_open_72 : decode cX5_open 72 = .ok (.dup, 1) := by decide +kernel
theorem dX5_open_73 : decode cX5_open 73 = .ok (.aload 5, 2) := by decide +kernel
theorem dX5_open_75 : decode cX5_open 75 = .ok (.invokespecial 174, 3) := by decide +kernel
theorem dX5_open_78 : decode cX5_open 78 = .ok (.aastore, 1) := by decide +kernel
theorem dX5_open_79 : decode cX5_open 79 = .ok (.aload 5, 2) := by decide +kernel
theorem dX5_open_81 : decode cX5_open 81 = .ok (.invokestatic 90, 3) := by decide +kernel
theorem dX5_open_84 : decode cX5_open 84 = .ok (.ireturn, 1) := by decide +kernel
theorem dX5_say_0 : decode cX5_say 0 = .ok (.iload_n 1, 1) := by decide +kernel
theorem dX5_say_1 : decode cX5_say 1 = .ok (.invokestatic 153, 3) := by decide +kernel
theorem dX5_say_4 : decode cX5_say 4 = .ok (.aload_n 0, 1) := by decide +kernel
theorem dX5_say_5 : decode cX5_say 5 = .ok (.iload_n 2, 1) := by decide +kernel
theorem dX5_say_6 : decode cX5_say 6 = .ok (.invokevirtual 49, 3) := by decide +kernel
theorem dX5_say_9 : decode cX5_say 9 = .ok (.astore 5, 2) := by decide +kernel
theorem dX5_say_11 : decode cX5_say 11 = .ok (.iload_n 3, 1) := by decide +kernel
theorem dX5_say_12 : decode cX5_say 12 = .ok (.invokestatic 53, 3) := by decide +kernel
theorem dX5_say_15 : decode cX5_say 15 = .ok (.aload 5, 2) := by decide +kernel
theorem dX5_say_17 : decode cX5_say 17 = .ok (.iload_n 1, 1) := by decide +kernel
theorem dX5_say_18 : decode cX5_say 18 = .ok (.invokestatic 176, 3) := by decide +kernel
theorem dX5_say_21 : decode cX5_say 21 = .ok (.astore 6, 2) := by decide +kernel
theorem dX5_say_23 : decode cX5_say 23 = .ok (.aload 6, 2) := by decide +kernel
theorem dX5_say_25 : decode cX5_say 25 = .ok (.getfield 180, 3) := by decide +kernel
theorem dX5_say_28 : decode cX5_say 28 = .ok (.iload_n 3, 1) := by decide +kernel
theorem dX5_say_29 : decode cX5_say 29 = .ok (.invokestatic 80, 3) := by decide +kernel
theorem dX5_say_32 : decode cX5_say 32 = .ok (.astore 7, 2) := by decide +kernel
theorem dX5_say_34 : decode cX5_say 34 = .ok (.aload 6, 2) := by decide +kernel
theorem dX5_say_36 : decode cX5_say 36 = .ok (.getfield 183, 3) := by decide +kernel
theorem dX5_say_39 : decode cX5_say 39 = .ok (.iload_n 3, 1) := by decide +kernel
theorem dX5_say_40 : decode cX5_say 40 = .ok (.aaload, 1) := by decide +kernel
theorem dX5_say_41 : decode cX5_say 41 = .ok (.astore 8, 2) := by decide +kernel
theorem dX5_say_43 : decode cX5_say 43 = .ok (.aload 7, 2) := by decide +kernel
theorem dX5_say_45 : decode cX5_say 45 = .ok (.ifnull 8, 3) := by decide +kernel
theorem dX5_say_48 : decode cX5_say 48 = .ok (.aload 8, 2) := by decide +kernel
theorem dX5_say_50 : decode cX5_say 50 = .ok (.ifnonnull 13, 3) := by decide +kernel
theorem dX5_say_53 : decode cX5_say 53 = .ok (.new 37, 3) := by decide +kernel
theorem dX5_say_56 : decode cX5_say 56 = .ok (.dup, 1) := by decide +kernel
theorem dX5_say_57 : decode cX5_say 57 = .ok (.ldc 187, 2) := by decide +kernel
theorem dX5_say_59 : decode cX5_say 59 = .ok (.invokespecial 41, 3) := by decide +kernel
theorem dX5_say_62 : decode cX5_say 62 = .ok (.athrow, 1) := by decide +kernel
theorem dX5_say_63 : decode cX5_say 63 = .ok (.aload 7, 2) := by decide +kernel
theorem dX5_say_65 : decode cX5_say 65 = .ok (.getfield 139, 3) := by decide +kernel
theorem dX5_say_68 : decode cX5_say 68 = .ok (.iload 4, 2) := by decide +kernel
theorem dX5_say_70 : decode cX5_say 70 = .ok (.invokestatic 189, 3) := by decide +kernel
theorem dX5_say_73 : decode cX5_say 73 = .ok (.aload 8, 2) := by decide +kernel
theorem dX5_say_75 : decode cX5_say 75 = .ok (.aload 7, 2) := by decide +kernel
theorem dX5_say_77 : decode cX5_say 77 = .ok (.getfield 139, 3) := by decide +kernel
theorem dX5_say_80 : decode cX5_say 80 = .ok (.iload 4, 2) := by decide +kernel
theorem dX5_say_82 : decode cX5_say 82 = .ok (.invokevirtual 192, 3) := by decide +kernel
theorem dX5_say_85 : decode cX5_say 85 = .ok (.istore 9, 2) := by decide +kernel
theorem dX5_say_87 : decode cX5_say 87 = .ok (.aload 8, 2) := by decide +kernel
theorem dX5_say_89 : decode cX5_say 89 = .ok (.aload 7, 2) := by decide +kernel
theorem dX5_say_91 : decode cX5_say 91 = .ok (.getfield 139, 3) := by decide +kernel
theorem dX5_say_94 : decode cX5_say 94 = .ok (.invokevirtual 198, 3) := by decide +kernel
theorem dX5_say_97 : decode cX5_say 97 = .ok (.ifCond .eq 13, 3) := by decide +kernel
theorem dX5_say_100 : decode cX5_say 100 = .ok (.new 37, 3) := by decide +kernel
theorem dX5_say_103 : decode cX5_say 103 = .ok (.dup, 1) := by decide +kernel
theorem dX5_say_104 : decode cX5_say 104 = .ok (.ldc 202, 2) := by decide +kernel
theorem dX5_say_106 : decode cX5_say 106 = .ok (.invokespecial 41, 3) := by decide +kernel
theorem dX5_say_109 : decode cX5_say 109 = .ok (.athrow, 1) := by decide +kernel
theorem dX5_say_110 : decode cX5_say 110 = .ok (.aload_n 0, 1) := by decide +kernel
theorem dX5_say_111 : decode cX5_say 111 = .ok (.iload_n 1, 1) := by decide +kernel
theorem dX5_say_112 : decode cX5_say 112 = .ok (.invokestatic 156, 3) := by decide +kernel
theorem dX5_say_115 : decode cX5_say 115 = .ok (.iload 9, 2) := by decide +kernel
theorem dX5_say_117 : decode cX5_say 117 = .ok (.invokevirtual 116, 3) := by decide +kernel
theorem dX5_say_120 : decode cX5_say 120 = .ok (.ifCond .eq 13, 3) := by decide +kernel
theorem dX5_say_123 : decode cX5_say 123 = .ok (.new 37, 3) := by decide +kernel
theorem dX5_say_126 : decode cX5_say 126 = .ok (.dup, 1) := by decide +kernel
theorem dX5_say_127 : decode cX5_say 127 = .ok (.ldc 120, 2) := by decide +kernel
theorem dX5_say_129 : decode cX5_say 129 = .ok (.invokespecial 41, 3) := by decide +kernel
theorem dX5_say_132 : decode cX5_say 132 = .ok (.athrow, 1) := by decide +kernel
theorem dX5_say_133 : decode cX5_say 133 = .ok (.aload 8, 2) := by decide +kernel
theorem dX5_say_135 : decode cX5_say 135 = .ok (.aload 7, 2) := by decide +kernel
theorem dX5_say_137 : decode cX5_say 137 = .ok (.getfield 139, 3) := by decide +kernel
theorem dX5_say_140 : decode cX5_say 140 = .ok (.iload 4, 2) := by decide +kernel
theorem dX5_say_142 : decode cX5_say 142 = .ok (.invokevirtual 204, 3) := by decide +kernel
theorem dX5_say_145 : decode cX5_say 145 = .ok (.aload_n 0, 1) := by decide +kernel
theorem dX5_say_146 : decode cX5_say 146 = .ok (.iload_n 1, 1) := by decide +kernel
theorem dX5_say_147 : decode cX5_say 147 = .ok (.invokestatic 156, 3) := by decide +kernel
theorem dX5_say_150 : decode cX5_say 150 = .ok (.iload 9, 2) := by decide +kernel
theorem dX5_say_152 : decode cX5_say 152 = .ok (.invokevirtual 122, 3) := by decide +kernel
theorem dX5_say_155 : decode cX5_say 155 = .ok (.aload 6, 2) := by decide +kernel
theorem dX5_say_157 : decode cX5_say 157 = .ok (.invokevirtual 207, 3) := by decide +kernel
theorem dX5_say_160 : decode cX5_say 160 = .ok (.ireturn, 1) := by decide +kernel
theorem dX5_hand_0 : decode cX5_hand 0 = .ok (.iload_n 1, 1) := by decide +kernel
theorem dX5_hand_1 : decode cX5_hand 1 = .ok (.invokestatic 153, 3) := by decide +kernel
theorem dX5_hand_4 : decode cX5_hand 4 = .ok (.aload_n 0, 1) := by decide +kernel
theorem dX5_hand_5 : decode cX5_hand 5 = .ok (.iload_n 2, 1) := by decide +kernel
theorem dX5_hand_6 : decode cX5_hand 6 = .ok (.invokevirtual 49, 3) := by decide +kernel
theorem dX5_hand_9 : decode cX5_hand 9 = .ok (.astore_n 3, 1) := by decide +kernel
theorem dX5_hand_10 : decode cX5_hand 10 = .ok (.aload_n 3, 1) := by decide +kernel
theorem dX5_hand_11 : decode cX5_hand 11 = .ok (.iload_n 1, 1) := by decide +kernel
theorem dX5_hand_12 : decode cX5_hand 12 = .ok (.invokestatic 176, 3) := by decide +kernel
theorem dX5_hand_15 : decode cX5_hand 15 = .ok (.astore 4, 2) := by decide +kernel
theorem dX5_hand_17 : decode cX5_hand 17 = .ok (.aload 4, 2) := by decide +kernel
theorem dX5_hand_19 : decode cX5_hand 19 = .ok (.iconst 1, 1) := by decide +kernel
theorem dX5_hand_20 : decode cX5_hand 20 = .ok (.putfield 208, 3) := by decide +kernel
theorem dX5_hand_23 : decode cX5_hand 23 = .ok (.aload 4, 2) := by decide +kernel
theorem dX5_hand_25 : decode cX5_hand 25 = .ok (.aload_n 0, 1) := by decide +kernel
theorem dX5_hand_26 : decode cX5_hand 26 = .ok (.aload 4, 2) := by decide +kernel
theorem dX5_hand_28 : decode cX5_hand 28 = .ok (.iconst 0, 1) := by decide +kernel
theorem dX5_hand_29 : decode cX5_hand 29 = .ok (.invokevirtual 212, 3) := by decide +kernel
theorem dX5_hand_32 : decode cX5_hand 32 = .ok (.putfield 216, 3) := by decide +kernel
theorem dX5_hand_35 : decode cX5_hand 35 = .ok (.aload 4, 2) := by decide +kernel
theorem dX5_hand_37 : decode cX5_hand 37 = .ok (.aload 4, 2) := by decide +kernel
theorem dX5_hand_39 : decode cX5_hand 39 = .ok (.getfield 216, 3) := by decide +kernel
theorem dX5_hand_42 : decode cX5_hand 42 = .ok (.putfield 219, 3) := by decide +kernel
theorem dX5_hand_45 : decode cX5_hand 45 = .ok (.aload 4, 2) := by decide +kernel
theorem dX5_hand_47 : decode cX5_hand 47 = .ok (.invokevirtual 222, 3) := by decide +kernel
theorem dX5_hand_50 : decode cX5_hand 50 = .ok (.aload 4, 2) := by decide +kernel
theorem dX5_hand_52 : decode cX5_hand 52 = .ok (.getfield 219, 3) := by decide +kernel
theorem dX5_hand_55 : decode cX5_hand 55 = .ok (.ireturn, 1) := by decide +kernel
theorem dX5_close_0 : decode cX5_close 0 = .ok (.iload_n 1, 1) := by decide +kernel
theorem dX5_close_1 : decode cX5_close 1 = .ok (.invokestatic 45, 3) := by decide +kernel
theorem dX5_close_4 : decode cX5_close 4 = .ok (.aload_n 0, 1) := by decide +kernel
theorem dX5_close_5 : decode cX5_close 5 = .ok (.iload_n 2, 1) := by decide +kernel
theorem dX5_close_6 : decode cX5_close 6 = .ok (.invokevirtual 49, 3) := by decide +kernel
theorem dX5_close_9 : decode cX5_close 9 = .ok (.astore_n 3, 1) := by decide +kernel
theorem dX5_close_10 : decode cX5_close 10 = .ok (.aload_n 3, 1) := by decide +kernel
theorem dX5_close_11 : decode cX5_close 11 = .ok (.getfield 166, 3) := by decide +kernel
theorem dX5_close_14 : decode cX5_close 14 = .ok (.iload_n 1, 1) := by decide +kernel
theorem dX5_close_15 : decode cX5_close 15 = .ok (.baload, 1) := by decide +kernel
theorem dX5_close_16 : decode cX5_close 16 = .ok (.ifCond .eq 13, 3) := by decide +kernel
theorem dX5_close_19 : decode cX5_close 19 = .ok (.new 37, 3) := by decide +kernel
theorem dX5_close_22 : decode cX5_close 22 = .ok (.dup, 1) := by decide +kernel
theorem dX5_close_23 : decode cX5_close 23 = .ok (.ldc 170, 2) := by decide +kernel
theorem dX5_close_25 : decode cX5_close 25 = .ok (.invokespecial 41, 3) := by decide +kernel
theorem dX5_close_28 : decode cX5_close 28 = .ok (.athrow, 1) := by decide +kernel
theorem dX5_close_29 : decode cX5_close 29 = .ok (.aload_n 3, 1) := by decide +kernel
theorem dX5_close_30 : decode cX5_close 30 = .ok (.getfield 166, 3) := by decide +kernel
theorem dX5_close_33 : decode cX5_close 33 = .ok (.iload_n 1, 1) := by decide +kernel
theorem dX5_close_34 : decode cX5_close 34 = .ok (.iconst 1, 1) := by decide +kernel
theorem dX5_close_35 : decode cX5_close 35 = .ok (.bastore, 1) := by decide +kernel
theorem dX5_close_36 : decode cX5_close 36 = .ok (.iconst 0, 1) := by decide +kernel
theorem dX5_close_37 : decode cX5_close 37 = .ok (.istore 4, 2) := by decide +kernel
theorem dX5_close_39 : decode cX5_close 39 = .ok (.iconst 0, 1) := by decide +kernel
theorem dX5_close_40 : decode cX5_close 40 = .ok (.istore 5, 2) := by decide +kernel
theorem dX5_close_42 : decode cX5_close 42 = .ok (.iload 5, 2) := by decide +kernel
theorem dX5_close_44 : decode cX5_close 44 = .ok (.bipush 12, 2) := by decide +kernel
theorem dX5_close_46 : decode cX5_close 46 = .ok (.if_icmp .ge 68, 3) := by decide +kernel
theorem dX5_close_49 : decode cX5_close 49 = .ok (.aload_n 3, 1) := by decide +kernel
theorem dX5_close_50 : decode cX5_close 50 = .ok (.getfield 160, 3) := by decide +kernel
theorem dX5_close_53 : decode cX5_close 53 = .ok (.iload 5, 2) := by decide +kernel
theorem dX5_close_55 : decode cX5_close 55 = .ok (.aaload, 1) := by decide +kernel
theorem dX5_close_56 : decode cX5_close 56 = .ok (.astore 6, 2) := by decide +kernel
theorem dX5_close_58 : decode cX5_close 58 = .ok (.aload 6, 2) := by decide +kernel
theorem dX5_close_60 : decode cX5_close 60 = .ok (.ifnull 48, 3) := by decide +kernel
theorem dX5_close_63 : decode cX5_close 63 = .ok (.iload 5, 2) := by decide +kernel
theorem dX5_close_65 : decode cX5_close 65 = .ok (.invokestatic 156, 3) := by decide +kernel
theorem dX5_close_68 : decode cX5_close 68 = .ok (.iload_n 1, 1) := by decide +kernel
theorem dX5_close_69 : decode cX5_close 69 = .ok (.if_icmp .eq 6, 3) := by decide +kernel
theorem dX5_close_72 : decode cX5_close 72 = .ok (.goto 36, 3) := by decide +kernel
theorem dX5_close_75 : decode cX5_close 75 = .ok (.aload 6, 2) := by decide +kernel
theorem dX5_close_77 : decode cX5_close 77 = .ok (.getfield 208, 3) := by decide +kernel
theorem dX5_close_80 : decode cX5_close 80 = .ok (.ifCond .eq 9, 3) := by decide +kernel
theorem dX5_close_83 : decode cX5_close 83 = .ok (.iinc 4 1, 3) := by decide +kernel
theorem dX5_close_86 : decode cX5_close 86 = .ok (.goto 22, 3) := by decide +kernel
theorem dX5_close_89 : decode cX5_close 89 = .ok (.aload_n 0, 1) := by decide +kernel
theorem dX5_close_90 : decode cX5_close 90 = .ok (.iload_n 1, 1) := by decide +kernel
theorem dX5_close_91 : decode cX5_close 91 = .ok (.aload 6, 2) := by decide +kernel
theorem dX5_close_93 : decode cX5_close 93 = .ok (.invokevirtual 207, 3) := by decide +kernel
theorem dX5_close_96 : decode cX5_close 96 = .ok (.ineg, 1) := by decide +kernel
theorem dX5_close_97 : decode cX5_close 97 = .ok (.invokevirtual 122, 3) := by decide +kernel
theorem dX5_close_100 : decode cX5_close 100 = .ok (.aload_n 3, 1) := by decide +kernel
theorem dX5_close_101 : decode cX5_close 101 = .ok (.getfield 160, 3) := by decide +kernel
theorem dX5_close_104 : decode cX5_close 104 = .ok (.iload 5, 2) := by decide +kernel
theorem dX5_close_106 : decode cX5_close 106 = .ok (.aconst_null, 1) := by decide +kernel
theorem dX5_close_107 : decode cX5_close 107 = .ok (.aastore, 1) := by decide +kernel
theorem dX5_close_108 : decode cX5_close 108 = .ok (.iinc 5 1, 3) := by decide +kernel
theorem dX5_close_111 : decode cX5_close 111 = .ok (.goto (-69), 3) := by decide +kernel
theorem dX5_close_114 : decode cX5_close 114 = .ok (.iload 4, 2) := by decide +kernel
theorem dX5_close_116 : decode cX5_close 116 = .ok (.ireturn, 1) := by decide +kernel
theorem dX5_answer_0 : decode cX5_answer 0 = .ok (.aload_n 0, 1) := by decide +kernel
theorem dX5_answer_1 : decode cX5_answer 1 = .ok (.iload_n 1, 1) := by decide +kernel
theorem dX5_answer_2 : decode cX5_answer 2 = .ok (.iload_n 2, 1) := by decide +kernel
theorem dX5_answer_3 : decode cX5_answer 3 = .ok (.invokevirtual 225, 3) := by decide +kernel
theorem dX5_answer_6 : decode cX5_answer 6 = .ok (.astore_n 3, 1) := by decide +kernel
theorem dX5_answer_7 : decode cX5_answer 7 = .ok (.aload_n 3, 1) := by decide +kernel
theorem dX5_answer_8 : decode cX5_answer 8 = .ok (.ifnonnull 5, 3) := by decide +kernel
theorem dX5_answer_11 : decode cX5_answer 11 = .ok (.iconst 0, 1) := by decide +kernel
theorem dX5_answer_12 : decode cX5_answer 12 = .ok (.ireturn, 1) := by decide +kernel
theorem dX5_answer_13 : decode cX5_answer 13 = .ok (.aload_n 3, 1) := by decide +kernel
theorem dX5_answer_14 : decode cX5_answer 14 = .ok (.getfield 208, 3) := by decide +kernel
theorem dX5_answer_17 : decode cX5_answer 17 = .ok (.ifCond .eq 7, 3) := by decide +kernel
theorem dX5_answer_20 : decode cX5_answer 20 = .ok (.iconst 2, 1) := by decide +kernel
theorem dX5_answer_21 : decode cX5_answer 21 = .ok (.goto 4, 3) := by decide +kernel
theorem dX5_answer_24 : decode cX5_answer 24 = .ok (.iconst 1, 1) := by decide +kernel
theorem dX5_answer_25 : decode cX5_answer 25 = .ok (.ireturn, 1) := by decide +kernel
theorem dX5_mark_0 : decode cX5_mark 0 = .ok (.aload_n 0, 1) := by decide +kernel
theorem dX5_mark_1 : decode cX5_mark 1 = .ok (.iload_n 1, 1) := by decide +kernel
theorem dX5_mark_2 : decode cX5_mark 2 = .ok (.iload_n 2, 1) := by decide +kernel
theorem dX5_mark_3 : decode cX5_mark 3 = .ok (.invokevirtual 225, 3) := by decide +kernel
theorem dX5_mark_6 : decode cX5_mark 6 = .ok (.astore_n 3, 1) := by decide +kernel
theorem dX5_mark_7 : decode cX5_mark 7 = .ok (.aload_n 3, 1) := by decide +kernel
theorem dX5_mark_8 : decode cX5_mark 8 = .ok (.ifnonnull 7, 3) := by decide +kernel
theorem dX5_mark_11 : decode cX5_mark 11 = .ok (.iconst (-1), 1) := by decide +kernel
theorem dX5_mark_12 : decode cX5_mark 12 = .ok (.goto 7, 3) := by decide +kernel
theorem dX5_mark_15 : decode cX5_mark 15 = .ok (.aload_n 3, 1) := by decide +kernel
theorem dX5_mark_16 : decode cX5_mark 16 = .ok (.getfield 219, 3) := by decide +kernel
theorem dX5_mark_19 : decode cX5_mark 19 = .ok (.ireturn, 1) := by decide +kernel
theorem dX5_due_0 : decode cX5_due 0 = .ok (.aload_n 0, 1) := by decide +kernel
theorem dX5_due_1 : decode cX5_due 1 = .ok (.iload_n 1, 1) := by decide +kernel
theorem dX5_due_2 : decode cX5_due 2 = .ok (.iload_n 2, 1) := by decide +kernel
theorem dX5_due_3 : decode cX5_due 3 = .ok (.invokevirtual 225, 3) := by decide +kernel
theorem dX5_due_6 : decode cX5_due 6 = .ok (.astore_n 3, 1) := by decide +kernel
theorem dX5_due_7 : decode cX5_due 7 = .ok (.aload_n 3, 1) := by decide +kernel
theorem dX5_due_8 : decode cX5_due 8 = .ok (.ifnonnull 7, 3) := by decide +kernel
theorem dX5_due_11 : decode cX5_due 11 = .ok (.iconst (-1), 1) := by decide +kernel
theorem dX5_due_12 : decode cX5_due 12 = .ok (.goto 9, 3) := by decide +kernel
theorem dX5_due_15 : decode cX5_due 15 = .ok (.aload_n 0, 1) := by decide +kernel
theorem dX5_due_16 : decode cX5_due 16 = .ok (.aload_n 3, 1) := by decide +kernel
theorem dX5_due_17 : decode cX5_due 17 = .ok (.iconst 1, 1) := by decide +kernel
theorem dX5_due_18 : decode cX5_due 18 = .ok (.invokevirtual 212, 3) := by decide +kernel
theorem dX5_due_21 : decode cX5_due 21 = .ok (.ireturn, 1) := by decide +kernel
theorem dX5_told_0 : decode cX5_told 0 = .ok (.aload_n 0, 1) := by decide +kernel
theorem dX5_told_1 : decode cX5_told 1 = .ok (.iload_n 1, 1) := by decide +kernel
theorem dX5_told_2 : decode cX5_told 2 = .ok (.iload_n 2, 1) := by decide +kernel
theorem dX5_told_3 : decode cX5_told 3 = .ok (.invokevirtual 225, 3) := by decide +kernel
theorem dX5_told_6 : decode cX5_told 6 = .ok (.astore_n 3, 1) := by decide +kernel
theorem dX5_told_7 : decode cX5_told 7 = .ok (.aload_n 3, 1) := by decide +kernel
theorem dX5_told_8 : decode cX5_told 8 = .ok (.ifnonnull 7, 3) := by decide +kernel
theorem dX5_told_11 : decode cX5_told 11 = .ok (.iconst 0, 1) := by decide +kernel
theorem dX5_told_12 : decode cX5_told 12 = .ok (.goto 7, 3) := by decide +kernel
theorem dX5_told_15 : decode cX5_told 15 = .ok (.aload_n 3, 1) := by decide +kernel
theorem dX5_told_16 : decode cX5_told 16 = .ok (.getfield 229, 3) := by decide +kernel
theorem dX5_told_19 : decode cX5_told 19 = .ok (.ireturn, 1) := by decide +kernel
theorem dX5_average_0 : decode cX5_average 0 = .ok (.iload_n 1, 1) := by decide +kernel
theorem dX5_average_1 : decode cX5_average 1 = .ok (.invokestatic 45, 3) := by decide +kernel
theorem dX5_average_4 : decode cX5_average 4 = .ok (.aload_n 0, 1) := by decide +kernel
theorem dX5_average_5 : decode cX5_average 5 = .ok (.iload_n 2, 1) := by decide +kernel
theorem dX5_average_6 : decode cX5_average 6 = .ok (.invokevirtual 49, 3) := by decide +kernel
theorem dX5_average_9 : decode cX5_average 9 = .ok (.astore_n 3, 1) := by decide +kernel
theorem dX5_average_10 : decode cX5_average 10 = .ok (.iconst 0, 1) := by decide +kernel
theorem dX5_average_11 : decode cX5_average 11 = .ok (.istore 4, 2) := by decide +kernel
theorem dX5_average_13 : decode cX5_average 13 = .ok (.iconst 0, 1) := by decide +kernel
theorem dX5_average_14 : decode cX5_average 14 = .ok (.istore 5, 2) := by decide +kernel
theorem dX5_average_16 : decode cX5_average 16 = .ok (.iconst 0, 1) := by decide +kernel
theorem dX5_average_17 : decode cX5_average 17 = .ok (.istore 6, 2) := by decide +kernel
theorem dX5_average_19 : decode cX5_average 19 = .ok (.iload 6, 2) := by decide +kernel
theorem dX5_average_21 : decode cX5_average 21 = .ok (.bipush 12, 2) := by decide +kernel
theorem dX5_average_23 : decode cX5_average 23 = .ok (.if_icmp .ge 53, 3) := by decide +kernel
theorem dX5_average_26 : decode cX5_average 26 = .ok (.aload_n 3, 1) := by decide +kernel
theorem dX5_average_27 : decode cX5_average 27 = .ok (.getfield 160, 3) := by decide +kernel
theorem dX5_average_30 : decode cX5_average 30 = .ok (.iload 6, 2) := by decide +kernel
theorem dX5_average_32 : decode cX5_average 32 = .ok (.aaload, 1) := by decide +kernel
theorem dX5_average_33 : decode cX5_average 33 = .ok (.astore 7, 2) := by decide +kernel
theorem dX5_average_35 : decode cX5_average 35 = .ok (.aload 7, 2) := by decide +kernel
theorem dX5_average_37 : decode cX5_average 37 = .ok (.ifnull 33, 3) := by decide +kernel
theorem dX5_average_40 : decode cX5_average 40 = .ok (.aload 7, 2) := by decide +kernel
theorem dX5_average_42 : decode cX5_average 42 = .ok (.getfield 208, 3) := by decide +kernel
theorem dX5_average_45 : decode cX5_average 45 = .ok (.ifCond .eq 25, 3) := by decide +kernel
theorem dX5_average_48 : decode cX5_average 48 = .ok (.iload 6, 2) := by decide +kernel
theorem dX5_average_50 : decode cX5_average 50 = .ok (.invokestatic 156, 3) := by decide +kernel
theorem dX5_average_53 : decode cX5_average 53 = .ok (.iload_n 1, 1) := by decide +kernel
theorem dX5_average_54 : decode cX5_average 54 = .ok (.if_icmp .ne 16, 3) := by decide +kernel
theorem dX5_average_57 : decode cX5_average 57 = .ok (.iload 4, 2) := by decide +kernel
theorem dX5_average_59 : decode cX5_average 59 = .ok (.aload 7, 2) := by decide +kernel
theorem dX5_average_61 : decode cX5_average 61 = .ok (.getfield 219, 3) := by decide +kernel
theorem dX5_average_64 : decode cX5_average 64 = .ok (.iadd, 1) := by decide +kernel
theorem dX5_average_65 : decode cX5_average 65 = .ok (.istore 4, 2) := by decide +kernel
theorem dX5_average_67 : decode cX5_average 67 = .ok (.iinc 5 1, 3) := by decide +kernel
theorem dX5_average_70 : decode cX5_average 70 = .ok (.iinc 6 1, 3) := by decide +kernel
theorem dX5_average_73 : decode cX5_average 73 = .ok (.goto (-54), 3) := by decide +kernel
theorem dX5_average_76 : decode cX5_average 76 = .ok (.iload 5, 2) := by decide +kernel
theorem dX5_average_78 : decode cX5_average 78 = .ok (.ifCond .ne 7, 3) := by decide +kernel
theorem dX5_average_81 : decode cX5_average 81 = .ok (.iconst (-1), 1) := by decide +kernel
theorem dX5_average_82 : decode cX5_average 82 = .ok (.goto 11, 3) := by decide +kernel
theorem dX5_average_85 : decode cX5_average 85 = .ok (.iload 4, 2) := by decide +kernel
theorem dX5_average_87 : decode cX5_average 87 = .ok (.bipush 100, 2) := by decide +kernel
theorem dX5_average_89 : decode cX5_average 89 = .ok (.imul, 1) := by decide +kernel
theorem dX5_average_90 : decode cX5_average 90 = .ok (.iload 5, 2) := by decide +kernel
theorem dX5_average_92 : decode cX5_average 92 = .ok (.idiv, 1) := by decide +kernel
theorem dX5_average_93 : decode cX5_average 93 = .ok (.ireturn, 1) := by decide +kernel
theorem dX5_fingerprints_0 : decode cX5_fingerprints 0 = .ok (.aload_n 0, 1) := by decide +kernel
theorem dX5_fingerprints_1 : decode cX5_fingerprints 1 = .ok (.iload_n 1, 1) := by decide +kernel
theorem dX5_fingerprints_2 : decode cX5_fingerprints 2 = .ok (.iload_n 2, 1) := by decide +kernel
theorem dX5_fingerprints_3 : decode cX5_fingerprints 3 = .ok (.invokevirtual 225, 3) := by decide +kernel
theorem dX5_fingerprints_6 : decode cX5_fingerprints 6 = .ok (.astore_n 3, 1) := by decide +kernel
theorem dX5_fingerprints_7 : decode cX5_fingerprints 7 = .ok (.aload_n 3, 1) := by decide +kernel
theorem dX5_fingerprints_8 : decode cX5_fingerprints 8 = .ok (.ifnonnull 7, 3) := by decide +kernel
theorem dX5_fingerprints_11 : decode cX5_fingerprints 11 = .ok (.iconst 0, 1) := by decide +kernel
theorem dX5_fingerprints_12 : decode cX5_fingerprints 12 = .ok (.goto 7, 3) := by decide +kernel
theorem dX5_fingerprints_15 : decode cX5_fingerprints 15 = .ok (.aload_n 3, 1) := by decide +kernel
theorem dX5_fingerprints_16 : decode cX5_fingerprints 16 = .ok (.getfield 232, 3) := by decide +kernel
theorem dX5_fingerprints_19 : decode cX5_fingerprints 19 = .ok (.ireturn, 1) := by decide +kernel
theorem dX5_withPrint_0 : decode cX5_withPrint 0 = .ok (.aload_n 0, 1) := by decide +kernel
theorem dX5_withPrint_1 : decode cX5_withPrint 1 = .ok (.iload_n 1, 1) := by decide +kernel
theorem dX5_withPrint_2 : decode cX5_withPrint 2 = .ok (.invokevirtual 49, 3) := by decide +kernel
theorem dX5_withPrint_5 : decode cX5_withPrint 5 = .ok (.astore_n 3, 1) := by decide +kernel
theorem dX5_withPrint_6 : decode cX5_withPrint 6 = .ok (.iconst 0, 1) := by decide +kernel
theorem dX5_withPrint_7 : decode cX5_withPrint 7 = .ok (.istore 4, 2) := by decide +kernel
theorem dX5_withPrint_9 : decode cX5_withPrint 9 = .ok (.iconst 0, 1) := by decide +kernel
theorem dX5_withPrint_10 : decode cX5_withPrint 10 = .ok (.istore 5, 2) := by decide +kernel
theorem dX5_withPrint_12 : decode cX5_withPrint 12 = .ok (.iload 5, 2) := by decide +kernel
theorem dX5_withPrint_14 : decode cX5_withPrint 14 = .ok (.bipush 12, 2) := by decide +kernel
theorem dX5_withPrint_16 : decode cX5_withPrint 16 = .ok (.if_icmp .ge 41, 3) := by decide +kernel
theorem dX5_withPrint_19 : decode cX5_withPrint 19 = .ok (.aload_n 3, 1) := by decide +kernel
theorem dX5_withPrint_20 : decode cX5_withPrint 20 = .ok (.getfield 160, 3) := by decide +kernel
theorem dX5_withPrint_23 : decode cX5_withPrint 23 = .ok (.iload 5, 2) := by decide +kernel
theorem dX5_withPrint_25 : decode cX5_withPrint 25 = .ok (.aaload, 1) := by decide +kernel
theorem dX5_withPrint_26 : decode cX5_withPrint 26 = .ok (.astore 6, 2) := by decide +kernel
theorem dX5_withPrint_28 : decode cX5_withPrint 28 = .ok (.aload 6, 2) := by decide +kernel
theorem dX5_withPrint_30 : decode cX5_withPrint 30 = .ok (.ifnull 21, 3) := by decide +kernel
theorem dX5_withPrint_33 : decode cX5_withPrint 33 = .ok (.aload 6, 2) := by decide +kernel
theorem dX5_withPrint_35 : decode cX5_withPrint 35 = .ok (.iload_n 2, 1) := by decide +kernel
theorem dX5_withPrint_36 : decode cX5_withPrint 36 = .ok (.invokevirtual 235, 3) := by decide +kernel
theorem dX5_withPrint_39 : decode cX5_withPrint 39 = .ok (.ifCond .eq 12, 3) := by decide +kernel
theorem dX5_withPrint_42 : decode cX5_withPrint 42 = .ok (.iload 4, 2) := by decide +kernel
theorem dX5_withPrint_44 : decode cX5_withPrint 44 = .ok (.iconst 1, 1) := by decide +kernel
theorem dX5_withPrint_45 : decode cX5_withPrint 45 = .ok (.iload 5, 2) := by decide +kernel
theorem dX5_withPrint_47 : decode cX5_withPrint 47 = .ok (.ishl, 1) := by decide +kernel
theorem dX5_withPrint_48 : decode cX5_withPrint 48 = .ok (.ior, 1) := by decide +kernel
theorem dX5_withPrint_49 : decode cX5_withPrint 49 = .ok (.istore 4, 2) := by decide +kernel
theorem dX5_withPrint_51 : decode cX5_withPrint 51 = .ok (.iinc 5 1, 3) := by decide +kernel
theorem dX5_withPrint_54 : decode cX5_withPrint 54 = .ok (.goto (-42), 3) := by decide +kernel
theorem dX5_withPrint_57 : decode cX5_withPrint 57 = .ok (.iload 4, 2) := by decide +kernel
theorem dX5_withPrint_59 : decode cX5_withPrint 59 = .ok (.ireturn, 1) := by decide +kernel
theorem dX5_likeness_0 : decode cX5_likeness 0 = .ok (.aload_n 0, 1) := by decide +kernel
theorem dX5_likeness_1 : decode cX5_likeness 1 = .ok (.iload_n 1, 1) := by decide +kernel
theorem dX5_likeness_2 : decode cX5_likeness 2 = .ok (.invokevirtual 49, 3) := by decide +kernel
theorem dX5_likeness_5 : decode cX5_likeness 5 = .ok (.astore 4, 2) := by decide +kernel
theorem dX5_likeness_7 : decode cX5_likeness 7 = .ok (.iload_n 2, 1) := by decide +kernel
theorem dX5_likeness_8 : decode cX5_likeness 8 = .ok (.invokestatic 153, 3) := by decide +kernel
theorem dX5_likeness_11 : decode cX5_likeness 11 = .ok (.iload_n 3, 1) := by decide +kernel
theorem dX5_likeness_12 : decode cX5_likeness 12 = .ok (.invokestatic 153, 3) := by decide +kernel
theorem dX5_likeness_15 : decode cX5_likeness 15 = .ok (.aload 4, 2) := by decide +kernel
theorem dX5_likeness_17 : decode cX5_likeness 17 = .ok (.getfield 160, 3) := by decide +kernel
theorem dX5_likeness_20 : decode cX5_likeness 20 = .ok (.iload_n 2, 1) := by decide +kernel
theorem dX5_likeness_21 : decode cX5_likeness 21 = .ok (.aaload, 1) := by decide +kernel
theorem dX5_likeness_22 : decode cX5_likeness 22 = .ok (.astore 5, 2) := by decide +kernel
theorem dX5_likeness_24 : decode cX5_likeness 24 = .ok (.aload 4, 2) := by decide +kernel
theorem dX5_likeness_26 : decode cX5_likeness 26 = .ok (.getfield 160, 3) := by decide +kernel
theorem dX5_likeness_29 : decode cX5_likeness 29 = .ok (.iload_n 3, 1) := by decide +kernel
theorem dX5_likeness_30 : decode cX5_likeness 30 = .ok (.aaload, 1) := by decide +kernel
theorem dX5_likeness_31 : decode cX5_likeness 31 = .ok (.astore 6, 2) := by decide +kernel
theorem dX5_likeness_33 : decode cX5_likeness 33 = .ok (.iload_n 2, 1) := by decide +kernel
theorem dX5_likeness_34 : decode cX5_likeness 34 = .ok (.iload_n 3, 1) := by decide +kernel
theorem dX5_likeness_35 : decode cX5_likeness 35 = .ok (.if_icmp .eq 13, 3) := by decide +kernel
theorem dX5_likeness_38 : decode cX5_likeness 38 = .ok (.aload 5, 2) := by decide +kernel
theorem dX5_likeness_40 : decode cX5_likeness 40 = .ok (.ifnull 8, 3) := by decide +kernel
theorem dX5_likeness_43 : decode cX5_likeness 43 = .ok (.aload 6, 2) := by decide +kernel
theorem dX5_likeness_45 : decode cX5_likeness 45 = .ok (.ifnonnull 5, 3) := by decide +kernel
theorem dX5_likeness_48 : decode cX5_likeness 48 = .ok (.iconst 0, 1) := by decide +kernel
theorem dX5_likeness_49 : decode cX5_likeness 49 = .ok (.ireturn, 1) := by decide +kernel
theorem dX5_likeness_50 : decode cX5_likeness 50 = .ok (.aload 5, 2) := by decide +kernel
theorem dX5_likeness_52 : decode cX5_likeness 52 = .ok (.aload 6, 2) := by decide +kernel
theorem dX5_likeness_54 : decode cX5_likeness 54 = .ok (.invokevirtual 238, 3) := by decide +kernel
theorem dX5_likeness_57 : decode cX5_likeness 57 = .ok (.aload 5, 2) := by decide +kernel
theorem dX5_likeness_59 : decode cX5_likeness 59 = .ok (.getfield 232, 3) := by decide +kernel
theorem dX5_likeness_62 : decode cX5_likeness 62 = .ok (.aload 6, 2) := by decide +kernel
theorem dX5_likeness_64 : decode cX5_likeness 64 = .ok (.getfield 232, 3) := by decide +kernel
theorem dX5_likeness_67 : decode cX5_likeness 67 = .ok (.invokestatic 242, 3) := by decide +kernel
theorem dX5_likeness_70 : decode cX5_likeness 70 = .ok (.ireturn, 1) := by decide +kernel
theorem dX5_pairs_0 : decode cX5_pairs 0 = .ok (.aload_n 0, 1) := by decide +kernel
theorem dX5_pairs_1 : decode cX5_pairs 1 = .ok (.iload_n 1, 1) := by decide +kernel
theorem dX5_pairs_2 : decode cX5_pairs 2 = .ok (.invokevirtual 49, 3) := by decide +kernel
theorem dX5_pairs_5 : decode cX5_pairs 5 = .ok (.astore_n 2, 1) := by decide +kernel
theorem dX5_pairs_6 : decode cX5_pairs 6 = .ok (.iconst 0, 1) := by decide +kernel
theorem dX5_pairs_7 : decode cX5_pairs 7 = .ok (.istore_n 3, 1) := by decide +kernel
theorem dX5_pairs_8 : decode cX5_pairs 8 = .ok (.iconst 0, 1) := by decide +kernel
theorem dX5_pairs_9 : decode cX5_pairs 9 = .ok (.istore 4, 2) := by decide +kernel
theorem dX5_pairs_11 : decode cX5_pairs 11 = .ok (.iload 4, 2) := by decide +kernel
theorem dX5_pairs_13 : decode cX5_pairs 13 = .ok (.bipush 12, 2) := by decide +kernel
theorem dX5_pairs_15 : decode cX5_pairs 15 = .ok (.if_icmp .ge 42, 3) := by decide +kernel
theorem dX5_pairs_18 : decode cX5_pairs 18 = .ok (.iload 4, 2) := by decide +kernel
theorem dX5_pairs_20 : decode cX5_pairs 20 = .ok (.iconst 1, 1) := by decide +kernel
theorem dX5_pairs_21 : decode cX5_pairs 21 = .ok (.iadd, 1) := by decide +kernel
theorem dX5_pairs_22 : decode cX5_pairs 22 = .ok (.istore 5, 2) := by decide +kernel
theorem dX5_pairs_24 : decode cX5_pairs 24 = .ok (.iload 5, 2) := by decide +kernel
theorem dX5_pairs_26 : decode cX5_pairs 26 = .ok (.bipush 12, 2) := by decide +kernel
theorem dX5_pairs_28 : decode cX5_pairs 28 = .ok (.if_icmp .ge 23, 3) := by decide +kernel
theorem dX5_pairs_31 : decode cX5_pairs 31 = .ok (.aload_n 2, 1) := by decide +kernel
theorem dX5_pairs_32 : decode cX5_pairs 32 = .ok (.iload 4, 2) := by decide +kernel
theorem dX5_pairs_34 : decode cX5_pairs 34 = .ok (.iload 5, 2) := by decide +kernel
theorem dX5_pairs_36 : decode cX5_pairs 36 = .ok (.invokevirtual 246, 3) := by decide +kernel
theorem dX5_pairs_39 : decode cX5_pairs 39 = .ok (.ifCond .eq 6, 3) := by decide +kernel
theorem dX5_pairs_42 : decode cX5_pairs 42 = .ok (.iinc 3 1, 3) := by decide +kernel
theorem dX5_pairs_45 : decode cX5_pairs 45 = .ok (.iinc 5 1, 3) := by decide +kernel
theorem dX5_pairs_48 : decode cX5_pairs 48 = .ok (.goto (-24), 3) := by decide +kernel
theorem dX5_pairs_51 : decode cX5_pairs 51 = .ok (.iinc 4 1, 3) := by decide +kernel
theorem dX5_pairs_54 : decode cX5_pairs 54 = .ok (.goto (-43), 3) := by decide +kernel
theorem dX5_pairs_57 : decode cX5_pairs 57 = .ok (.iload_n 3, 1) := by decide +kernel
theorem dX5_pairs_58 : decode cX5_pairs 58 = .ok (.ireturn, 1) := by decide +kernel
theorem dX5_pairAt_0 : decode cX5_pairAt 0 = .ok (.aload_n 0, 1) := by decide +kernel
theorem dX5_pairAt_1 : decode cX5_pairAt 1 = .ok (.iload_n 1, 1) := by decide +kernel
theorem dX5_pairAt_2 : decode cX5_pairAt 2 = .ok (.invokevirtual 49, 3) := by decide +kernel
theorem dX5_pairAt_5 : decode cX5_pairAt 5 = .ok (.astore_n 3, 1) := by decide +kernel
theorem dX5_pairAt_6 : decode cX5_pairAt 6 = .ok (.iconst 0, 1) := by decide +kernel
theorem dX5_pairAt_7 : decode cX5_pairAt 7 = .ok (.istore 4, 2) := by decide +kernel
theorem dX5_pairAt_9 : decode cX5_pairAt 9 = .ok (.iconst 0, 1) := by decide +kernel
theorem dX5_pairAt_10 : decode cX5_pairAt 10 = .ok (.istore 5, 2) := by decide +kernel
theorem dX5_pairAt_12 : decode cX5_pairAt 12 = .ok (.iload 5, 2) := by decide +kernel
theorem dX5_pairAt_14 : decode cX5_pairAt 14 = .ok (.bipush 12, 2) := by decide +kernel
theorem dX5_pairAt_16 : decode cX5_pairAt 16 = .ok (.if_icmp .ge 57, 3) := by decide +kernel
theorem dX5_pairAt_19 : decode cX5_pairAt 19 = .ok (.iload 5, 2) := by decide +kernel
theorem dX5_pairAt_21 : decode cX5_pairAt 21 = .ok (.iconst 1, 1) := by decide +kernel
theorem dX5_pairAt_22 : decode cX5_pairAt 22 = .ok (.iadd, 1) := by decide +kernel
theorem dX5_pairAt_23 : decode cX5_pairAt 23 = .ok (.istore 6, 2) := by decide +kernel
theorem dX5_pairAt_25 : decode cX5_pairAt 25 = .ok (.iload 6, 2) := by decide +kernel
theorem dX5_pairAt_27 : decode cX5_pairAt 27 = .ok (.bipush 12, 2) := by decide +kernel
theorem dX5_pairAt_29 : decode cX5_pairAt 29 = .ok (.if_icmp .ge 38, 3) := by decide +kernel
theorem dX5_pairAt_32 : decode cX5_pairAt 32 = .ok (.aload_n 3, 1) := by decide +kernel
theorem dX5_pairAt_33 : decode cX5_pairAt 33 = .ok (.iload 5, 2) := by decide +kernel
theorem dX5_pairAt_35 : decode cX5_pairAt 35 = .ok (.iload 6, 2) := by decide +kernel
theorem dX5_pairAt_37 : decode cX5_pairAt 37 = .ok (.invokevirtual 246, 3) := by decide +kernel
theorem dX5_pairAt_40 : decode cX5_pairAt 40 = .ok (.ifCond .eq 21, 3) := by decide +kernel
theorem dX5_pairAt_43 : decode cX5_pairAt 43 = .ok (.iload 4, 2) := by decide +kernel
theorem dX5_pairAt_45 : decode cX5_pairAt 45 = .ok (.iload_n 2, 1) := by decide +kernel
theorem dX5_pairAt_46 : decode cX5_pairAt 46 = .ok (.if_icmp .ne 12, 3) := by decide +kernel
theorem dX5_pairAt_49 : decode cX5_pairAt 49 = .ok (.bipush 100, 2) := by decide +kernel
theorem dX5_pairAt_51 : decode cX5_pairAt 51 = .ok (.iload 5, 2) := by decide +kernel
theorem dX5_pairAt_53 : decode cX5_pairAt 53 = .ok (.imul, 1) := by decide +kernel
theorem dX5_pairAt_54 : decode cX5_pairAt 54 = .ok (.iload 6, 2) := by decide +kernel
theorem dX5_pairAt_56 : decode cX5_pairAt 56 = .ok (.iadd, 1) := by decide +kernel
theorem dX5_pairAt_57 : decode cX5_pairAt 57 = .ok (.ireturn, 1) := by decide +kernel
theorem dX5_pairAt_58 : decode cX5_pairAt 58 = .ok (.iinc 4 1, 3) := by decide +kernel
theorem dX5_pairAt_61 : decode cX5_pairAt 61 = .ok (.iinc 6 1, 3) := by decide +kernel
theorem dX5_pairAt_64 : decode cX5_pairAt 64 = .ok (.goto (-39), 3) := by decide +kernel
theorem dX5_pairAt_67 : decode cX5_pairAt 67 = .ok (.iinc 5 1, 3) := by decide +kernel
theorem dX5_pairAt_70 : decode cX5_pairAt 70 = .ok (.goto (-58), 3) := by decide +kernel
theorem dX5_pairAt_73 : decode cX5_pairAt 73 = .ok (.new 249, 3) := by decide +kernel
theorem dX5_pairAt_76 : decode cX5_pairAt 76 = .ok (.dup, 1) := by decide +kernel
theorem dX5_pairAt_77 : decode cX5_pairAt 77 = .ok (.ldc 251, 2) := by decide +kernel
theorem dX5_pairAt_79 : decode cX5_pairAt 79 = .ok (.invokespecial 253, 3) := by decide +kernel
theorem dX5_pairAt_82 : decode cX5_pairAt 82 = .ok (.athrow, 1) := by decide +kernel
theorem dX5_pairsAnew_0 : decode cX5_pairsAnew 0 = .ok (.aload_n 0, 1) := by decide +kernel
theorem dX5_pairsAnew_1 : decode cX5_pairsAnew 1 = .ok (.iload_n 1, 1) := by decide +kernel
theorem dX5_pairsAnew_2 : decode cX5_pairsAnew 2 = .ok (.invokevirtual 49, 3) := by decide +kernel
theorem dX5_pairsAnew_5 : decode cX5_pairsAnew 5 = .ok (.astore_n 2, 1) := by decide +kernel
theorem dX5_pairsAnew_6 : decode cX5_pairsAnew 6 = .ok (.iconst 0, 1) := by decide +kernel
theorem dX5_pairsAnew_7 : decode cX5_pairsAnew 7 = .ok (.istore_n 3, 1) := by decide +kernel
theorem dX5_pairsAnew_8 : decode cX5_pairsAnew 8 = .ok (.iload_n 3, 1) := by decide +kernel
theorem dX5_pairsAnew_9 : decode cX5_pairsAnew 9 = .ok (.bipush 12, 2) := by decide +kernel
theorem dX5_pairsAnew_11 : decode cX5_pairsAnew 11 = .ok (.if_icmp .ge 20, 3) := by decide +kernel
theorem dX5_pairsAnew_14 : decode cX5_pairsAnew 14 = .ok (.aload_n 0, 1) := by decide +kernel
theorem dX5_pairsAnew_15 : decode cX5_pairsAnew 15 = .ok (.aload_n 2, 1) := by decide +kernel
theorem dX5_pairsAnew_16 : decode cX5_pairsAnew 16 = .ok (.getfield 160, 3) := by decide +kernel
theorem dX5_pairsAnew_19 : decode cX5_pairsAnew 19 = .ok (.iload_n 3, 1) := by decide +kernel
theorem dX5_pairsAnew_20 : decode cX5_pairsAnew 20 = .ok (.aaload, 1) := by decide +kernel
theorem dX5_pairsAnew_21 : decode cX5_pairsAnew 21 = .ok (.iload_n 3, 1) := by decide +kernel
theorem dX5_pairsAnew_22 : decode cX5_pairsAnew 22 = .ok (.invokevirtual 254, 3) := by decide +kernel
theorem dX5_pairsAnew_25 : decode cX5_pairsAnew 25 = .ok (.iinc 3 1, 3) := by decide +kernel
theorem dX5_pairsAnew_28 : decode cX5_pairsAnew 28 = .ok (.goto (-20), 3) := by decide +kernel
theorem dX5_pairsAnew_31 : decode cX5_pairsAnew 31 = .ok (.iconst 0, 1) := by decide +kernel
theorem dX5_pairsAnew_32 : decode cX5_pairsAnew 32 = .ok (.istore_n 3, 1) := by decide +kernel
theorem dX5_pairsAnew_33 : decode cX5_pairsAnew 33 = .ok (.iconst 0, 1) := by decide +kernel
theorem dX5_pairsAnew_34 : decode cX5_pairsAnew 34 = .ok (.istore 4, 2) := by decide +kernel
theorem dX5_pairsAnew_36 : decode cX5_pairsAnew 36 = .ok (.iload 4, 2) := by decide +kernel
theorem dX5_pairsAnew_38 : decode cX5_pairsAnew 38 = .ok (.bipush 12, 2) := by decide +kernel
theorem dX5_pairsAnew_40 : decode cX5_pairsAnew 40 = .ok (.if_icmp .ge 59, 3) := by decide +kernel
theorem dX5_pairsAnew_43 : decode cX5_pairsAnew 43 = .ok (.iload 4, 2) := by decide +kernel
theorem dX5_pairsAnew_45 : decode cX5_pairsAnew 45 = .ok (.iconst 1, 1) := by decide +kernel
theorem dX5_pairsAnew_46 : decode cX5_pairsAnew 46 = .ok (.iadd, 1) := by decide +kernel
theorem dX5_pairsAnew_47 : decode cX5_pairsAnew 47 = .ok (.istore 5, 2) := by decide +kernel
theorem dX5_pairsAnew_49 : decode cX5_pairsAnew 49 = .ok (.iload 5, 2) := by decide +kernel
theorem dX5_pairsAnew_51 : decode cX5_pairsAnew 51 = .ok (.bipush 12, 2) := by decide +kernel
theorem dX5_pairsAnew_53 : decode cX5_pairsAnew 53 = .ok (.if_icmp .ge 40, 3) := by decide +kernel
theorem dX5_pairsAnew_56 : decode cX5_pairsAnew 56 = .ok (.aload_n 0, 1) := by decide +kernel
theorem dX5_pairsAnew_57 : decode cX5_pairsAnew 57 = .ok (.iload 4, 2) := by decide +kernel
theorem dX5_pairsAnew_59 : decode cX5_pairsAnew 59 = .ok (.iload 5, 2) := by decide +kernel
theorem dX5_pairsAnew_61 : decode cX5_pairsAnew 61 = .ok (.invokevirtual 258, 3) := by decide +kernel
theorem dX5_pairsAnew_64 : decode cX5_pairsAnew 64 = .ok (.aload_n 0, 1) := by decide +kernel
theorem dX5_pairsAnew_65 : decode cX5_pairsAnew 65 = .ok (.getfield 34, 3) := by decide +kernel
theorem dX5_pairsAnew_68 : decode cX5_pairsAnew 68 = .ok (.iload 4, 2) := by decide +kernel
theorem dX5_pairsAnew_70 : decode cX5_pairsAnew 70 = .ok (.iaload, 1) := by decide +kernel
theorem dX5_pairsAnew_71 : decode cX5_pairsAnew 71 = .ok (.aload_n 0, 1) := by decide +kernel
theorem dX5_pairsAnew_72 : decode cX5_pairsAnew 72 = .ok (.getfield 34, 3) := by decide +kernel
theorem dX5_pairsAnew_75 : decode cX5_pairsAnew 75 = .ok (.iload 5, 2) := by decide +kernel
theorem dX5_pairsAnew_77 : decode cX5_pairsAnew 77 = .ok (.iaload, 1) := by decide +kernel
theorem dX5_pairsAnew_78 : decode cX5_pairsAnew 78 = .ok (.invokestatic 261, 3) := by decide +kernel
theorem dX5_pairsAnew_81 : decode cX5_pairsAnew 81 = .ok (.ifCond .eq 6, 3) := by decide +kernel
theorem dX5_pairsAnew_84 : decode cX5_pairsAnew 84 = .ok (.iinc 3 1, 3) := by decide +kernel
theorem dX5_pairsAnew_87 : decode cX5_pairsAnew 87 = .ok (.iinc 5 1, 3) := by decide +kernel
theorem dX5_pairsAnew_90 : decode cX5_pairsAnew 90 = .ok (.goto (-41), 3) := by decide +kernel
theorem dX5_pairsAnew_93 : decode cX5_pairsAnew 93 = .ok (.iinc 4 1, 3) := by decide +kernel
theorem dX5_pairsAnew_96 : decode cX5_pairsAnew 96 = .ok (.goto (-60), 3) := by decide +kernel
theorem dX5_pairsAnew_99 : decode cX5_pairsAnew 99 = .ok (.iload_n 3, 1) := by decide +kernel
theorem dX5_pairsAnew_100 : decode cX5_pairsAnew 100 = .ok (.ireturn, 1) := by decide +kernel
theorem dX5_setQuota_0 : decode cX5_setQuota 0 = .ok (.iload_n 1, 1) := by decide +kernel
theorem dX5_setQuota_1 : decode cX5_setQuota 1 = .ok (.invokestatic 45, 3) := by decide +kernel
theorem dX5_setQuota_4 : decode cX5_setQuota 4 = .ok (.iload_n 2, 1) := by decide +kernel
theorem dX5_setQuota_5 : decode cX5_setQuota 5 = .ok (.iconst 0, 1) := by decide +kernel
theorem dX5_setQuota_6 : decode cX5_setQuota 6 = .ok (.sipush 1000, 3) := by decide +kernel
theorem dX5_setQuota_9 : decode cX5_setQuota 9 = .ok (.invokestatic 56, 3) := by decide +kernel
theorem dX5_setQuota_12 : decode cX5_setQuota 12 = .ok (.aload_n 0, 1) := by decide +kernel
theorem dX5_setQuota_13 : decode cX5_setQuota 13 = .ok (.getfield 19, 3) := by decide +kernel
theorem dX5_setQuota_16 : decode cX5_setQuota 16 = .ok (.iload_n 1, 1) := by decide +kernel
theorem dX5_setQuota_17 : decode cX5_setQuota 17 = .ok (.iaload, 1) := by decide +kernel
theorem dX5_setQuota_18 : decode cX5_setQuota 18 = .ok (.istore_n 3, 1) := by decide +kernel
theorem dX5_setQuota_19 : decode cX5_setQuota 19 = .ok (.aload_n 0, 1) := by decide +kernel
theorem dX5_setQuota_20 : decode cX5_setQuota 20 = .ok (.getfield 19, 3) := by decide +kernel
theorem dX5_setQuota_23 : decode cX5_setQuota 23 = .ok (.iload_n 1, 1) := by decide +kernel
theorem dX5_setQuota_24 : decode cX5_setQuota 24 = .ok (.iload_n 2, 1) := by decide +kernel
theorem dX5_setQuota_25 : decode cX5_setQuota 25 = .ok (.iastore, 1) := by decide +kernel
theorem dX5_setQuota_26 : decode cX5_setQuota 26 = .ok (.iload_n 3, 1) := by decide +kernel
theorem dX5_setQuota_27 : decode cX5_setQuota 27 = .ok (.ireturn, 1) := by decide +kernel
theorem dX5_used_0 : decode cX5_used 0 = .ok (.iload_n 1, 1) := by decide +kernel
theorem dX5_used_1 : decode cX5_used 1 = .ok (.invokestatic 45, 3) := by decide +kernel
theorem dX5_used_4 : decode cX5_used 4 = .ok (.aload_n 0, 1) := by decide +kernel
theorem dX5_used_5 : decode cX5_used 5 = .ok (.getfield 23, 3) := by decide +kernel
theorem dX5_used_8 : decode cX5_used 8 = .ok (.iload_n 1, 1) := by decide +kernel
theorem dX5_used_9 : decode cX5_used 9 = .ok (.iaload, 1) := by decide +kernel
theorem dX5_used_10 : decode cX5_used 10 = .ok (.ireturn, 1) := by decide +kernel
theorem dX5_usedAnew_0 : decode cX5_usedAnew 0 = .ok (.iload_n 1, 1) := by decide +kernel
theorem dX5_usedAnew_1 : decode cX5_usedAnew 1 = .ok (.invokestatic 45, 3) := by decide +kernel
theorem dX5_usedAnew_4 : decode cX5_usedAnew 4 = .ok (.iconst 0, 1) := by decide +kernel
theorem dX5_usedAnew_5 : decode cX5_usedAnew 5 = .ok (.istore_n 2, 1) := by decide +kernel
theorem dX5_usedAnew_6 : decode cX5_usedAnew 6 = .ok (.iconst 0, 1) := by decide +kernel
theorem dX5_usedAnew_7 : decode cX5_usedAnew 7 = .ok (.istore_n 3, 1) := by decide +kernel
theorem dX5_usedAnew_8 : decode cX5_usedAnew 8 = .ok (.iload_n 3, 1) := by decide +kernel
theorem dX5_usedAnew_9 : decode cX5_usedAnew 9 = .ok (.iconst 4, 1) := by decide +kernel
theorem dX5_usedAnew_10 : decode cX5_usedAnew 10 = .ok (.if_icmp .ge 38, 3) := by decide +kernel
theorem dX5_usedAnew_13 : decode cX5_usedAnew 13 = .ok (.aload_n 0, 1) := by decide +kernel
theorem dX5_usedAnew_14 : decode cX5_usedAnew 14 = .ok (.getfield 11, 3) := by decide +kernel
theorem dX5_usedAnew_17 : decode cX5_usedAnew 17 = .ok (.iload_n 3, 1) := by decide +kernel
theorem dX5_usedAnew_18 : decode cX5_usedAnew 18 = .ok (.aaload, 1) := by decide +kernel
theorem dX5_usedAnew_19 : decode cX5_usedAnew 19 = .ok (.astore 4, 2) := by decide +kernel
theorem dX5_usedAnew_21 : decode cX5_usedAnew 21 = .ok (.aload 4, 2) := by decide +kernel
theorem dX5_usedAnew_23 : decode cX5_usedAnew 23 = .ok (.ifnull 19, 3) := by decide +kernel
theorem dX5_usedAnew_26 : decode cX5_usedAnew 26 = .ok (.iload_n 2, 1) := by decide +kernel
theorem dX5_usedAnew_27 : decode cX5_usedAnew 27 = .ok (.aload 4, 2) := by decide +kernel
theorem dX5_usedAnew_29 : decode cX5_usedAnew 29 = .ok (.iload_n 1, 1) := by decide +kernel
theorem dX5_usedAnew_30 : decode cX5_usedAnew 30 = .ok (.invokevirtual 265, 3) := by decide +kernel
theorem dX5_usedAnew_33 : decode cX5_usedAnew 33 = .ok (.aload 4, 2) := by decide +kernel
theorem dX5_usedAnew_35 : decode cX5_usedAnew 35 = .ok (.iload_n 1, 1) := by decide +kernel
theorem dX5_usedAnew_36 : decode cX5_usedAnew 36 = .ok (.invokevirtual 268, 3) := by decide +kernel
theorem dX5_usedAnew_39 : decode cX5_usedAnew 39 = .ok (.iadd, 1) := by decide +kernel
theorem dX5_usedAnew_40 : decode cX5_usedAnew 40 = .ok (.iadd, 1) := by decide +kernel
theorem dX5_usedAnew_41 : decode cX5_usedAnew 41 = .ok (.istore_n 2, 1) := by decide +kernel
theorem dX5_usedAnew_42 : decode cX5_usedAnew 42 = .ok (.iinc 3 1, 3) := by decide +kernel
theorem dX5_usedAnew_45 : decode cX5_usedAnew 45 = .ok (.goto (-37), 3) := by decide +kernel
theorem dX5_usedAnew_48 : decode cX5_usedAnew 48 = .ok (.iload_n 2, 1) := by decide +kernel
theorem dX5_usedAnew_49 : decode cX5_usedAnew 49 = .ok (.ireturn, 1) := by decide +kernel
theorem dX5_checkClass_0 : decode cX5_checkClass 0 = .ok (.iload_n 0, 1) := by decide +kernel
theorem dX5_checkClass_1 : decode cX5_checkClass 1 = .ok (.ifCond .lt 8, 3) := by decide +kernel
theorem dX5_checkClass_4 : decode cX5_checkClass 4 = .ok (.iload_n 0, 1) := by decide +kernel
theorem dX5_checkClass_5 : decode cX5_checkClass 5 = .ok (.iconst 4, 1) := by decide +kernel
theorem dX5_checkClass_6 : decode cX5_checkClass 6 = .ok (.if_icmp .lt 14, 3) := by decide +kernel
theorem dX5_checkClass_9 : decode cX5_checkClass 9 = .ok (.new 249, 3) := by decide +kernel
theorem dX5_checkClass_12 : decode cX5_checkClass 12 = .ok (.dup, 1) := by decide +kernel
theorem dX5_checkClass_13 : decode cX5_checkClass 13 = .ok (.ldc_w 271, 3) := by decide +kernel
theorem dX5_checkClass_16 : decode cX5_checkClass 16 = .ok (.invokespecial 253, 3) := by decide +kernel
theorem dX5_checkClass_19 : decode cX5_checkClass 19 = .ok (.athrow, 1) := by decide +kernel
theorem dX5_checkClass_20 : decode cX5_checkClass 20 = .ok (.return_, 1) := by decide +kernel
theorem dX5_checkPupil_0 : decode cX5_checkPupil 0 = .ok (.iload_n 0, 1) := by decide +kernel
theorem dX5_checkPupil_1 : decode cX5_checkPupil 1 = .ok (.ifCond .lt 9, 3) := by decide +kernel
theorem dX5_checkPupil_4 : decode cX5_checkPupil 4 = .ok (.iload_n 0, 1) := by decide +kernel
theorem dX5_checkPupil_5 : decode cX5_checkPupil 5 = .ok (.bipush 12, 2) := by decide +kernel
theorem dX5_checkPupil_7 : decode cX5_checkPupil 7 = .ok (.if_icmp .lt 14, 3) := by decide +kernel
theorem dX5_checkPupil_10 : decode cX5_checkPupil 10 = .ok (.new 249, 3) := by decide +kernel
theorem dX5_checkPupil_13 : decode cX5_checkPupil 13 = .ok (.dup, 1) := by decide +kernel
theorem dX5_checkPupil_14 : decode cX5_checkPupil 14 = .ok (.ldc_w 273, 3) := by decide +kernel
theorem dX5_checkPupil_17 : decode cX5_checkPupil 17 = .ok (.invokespecial 253, 3) := by decide +kernel
theorem dX5_checkPupil_20 : decode cX5_checkPupil 20 = .ok (.athrow, 1) := by decide +kernel
theorem dX5_checkPupil_21 : decode cX5_checkPupil 21 = .ok (.return_, 1) := by decide +kernel
theorem dX5_checkTask_0 : decode cX5_checkTask 0 = .ok (.iload_n 0, 1) := by decide +kernel
theorem dX5_checkTask_1 : decode cX5_checkTask 1 = .ok (.ifCond .lt 8, 3) := by decide +kernel
theorem dX5_checkTask_4 : decode cX5_checkTask 4 = .ok (.iload_n 0, 1) := by decide +kernel
theorem dX5_checkTask_5 : decode cX5_checkTask 5 = .ok (.iconst 5, 1) := by decide +kernel
theorem dX5_checkTask_6 : decode cX5_checkTask 6 = .ok (.if_icmp .lt 14, 3) := by decide +kernel
theorem dX5_checkTask_9 : decode cX5_checkTask 9 = .ok (.new 249, 3) := by decide +kernel
theorem dX5_checkTask_12 : decode cX5_checkTask 12 = .ok (.dup, 1) := by decide +kernel
theorem dX5_checkTask_13 : decode cX5_checkTask 13 = .ok (.ldc_w 275, 3) := by decide +kernel
theorem dX5_checkTask_16 : decode cX5_checkTask 16 = .ok (.invokespecial 253, 3) := by decide +kernel
theorem dX5_checkTask_19 : decode cX5_checkTask 19 = .ok (.athrow, 1) := by decide +kernel
theorem dX5_checkTask_20 : decode cX5_checkTask 20 = .ok (.return_, 1) := by decide +kernel
theorem dX5_checkRange_0 : decode cX5_checkRange 0 = .ok (.iload_n 0, 1) := by decide +kernel
theorem dX5_checkRange_1 : decode cX5_checkRange 1 = .ok (.iload_n 1, 1) := by decide +kernel
theorem dX5_checkRange_2 : decode cX5_checkRange 2 = .ok (.if_icmp .lt 8, 3) := by decide +kernel
theorem dX5_checkRange_5 : decode cX5_checkRange 5 = .ok (.iload_n 0, 1) := by decide +kernel
theorem dX5_checkRange_6 : decode cX5_checkRange 6 = .ok (.iload_n 2, 1) := by decide +kernel
theorem dX5_checkRange_7 : decode cX5_checkRange 7 = .ok (.if_icmp .le 14, 3) := by decide +kernel
theorem dX5_checkRange_10 : decode cX5_checkRange 10 = .ok (.new 277, 3) := by decide +kernel
theorem dX5_checkRange_13 : decode cX5_checkRange 13 = .ok (.dup, 1) := by decide +kernel
theorem dX5_checkRange_14 : decode cX5_checkRange 14 = .ok (.ldc_w 279, 3) := by decide +kernel
theorem dX5_checkRange_17 : decode cX5_checkRange 17 = .ok (.invokespecial 281, 3) := by decide +kernel
theorem dX5_checkRange_20 : decode cX5_checkRange 20 = .ok (.athrow, 1) := by decide +kernel
theorem dX5_checkRange_21 : decode cX5_checkRange 21 = .ok (.return_, 1) := by decide +kernel
theorem dX5_checkNumberRule_0 : decode cX5_checkNumberRule 0 = .ok (.iload_n 0, 1) := by decide +kernel
theorem dX5_checkNumberRule_1 : decode cX5_checkNumberRule 1 = .ok (.sipush (-1000), 3) := by decide +kernel
theorem dX5_checkNumberRule_4 : decode cX5_checkNumberRule 4 = .ok (.sipush 1000, 3) := by decide +kernel
theorem dX5_checkNumberRule_7 : decode cX5_checkNumberRule 7 = .ok (.invokestatic 56, 3) := by decide +kernel
theorem dX5_checkNumberRule_10 : decode cX5_checkNumberRule 10 = .ok (.iload_n 1, 1) := by decide +kernel
theorem dX5_checkNumberRule_11 : decode cX5_checkNumberRule 11 = .ok (.iconst 0, 1) := by decide +kernel
theorem dX5_checkNumberRule_12 : decode cX5_checkNumberRule 12 = .ok (.bipush 100, 2) := by decide +kernel
theorem dX5_checkNumberRule_14 : decode cX5_checkNumberRule 14 = .ok (.invokestatic 56, 3) := by decide +kernel
theorem dX5_checkNumberRule_17 : decode cX5_checkNumberRule 17 = .ok (.return_, 1) := by decide +kernel
theorem dX5_checkWordsRule_0 : decode cX5_checkWordsRule 0 = .ok (.iload_n 0, 1) := by decide +kernel
theorem dX5_checkWordsRule_1 : decode cX5_checkWordsRule 1 = .ok (.invokestatic 282, 3) := by decide +kernel
theorem dX5_checkWordsRule_4 : decode cX5_checkWordsRule 4 = .ok (.istore_n 1, 1) := by decide +kernel
theorem dX5_checkWordsRule_5 : decode cX5_checkWordsRule 5 = .ok (.iload_n 1, 1) := by decide +kernel
theorem dX5_checkWordsRule_6 : decode cX5_checkWordsRule 6 = .ok (.ifCond .eq 11, 3) := by decide +kernel
theorem dX5_checkWordsRule_9 : decode cX5_checkWordsRule 9 = .ok (.iload_n 0, 1) := by decide +kernel
theorem dX5_checkWordsRule_10 : decode cX5_checkWordsRule 10 = .ok (.iload_n 1, 1) := by decide +kernel
theorem dX5_checkWordsRule_11 : decode cX5_checkWordsRule 11 = .ok (.iconst 5, 1) := by decide +kernel
theorem dX5_checkWordsRule_12 : decode cX5_checkWordsRule 12 = .ok (.imul, 1) := by decide +kernel
theorem dX5_checkWordsRule_13 : decode cX5_checkWordsRule 13 = .ok (.iushr, 1) := by decide +kernel
theorem dX5_checkWordsRule_14 : decode cX5_checkWordsRule 14 = .ok (.ifCond .eq 14, 3) := by decide +kernel
theorem dX5_checkWordsRule_17 : decode cX5_checkWordsRule 17 = .ok (.new 277, 3) := by decide +kernel
theorem dX5_checkWordsRule_20 : decode cX5_checkWordsRule 20 = .ok (.dup, 1) := by decide +kernel
theorem dX5_checkWordsRule_21 : decode cX5_checkWordsRule 21 = .ok (.ldc_w 285, 3) := by decide +kernel
theorem dX5_checkWordsRule_24 : decode cX5_checkWordsRule 24 = .ok (.invokespecial 281, 3) := by decide +kernel
theorem dX5_checkWordsRule_27 : decode cX5_checkWordsRule 27 = .ok (.athrow, 1) := by decide +kernel
theorem dX5_checkWordsRule_28 : decode cX5_checkWordsRule 28 = .ok (.return_, 1) := by decide +kernel
theorem dX5_checkSaid_0 : decode cX5_checkSaid 0 = .ok (.iload_n 0, 1) := by decide +kernel
theorem dX5_checkSaid_1 : decode cX5_checkSaid 1 = .ok (.ifCond .ne 16, 3) := by decide +kernel
theorem dX5_checkSaid_4 : decode cX5_checkSaid 4 = .ok (.iload_n 1, 1) := by decide +kernel
theorem dX5_checkSaid_5 : decode cX5_checkSaid 5 = .ok (.sipush (-1000), 3) := by decide +kernel
theorem dX5_checkSaid_8 : decode cX5_checkSaid 8 = .ok (.sipush 1000, 3) := by decide +kernel
theorem dX5_checkSaid_11 : decode cX5_checkSaid 11 = .ok (.invokestatic 56, 3) := by decide +kernel
theorem dX5_checkSaid_14 : decode cX5_checkSaid 14 = .ok (.goto 24, 3) := by decide +kernel
theorem dX5_checkSaid_17 : decode cX5_checkSaid 17 = .ok (.iload_n 0, 1) := by decide +kernel
theorem dX5_checkSaid_18 : decode cX5_checkSaid 18 = .ok (.iconst 1, 1) := by decide +kernel
theorem dX5_checkSaid_19 : decode cX5_checkSaid 19 = .ok (.if_icmp .ne 12, 3) := by decide +kernel
theorem dX5_checkSaid_22 : decode cX5_checkSaid 22 = .ok (.iload_n 1, 1) := by decide +kernel
theorem dX5_checkSaid_23 : decode cX5_checkSaid 23 = .ok (.iconst 0, 1) := by decide +kernel
theorem dX5_checkSaid_24 : decode cX5_checkSaid 24 = .ok (.iconst 4, 1) := by decide +kernel
theorem dX5_checkSaid_25 : decode cX5_checkSaid 25 = .ok (.invokestatic 56, 3) := by decide +kernel
theorem dX5_checkSaid_28 : decode cX5_checkSaid 28 = .ok (.goto 10, 3) := by decide +kernel
theorem dX5_checkSaid_31 : decode cX5_checkSaid 31 = .ok (.iload_n 1, 1) := by decide +kernel
theorem dX5_checkSaid_32 : decode cX5_checkSaid 32 = .ok (.iconst 1, 1) := by decide +kernel
theorem dX5_checkSaid_33 : decode cX5_checkSaid 33 = .ok (.bipush 31, 2) := by decide +kernel
theorem dX5_checkSaid_35 : decode cX5_checkSaid 35 = .ok (.invokestatic 56, 3) := by decide +kernel
theorem dX5_checkSaid_38 : decode cX5_checkSaid 38 = .ok (.return_, 1) := by decide +kernel
theorem dX5_sheetAt_0 : decode cX5_sheetAt 0 = .ok (.iload_n 1, 1) := by decide +kernel
theorem dX5_sheetAt_1 : decode cX5_sheetAt 1 = .ok (.ifCond .lt 8, 3) := by decide +kernel
theorem dX5_sheetAt_4 : decode cX5_sheetAt 4 = .ok (.iload_n 1, 1) := by decide +kernel
theorem dX5_sheetAt_5 : decode cX5_sheetAt 5 = .ok (.iconst 4, 1) := by decide +kernel
theorem dX5_sheetAt_6 : decode cX5_sheetAt 6 = .ok (.if_icmp .lt 14, 3) := by decide +kernel
theorem dX5_sheetAt_9 : decode cX5_sheetAt 9 = .ok (.new 249, 3) := by decide +kernel
theorem dX5_sheetAt_12 : decode cX5_sheetAt 12 = .ok (.dup, 1) := by decide +kernel
theorem dX5_sheetAt_13 : decode cX5_sheetAt 13 = .ok (.ldc_w 287, 3) := by decide +kernel
theorem dX5_sheetAt_16 : decode cX5_sheetAt 16 = .ok (.invokespecial 253, 3) := by decide +kernel
theorem dX5_sheetAt_19 : decode cX5_sheetAt 19 = .ok (.athrow, 1) := by decide +kernel
theorem dX5_sheetAt_20 : decode cX5_sheetAt 20 = .ok (.aload_n 0, 1) := by decide +kernel
theorem dX5_sheetAt_21 : decode cX5_sheetAt 21 = .ok (.getfield 11, 3) := by decide +kernel
theorem dX5_sheetAt_24 : decode cX5_sheetAt 24 = .ok (.iload_n 1, 1) := by decide +kernel
theorem dX5_sheetAt_25 : decode cX5_sheetAt 25 = .ok (.aaload, 1) := by decide +kernel
theorem dX5_sheetAt_26 : decode cX5_sheetAt 26 = .ok (.astore_n 2, 1) := by decide +kernel
theorem dX5_sheetAt_27 : decode cX5_sheetAt 27 = .ok (.aload_n 2, 1) := by decide +kernel
theorem dX5_sheetAt_28 : decode cX5_sheetAt 28 = .ok (.ifnonnull 14, 3) := by decide +kernel
theorem dX5_sheetAt_31 : decode cX5_sheetAt 31 = .ok (.new 249, 3) := by decide +kernel
theorem dX5_sheetAt_34 : decode cX5_sheetAt 34 = .ok (.dup, 1) := by decide +kernel
theorem dX5_sheetAt_35 : decode cX5_sheetAt 35 = .ok (.ldc_w 287, 3) := by decide +kernel
theorem dX5_sheetAt_38 : decode cX5_sheetAt 38 = .ok (.invokespecial 253, 3) := by decide +kernel
theorem dX5_sheetAt_41 : decode cX5_sheetAt 41 = .ok (.athrow, 1) := by decide +kernel
theorem dX5_sheetAt_42 : decode cX5_sheetAt 42 = .ok (.aload_n 2, 1) := by decide +kernel
theorem dX5_sheetAt_43 : decode cX5_sheetAt 43 = .ok (.areturn, 1) := by decide +kernel
theorem dX5_versionAt_0 : decode cX5_versionAt 0 = .ok (.iload_n 1, 1) := by decide +kernel
theorem dX5_versionAt_1 : decode cX5_versionAt 1 = .ok (.ifCond .lt 9, 3) := by decide +kernel
theorem dX5_versionAt_4 : decode cX5_versionAt 4 = .ok (.iload_n 1, 1) := by decide +kernel
theorem dX5_versionAt_5 : decode cX5_versionAt 5 = .ok (.bipush 16, 2) := by decide +kernel
theorem dX5_versionAt_7 : decode cX5_versionAt 7 = .ok (.if_icmp .lt 14, 3) := by decide +kernel
theorem dX5_versionAt_10 : decode cX5_versionAt 10 = .ok (.new 249, 3) := by decide +kernel
theorem dX5_versionAt_13 : decode cX5_versionAt 13 = .ok (.dup, 1) := by decide +kernel
theorem dX5_versionAt_14 : decode cX5_versionAt 14 = .ok (.ldc_w 289, 3) := by decide +kernel
theorem dX5_versionAt_17 : decode cX5_versionAt 17 = .ok (.invokespecial 253, 3) := by decide +kernel
theorem dX5_versionAt_20 : decode cX5_versionAt 20 = .ok (.athrow, 1) := by decide +kernel
theorem dX5_versionAt_21 : decode cX5_versionAt 21 = .ok (.aload_n 0, 1) := by decide +kernel
theorem dX5_versionAt_22 : decode cX5_versionAt 22 = .ok (.getfield 132, 3) := by decide +kernel
theorem dX5_versionAt_25 : decode cX5_versionAt 25 = .ok (.iload_n 1, 1) := by decide +kernel
theorem dX5_versionAt_26 : decode cX5_versionAt 26 = .ok (.aaload, 1) := by decide +kernel
theorem dX5_versionAt_27 : decode cX5_versionAt 27 = .ok (.astore_n 2, 1) := by decide +kernel
theorem dX5_versionAt_28 : decode cX5_versionAt 28 = .ok (.aload_n 2, 1) := by decide +kernel
theorem dX5_versionAt_29 : decode cX5_versionAt 29 = .ok (.ifnonnull 14, 3) := by decide +kernel
theorem dX5_versionAt_32 : decode cX5_versionAt 32 = .ok (.new 249, 3) := by decide +kernel
theorem dX5_versionAt_35 : decode cX5_versionAt 35 = .ok (.dup, 1) := by decide +kernel
theorem dX5_versionAt_36 : decode cX5_versionAt 36 = .ok (.ldc_w 289, 3) := by decide +kernel
theorem dX5_versionAt_39 : decode cX5_versionAt 39 = .ok (.invokespecial 253, 3) := by decide +kernel
theorem dX5_versionAt_42 : decode cX5_versionAt 42 = .ok (.athrow, 1) := by decide +kernel
theorem dX5_versionAt_43 : decode cX5_versionAt 43 = .ok (.aload_n 2, 1) := by decide +kernel
theorem dX5_versionAt_44 : decode cX5_versionAt 44 = .ok (.areturn, 1) := by decide +kernel
theorem dX5_answerAt_0 : decode cX5_answerAt 0 = .ok (.iload_n 1, 1) := by decide +kernel
theorem dX5_answerAt_1 : decode cX5_answerAt 1 = .ok (.invokestatic 153, 3) := by decide +kernel
theorem dX5_answerAt_4 : decode cX5_answerAt 4 = .ok (.aload_n 0, 1) := by decide +kernel
theorem dX5_answerAt_5 : decode cX5_answerAt 5 = .ok (.iload_n 2, 1) := by decide +kernel
theorem dX5_answerAt_6 : decode cX5_answerAt 6 = .ok (.invokevirtual 49, 3) := by decide +kernel
theorem dX5_answerAt_9 : decode cX5_answerAt 9 = .ok (.getfield 160, 3) := by decide +kernel
theorem dX5_answerAt_12 : decode cX5_answerAt 12 = .ok (.iload_n 1, 1) := by decide +kernel
theorem dX5_answerAt_13 : decode cX5_answerAt 13 = .ok (.aaload, 1) := by decide +kernel
theorem dX5_answerAt_14 : decode cX5_answerAt 14 = .ok (.areturn, 1) := by decide +kernel
theorem dX5_openAnswer_0 : decode cX5_openAnswer 0 = .ok (.aload_n 0, 1) := by decide +kernel
theorem dX5_openAnswer_1 : decode cX5_openAnswer 1 = .ok (.getfield 160, 3) := by decide +kernel
theorem dX5_openAnswer_4 : decode cX5_openAnswer 4 = .ok (.iload_n 1, 1) := by decide +kernel
theorem dX5_openAnswer_5 : decode cX5_openAnswer 5 = .ok (.aaload, 1) := by decide +kernel
theorem dX5_openAnswer_6 : decode cX5_openAnswer 6 = .ok (.astore_n 2, 1) := by decide +kernel
theorem dX5_openAnswer_7 : decode cX5_openAnswer 7 = .ok (.aload_n 2, 1) := by decide +kernel
theorem dX5_openAnswer_8 : decode cX5_openAnswer 8 = .ok (.ifnull 10, 3) := by decide +kernel
theorem dX5_openAnswer_11 : decode cX5_openAnswer 11 = .ok (.aload_n 2, 1) := by decide +kernel
theorem dX5_openAnswer_12 : decode cX5_openAnswer 12 = .ok (.getfield 208, 3) := by decide +kernel
theorem dX5_openAnswer_15 : decode cX5_openAnswer 15 = .ok (.ifCond .eq 14, 3) := by decide +kernel
theorem dX5_openAnswer_18 : decode cX5_openAnswer 18 = .ok (.new 37, 3) := by decide +kernel
theorem dX5_openAnswer_21 : decode cX5_openAnswer 21 = .ok (.dup, 1) := by decide +kernel
theorem dX5_openAnswer_22 : decode cX5_openAnswer 22 = .ok (.ldc_w 291, 3) := by decide +kernel
theorem dX5_openAnswer_25 : decode cX5_openAnswer 25 = .ok (.invokespecial 41, 3) := by decide +kernel
theorem dX5_openAnswer_28 : decode cX5_openAnswer 28 = .ok (.athrow, 1) := by decide +kernel
theorem dX5_openAnswer_29 : decode cX5_openAnswer 29 = .ok (.aload_n 2, 1) := by decide +kernel
theorem dX5_openAnswer_30 : decode cX5_openAnswer 30 = .ok (.areturn, 1) := by decide +kernel
theorem dX5_classOf_0 : decode cX5_classOf 0 = .ok (.iload_n 0, 1) := by decide +kernel
theorem dX5_classOf_1 : decode cX5_classOf 1 = .ok (.iconst 3, 1) := by decide +kernel
theorem dX5_classOf_2 : decode cX5_classOf 2 = .ok (.idiv, 1) := by decide +kernel
theorem dX5_classOf_3 : decode cX5_classOf 3 = .ok (.ireturn, 1) := by decide +kernel
theorem dX5_numberOf_0 : decode cX5_numberOf 0 = .ok (.aload_n 0, 1) := by decide +kernel
theorem dX5_numberOf_1 : decode cX5_numberOf 1 = .ok (.ifnonnull 7, 3) := by decide +kernel
theorem dX5_numberOf_4 : decode cX5_numberOf 4 = .ok (.iconst (-1), 1) := by decide +kernel
theorem dX5_numberOf_5 : decode cX5_numberOf 5 = .ok (.goto 7, 3) := by decide +kernel
theorem dX5_numberOf_8 : decode cX5_numberOf 8 = .ok (.aload_n 0, 1) := by decide +kernel
theorem dX5_numberOf_9 : decode cX5_numberOf 9 = .ok (.getfield 293, 3) := by decide +kernel
theorem dX5_numberOf_12 : decode cX5_numberOf 12 = .ok (.ireturn, 1) := by decide +kernel
theorem dX5_tellerOf_0 : decode cX5_tellerOf 0 = .ok (.aload_n 0, 1) := by decide +kernel
theorem dX5_tellerOf_1 : decode cX5_tellerOf 1 = .ok (.astore_n 2, 1) := by decide +kernel
theorem dX5_tellerOf_2 : decode cX5_tellerOf 2 = .ok (.aload_n 2, 1) := by decide +kernel
theorem dX5_tellerOf_3 : decode cX5_tellerOf 3 = .ok (.ifnull 22, 3) := by decide +kernel
theorem dX5_tellerOf_6 : decode cX5_tellerOf 6 = .ok (.aload_n 2, 1) := by decide +kernel
theorem dX5_tellerOf_7 : decode cX5_tellerOf 7 = .ok (.getfield 296, 3) := by decide +kernel
theorem dX5_tellerOf_10 : decode cX5_tellerOf 10 = .ok (.iload_n 1, 1) := by decide +kernel
theorem dX5_tellerOf_11 : decode cX5_tellerOf 11 = .ok (.aaload, 1) := by decide +kernel
theorem dX5_tellerOf_12 : decode cX5_tellerOf 12 = .ok (.ifnull 5, 3) := by decide +kernel
theorem dX5_tellerOf_15 : decode cX5_tellerOf 15 = .ok (.aload_n 2, 1) := by decide +kernel
theorem dX5_tellerOf_16 : decode cX5_tellerOf 16 = .ok (.areturn, 1) := by decide +kernel
theorem dX5_tellerOf_17 : decode cX5_tellerOf 17 = .ok (.aload_n 2, 1) := by decide +kernel
theorem dX5_tellerOf_18 : decode cX5_tellerOf 18 = .ok (.getfield 135, 3) := by decide +kernel
theorem dX5_tellerOf_21 : decode cX5_tellerOf 21 = .ok (.astore_n 2, 1) := by decide +kernel
theorem dX5_tellerOf_22 : decode cX5_tellerOf 22 = .ok (.goto (-20), 3) := by decide +kernel
theorem dX5_tellerOf_25 : decode cX5_tellerOf 25 = .ok (.aconst_null, 1) := by decide +kernel
theorem dX5_tellerOf_26 : decode cX5_tellerOf 26 = .ok (.areturn, 1) := by decide +kernel
theorem dX5_taskOf_0 : decode cX5_taskOf 0 = .ok (.aload_n 0, 1) := by decide +kernel
theorem dX5_taskOf_1 : decode cX5_taskOf 1 = .ok (.iload_n 1, 1) := by decide +kernel
theorem dX5_taskOf_2 : decode cX5_taskOf 2 = .ok (.invokestatic 142, 3) := by decide +kernel
theorem dX5_taskOf_5 : decode cX5_taskOf 5 = .ok (.astore_n 2, 1) := by decide +kernel
theorem dX5_taskOf_6 : decode cX5_taskOf 6 = .ok (.aload_n 2, 1) := by decide +kernel
theorem dX5_taskOf_7 : decode cX5_taskOf 7 = .ok (.ifnonnull 5, 3) := by decide +kernel
theorem dX5_taskOf_10 : decode cX5_taskOf 10 = .ok (.aconst_null, 1) := by decide +kernel
theorem dX5_taskOf_11 : decode cX5_taskOf 11 = .ok (.areturn, 1) := by decide +kernel
theorem dX5_taskOf_12 : decode cX5_taskOf 12 = .ok (.aload_n 2, 1) := by decide +kernel
theorem dX5_taskOf_13 : decode cX5_taskOf 13 = .ok (.getfield 296, 3) := by decide +kernel
theorem dX5_taskOf_16 : decode cX5_taskOf 16 = .ok (.iload_n 1, 1) := by decide +kernel
theorem dX5_taskOf_17 : decode cX5_taskOf 17 = .ok (.aaload, 1) := by decide +kernel
theorem dX5_taskOf_18 : decode cX5_taskOf 18 = .ok (.astore_n 3, 1) := by decide +kernel
theorem dX5_taskOf_19 : decode cX5_taskOf 19 = .ok (.aload_n 3, 1) := by decide +kernel
theorem dX5_taskOf_20 : decode cX5_taskOf 20 = .ok (.ifnull 11, 3) := by decide +kernel
theorem dX5_taskOf_23 : decode cX5_taskOf 23 = .ok (.aload_n 3, 1) := by decide +kernel
theorem dX5_taskOf_24 : decode cX5_taskOf 24 = .ok (.getfield 139, 3) := by decide +kernel
theorem dX5_taskOf_27 : decode cX5_taskOf 27 = .ok (.iconst (-1), 1) := by decide +kernel
theorem dX5_taskOf_28 : decode cX5_taskOf 28 = .ok (.if_icmp .ne 7, 3) := by decide +kernel
theorem dX5_taskOf_31 : decode cX5_taskOf 31 = .ok (.aconst_null, 1) := by decide +kernel
theorem dX5_taskOf_32 : decode cX5_taskOf 32 = .ok (.goto 4, 3) := by decide +kernel
theorem dX5_taskOf_35 : decode cX5_taskOf 35 = .ok (.aload_n 3, 1) := by decide +kernel
theorem dX5_taskOf_36 : decode cX5_taskOf 36 = .ok (.areturn, 1) := by decide +kernel
theorem dX5_revise_0 : decode cX5_revise 0 = .ok (.aload_n 2, 1) := by decide +kernel
theorem dX5_revise_1 : decode cX5_revise 1 = .ok (.getfield 300, 3) := by decide +kernel
theorem dX5_revise_4 : decode cX5_revise 4 = .ok (.bipush 16, 2) := by decide +kernel
theorem dX5_revise_6 : decode cX5_revise 6 = .ok (.if_icmp .lt 14, 3) := by decide +kernel
theorem dX5_revise_9 : decode cX5_revise 9 = .ok (.new 37, 3) := by decide +kernel
theorem dX5_revise_12 : decode cX5_revise 12 = .ok (.dup, 1) := by decide +kernel
theorem dX5_revise_13 : decode cX5_revise 13 = .ok (.ldc_w 303, 3) := by decide +kernel
theorem dX5_revise_16 : decode cX5_revise 16 = .ok (.invokespecial 41, 3) := by decide +kernel
theorem dX5_revise_19 : decode cX5_revise 19 = .ok (.athrow, 1) := by decide +kernel
theorem dX5_revise_20 : decode cX5_revise 20 = .ok (.aload_n 0, 1) := by decide +kernel
theorem dX5_revise_21 : decode cX5_revise 21 = .ok (.iload_n 1, 1) := by decide +kernel
theorem dX5_revise_22 : decode cX5_revise 22 = .ok (.aload 4, 2) := by decide +kernel
theorem dX5_revise_24 : decode cX5_revise 24 = .ok (.invokevirtual 305, 3) := by decide +kernel
theorem dX5_revise_27 : decode cX5_revise 27 = .ok (.invokevirtual 116, 3) := by decide +kernel
theorem dX5_revise_30 : decode cX5_revise 30 = .ok (.ifCond .eq 13, 3) := by decide +kernel
theorem dX5_revise_33 : decode cX5_revise 33 = .ok (.new 37, 3) := by decide +kernel
theorem dX5_revise_36 : decode cX5_revise 36 = .ok (.dup, 1) := by decide +kernel
theorem dX5_revise_37 : decode cX5_revise 37 = .ok (.ldc 120, 2) := by decide +kernel
theorem dX5_revise_39 : decode cX5_revise 39 = .ok (.invokespecial 41, 3) := by decide +kernel
theorem dX5_revise_42 : decode cX5_revise 42 = .ok (.athrow, 1) := by decide +kernel
theorem dX5_revise_43 : decode cX5_revise 43 = .ok (.new 105, 3) := by decide +kernel
theorem dX5_revise_46 : decode cX5_revise 46 = .ok (.dup, 1) := by decide +kernel
theorem dX5_revise_47 : decode cX5_revise 47 = .ok (.aload_n 2, 1) := by decide +kernel
theorem dX5_revise_48 : decode cX5_revise 48 = .ok (.getfield 300, 3) := by decide +kernel
theorem dX5_revise_51 : decode cX5_revise 51 = .ok (.iload_n 1, 1) := by decide +kernel
theorem dX5_revise_52 : decode cX5_revise 52 = .ok (.aload_n 2, 1) := by decide +kernel
theorem dX5_revise_53 : decode cX5_revise 53 = .ok (.getfield 76, 3) := by decide +kernel
theorem dX5_revise_56 : decode cX5_revise 56 = .ok (.iload_n 1, 1) := by decide +kernel
theorem dX5_revise_57 : decode cX5_revise 57 = .ok (.aaload, 1) := by decide +kernel
theorem dX5_revise_58 : decode cX5_revise 58 = .ok (.invokespecial 306, 3) := by decide +kernel
theorem dX5_revise_61 : decode cX5_revise 61 = .ok (.astore 5, 2) := by decide +kernel
theorem dX5_revise_63 : decode cX5_revise 63 = .ok (.aload 5, 2) := by decide +kernel
theorem dX5_revise_65 : decode cX5_revise 65 = .ok (.getfield 296, 3) := by decide +kernel
theorem dX5_revise_68 : decode cX5_revise 68 = .ok (.iload_n 3, 1) := by decide +kernel
theorem dX5_revise_69 : decode cX5_revise 69 = .ok (.aload 4, 2) := by decide +kernel
theorem dX5_revise_71 : decode cX5_revise 71 = .ok (.aastore, 1) := by decide +kernel
theorem dX5_revise_72 : decode cX5_revise 72 = .ok (.aload_n 2, 1) := by decide +kernel
theorem dX5_revise_73 : decode cX5_revise 73 = .ok (.getfield 132, 3) := by decide +kernel
theorem dX5_revise_76 : decode cX5_revise 76 = .ok (.aload_n 2, 1) := by decide +kernel
theorem dX5_revise_77 : decode cX5_revise 77 = .ok (.getfield 300, 3) := by decide +kernel
theorem dX5_revise_80 : decode cX5_revise 80 = .ok (.aload 5, 2) := by decide +kernel
theorem dX5_revise_82 : decode cX5_revise 82 = .ok (.aastore, 1) := by decide +kernel
theorem dX5_revise_83 : decode cX5_revise 83 = .ok (.aload_n 2, 1) := by decide +kernel
theorem dX5_revise_84 : decode cX5_revise 84 = .ok (.dup, 1) := by decide +kernel
theorem dX5_revise_85 : decode cX5_revise 85 = .ok (.getfield 300, 3) := by decide +kernel
theorem dX5_revise_88 : decode cX5_revise 88 = .ok (.iconst 1, 1) := by decide +kernel
theorem dX5_revise_89 : decode cX5_revise 89 = .ok (.iadd, 1) := by decide +kernel
theorem dX5_revise_90 : decode cX5_revise 90 = .ok (.putfield 300, 3) := by decide +kernel
theorem dX5_revise_93 : decode cX5_revise 93 = .ok (.aload_n 2, 1) := by decide +kernel
theorem dX5_revise_94 : decode cX5_revise 94 = .ok (.getfield 76, 3) := by decide +kernel
theorem dX5_revise_97 : decode cX5_revise 97 = .ok (.iload_n 1, 1) := by decide +kernel
theorem dX5_revise_98 : decode cX5_revise 98 = .ok (.aload 5, 2) := by decide +kernel
theorem dX5_revise_100 : decode cX5_revise 100 = .ok (.aastore, 1) := by decide +kernel
theorem dX5_revise_101 : decode cX5_revise 101 = .ok (.aload_n 0, 1) := by decide +kernel
theorem dX5_revise_102 : decode cX5_revise 102 = .ok (.iload_n 1, 1) := by decide +kernel
theorem dX5_revise_103 : decode cX5_revise 103 = .ok (.aload 4, 2) := by decide +kernel
theorem dX5_revise_105 : decode cX5_revise 105 = .ok (.invokevirtual 305, 3) := by decide +kernel
theorem dX5_revise_108 : decode cX5_revise 108 = .ok (.invokevirtual 122, 3) := by decide +kernel
theorem dX5_revise_111 : decode cX5_revise 111 = .ok (.aload 5, 2) := by decide +kernel
theorem dX5_revise_113 : decode cX5_revise 113 = .ok (.getfield 293, 3) := by decide +kernel
theorem dX5_revise_116 : decode cX5_revise 116 = .ok (.ireturn, 1) := by decide +kernel
theorem dX5_mend_0 : decode cX5_mend 0 = .ok (.aload_n 2, 1) := by decide +kernel
theorem dX5_mend_1 : decode cX5_mend 1 = .ok (.iload_n 3, 1) := by decide +kernel
theorem dX5_mend_2 : decode cX5_mend 2 = .ok (.invokestatic 142, 3) := by decide +kernel
theorem dX5_mend_5 : decode cX5_mend 5 = .ok (.astore 7, 2) := by decide +kernel
theorem dX5_mend_7 : decode cX5_mend 7 = .ok (.aload_n 2, 1) := by decide +kernel
theorem dX5_mend_8 : decode cX5_mend 8 = .ok (.iload_n 3, 1) := by decide +kernel
theorem dX5_mend_9 : decode cX5_mend 9 = .ok (.invokestatic 80, 3) := by decide +kernel
theorem dX5_mend_12 : decode cX5_mend 12 = .ok (.astore 8, 2) := by decide +kernel
theorem dX5_mend_14 : decode cX5_mend 14 = .ok (.aload 7, 2) := by decide +kernel
theorem dX5_mend_16 : decode cX5_mend 16 = .ok (.ifnull 18, 3) := by decide +kernel
theorem dX5_mend_19 : decode cX5_mend 19 = .ok (.aload 8, 2) := by decide +kernel
theorem dX5_mend_21 : decode cX5_mend 21 = .ok (.ifnull 13, 3) := by decide +kernel
theorem dX5_mend_24 : decode cX5_mend 24 = .ok (.aload 8, 2) := by decide +kernel
theorem dX5_mend_26 : decode cX5_mend 26 = .ok (.getfield 139, 3) := by decide +kernel
theorem dX5_mend_29 : decode cX5_mend 29 = .ok (.iload 4, 2) := by decide +kernel
theorem dX5_mend_31 : decode cX5_mend 31 = .ok (.if_icmp .eq 14, 3) := by decide +kernel
theorem dX5_mend_34 : decode cX5_mend 34 = .ok (.new 37, 3) := by decide +kernel
theorem dX5_mend_37 : decode cX5_mend 37 = .ok (.dup, 1) := by decide +kernel
theorem dX5_mend_38 : decode cX5_mend 38 = .ok (.ldc_w 309, 3) := by decide +kernel
theorem dX5_mend_41 : decode cX5_mend 41 = .ok (.invokespecial 41, 3) := by decide +kernel
theorem dX5_mend_44 : decode cX5_mend 44 = .ok (.athrow, 1) := by decide +kernel
theorem dX5_mend_45 : decode cX5_mend 45 = .ok (.aload 8, 2) := by decide +kernel
theorem dX5_mend_47 : decode cX5_mend 47 = .ok (.iload 5, 2) := by decide +kernel
theorem dX5_mend_49 : decode cX5_mend 49 = .ok (.invokevirtual 311, 3) := by decide +kernel
theorem dX5_mend_52 : decode cX5_mend 52 = .ok (.aload 8, 2) := by decide +kernel
theorem dX5_mend_54 : decode cX5_mend 54 = .ok (.invokevirtual 305, 3) := by decide +kernel
theorem dX5_mend_57 : decode cX5_mend 57 = .ok (.isub, 1) := by decide +kernel
theorem dX5_mend_58 : decode cX5_mend 58 = .ok (.istore 9, 2) := by decide +kernel
theorem dX5_mend_60 : decode cX5_mend 60 = .ok (.aload_n 0, 1) := by decide +kernel
theorem dX5_mend_61 : decode cX5_mend 61 = .ok (.aload 7, 2) := by decide +kernel
theorem dX5_mend_63 : decode cX5_mend 63 = .ok (.getfield 113, 3) := by decide +kernel
theorem dX5_mend_66 : decode cX5_mend 66 = .ok (.iload 9, 2) := by decide +kernel
theorem dX5_mend_68 : decode cX5_mend 68 = .ok (.invokevirtual 116, 3) := by decide +kernel
theorem dX5_mend_71 : decode cX5_mend 71 = .ok (.ifCond .eq 13, 3) := by decide +kernel
theorem dX5_mend_74 : decode cX5_mend 74 = .ok (.new 37, 3) := by decide +kernel
theorem dX5_mend_77 : decode cX5_mend 77 = .ok (.dup, 1) := by decide +kernel
theorem dX5_mend_78 : decode cX5_mend 78 = .ok (.ldc 120, 2) := by decide +kernel
theorem dX5_mend_80 : decode cX5_mend 80 = .ok (.invokespecial 41, 3) := by decide +kernel
theorem dX5_mend_83 : decode cX5_mend 83 = .ok (.athrow, 1) := by decide +kernel
theorem dX5_mend_84 : decode cX5_mend 84 = .ok (.aload 8, 2) := by decide +kernel
theorem dX5_mend_86 : decode cX5_mend 86 = .ok (.iload 5, 2) := by decide +kernel
theorem dX5_mend_88 : decode cX5_mend 88 = .ok (.putfield 314, 3) := by decide +kernel
theorem dX5_mend_91 : decode cX5_mend 91 = .ok (.aload 8, 2) := by decide +kernel
theorem dX5_mend_93 : decode cX5_mend 93 = .ok (.iload 6, 2) := by decide +kernel
theorem dX5_mend_95 : decode cX5_mend 95 = .ok (.putfield 317, 3) := by decide +kernel
theorem dX5_mend_98 : decode cX5_mend 98 = .ok (.aload_n 0, 1) := by decide +kernel
theorem dX5_mend_99 : decode cX5_mend 99 = .ok (.aload 7, 2) := by decide +kernel
theorem dX5_mend_101 : decode cX5_mend 101 = .ok (.getfield 113, 3) := by decide +kernel
theorem dX5_mend_104 : decode cX5_mend 104 = .ok (.iload 9, 2) := by decide +kernel
theorem dX5_mend_106 : decode cX5_mend 106 = .ok (.invokevirtual 122, 3) := by decide +kernel
theorem dX5_mend_109 : decode cX5_mend 109 = .ok (.aload_n 0, 1) := by decide +kernel
theorem dX5_mend_110 : decode cX5_mend 110 = .ok (.aload_n 1, 1) := by decide +kernel
theorem dX5_mend_111 : decode cX5_mend 111 = .ok (.invokevirtual 320, 3) := by decide +kernel
theorem dX5_mend_114 : decode cX5_mend 114 = .ok (.ireturn, 1) := by decide +kernel
theorem dX5_gradeAgain_0 : decode cX5_gradeAgain 0 = .ok (.iconst 0, 1) := by decide +kernel
theorem dX5_gradeAgain_1 : decode cX5_gradeAgain 1 = .ok (.istore_n 2, 1) := by decide +kernel
theorem dX5_gradeAgain_2 : decode cX5_gradeAgain 2 = .ok (.iconst 0, 1) := by decide +kernel
theorem dX5_gradeAgain_3 : decode cX5_gradeAgain 3 = .ok (.istore_n 3, 1) := by decide +kernel
theorem dX5_gradeAgain_4 : decode cX5_gradeAgain 4 = .ok (.iload_n 3, 1) := by decide +kernel
theorem dX5_gradeAgain_5 : decode cX5_gradeAgain 5 = .ok (.bipush 12, 2) := by decide +kernel
theorem dX5_gradeAgain_7 : decode cX5_gradeAgain 7 = .ok (.if_icmp .ge 76, 3) := by decide +kernel
theorem dX5_gradeAgain_10 : decode cX5_gradeAgain 10 = .ok (.aload_n 1, 1) := by decide +kernel
theorem dX5_gradeAgain_11 : decode cX5_gradeAgain 11 = .ok (.getfield 160, 3) := by decide +kernel
theorem dX5_gradeAgain_14 : decode cX5_gradeAgain 14 = .ok (.iload_n 3, 1) := by decide +kernel
theorem dX5_gradeAgain_15 : decode cX5_gradeAgain 15 = .ok (.aaload, 1) := by decide +kernel
theorem dX5_gradeAgain_16 : decode cX5_gradeAgain 16 = .ok (.astore 4, 2) := by decide +kernel
theorem dX5_gradeAgain_18 : decode cX5_gradeAgain 18 = .ok (.aload 4, 2) := by decide +kernel
theorem dX5_gradeAgain_20 : decode cX5_gradeAgain 20 = .ok (.ifnull 57, 3) := by decide +kernel
theorem dX5_gradeAgain_23 : decode cX5_gradeAgain 23 = .ok (.aload 4, 2) := by decide +kernel
theorem dX5_gradeAgain_25 : decode cX5_gradeAgain 25 = .ok (.getfield 208, 3) := by decide +kernel
theorem dX5_gradeAgain_28 : decode cX5_gradeAgain 28 = .ok (.ifCond .ne 6, 3) := by decide +kernel
theorem dX5_gradeAgain_31 : decode cX5_gradeAgain 31 = .ok (.goto 46, 3) := by decide +kernel
theorem dX5_gradeAgain_34 : decode cX5_gradeAgain 34 = .ok (.aload_n 0, 1) := by decide +kernel
theorem dX5_gradeAgain_35 : decode cX5_gradeAgain 35 = .ok (.aload 4, 2) := by decide +kernel
theorem dX5_gradeAgain_37 : decode cX5_gradeAgain 37 = .ok (.iconst 0, 1) := by decide +kernel
theorem dX5_gradeAgain_38 : decode cX5_gradeAgain 38 = .ok (.invokevirtual 212, 3) := by decide +kernel
theorem dX5_gradeAgain_41 : decode cX5_gradeAgain 41 = .ok (.istore 5, 2) := by decide +kernel
theorem dX5_gradeAgain_43 : decode cX5_gradeAgain 43 = .ok (.iload 5, 2) := by decide +kernel
theorem dX5_gradeAgain_45 : decode cX5_gradeAgain 45 = .ok (.aload 4, 2) := by decide +kernel
theorem dX5_gradeAgain_47 : decode cX5_gradeAgain 47 = .ok (.getfield 216, 3) := by decide +kernel
theorem dX5_gradeAgain_50 : decode cX5_gradeAgain 50 = .ok (.if_icmp .eq 22, 3) := by decide +kernel
theorem dX5_gradeAgain_53 : decode cX5_gradeAgain 53 = .ok (.iinc 2 1, 3) := by decide +kernel
theorem dX5_gradeAgain_56 : decode cX5_gradeAgain 56 = .ok (.aload 4, 2) := by decide +kernel
theorem dX5_gradeAgain_58 : decode cX5_gradeAgain 58 = .ok (.iload 5, 2) := by decide +kernel
theorem dX5_gradeAgain_60 : decode cX5_gradeAgain 60 = .ok (.aload_n 1, 1) := by decide +kernel
theorem dX5_gradeAgain_61 : decode cX5_gradeAgain 61 = .ok (.getfield 166, 3) := by decide +kernel
theorem dX5_gradeAgain_64 : decode cX5_gradeAgain 64 = .ok (.iload_n 3, 1) := by decide +kernel
theorem dX5_gradeAgain_65 : decode cX5_gradeAgain 65 = .ok (.invokestatic 156, 3) := by decide +kernel
theorem dX5_gradeAgain_68 : decode cX5_gradeAgain 68 = .ok (.baload, 1) := by decide +kernel
theorem dX5_gradeAgain_69 : decode cX5_gradeAgain 69 = .ok (.invokevirtual 324, 3) := by decide +kernel
theorem dX5_gradeAgain_72 : decode cX5_gradeAgain 72 = .ok (.aload 4, 2) := by decide +kernel
theorem dX5_gradeAgain_74 : decode cX5_gradeAgain 74 = .ok (.invokevirtual 222, 3) := by decide +kernel
theorem dX5_gradeAgain_77 : decode cX5_gradeAgain 77 = .ok (.iinc 3 1, 3) := by decide +kernel
theorem dX5_gradeAgain_80 : decode cX5_gradeAgain 80 = .ok (.goto (-76), 3) := by decide +kernel
theorem dX5_gradeAgain_83 : decode cX5_gradeAgain 83 = .ok (.iload_n 2, 1) := by decide +kernel
theorem dX5_gradeAgain_84 : decode cX5_gradeAgain 84 = .ok (.ireturn, 1) := by decide +kernel
theorem dX5_grade_0 : decode cX5_grade 0 = .ok (.iconst 0, 1) := by decide +kernel
theorem dX5_grade_1 : decode cX5_grade 1 = .ok (.istore_n 3, 1) := by decide +kernel
theorem dX5_grade_2 : decode cX5_grade 2 = .ok (.iconst 0, 1) := by decide +kernel
theorem dX5_grade_3 : decode cX5_grade 3 = .ok (.istore 4, 2) := by decide +kernel
theorem dX5_grade_5 : decode cX5_grade 5 = .ok (.iload 4, 2) := by decide +kernel
theorem dX5_grade_7 : decode cX5_grade 7 = .ok (.iconst 5, 1) := by decide +kernel
theorem dX5_grade_8 : decode cX5_grade 8 = .ok (.if_icmp .ge 74, 3) := by decide +kernel
theorem dX5_grade_11 : decode cX5_grade 11 = .ok (.aload_n 1, 1) := by decide +kernel
theorem dX5_grade_12 : decode cX5_grade 12 = .ok (.getfield 180, 3) := by decide +kernel
theorem dX5_grade_15 : decode cX5_grade 15 = .ok (.iload 4, 2) := by decide +kernel
theorem dX5_grade_17 : decode cX5_grade 17 = .ok (.invokestatic 80, 3) := by decide +kernel
theorem dX5_grade_20 : decode cX5_grade 20 = .ok (.astore 5, 2) := by decide +kernel
theorem dX5_grade_22 : decode cX5_grade 22 = .ok (.aload_n 1, 1) := by decide +kernel
theorem dX5_grade_23 : decode cX5_grade 23 = .ok (.getfield 183, 3) := by decide +kernel
theorem dX5_grade_26 : decode cX5_grade 26 = .ok (.iload 4, 2) := by decide +kernel
theorem dX5_grade_28 : decode cX5_grade 28 = .ok (.aaload, 1) := by decide +kernel
theorem dX5_grade_29 : decode cX5_grade 29 = .ok (.astore 6, 2) := by decide +kernel
theorem dX5_grade_31 : decode cX5_grade 31 = .ok (.aload 5, 2) := by decide +kernel
theorem dX5_grade_33 : decode cX5_grade 33 = .ok (.ifnull 43, 3) := by decide +kernel
theorem dX5_grade_36 : decode cX5_grade 36 = .ok (.aload 6, 2) := by decide +kernel
theorem dX5_grade_38 : decode cX5_grade 38 = .ok (.ifnull 38, 3) := by decide +kernel
theorem dX5_grade_41 : decode cX5_grade 41 = .ok (.iload_n 3, 1) := by decide +kernel
theorem dX5_grade_42 : decode cX5_grade 42 = .ok (.aload 5, 2) := by decide +kernel
theorem dX5_grade_44 : decode cX5_grade 44 = .ok (.aload 6, 2) := by decide +kernel
theorem dX5_grade_46 : decode cX5_grade 46 = .ok (.aload 5, 2) := by decide +kernel
theorem dX5_grade_48 : decode cX5_grade 48 = .ok (.getfield 139, 3) := by decide +kernel
theorem dX5_grade_51 : decode cX5_grade 51 = .ok (.iconst 2, 1) := by decide +kernel
theorem dX5_grade_52 : decode cX5_grade 52 = .ok (.if_icmp .ne 18, 3) := by decide +kernel
theorem dX5_grade_55 : decode cX5_grade 55 = .ok (.aload_n 0, 1) := by decide +kernel
theorem dX5_grade_56 : decode cX5_grade 56 = .ok (.aload 5, 2) := by decide +kernel
theorem dX5_grade_58 : decode cX5_grade 58 = .ok (.getfield 314, 3) := by decide +kernel
theorem dX5_grade_61 : decode cX5_grade 61 = .ok (.aload 6, 2) := by decide +kernel
theorem dX5_grade_63 : decode cX5_grade 63 = .ok (.iload_n 2, 1) := by decide +kernel
theorem dX5_grade_64 : decode cX5_grade 64 = .ok (.invokevirtual 328, 3) := by decide +kernel
theorem dX5_grade_67 : decode cX5_grade 67 = .ok (.goto 4, 3) := by decide +kernel
theorem dX5_grade_70 : decode cX5_grade 70 = .ok (.iconst 0, 1) := by decide +kernel
theorem dX5_grade_71 : decode cX5_grade 71 = .ok (.invokevirtual 332, 3) := by decide +kernel
theorem dX5_grade_74 : decode cX5_grade 74 = .ok (.iadd, 1) := by decide +kernel
theorem dX5_grade_75 : decode cX5_grade 75 = .ok (.istore_n 3, 1) := by decide +kernel
theorem dX5_grade_76 : decode cX5_grade 76 = .ok (.iinc 4 1, 3) := by decide +kernel
theorem dX5_grade_79 : decode cX5_grade 79 = .ok (.goto (-74), 3) := by decide +kernel
theorem dX5_grade_82 : decode cX5_grade 82 = .ok (.iload_n 3, 1) := by decide +kernel
theorem dX5_grade_83 : decode cX5_grade 83 = .ok (.ireturn, 1) := by decide +kernel
theorem dX5_commonWords_0 : decode cX5_commonWords 0 = .ok (.iload_n 3, 1) := by decide +kernel
theorem dX5_commonWords_1 : decode cX5_commonWords 1 = .ok (.ifCond .eq 11, 3) := by decide +kernel
theorem dX5_commonWords_4 : decode cX5_commonWords 4 = .ok (.iload_n 1, 1) := by decide +kernel
theorem dX5_commonWords_5 : decode cX5_commonWords 5 = .ok (.aload_n 2, 1) := by decide +kernel
theorem dX5_commonWords_6 : decode cX5_commonWords 6 = .ok (.invokestatic 336, 3) := by decide +kernel
theorem dX5_commonWords_9 : decode cX5_commonWords 9 = .ok (.goto 9, 3) := by decide +kernel
theorem dX5_commonWords_12 : decode cX5_commonWords 12 = .ok (.aload_n 0, 1) := by decide +kernel
theorem dX5_commonWords_13 : decode cX5_commonWords 13 = .ok (.iload_n 1, 1) := by decide +kernel
theorem dX5_commonWords_14 : decode cX5_commonWords 14 = .ok (.aload_n 2, 1) := by decide +kernel
theorem dX5_commonWords_15 : decode cX5_commonWords 15 = .ok (.invokevirtual 340, 3) := by decide +kernel
theorem dX5_commonWords_18 : decode cX5_commonWords 18 = .ok (.ireturn, 1) := by decide +kernel
theorem dX5_wordAt_0 : decode cX5_wordAt 0 = .ok (.iload_n 0, 1) := by decide +kernel
theorem dX5_wordAt_1 : decode cX5_wordAt 1 = .ok (.iload_n 1, 1) := by decide +kernel
theorem dX5_wordAt_2 : decode cX5_wordAt 2 = .ok (.iconst 5, 1) := by decide +kernel
theorem dX5_wordAt_3 : decode cX5_wordAt 3 = .ok (.imul, 1) := by decide +kernel
theorem dX5_wordAt_4 : decode cX5_wordAt 4 = .ok (.iushr, 1) := by decide +kernel
theorem dX5_wordAt_5 : decode cX5_wordAt 5 = .ok (.bipush 31, 2) := by decide +kernel
theorem dX5_wordAt_7 : decode cX5_wordAt 7 = .ok (.iand, 1) := by decide +kernel
theorem dX5_wordAt_8 : decode cX5_wordAt 8 = .ok (.ireturn, 1) := by decide +kernel
theorem dX5_rowLength_0 : decode cX5_rowLength 0 = .ok (.iconst 0, 1) := by decide +kernel
theorem dX5_rowLength_1 : decode cX5_rowLength 1 = .ok (.istore_n 1, 1) := by decide +kernel
theorem dX5_rowLength_2 : decode cX5_rowLength 2 = .ok (.iload_n 0, 1) := by decide +kernel
theorem dX5_rowLength_3 : decode cX5_rowLength 3 = .ok (.istore_n 2, 1) := by decide +kernel
theorem dX5_rowLength_4 : decode cX5_rowLength 4 = .ok (.iload_n 1, 1) := by decide +kernel
theorem dX5_rowLength_5 : decode cX5_rowLength 5 = .ok (.bipush 6, 2) := by decide +kernel
theorem dX5_rowLength_7 : decode cX5_rowLength 7 = .ok (.if_icmp .ge 20, 3) := by decide +kernel
theorem dX5_rowLength_10 : decode cX5_rowLength 10 = .ok (.iload_n 2, 1) := by decide +kernel
theorem dX5_rowLength_11 : decode cX5_rowLength 11 = .ok (.bipush 31, 2) := by decide +kernel
theorem dX5_rowLength_13 : decode cX5_rowLength 13 = .ok (.iand, 1) := by decide +kernel
theorem dX5_rowLength_14 : decode cX5_rowLength 14 = .ok (.ifCond .eq 13, 3) := by decide +kernel
theorem dX5_rowLength_17 : decode cX5_rowLength 17 = .ok (.iinc 1 1, 3) := by decide +kernel
theorem dX5_rowLength_20 : decode cX5_rowLength 20 = .ok (.iload_n 2, 1) := by decide +kernel
theorem dX5_rowLength_21 : decode cX5_rowLength 21 = .ok (.iconst 5, 1) := by decide +kernel
theorem dX5_rowLength_22 : decode cX5_rowLength 22 = .ok (.iushr, 1) := by decide +kernel
theorem dX5_rowLength_23 : decode cX5_rowLength 23 = .ok (.istore_n 2, 1) := by decide +kernel
theorem dX5_rowLength_24 : decode cX5_rowLength 24 = .ok (.goto (-20), 3) := by decide +kernel
theorem dX5_rowLength_27 : decode cX5_rowLength 27 = .ok (.iload_n 1, 1) := by decide +kernel
theorem dX5_rowLength_28 : decode cX5_rowLength 28 = .ok (.ireturn, 1) := by decide +kernel
theorem dX5_longestCommon_0 : decode cX5_longestCommon 0 = .ok (.iload_n 1, 1) := by decide +kernel
theorem dX5_longestCommon_1 : decode cX5_longestCommon 1 = .ok (.invokestatic 282, 3) := by decide +kernel
theorem dX5_longestCommon_4 : decode cX5_longestCommon 4 = .ok (.istore_n 3, 1) := by decide +kernel
theorem dX5_longestCommon_5 : decode cX5_longestCommon 5 = .ok (.iconst 0, 1) := by decide +kernel
theorem dX5_longestCommon_6 : decode cX5_longestCommon 6 = .ok (.istore 4, 2) := by decide +kernel
theorem dX5_longestCommon_8 : decode cX5_longestCommon 8 = .ok (.iload 4, 2) := by decide +kernel
theorem dX5_longestCommon_10 : decode cX5_longestCommon 10 = .ok (.iload_n 3, 1) := by decide +kernel
theorem dX5_longestCommon_11 : decode cX5_longestCommon 11 = .ok (.if_icmp .gt 17, 3) := by decide +kernel
theorem dX5_longestCommon_14 : decode cX5_longestCommon 14 = .ok (.aload_n 0, 1) := by decide +kernel
theorem dX5_longestCommon_15 : decode cX5_longestCommon 15 = .ok (.getfield 26, 3) := by decide +kernel
theorem dX5_longestCommon_18 : decode cX5_longestCommon 18 = .ok (.iload 4, 2) := by decide +kernel
theorem dX5_longestCommon_20 : decode cX5_longestCommon 20 = .ok (.iconst 0, 1) := by decide +kernel
theorem dX5_longestCommon_21 : decode cX5_longestCommon 21 = .ok (.iastore, 1) := by decide +kernel
theorem dX5_longestCommon_22 : decode cX5_longestCommon 22 = .ok (.iinc 4 1, 3) := by decide +kernel
theorem dX5_longestCommon_25 : decode cX5_longestCommon 25 = .ok (.goto (-17), 3) := by decide +kernel
theorem dX5_longestCommon_28 : decode cX5_longestCommon 28 = .ok (.iconst 0, 1) := by decide +kernel
theorem dX5_longestCommon_29 : decode cX5_longestCommon 29 = .ok (.istore 4, 2) := by decide +kernel
theorem dX5_longestCommon_31 : decode cX5_longestCommon 31 = .ok (.iload 4, 2) := by decide +kernel
theorem dX5_longestCommon_33 : decode cX5_longestCommon 33 = .ok (.aload_n 2, 1) := by decide +kernel
theorem dX5_longestCommon_34 : decode cX5_longestCommon 34 = .ok (.getfield 343, 3) := by decide +kernel
theorem dX5_longestCommon_37 : decode cX5_longestCommon 37 = .ok (.if_icmp .ge 93, 3) := by decide +kernel
theorem dX5_longestCommon_40 : decode cX5_longestCommon 40 = .ok (.iconst 0, 1) := by decide +kernel
theorem dX5_longestCommon_41 : decode cX5_longestCommon 41 = .ok (.istore 5, 2) := by decide +kernel
theorem dX5_longestCommon_43 : decode cX5_longestCommon 43 = .ok (.iconst 1, 1) := by decide +kernel
theorem dX5_longestCommon_44 : decode cX5_longestCommon 44 = .ok (.istore 6, 2) := by decide +kernel
theorem dX5_longestCommon_46 : decode cX5_longestCommon 46 = .ok (.iload 6, 2) := by decide +kernel
theorem dX5_longestCommon_48 : decode cX5_longestCommon 48 = .ok (.iload_n 3, 1) := by decide +kernel
theorem dX5_longestCommon_49 : decode cX5_longestCommon 49 = .ok (.if_icmp .gt 75, 3) := by decide +kernel
theorem dX5_longestCommon_52 : decode cX5_longestCommon 52 = .ok (.aload_n 0, 1) := by decide +kernel
theorem dX5_longestCommon_53 : decode cX5_longestCommon 53 = .ok (.getfield 26, 3) := by decide +kernel
theorem dX5_longestCommon_56 : decode cX5_longestCommon 56 = .ok (.iload 6, 2) := by decide +kernel
theorem dX5_longestCommon_58 : decode cX5_longestCommon 58 = .ok (.iaload, 1) := by decide +kernel
theorem dX5_longestCommon_59 : decode cX5_longestCommon 59 = .ok (.istore 7, 2) := by decide +kernel
theorem dX5_longestCommon_61 : decode cX5_longestCommon 61 = .ok (.iload_n 1, 1) := by decide +kernel
theorem dX5_longestCommon_62 : decode cX5_longestCommon 62 = .ok (.iload 6, 2) := by decide +kernel
theorem dX5_longestCommon_64 : decode cX5_longestCommon 64 = .ok (.iconst 1, 1) := by decide +kernel
theorem dX5_longestCommon_65 : decode cX5_longestCommon 65 = .ok (.isub, 1) := by decide +kernel
theorem dX5_longestCommon_66 : decode cX5_longestCommon 66 = .ok (.invokestatic 346, 3) := by decide +kernel
theorem dX5_longestCommon_69 : decode cX5_longestCommon 69 = .ok (.aload_n 2, 1) := by decide +kernel
theorem dX5_longestCommon_70 : decode cX5_longestCommon 70 = .ok (.getfield 349, 3) := by decide +kernel
theorem dX5_longestCommon_73 : decode cX5_longestCommon 73 = .ok (.iload 4, 2) := by decide +kernel
theorem dX5_longestCommon_75 : decode cX5_longestCommon 75 = .ok (.iaload, 1) := by decide +kernel
theorem dX5_longestCommon_76 : decode cX5_longestCommon 76 = .ok (.if_icmp .ne 17, 3) := by decide +kernel
theorem dX5_longestCommon_79 : decode cX5_longestCommon 79 = .ok (.aload_n 0, 1) := by decide +kernel
theorem dX5_longestCommon_80 : decode cX5_longestCommon 80 = .ok (.getfield 26, 3) := by decide +kernel
theorem dX5_longestCommon_83 : decode cX5_longestCommon 83 = .ok (.iload 6, 2) := by decide +kernel
theorem dX5_longestCommon_85 : decode cX5_longestCommon 85 = .ok (.iload 5, 2) := by decide +kernel
theorem dX5_longestCommon_87 : decode cX5_longestCommon 87 = .ok (.iconst 1, 1) := by decide +kernel
theorem dX5_longestCommon_88 : decode cX5_longestCommon 88 = .ok (.iadd, 1) := by decide +kernel
theorem dX5_longestCommon_89 : decode cX5_longestCommon 89 = .ok (.iastore, 1) := by decide +kernel
theorem dX5_longestCommon_90 : decode cX5_longestCommon 90 = .ok (.goto 24, 3) := by decide +kernel
theorem dX5_longestCommon_93 : decode cX5_longestCommon 93 = .ok (.aload_n 0, 1) := by decide +kernel
theorem dX5_longestCommon_94 : decode cX5_longestCommon 94 = .ok (.getfield 26, 3) := by decide +kernel
theorem dX5_longestCommon_97 : decode cX5_longestCommon 97 = .ok (.iload 6, 2) := by decide +kernel
theorem dX5_longestCommon_99 : decode cX5_longestCommon 99 = .ok (.iload 7, 2) := by decide +kernel
theorem dX5_longestCommon_101 : decode cX5_longestCommon 101 = .ok (.aload_n 0, 1) := by decide +kernel
theorem dX5_longestCommon_102 : decode cX5_longestCommon 102 = .ok (.getfield 26, 3) := by decide +kernel
theorem dX5_longestCommon_105 : decode cX5_longestCommon 105 = .ok (.iload 6, 2) := by decide +kernel
theorem dX5_longestCommon_107 : decode cX5_longestCommon 107 = .ok (.iconst 1, 1) := by decide +kernel
theorem dX5_longestCommon_108 : decode cX5_longestCommon 108 = .ok (.isub, 1) := by decide +kernel
theorem dX5_longestCommon_109 : decode cX5_longestCommon 109 = .ok (.iaload, 1) := by decide +kernel
theorem dX5_longestCommon_110 : decode cX5_longestCommon 110 = .ok (.invokestatic 352, 3) := by decide +kernel
theorem dX5_longestCommon_113 : decode cX5_longestCommon 113 = .ok (.iastore, 1) := by decide +kernel
theorem dX5_longestCommon_114 : decode cX5_longestCommon 114 = .ok (.iload 7, 2) := by decide +kernel
theorem dX5_longestCommon_116 : decode cX5_longestCommon 116 = .ok (.istore 5, 2) := by decide +kernel
theorem dX5_longestCommon_118 : decode cX5_longestCommon 118 = .ok (.iinc 6 1, 3) := by decide +kernel
theorem dX5_longestCommon_121 : decode cX5_longestCommon 121 = .ok (.goto (-75), 3) := by decide +kernel
theorem dX5_longestCommon_124 : decode cX5_longestCommon 124 = .ok (.iinc 4 1, 3) := by decide +kernel
theorem dX5_longestCommon_127 : decode cX5_longestCommon 127 = .ok (.goto (-96), 3) := by decide +kernel
theorem dX5_longestCommon_130 : decode cX5_longestCommon 130 = .ok (.aload_n 0, 1) := by decide +kernel
theorem dX5_longestCommon_131 : decode cX5_longestCommon 131 = .ok (.getfield 26, 3) := by decide +kernel
theorem dX5_longestCommon_134 : decode cX5_longestCommon 134 = .ok (.iload_n 3, 1) := by decide +kernel
theorem dX5_longestCommon_135 : decode cX5_longestCommon 135 = .ok (.iaload, 1) := by decide +kernel
theorem dX5_longestCommon_136 : decode cX5_longestCommon 136 = .ok (.ireturn, 1) := by decide +kernel
theorem dX5_longestKept_0 : decode cX5_longestKept 0 = .ok (.iconst 1, 1) := by decide +kernel
theorem dX5_longestKept_1 : decode cX5_longestKept 1 = .ok (.iload_n 0, 1) := by decide +kernel
theorem dX5_longestKept_2 : decode cX5_longestKept 2 = .ok (.invokestatic 282, 3) := by decide +kernel
theorem dX5_longestKept_5 : decode cX5_longestKept 5 = .ok (.ishl, 1) := by decide +kernel
theorem dX5_longestKept_6 : decode cX5_longestKept 6 = .ok (.istore_n 2, 1) := by decide +kernel
theorem dX5_longestKept_7 : decode cX5_longestKept 7 = .ok (.iconst 0, 1) := by decide +kernel
theorem dX5_longestKept_8 : decode cX5_longestKept 8 = .ok (.istore_n 3, 1) := by decide +kernel
theorem dX5_longestKept_9 : decode cX5_longestKept 9 = .ok (.iconst 0, 1) := by decide +kernel
theorem dX5_longestKept_10 : decode cX5_longestKept 10 = .ok (.istore 4, 2) := by decide +kernel
theorem dX5_longestKept_12 : decode cX5_longestKept 12 = .ok (.iload 4, 2) := by decide +kernel
theorem dX5_longestKept_14 : decode cX5_longestKept 14 = .ok (.iload_n 2, 1) := by decide +kernel
theorem dX5_longestKept_15 : decode cX5_longestKept 15 = .ok (.if_icmp .ge 38, 3) := by decide +kernel
theorem dX5_longestKept_18 : decode cX5_longestKept 18 = .ok (.iload 4, 2) := by decide +kernel
theorem dX5_longestKept_20 : decode cX5_longestKept 20 = .ok (.invokestatic 357, 3) := by decide +kernel
theorem dX5_longestKept_23 : decode cX5_longestKept 23 = .ok (.istore 5, 2) := by decide +kernel
theorem dX5_longestKept_25 : decode cX5_longestKept 25 = .ok (.iload 5, 2) := by decide +kernel
theorem dX5_longestKept_27 : decode cX5_longestKept 27 = .ok (.iload_n 3, 1) := by decide +kernel
theorem dX5_longestKept_28 : decode cX5_longestKept 28 = .ok (.if_icmp .le 19, 3) := by decide +kernel
theorem dX5_longestKept_31 : decode cX5_longestKept 31 = .ok (.aload_n 1, 1) := by decide +kernel
theorem dX5_longestKept_32 : decode cX5_longestKept 32 = .ok (.iload_n 0, 1) := by decide +kernel
theorem dX5_longestKept_33 : decode cX5_longestKept 33 = .ok (.iload 4, 2) := by decide +kernel
theorem dX5_longestKept_35 : decode cX5_longestKept 35 = .ok (.invokestatic 362, 3) := by decide +kernel
theorem dX5_longestKept_38 : decode cX5_longestKept 38 = .ok (.invokevirtual 365, 3) := by decide +kernel
theorem dX5_longestKept_41 : decode cX5_longestKept 41 = .ok (.ifCond .eq 6, 3) := by decide +kernel
theorem dX5_longestKept_44 : decode cX5_longestKept 44 = .ok (.iload 5, 2) := by decide +kernel
theorem dX5_longestKept_46 : decode cX5_longestKept 46 = .ok (.istore_n 3, 1) := by decide +kernel
theorem dX5_longestKept_47 : decode cX5_longestKept 47 = .ok (.iinc 4 1, 3) := by decide +kernel
theorem dX5_longestKept_50 : decode cX5_longestKept 50 = .ok (.goto (-38), 3) := by decide +kernel
theorem dX5_longestKept_53 : decode cX5_longestKept 53 = .ok (.iload_n 3, 1) := by decide +kernel
theorem dX5_longestKept_54 : decode cX5_longestKept 54 = .ok (.ireturn, 1) := by decide +kernel
theorem dX5_keepWords_0 : decode cX5_keepWords 0 = .ok (.iconst 0, 1) := by decide +kernel
theorem dX5_keepWords_1 : decode cX5_keepWords 1 = .ok (.istore_n 2, 1) := by decide +kernel
theorem dX5_keepWords_2 : decode cX5_keepWords 2 = .ok (.iconst 0, 1) := by decide +kernel
theorem dX5_keepWords_3 : decode cX5_keepWords 3 = .ok (.istore_n 3, 1) := by decide +kernel
theorem dX5_keepWords_4 : decode cX5_keepWords 4 = .ok (.iconst 0, 1) := by decide +kernel
theorem dX5_keepWords_5 : decode cX5_keepWords 5 = .ok (.istore 4, 2) := by decide +kernel
theorem dX5_keepWords_7 : decode cX5_keepWords 7 = .ok (.iload 4, 2) := by decide +kernel
theorem dX5_keepWords_9 : decode cX5_keepWords 9 = .ok (.bipush 6, 2) := by decide +kernel
theorem dX5_keepWords_11 : decode cX5_keepWords 11 = .ok (.if_icmp .ge 34, 3) := by decide +kernel
theorem dX5_keepWords_14 : decode cX5_keepWords 14 = .ok (.iload_n 1, 1) := by decide +kernel
theorem dX5_keepWords_15 : decode cX5_keepWords 15 = .ok (.iload 4, 2) := by decide +kernel
theorem dX5_keepWords_17 : decode cX5_keepWords 17 = .ok (.iushr, 1) := by decide +kernel
theorem dX5_keepWords_18 : decode cX5_keepWords 18 = .ok (.iconst 1, 1) := by decide +kernel
theorem dX5_keepWords_19 : decode cX5_keepWords 19 = .ok (.iand, 1) := by decide +kernel
theorem dX5_keepWords_20 : decode cX5_keepWords 20 = .ok (.ifCond .eq 19, 3) := by decide +kernel
theorem dX5_keepWords_23 : decode cX5_keepWords 23 = .ok (.iload_n 2, 1) := by decide +kernel
theorem dX5_keepWords_24 : decode cX5_keepWords 24 = .ok (.iload_n 0, 1) := by decide +kernel
theorem dX5_keepWords_25 : decode cX5_keepWords 25 = .ok (.iload 4, 2) := by decide +kernel
theorem dX5_keepWords_27 : decode cX5_keepWords 27 = .ok (.invokestatic 346, 3) := by decide +kernel
theorem dX5_keepWords_30 : decode cX5_keepWords 30 = .ok (.iload_n 3, 1) := by decide +kernel
theorem dX5_keepWords_31 : decode cX5_keepWords 31 = .ok (.iconst 5, 1) := by decide +kernel
theorem dX5_keepWords_32 : decode cX5_keepWords 32 = .ok (.imul, 1) := by decide +kernel
theorem dX5_keepWords_33 : decode cX5_keepWords 33 = .ok (.ishl, 1) := by decide +kernel
theorem dX5_keepWords_34 : decode cX5_keepWords 34 = .ok (.ior, 1) := by decide +kernel
theorem dX5_keepWords_35 : decode cX5_keepWords 35 = .ok (.istore_n 2, 1) := by decide +kernel
theorem dX5_keepWords_36 : decode cX5_keepWords 36 = .ok (.iinc 3 1, 3) := by decide +kernel
theorem dX5_keepWords_39 : decode cX5_keepWords 39 = .ok (.iinc 4 1, 3) := by decide +kernel
theorem dX5_keepWords_42 : decode cX5_keepWords 42 = .ok (.goto (-35), 3) := by decide +kernel
theorem dX5_keepWords_45 : decode cX5_keepWords 45 = .ok (.iload_n 2, 1) := by decide +kernel
theorem dX5_keepWords_46 : decode cX5_keepWords 46 = .ok (.ireturn, 1) := by decide +kernel
theorem dX5_printOf_0 : decode cX5_printOf 0 = .ok (.iload_n 0, 1) := by decide +kernel
theorem dX5_printOf_1 : decode cX5_printOf 1 = .ok (.bipush 10, 2) := by decide +kernel
theorem dX5_printOf_3 : decode cX5_printOf 3 = .ok (.ishl, 1) := by decide +kernel
theorem dX5_printOf_4 : decode cX5_printOf 4 = .ok (.iload_n 1, 1) := by decide +kernel
theorem dX5_printOf_5 : decode cX5_printOf 5 = .ok (.iconst 5, 1) := by decide +kernel
theorem dX5_printOf_6 : decode cX5_printOf 6 = .ok (.ishl, 1) := by decide +kernel
theorem dX5_printOf_7 : decode cX5_printOf 7 = .ok (.iadd, 1) := by decide +kernel
theorem dX5_printOf_8 : decode cX5_printOf 8 = .ok (.iload_n 2, 1) := by decide +kernel
theorem dX5_printOf_9 : decode cX5_printOf 9 = .ok (.iadd, 1) := by decide +kernel
theorem dX5_printOf_10 : decode cX5_printOf 10 = .ok (.ireturn, 1) := by decide +kernel
theorem dX5_ruleHasPrint_0 : decode cX5_ruleHasPrint 0 = .ok (.iload_n 0, 1) := by decide +kernel
theorem dX5_ruleHasPrint_1 : decode cX5_ruleHasPrint 1 = .ok (.invokestatic 282, 3) := by decide +kernel
theorem dX5_ruleHasPrint_4 : decode cX5_ruleHasPrint 4 = .ok (.istore_n 2, 1) := by decide +kernel
theorem dX5_ruleHasPrint_5 : decode cX5_ruleHasPrint 5 = .ok (.iconst 0, 1) := by decide +kernel
theorem dX5_ruleHasPrint_6 : decode cX5_ruleHasPrint 6 = .ok (.istore_n 3, 1) := by decide +kernel
theorem dX5_ruleHasPrint_7 : decode cX5_ruleHasPrint 7 = .ok (.iload_n 3, 1) := by decide +kernel
theorem dX5_ruleHasPrint_8 : decode cX5_ruleHasPrint 8 = .ok (.iconst 3, 1) := by decide +kernel
theorem dX5_ruleHasPrint_9 : decode cX5_ruleHasPrint 9 = .ok (.iadd, 1) := by decide +kernel
theorem dX5_ruleHasPrint_10 : decode cX5_ruleHasPrint 10 = .ok (.iload_n 2, 1) := by decide +kernel
theorem dX5_ruleHasPrint_11 : decode cX5_ruleHasPrint 11 = .ok (.if_icmp .gt 37, 3) := by decide +kernel
theorem dX5_ruleHasPrint_14 : decode cX5_ruleHasPrint 14 = .ok (.iload_n 0, 1) := by decide +kernel
theorem dX5_ruleHasPrint_15 : decode cX5_ruleHasPrint 15 = .ok (.iload_n 3, 1) := by decide +kernel
theorem dX5_ruleHasPrint_16 : decode cX5_ruleHasPrint 16 = .ok (.invokestatic 346, 3) := by decide +kernel
theorem dX5_ruleHasPrint_19 : decode cX5_ruleHasPrint 19 = .ok (.iload_n 0, 1) := by decide +kernel
theorem dX5_ruleHasPrint_20 : decode cX5_ruleHasPrint 20 = .ok (.iload_n 3, 1) := by decide +kernel
theorem dX5_ruleHasPrint_21 : decode cX5_ruleHasPrint 21 = .ok (.iconst 1, 1) := by decide +kernel
theorem dX5_ruleHasPrint_22 : decode cX5_ruleHasPrint 22 = .ok (.iadd, 1) := by decide +kernel
theorem dX5_ruleHasPrint_23 : decode cX5_ruleHasPrint 23 = .ok (.invokestatic 346, 3) := by decide +kernel
theorem dX5_ruleHasPrint_26 : decode cX5_ruleHasPrint 26 = .ok (.iload_n 0, 1) := by decide +kernel
theorem dX5_ruleHasPrint_27 : decode cX5_ruleHasPrint 27 = .ok (.iload_n 3, 1) := by decide +kernel
theorem dX5_ruleHasPrint_28 : decode cX5_ruleHasPrint 28 = .ok (.iconst 2, 1) := by decide +kernel
theorem dX5_ruleHasPrint_29 : decode cX5_ruleHasPrint 29 = .ok (.iadd, 1) := by decide +kernel
theorem dX5_ruleHasPrint_30 : decode cX5_ruleHasPrint 30 = .ok (.invokestatic 346, 3) := by decide +kernel
theorem dX5_ruleHasPrint_33 : decode cX5_ruleHasPrint 33 = .ok (.invokestatic 368, 3) := by decide +kernel
theorem dX5_ruleHasPrint_36 : decode cX5_ruleHasPrint 36 = .ok (.iload_n 1, 1) := by decide +kernel
theorem dX5_ruleHasPrint_37 : decode cX5_ruleHasPrint 37 = .ok (.if_icmp .ne 5, 3) := by decide +kernel
theorem dX5_ruleHasPrint_40 : decode cX5_ruleHasPrint 40 = .ok (.iconst 1, 1) := by decide +kernel
theorem dX5_ruleHasPrint_41 : decode cX5_ruleHasPrint 41 = .ok (.ireturn, 1) := by decide +kernel
theorem dX5_ruleHasPrint_42 : decode cX5_ruleHasPrint 42 = .ok (.iinc 3 1, 3) := by decide +kernel
theorem dX5_ruleHasPrint_45 : decode cX5_ruleHasPrint 45 = .ok (.goto (-38), 3) := by decide +kernel
theorem dX5_ruleHasPrint_48 : decode cX5_ruleHasPrint 48 = .ok (.iconst 0, 1) := by decide +kernel
theorem dX5_ruleHasPrint_49 : decode cX5_ruleHasPrint 49 = .ok (.ireturn, 1) := by decide +kernel
theorem dX5_likenessBy_0 : decode cX5_likenessBy 0 = .ok (.iload_n 1, 1) := by decide +kernel
theorem dX5_likenessBy_1 : decode cX5_likenessBy 1 = .ok (.iload_n 2, 1) := by decide +kernel
theorem dX5_likenessBy_2 : decode cX5_likenessBy 2 = .ok (.invokestatic 371, 3) := by decide +kernel
theorem dX5_likenessBy_5 : decode cX5_likenessBy 5 = .ok (.istore_n 3, 1) := by decide +kernel
theorem dX5_likenessBy_6 : decode cX5_likenessBy 6 = .ok (.iload_n 3, 1) := by decide +kernel
theorem dX5_likenessBy_7 : decode cX5_likenessBy 7 = .ok (.ifCond .gt 7, 3) := by decide +kernel
theorem dX5_likenessBy_10 : decode cX5_likenessBy 10 = .ok (.iconst 0, 1) := by decide +kernel
theorem dX5_likenessBy_11 : decode cX5_likenessBy 11 = .ok (.goto 9, 3) := by decide +kernel
theorem dX5_likenessBy_14 : decode cX5_likenessBy 14 = .ok (.bipush 100, 2) := by decide +kernel
theorem dX5_likenessBy_16 : decode cX5_likenessBy 16 = .ok (.iload_n 0, 1) := by decide +kernel
theorem dX5_likenessBy_17 : decode cX5_likenessBy 17 = .ok (.imul, 1) := by decide +kernel
theorem dX5_likenessBy_18 : decode cX5_likenessBy 18 = .ok (.iload_n 3, 1) := by decide +kernel
theorem dX5_likenessBy_19 : decode cX5_likenessBy 19 = .ok (.idiv, 1) := by decide +kernel
theorem dX5_likenessBy_20 : decode cX5_likenessBy 20 = .ok (.ireturn, 1) := by decide +kernel
theorem dX5_isPairBy_0 : decode cX5_isPairBy 0 = .ok (.iload_n 0, 1) := by decide +kernel
theorem dX5_isPairBy_1 : decode cX5_isPairBy 1 = .ok (.iconst 2, 1) := by decide +kernel
theorem dX5_isPairBy_2 : decode cX5_isPairBy 2 = .ok (.if_icmp .lt 18, 3) := by decide +kernel
theorem dX5_isPairBy_5 : decode cX5_isPairBy 5 = .ok (.iload_n 0, 1) := by decide +kernel
theorem dX5_isPairBy_6 : decode cX5_isPairBy 6 = .ok (.iload_n 1, 1) := by decide +kernel
theorem dX5_isPairBy_7 : decode cX5_isPairBy 7 = .ok (.iload_n 2, 1) := by decide +kernel
theorem dX5_isPairBy_8 : decode cX5_isPairBy 8 = .ok (.invokestatic 242, 3) := by decide +kernel
theorem dX5_isPairBy_11 : decode cX5_isPairBy 11 = .ok (.bipush 60, 2) := by decide +kernel
theorem dX5_isPairBy_13 : decode cX5_isPairBy 13 = .ok (.if_icmp .lt 7, 3) := by decide +kernel
theorem dX5_isPairBy_16 : decode cX5_isPairBy 16 = .ok (.iconst 1, 1) := by decide +kernel
theorem dX5_isPairBy_17 : decode cX5_isPairBy 17 = .ok (.goto 4, 3) := by decide +kernel
theorem dX5_isPairBy_20 : decode cX5_isPairBy 20 = .ok (.iconst 0, 1) := by decide +kernel
theorem dX5_isPairBy_21 : decode cX5_isPairBy 21 = .ok (.ireturn, 1) := by decide +kernel
theorem dX5_collectThrees_0 : decode cX5_collectThrees 0 = .ok (.aload_n 0, 1) := by decide +kernel
theorem dX5_collectThrees_1 : decode cX5_collectThrees 1 = .ok (.getfield 34, 3) := by decide +kernel
theorem dX5_collectThrees_4 : decode cX5_collectThrees 4 = .ok (.iload_n 2, 1) := by decide +kernel
theorem dX5_collectThrees_5 : decode cX5_collectThrees 5 = .ok (.iconst 0, 1) := by decide +kernel
theorem dX5_collectThrees_6 : decode cX5_collectThrees 6 = .ok (.iastore, 1) := by decide +kernel
theorem dX5_collectThrees_7 : decode cX5_collectThrees 7 = .ok (.aload_n 1, 1) := by decide +kernel
theorem dX5_collectThrees_8 : decode cX5_collectThrees 8 = .ok (.ifnull 10, 3) := by decide +kernel
theorem dX5_collectThrees_11 : decode cX5_collectThrees 11 = .ok (.aload_n 1, 1) := by decide +kernel
theorem dX5_collectThrees_12 : decode cX5_collectThrees 12 = .ok (.invokevirtual 374, 3) := by decide +kernel
theorem dX5_collectThrees_15 : decode cX5_collectThrees 15 = .ok (.ifCond .ne 4, 3) := by decide +kernel
theorem dX5_collectThrees_18 : decode cX5_collectThrees 18 = .ok (.return_, 1) := by decide +kernel
theorem dX5_collectThrees_19 : decode cX5_collectThrees 19 = .ok (.iconst 0, 1) := by decide +kernel
theorem dX5_collectThrees_20 : decode cX5_collectThrees 20 = .ok (.istore_n 3, 1) := by decide +kernel
theorem dX5_collectThrees_21 : decode cX5_collectThrees 21 = .ok (.iload_n 3, 1) := by decide +kernel
theorem dX5_collectThrees_22 : decode cX5_collectThrees 22 = .ok (.iconst 5, 1) := by decide +kernel
theorem dX5_collectThrees_23 : decode cX5_collectThrees 23 = .ok (.if_icmp .ge 99, 3) := by decide +kernel
theorem dX5_collectThrees_26 : decode cX5_collectThrees 26 = .ok (.aload_n 1, 1) := by decide +kernel
theorem dX5_collectThrees_27 : decode cX5_collectThrees 27 = .ok (.getfield 180, 3) := by decide +kernel
theorem dX5_collectThrees_30 : decode cX5_collectThrees 30 = .ok (.iload_n 3, 1) := by decide +kernel
theorem dX5_collectThrees_31 : decode cX5_collectThrees 31 = .ok (.invokestatic 80, 3) := by decide +kernel
theorem dX5_collectThrees_34 : decode cX5_collectThrees 34 = .ok (.astore 4, 2) := by decide +kernel
theorem dX5_collectThrees_36 : decode cX5_collectThrees 36 = .ok (.aload_n 1, 1) := by decide +kernel
theorem dX5_collectThrees_37 : decode cX5_collectThrees 37 = .ok (.getfield 183, 3) := by decide +kernel
theorem dX5_collectThrees_40 : decode cX5_collectThrees 40 = .ok (.iload_n 3, 1) := by decide +kernel
theorem dX5_collectThrees_41 : decode cX5_collectThrees 41 = .ok (.aaload, 1) := by decide +kernel
theorem dX5_collectThrees_42 : decode cX5_collectThrees 42 = .ok (.astore 5, 2) := by decide +kernel
theorem dX5_collectThrees_44 : decode cX5_collectThrees 44 = .ok (.aload 4, 2) := by decide +kernel
theorem dX5_collectThrees_46 : decode cX5_collectThrees 46 = .ok (.ifnull 70, 3) := by decide +kernel
theorem dX5_collectThrees_49 : decode cX5_collectThrees 49 = .ok (.aload 4, 2) := by decide +kernel
theorem dX5_collectThrees_51 : decode cX5_collectThrees 51 = .ok (.getfield 139, 3) := by decide +kernel
theorem dX5_collectThrees_54 : decode cX5_collectThrees 54 = .ok (.iconst 2, 1) := by decide +kernel
theorem dX5_collectThrees_55 : decode cX5_collectThrees 55 = .ok (.if_icmp .ne 61, 3) := by decide +kernel
theorem dX5_collectThrees_58 : decode cX5_collectThrees 58 = .ok (.aload 5, 2) := by decide +kernel
theorem dX5_collectThrees_60 : decode cX5_collectThrees 60 = .ok (.ifnonnull 6, 3) := by decide +kernel
theorem dX5_collectThrees_63 : decode cX5_collectThrees 63 = .ok (.goto 53, 3) := by decide +kernel
theorem dX5_collectThrees_66 : decode cX5_collectThrees 66 = .ok (.iconst 0, 1) := by decide +kernel
theorem dX5_collectThrees_67 : decode cX5_collectThrees 67 = .ok (.istore 6, 2) := by decide +kernel
theorem dX5_collectThrees_69 : decode cX5_collectThrees 69 = .ok (.iload 6, 2) := by decide +kernel
theorem dX5_collectThrees_71 : decode cX5_collectThrees 71 = .ok (.iconst 3, 1) := by decide +kernel
theorem dX5_collectThrees_72 : decode cX5_collectThrees 72 = .ok (.iadd, 1) := by decide +kernel
theorem dX5_collectThrees_73 : decode cX5_collectThrees 73 = .ok (.aload 5, 2) := by decide +kernel
theorem dX5_collectThrees_75 : decode cX5_collectThrees 75 = .ok (.getfield 343, 3) := by decide +kernel
theorem dX5_collectThrees_78 : decode cX5_collectThrees 78 = .ok (.if_icmp .gt 38, 3) := by decide +kernel
theorem dX5_collectThrees_81 : decode cX5_collectThrees 81 = .ok (.aload 5, 2) := by decide +kernel
theorem dX5_collectThrees_83 : decode cX5_collectThrees 83 = .ok (.iload 6, 2) := by decide +kernel
theorem dX5_collectThrees_85 : decode cX5_collectThrees 85 = .ok (.invokevirtual 378, 3) := by decide +kernel
theorem dX5_collectThrees_88 : decode cX5_collectThrees 88 = .ok (.istore 7, 2) := by decide +kernel
theorem dX5_collectThrees_90 : decode cX5_collectThrees 90 = .ok (.aload 4, 2) := by decide +kernel
theorem dX5_collectThrees_92 : decode cX5_collectThrees 92 = .ok (.getfield 314, 3) := by decide +kernel
theorem dX5_collectThrees_95 : decode cX5_collectThrees 95 = .ok (.iload 7, 2) := by decide +kernel
theorem dX5_collectThrees_97 : decode cX5_collectThrees 97 = .ok (.invokestatic 381, 3) := by decide +kernel
theorem dX5_collectThrees_100 : decode cX5_collectThrees 100 = .ok (.ifCond .ne 10, 3) := by decide +kernel
theorem dX5_collectThrees_103 : decode cX5_collectThrees 103 = .ok (.aload_n 0, 1) := by decide +kernel
theorem dX5_collectThrees_104 : decode cX5_collectThrees 104 = .ok (.iload_n 2, 1) := by decide +kernel
theorem dX5_collectThrees_105 : decode cX5_collectThrees 105 = .ok (.iload 7, 2) := by decide +kernel
theorem dX5_collectThrees_107 : decode cX5_collectThrees 107 = .ok (.invokevirtual 384, 3) := by decide +kernel
theorem dX5_collectThrees_110 : decode cX5_collectThrees 110 = .ok (.iinc 6 1, 3) := by decide +kernel
theorem dX5_collectThrees_113 : decode cX5_collectThrees 113 = .ok (.goto (-44), 3) := by decide +kernel
theorem dX5_collectThrees_116 : decode cX5_collectThrees 116 = .ok (.iinc 3 1, 3) := by decide +kernel
theorem dX5_collectThrees_119 : decode cX5_collectThrees 119 = .ok (.goto (-98), 3) := by decide +kernel
theorem dX5_collectThrees_122 : decode cX5_collectThrees 122 = .ok (.return_, 1) := by decide +kernel
theorem dX5_collectThree_0 : decode cX5_collectThree 0 = .ok (.aload_n 0, 1) := by decide +kernel
theorem dX5_collectThree_1 : decode cX5_collectThree 1 = .ok (.getfield 34, 3) := by decide +kernel
theorem dX5_collectThree_4 : decode cX5_collectThree 4 = .ok (.iload_n 1, 1) := by decide +kernel
theorem dX5_collectThree_5 : decode cX5_collectThree 5 = .ok (.iaload, 1) := by decide +kernel
theorem dX5_collectThree_6 : decode cX5_collectThree 6 = .ok (.istore_n 3, 1) := by decide +kernel
theorem dX5_collectThree_7 : decode cX5_collectThree 7 = .ok (.aload_n 0, 1) := by decide +kernel
theorem dX5_collectThree_8 : decode cX5_collectThree 8 = .ok (.iload_n 1, 1) := by decide +kernel
theorem dX5_collectThree_9 : decode cX5_collectThree 9 = .ok (.iload_n 2, 1) := by decide +kernel
theorem dX5_collectThree_10 : decode cX5_collectThree 10 = .ok (.invokevirtual 387, 3) := by decide +kernel
theorem dX5_collectThree_13 : decode cX5_collectThree 13 = .ok (.ifCond .ne 27, 3) := by decide +kernel
theorem dX5_collectThree_16 : decode cX5_collectThree 16 = .ok (.iload_n 3, 1) := by decide +kernel
theorem dX5_collectThree_17 : decode cX5_collectThree 17 = .ok (.bipush 50, 2) := by decide +kernel
theorem dX5_collectThree_19 : decode cX5_collectThree 19 = .ok (.if_icmp .ge 21, 3) := by decide +kernel
theorem dX5_collectThree_22 : decode cX5_collectThree 22 = .ok (.aload_n 0, 1) := by decide +kernel
theorem dX5_collectThree_23 : decode cX5_collectThree 23 = .ok (.getfield 31, 3) := by decide +kernel
theorem dX5_collectThree_26 : decode cX5_collectThree 26 = .ok (.iload_n 1, 1) := by decide +kernel
theorem dX5_collectThree_27 : decode cX5_collectThree 27 = .ok (.aaload, 1) := by decide +kernel
theorem dX5_collectThree_28 : decode cX5_collectThree 28 = .ok (.iload_n 3, 1) := by decide +kernel
theorem dX5_collectThree_29 : decode cX5_collectThree 29 = .ok (.iload_n 2, 1) := by decide +kernel
theorem dX5_collectThree_30 : decode cX5_collectThree 30 = .ok (.iastore, 1) := by decide +kernel
theorem dX5_collectThree_31 : decode cX5_collectThree 31 = .ok (.aload_n 0, 1) := by decide +kernel
theorem dX5_collectThree_32 : decode cX5_collectThree 32 = .ok (.getfield 34, 3) := by decide +kernel
theorem dX5_collectThree_35 : decode cX5_collectThree 35 = .ok (.iload_n 1, 1) := by decide +kernel
theorem dX5_collectThree_36 : decode cX5_collectThree 36 = .ok (.iload_n 3, 1) := by decide +kernel
theorem dX5_collectThree_37 : decode cX5_collectThree 37 = .ok (.iconst 1, 1) := by decide +kernel
theorem dX5_collectThree_38 : decode cX5_collectThree 38 = .ok (.iadd, 1) := by decide +kernel
theorem dX5_collectThree_39 : decode cX5_collectThree 39 = .ok (.iastore, 1) := by decide +kernel
theorem dX5_collectThree_40 : decode cX5_collectThree 40 = .ok (.return_, 1) := by decide +kernel
theorem dX5_isCollected_0 : decode cX5_isCollected 0 = .ok (.iconst 0, 1) := by decide +kernel
theorem dX5_isCollected_1 : decode cX5_isCollected 1 = .ok (.istore_n 3, 1) := by decide +kernel
theorem dX5_isCollected_2 : decode cX5_isCollected 2 = .ok (.iload_n 3, 1) := by decide +kernel
theorem dX5_isCollected_3 : decode cX5_isCollected 3 = .ok (.aload_n 0, 1) := by decide +kernel
theorem dX5_isCollected_4 : decode cX5_isCollected 4 = .ok (.getfield 34, 3) := by decide +kernel
theorem dX5_isCollected_7 : decode cX5_isCollected 7 = .ok (.iload_n 1, 1) := by decide +kernel
theorem dX5_isCollected_8 : decode cX5_isCollected 8 = .ok (.iaload, 1) := by decide +kernel
theorem dX5_isCollected_9 : decode cX5_isCollected 9 = .ok (.if_icmp .ge 23, 3) := by decide +kernel
theorem dX5_isCollected_12 : decode cX5_isCollected 12 = .ok (.aload_n 0, 1) := by decide +kernel
theorem dX5_isCollected_13 : decode cX5_isCollected 13 = .ok (.getfield 31, 3) := by decide +kernel
theorem dX5_isCollected_16 : decode cX5_isCollected 16 = .ok (.iload_n 1, 1) := by decide +kernel
theorem dX5_isCollected_17 : decode cX5_isCollected 17 = .ok (.aaload, 1) := by decide +kernel
theorem dX5_isCollected_18 : decode cX5_isCollected 18 = .ok (.iload_n 3, 1) := by decide +kernel
theorem dX5_isCollected_19 : decode cX5_isCollected 19 = .ok (.iaload, 1) := by decide +kernel
theorem dX5_isCollected_20 : decode cX5_isCollected 20 = .ok (.iload_n 2, 1) := by decide +kernel
theorem dX5_isCollected_21 : decode cX5_isCollected 21 = .ok (.if_icmp .ne 5, 3) := by decide +kernel
theorem dX5_isCollected_24 : decode cX5_isCollected 24 = .ok (.iconst 1, 1) := by decide +kernel
theorem dX5_isCollected_25 : decode cX5_isCollected 25 = .ok (.ireturn, 1) := by decide +kernel
theorem dX5_isCollected_26 : decode cX5_isCollected 26 = .ok (.iinc 3 1, 3) := by decide +kernel
theorem dX5_isCollected_29 : decode cX5_isCollected 29 = .ok (.goto (-27), 3) := by decide +kernel
theorem dX5_isCollected_32 : decode cX5_isCollected 32 = .ok (.iconst 0, 1) := by decide +kernel
theorem dX5_isCollected_33 : decode cX5_isCollected 33 = .ok (.ireturn, 1) := by decide +kernel
theorem dX5_commonThrees_0 : decode cX5_commonThrees 0 = .ok (.iconst 0, 1) := by decide +kernel
theorem dX5_commonThrees_1 : decode cX5_commonThrees 1 = .ok (.istore_n 3, 1) := by decide +kernel
theorem dX5_commonThrees_2 : decode cX5_commonThrees 2 = .ok (.iconst 0, 1) := by decide +kernel
theorem dX5_commonThrees_3 : decode cX5_commonThrees 3 = .ok (.istore 4, 2) := by decide +kernel
theorem dX5_commonThrees_5 : decode cX5_commonThrees 5 = .ok (.iload 4, 2) := by decide +kernel
theorem dX5_commonThrees_7 : decode cX5_commonThrees 7 = .ok (.aload_n 0, 1) := by decide +kernel
theorem dX5_commonThrees_8 : decode cX5_commonThrees 8 = .ok (.getfield 34, 3) := by decide +kernel
theorem dX5_commonThrees_11 : decode cX5_commonThrees 11 = .ok (.iload_n 1, 1) := by decide +kernel
theorem dX5_commonThrees_12 : decode cX5_commonThrees 12 = .ok (.iaload, 1) := by decide +kernel
theorem dX5_commonThrees_13 : decode cX5_commonThrees 13 = .ok (.if_icmp .ge 29, 3) := by decide +kernel
theorem dX5_commonThrees_16 : decode cX5_commonThrees 16 = .ok (.aload_n 0, 1) := by decide +kernel
theorem dX5_commonThrees_17 : decode cX5_commonThrees 17 = .ok (.iload_n 2, 1) := by decide +kernel
theorem dX5_commonThrees_18 : decode cX5_commonThrees 18 = .ok (.aload_n 0, 1) := by decide +kernel
theorem dX5_commonThrees_19 : decode cX5_commonThrees 19 = .ok (.getfield 31, 3) := by decide +kernel
theorem dX5_commonThrees_22 : decode cX5_commonThrees 22 = .ok (.iload_n 1, 1) := by decide +kernel
theorem dX5_commonThrees_23 : decode cX5_commonThrees 23 = .ok (.aaload, 1) := by decide +kernel
theorem dX5_commonThrees_24 : decode cX5_commonThrees 24 = .ok (.iload 4, 2) := by decide +kernel
theorem dX5_commonThrees_26 : decode cX5_commonThrees 26 = .ok (.iaload, 1) := by decide +kernel
theorem dX5_commonThrees_27 : decode cX5_commonThrees 27 = .ok (.invokevirtual 387, 3) := by decide +kernel
theorem dX5_commonThrees_30 : decode cX5_commonThrees 30 = .ok (.ifCond .eq 6, 3) := by decide +kernel
theorem dX5_commonThrees_33 : decode cX5_commonThrees 33 = .ok (.iinc 3 1, 3) := by decide +kernel
theorem dX5_commonThrees_36 : decode cX5_commonThrees 36 = .ok (.iinc 4 1, 3) := by decide +kernel
theorem dX5_commonThrees_39 : decode cX5_commonThrees 39 = .ok (.goto (-34), 3) := by decide +kernel
theorem dX5_commonThrees_42 : decode cX5_commonThrees 42 = .ok (.iload_n 3, 1) := by decide +kernel
theorem dX5_commonThrees_43 : decode cX5_commonThrees 43 = .ok (.ireturn, 1) := by decide +kernel
theorem dX5_isClass_0 : decode cX5_isClass 0 = .ok (.iload_n 0, 1) := by decide +kernel
theorem dX5_isClass_1 : decode cX5_isClass 1 = .ok (.ifCond .lt 12, 3) := by decide +kernel
theorem dX5_isClass_4 : decode cX5_isClass 4 = .ok (.iload_n 0, 1) := by decide +kernel
theorem dX5_isClass_5 : decode cX5_isClass 5 = .ok (.iconst 4, 1) := by decide +kernel
theorem dX5_isClass_6 : decode cX5_isClass 6 = .ok (.if_icmp .ge 7, 3) := by decide +kernel
theorem dX5_isClass_9 : decode cX5_isClass 9 = .ok (.iconst 1, 1) := by decide +kernel
theorem dX5_isClass_10 : decode cX5_isClass 10 = .ok (.goto 4, 3) := by decide +kernel
theorem dX5_isClass_13 : decode cX5_isClass 13 = .ok (.iconst 0, 1) := by decide +kernel
theorem dX5_isClass_14 : decode cX5_isClass 14 = .ok (.ireturn, 1) := by decide +kernel
theorem dX5_passesQuota_0 : decode cX5_passesQuota 0 = .ok (.iload_n 1, 1) := by decide +kernel
theorem dX5_passesQuota_1 : decode cX5_passesQuota 1 = .ok (.invokestatic 390, 3) := by decide +kernel
theorem dX5_passesQuota_4 : decode cX5_passesQuota 4 = .ok (.ifCond .eq 28, 3) := by decide +kernel
theorem dX5_passesQuota_7 : decode cX5_passesQuota 7 = .ok (.iload_n 2, 1) := by decide +kernel
theorem dX5_passesQuota_8 : decode cX5_passesQuota 8 = .ok (.ifCond .le 24, 3) := by decide +kernel
theorem dX5_passesQuota_11 : decode cX5_passesQuota 11 = .ok (.aload_n 0, 1) := by decide +kernel
theorem dX5_passesQuota_12 : decode cX5_passesQuota 12 = .ok (.getfield 23, 3) := by decide +kernel
theorem dX5_passesQuota_15 : decode cX5_passesQuota 15 = .ok (.iload_n 1, 1) := by decide +kernel
theorem dX5_passesQuota_16 : decode cX5_passesQuota 16 = .ok (.iaload, 1) := by decide +kernel
theorem dX5_passesQuota_17 : decode cX5_passesQuota 17 = .ok (.iload_n 2, 1) := by decide +kernel
theorem dX5_passesQuota_18 : decode cX5_passesQuota 18 = .ok (.iadd, 1) := by decide +kernel
theorem dX5_passesQuota_19 : decode cX5_passesQuota 19 = .ok (.aload_n 0, 1) := by decide +kernel
theorem dX5_passesQuota_20 : decode cX5_passesQuota 20 = .ok (.getfield 19, 3) := by decide +kernel
theorem dX5_passesQuota_23 : decode cX5_passesQuota 23 = .ok (.iload_n 1, 1) := by decide +kernel
theorem dX5_passesQuota_24 : decode cX5_passesQuota 24 = .ok (.iaload, 1) := by decide +kernel
theorem dX5_passesQuota_25 : decode cX5_passesQuota 25 = .ok (.if_icmp .le 7, 3) := by decide +kernel
theorem dX5_passesQuota_28 : decode cX5_passesQuota 28 = .ok (.iconst 1, 1) := by decide +kernel
theorem dX5_passesQuota_29 : decode cX5_passesQuota 29 = .ok (.goto 4, 3) := by decide +kernel
theorem dX5_passesQuota_32 : decode cX5_passesQuota 32 = .ok (.iconst 0, 1) := by decide +kernel
theorem dX5_passesQuota_33 : decode cX5_passesQuota 33 = .ok (.ireturn, 1) := by decide +kernel
theorem dX5_addUse_0 : decode cX5_addUse 0 = .ok (.iload_n 1, 1) := by decide +kernel
theorem dX5_addUse_1 : decode cX5_addUse 1 = .ok (.invokestatic 390, 3) := by decide +kernel
theorem dX5_addUse_4 : decode cX5_addUse 4 = .ok (.ifCond .eq 13, 3) := by decide +kernel
theorem dX5_addUse_7 : decode cX5_addUse 7 = .ok (.aload_n 0, 1) := by decide +kernel
theorem dX5_addUse_8 : decode cX5_addUse 8 = .ok (.getfield 23, 3) := by decide +kernel
theorem dX5_addUse_11 : decode cX5_addUse 11 = .ok (.iload_n 1, 1) := by decide +kernel
theorem dX5_addUse_12 : decode cX5_addUse 12 = .ok (.dup2, 1) := by decide +kernel
theorem dX5_addUse_13 : decode cX5_addUse 13 = .ok (.iaload, 1) := by decide +kernel
theorem dX5_addUse_14 : decode cX5_addUse 14 = .ok (.iload_n 2, 1) := by decide +kernel
theorem dX5_addUse_15 : decode cX5_addUse 15 = .ok (.iadd, 1) := by decide +kernel
theorem dX5_addUse_16 : decode cX5_addUse 16 = .ok (.iastore, 1) := by decide +kernel
theorem dX5_addUse_17 : decode cX5_addUse 17 = .ok (.return_, 1) := by decide +kernel
