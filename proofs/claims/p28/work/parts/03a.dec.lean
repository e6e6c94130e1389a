theorem dX0_init_0 : decode cX0_init 0 = .ok (.aload_n 0, 1) := by decide +kernel
theorem dX0_init_1 : decode cX0_init 1 = .ok (.invokespecial 3, 3) := by decide +kernel
theorem dX0_init_4 : decode cX0_init 4 = .ok (.aload_n 0, 1) := by decide +kernel
theorem dX0_init_5 : decode cX0_init 5 = .ok (.iload_n 1, 1) := by decide +kernel
theorem dX0_init_6 : decode cX0_init 6 = .ok (.putfield 9, 3) := by decide +kernel
theorem dX0_init_9 : decode cX0_init 9 = .ok (.aload_n 0, 1) := by decide +kernel
theorem dX0_init_10 : decode cX0_init 10 = .ok (.iload_n 2, 1) := by decide +kernel
theorem dX0_init_11 : decode cX0_init 11 = .ok (.putfield 15, 3) := by decide +kernel
theorem dX0_init_14 : decode cX0_init 14 = .ok (.aload_n 0, 1) := by decide +kernel
theorem dX0_init_15 : decode cX0_init 15 = .ok (.iload_n 2, 1) := by decide +kernel
theorem dX0_init_16 : decode cX0_init 16 = .ok (.putfield 18, 3) := by decide +kernel
theorem dX0_init_19 : decode cX0_init 19 = .ok (.aload_n 0, 1) := by decide +kernel
theorem dX0_init_20 : decode cX0_init 20 = .ok (.iconst (-1), 1) := by decide +kernel
theorem dX0_init_21 : decode cX0_init 21 = .ok (.putfield 21, 3) := by decide +kernel
theorem dX0_init_24 : decode cX0_init 24 = .ok (.aload_n 0, 1) := by decide +kernel
theorem dX0_init_25 : decode cX0_init 25 = .ok (.iconst (-1), 1) := by decide +kernel
theorem dX0_init_26 : decode cX0_init 26 = .ok (.putfield 24, 3) := by decide +kernel
theorem dX0_init_29 : decode cX0_init 29 = .ok (.aload_n 0, 1) := by decide +kernel
theorem dX0_init_30 : decode cX0_init 30 = .ok (.iconst 4, 1) := by decide +kernel
theorem dX0_init_31 : decode cX0_init 31 = .ok (.newarray .int, 2) := by decide +kernel
theorem dX0_init_33 : decode cX0_init 33 = .ok (.putfield 27, 3) := by decide +kernel
theorem dX0_init_36 : decode cX0_init 36 = .ok (.aload_n 0, 1) := by decide +kernel
theorem dX0_init_37 : decode cX0_init 37 = .ok (.iconst 4, 1) := by decide +kernel
theorem dX0_init_38 : decode cX0_init 38 = .ok (.newarray .int, 2) := by decide +kernel
theorem dX0_init_40 : decode cX0_init 40 = .ok (.putfield 31, 3) := by decide +kernel
theorem dX0_init_43 : decode cX0_init 43 = .ok (.return_, 1) := by decide +kernel
theorem dX0_forgetMarks_0 : decode cX0_forgetMarks 0 = .ok (.iconst 0, 1) := by decide +kernel
theorem dX0_forgetMarks_1 : decode cX0_forgetMarks 1 = .ok (.istore_n 1, 1) := by decide +kernel
theorem dX0_forgetMarks_2 : decode cX0_forgetMarks 2 = .ok (.iload_n 1, 1) := by decide +kernel
theorem dX0_forgetMarks_3 : decode cX0_forgetMarks 3 = .ok (.aload_n 0, 1) := by decide +kernel
theorem dX0_forgetMarks_4 : decode cX0_forgetMarks 4 = .ok (.getfield 27, 3) := by decide +kernel
theorem dX0_forgetMarks_7 : decode cX0_forgetMarks 7 = .ok (.arraylength, 1) := by decide +kernel
theorem dX0_forgetMarks_8 : decode cX0_forgetMarks 8 = .ok (.if_icmp .ge 16, 3) := by decide +kernel
theorem dX0_forgetMarks_11 : decode cX0_forgetMarks 11 = .ok (.aload_n 0, 1) := by decide +kernel
theorem dX0_forgetMarks_12 : decode cX0_forgetMarks 12 = .ok (.getfield 27, 3) := by decide +kernel
theorem dX0_forgetMarks_15 : decode cX0_forgetMarks 15 = .ok (.iload_n 1, 1) := by decide +kernel
theorem dX0_forgetMarks_16 : decode cX0_forgetMarks 16 = .ok (.iconst (-1), 1) := by decide +kernel
theorem dX0_forgetMarks_17 : decode cX0_forgetMarks 17 = .ok (.iastore, 1) := by decide +kernel
theorem dX0_forgetMarks_18 : decode cX0_forgetMarks 18 = .ok (.iinc 1 1, 3) := by decide +kernel
theorem dX0_forgetMarks_21 : decode cX0_forgetMarks 21 = .ok (.goto (-19), 3) := by decide +kernel
theorem dX0_forgetMarks_24 : decode cX0_forgetMarks 24 = .ok (.return_, 1) := by decide +kernel
theorem dX0_markBy_0 : decode cX0_markBy 0 = .ok (.iload_n 1, 1) := by decide +kernel
theorem dX0_markBy_1 : decode cX0_markBy 1 = .ok (.ifCond .lt 21, 3) := by decide +kernel
theorem dX0_markBy_4 : decode cX0_markBy 4 = .ok (.iload_n 1, 1) := by decide +kernel
theorem dX0_markBy_5 : decode cX0_markBy 5 = .ok (.aload_n 0, 1) := by decide +kernel
theorem dX0_markBy_6 : decode cX0_markBy 6 = .ok (.getfield 27, 3) := by decide +kernel
theorem dX0_markBy_9 : decode cX0_markBy 9 = .ok (.arraylength, 1) := by decide +kernel
theorem dX0_markBy_10 : decode cX0_markBy 10 = .ok (.if_icmp .ge 12, 3) := by decide +kernel
theorem dX0_markBy_13 : decode cX0_markBy 13 = .ok (.aload_n 0, 1) := by decide +kernel
theorem dX0_markBy_14 : decode cX0_markBy 14 = .ok (.getfield 27, 3) := by decide +kernel
theorem dX0_markBy_17 : decode cX0_markBy 17 = .ok (.iload_n 1, 1) := by decide +kernel
theorem dX0_markBy_18 : decode cX0_markBy 18 = .ok (.iaload, 1) := by decide +kernel
theorem dX0_markBy_19 : decode cX0_markBy 19 = .ok (.goto 4, 3) := by decide +kernel
theorem dX0_markBy_22 : decode cX0_markBy 22 = .ok (.iconst (-1), 1) := by decide +kernel
theorem dX0_markBy_23 : decode cX0_markBy 23 = .ok (.ireturn, 1) := by decide +kernel
theorem dX0_takeMark_0 : decode cX0_takeMark 0 = .ok (.iload_n 1, 1) := by decide +kernel
theorem dX0_takeMark_1 : decode cX0_takeMark 1 = .ok (.ifCond .lt 19, 3) := by decide +kernel
theorem dX0_takeMark_4 : decode cX0_takeMark 4 = .ok (.iload_n 1, 1) := by decide +kernel
theorem dX0_takeMark_5 : decode cX0_takeMark 5 = .ok (.aload_n 0, 1) := by decide +kernel
theorem dX0_takeMark_6 : decode cX0_takeMark 6 = .ok (.getfield 27, 3) := by decide +kernel
theorem dX0_takeMark_9 : decode cX0_takeMark 9 = .ok (.arraylength, 1) := by decide +kernel
theorem dX0_takeMark_10 : decode cX0_takeMark 10 = .ok (.if_icmp .ge 10, 3) := by decide +kernel
theorem dX0_takeMark_13 : decode cX0_takeMark 13 = .ok (.aload_n 0, 1) := by decide +kernel
theorem dX0_takeMark_14 : decode cX0_takeMark 14 = .ok (.getfield 27, 3) := by decide +kernel
theorem dX0_takeMark_17 : decode cX0_takeMark 17 = .ok (.iload_n 1, 1) := by decide +kernel
theorem dX0_takeMark_18 : decode cX0_takeMark 18 = .ok (.iload_n 2, 1) := by decide +kernel
theorem dX0_takeMark_19 : decode cX0_takeMark 19 = .ok (.iastore, 1) := by decide +kernel
theorem dX0_takeMark_20 : decode cX0_takeMark 20 = .ok (.return_, 1) := by decide +kernel
theorem dX0_placeBy_0 : decode cX0_placeBy 0 = .ok (.iload_n 1, 1) := by decide +kernel
theorem dX0_placeBy_1 : decode cX0_placeBy 1 = .ok (.ifCond .lt 21, 3) := by decide +kernel
theorem dX0_placeBy_4 : decode cX0_placeBy 4 = .ok (.iload_n 1, 1) := by decide +kernel
theorem dX0_placeBy_5 : decode cX0_placeBy 5 = .ok (.aload_n 0, 1) := by decide +kernel
theorem dX0_placeBy_6 : decode cX0_placeBy 6 = .ok (.getfield 31, 3) := by decide +kernel
theorem dX0_placeBy_9 : decode cX0_placeBy 9 = .ok (.arraylength, 1) := by decide +kernel
theorem dX0_placeBy_10 : decode cX0_placeBy 10 = .ok (.if_icmp .ge 12, 3) := by decide +kernel
theorem dX0_placeBy_13 : decode cX0_placeBy 13 = .ok (.aload_n 0, 1) := by decide +kernel
theorem dX0_placeBy_14 : decode cX0_placeBy 14 = .ok (.getfield 31, 3) := by decide +kernel
theorem dX0_placeBy_17 : decode cX0_placeBy 17 = .ok (.iload_n 1, 1) := by decide +kernel
theorem dX0_placeBy_18 : decode cX0_placeBy 18 = .ok (.iaload, 1) := by decide +kernel
theorem dX0_placeBy_19 : decode cX0_placeBy 19 = .ok (.goto 4, 3) := by decide +kernel
theorem dX0_placeBy_22 : decode cX0_placeBy 22 = .ok (.iconst (-1), 1) := by decide +kernel
theorem dX0_placeBy_23 : decode cX0_placeBy 23 = .ok (.ireturn, 1) := by decide +kernel
theorem dX0_takePlace_0 : decode cX0_takePlace 0 = .ok (.iload_n 1, 1) := by decide +kernel
theorem dX0_takePlace_1 : decode cX0_takePlace 1 = .ok (.ifCond .lt 19, 3) := by decide +kernel
theorem dX0_takePlace_4 : decode cX0_takePlace 4 = .ok (.iload_n 1, 1) := by decide +kernel
theorem dX0_takePlace_5 : decode cX0_takePlace 5 = .ok (.aload_n 0, 1) := by decide +kernel
theorem dX0_takePlace_6 : decode cX0_takePlace 6 = .ok (.getfield 31, 3) := by decide +kernel
theorem dX0_takePlace_9 : decode cX0_takePlace 9 = .ok (.arraylength, 1) := by decide +kernel
theorem dX0_takePlace_10 : decode cX0_takePlace 10 = .ok (.if_icmp .ge 10, 3) := by decide +kernel
theorem dX0_takePlace_13 : decode cX0_takePlace 13 = .ok (.aload_n 0, 1) := by decide +kernel
theorem dX0_takePlace_14 : decode cX0_takePlace 14 = .ok (.getfield 31, 3) := by decide +kernel
theorem dX0_takePlace_17 : decode cX0_takePlace 17 = .ok (.iload_n 1, 1) := by decide +kernel
theorem dX0_takePlace_18 : decode cX0_takePlace 18 = .ok (.iload_n 2, 1) := by decide +kernel
theorem dX0_takePlace_19 : decode cX0_takePlace 19 = .ok (.iastore, 1) := by decide +kernel
theorem dX0_takePlace_20 : decode cX0_takePlace 20 = .ok (.return_, 1) := by decide +kernel
theorem dX0_forgetResult_0 : decode cX0_forgetResult 0 = .ok (.aload_n 0, 1) := by decide +kernel
theorem dX0_forgetResult_1 : decode cX0_forgetResult 1 = .ok (.iconst (-1), 1) := by decide +kernel
theorem dX0_forgetResult_2 : decode cX0_forgetResult 2 = .ok (.putfield 21, 3) := by decide +kernel
theorem dX0_forgetResult_5 : decode cX0_forgetResult 5 = .ok (.aload_n 0, 1) := by decide +kernel
theorem dX0_forgetResult_6 : decode cX0_forgetResult 6 = .ok (.iconst (-1), 1) := by decide +kernel
theorem dX0_forgetResult_7 : decode cX0_forgetResult 7 = .ok (.putfield 24, 3) := by decide +kernel
theorem dX0_forgetResult_10 : decode cX0_forgetResult 10 = .ok (.return_, 1) := by decide +kernel
theorem dX0_takeRank_0 : decode cX0_takeRank 0 = .ok (.aload_n 0, 1) := by decide +kernel
theorem dX0_takeRank_1 : decode cX0_takeRank 1 = .ok (.iload_n 1, 1) := by decide +kernel
theorem dX0_takeRank_2 : decode cX0_takeRank 2 = .ok (.putfield 21, 3) := by decide +kernel
theorem dX0_takeRank_5 : decode cX0_takeRank 5 = .ok (.aload_n 0, 1) := by decide +kernel
theorem dX0_takeRank_6 : decode cX0_takeRank 6 = .ok (.getfield 21, 3) := by decide +kernel
theorem dX0_takeRank_9 : decode cX0_takeRank 9 = .ok (.iconst 1, 1) := by decide +kernel
theorem dX0_takeRank_10 : decode cX0_takeRank 10 = .ok (.if_icmp .ne 13, 3) := by decide +kernel
theorem dX0_takeRank_13 : decode cX0_takeRank 13 = .ok (.aload_n 0, 1) := by decide +kernel
theorem dX0_takeRank_14 : decode cX0_takeRank 14 = .ok (.dup, 1) := by decide +kernel
theorem dX0_takeRank_15 : decode cX0_takeRank 15 = .ok (.getfield 34, 3) := by decide +kernel
theorem dX0_takeRank_18 : decode cX0_takeRank 18 = .ok (.iconst 1, 1) := by decide +kernel
theorem dX0_takeRank_19 : decode cX0_takeRank 19 = .ok (.iadd, 1) := by decide +kernel
theorem dX0_takeRank_20 : decode cX0_takeRank 20 = .ok (.putfield 34, 3) := by decide +kernel
theorem dX0_takeRank_23 : decode cX0_takeRank 23 = .ok (.aload_n 0, 1) := by decide +kernel
theorem dX0_takeRank_24 : decode cX0_takeRank 24 = .ok (.getfield 21, 3) := by decide +kernel
theorem dX0_takeRank_27 : decode cX0_takeRank 27 = .ok (.iconst 1, 1) := by decide +kernel
theorem dX0_takeRank_28 : decode cX0_takeRank 28 = .ok (.if_icmp .lt 33, 3) := by decide +kernel
theorem dX0_takeRank_31 : decode cX0_takeRank 31 = .ok (.aload_n 0, 1) := by decide +kernel
theorem dX0_takeRank_32 : decode cX0_takeRank 32 = .ok (.getfield 21, 3) := by decide +kernel
theorem dX0_takeRank_35 : decode cX0_takeRank 35 = .ok (.getstatic 37, 3) := by decide +kernel
theorem dX0_takeRank_38 : decode cX0_takeRank 38 = .ok (.arraylength, 1) := by decide +kernel
theorem dX0_takeRank_39 : decode cX0_takeRank 39 = .ok (.if_icmp .gt 22, 3) := by decide +kernel
theorem dX0_takeRank_42 : decode cX0_takeRank 42 = .ok (.aload_n 0, 1) := by decide +kernel
theorem dX0_takeRank_43 : decode cX0_takeRank 43 = .ok (.dup, 1) := by decide +kernel
theorem dX0_takeRank_44 : decode cX0_takeRank 44 = .ok (.getfield 40, 3) := by decide +kernel
theorem dX0_takeRank_47 : decode cX0_takeRank 47 = .ok (.getstatic 37, 3) := by decide +kernel
theorem dX0_takeRank_50 : decode cX0_takeRank 50 = .ok (.aload_n 0, 1) := by decide +kernel
theorem dX0_takeRank_51 : decode cX0_takeRank 51 = .ok (.getfield 21, 3) := by decide +kernel
theorem dX0_takeRank_54 : decode cX0_takeRank 54 = .ok (.iconst 1, 1) := by decide +kernel
theorem dX0_takeRank_55 : decode cX0_takeRank 55 = .ok (.isub, 1) := by decide +kernel
theorem dX0_takeRank_56 : decode cX0_takeRank 56 = .ok (.iaload, 1) := by decide +kernel
theorem dX0_takeRank_57 : decode cX0_takeRank 57 = .ok (.iadd, 1) := by decide +kernel
theorem dX0_takeRank_58 : decode cX0_takeRank 58 = .ok (.putfield 40, 3) := by decide +kernel
theorem dX0_takeRank_61 : decode cX0_takeRank 61 = .ok (.return_, 1) := by decide +kernel
theorem dX0_isRankedAheadOf_0 : decode cX0_isRankedAheadOf 0 = .ok (.aload_n 0, 1) := by decide +kernel
theorem dX0_isRankedAheadOf_1 : decode cX0_isRankedAheadOf 1 = .ok (.getfield 24, 3) := by decide +kernel
theorem dX0_isRankedAheadOf_4 : decode cX0_isRankedAheadOf 4 = .ok (.aload_n 1, 1) := by decide +kernel
theorem dX0_isRankedAheadOf_5 : decode cX0_isRankedAheadOf 5 = .ok (.getfield 24, 3) := by decide +kernel
theorem dX0_isRankedAheadOf_8 : decode cX0_isRankedAheadOf 8 = .ok (.if_icmp .eq 20, 3) := by decide +kernel
theorem dX0_isRankedAheadOf_11 : decode cX0_isRankedAheadOf 11 = .ok (.aload_n 0, 1) := by decide +kernel
theorem dX0_isRankedAheadOf_12 : decode cX0_isRankedAheadOf 12 = .ok (.getfield 24, 3) := by decide +kernel
theorem dX0_isRankedAheadOf_15 : decode cX0_isRankedAheadOf 15 = .ok (.aload_n 1, 1) := by decide +kernel
theorem dX0_isRankedAheadOf_16 : decode cX0_isRankedAheadOf 16 = .ok (.getfield 24, 3) := by decide +kernel
theorem dX0_isRankedAheadOf_19 : decode cX0_isRankedAheadOf 19 = .ok (.if_icmp .ge 7, 3) := by decide +kernel
theorem dX0_isRankedAheadOf_22 : decode cX0_isRankedAheadOf 22 = .ok (.iconst 1, 1) := by decide +kernel
theorem dX0_isRankedAheadOf_23 : decode cX0_isRankedAheadOf 23 = .ok (.goto 4, 3) := by decide +kernel
theorem dX0_isRankedAheadOf_26 : decode cX0_isRankedAheadOf 26 = .ok (.iconst 0, 1) := by decide +kernel
theorem dX0_isRankedAheadOf_27 : decode cX0_isRankedAheadOf 27 = .ok (.ireturn, 1) := by decide +kernel
theorem dX0_isRankedAheadOf_28 : decode cX0_isRankedAheadOf 28 = .ok (.aload_n 0, 1) := by decide +kernel
theorem dX0_isRankedAheadOf_29 : decode cX0_isRankedAheadOf 29 = .ok (.iconst 3, 1) := by decide +kernel
theorem dX0_isRankedAheadOf_30 : decode cX0_isRankedAheadOf 30 = .ok (.invokevirtual 43, 3) := by decide +kernel
theorem dX0_isRankedAheadOf_33 : decode cX0_isRankedAheadOf 33 = .ok (.aload_n 1, 1) := by decide +kernel
theorem dX0_isRankedAheadOf_34 : decode cX0_isRankedAheadOf 34 = .ok (.iconst 3, 1) := by decide +kernel
theorem dX0_isRankedAheadOf_35 : decode cX0_isRankedAheadOf 35 = .ok (.invokevirtual 43, 3) := by decide +kernel
theorem dX0_isRankedAheadOf_38 : decode cX0_isRankedAheadOf 38 = .ok (.if_icmp .eq 22, 3) := by decide +kernel
theorem dX0_isRankedAheadOf_41 : decode cX0_isRankedAheadOf 41 = .ok (.aload_n 0, 1) := by decide +kernel
theorem dX0_isRankedAheadOf_42 : decode cX0_isRankedAheadOf 42 = .ok (.iconst 3, 1) := by decide +kernel
theorem dX0_isRankedAheadOf_43 : decode cX0_isRankedAheadOf 43 = .ok (.invokevirtual 43, 3) := by decide +kernel
theorem dX0_isRankedAheadOf_46 : decode cX0_isRankedAheadOf 46 = .ok (.aload_n 1, 1) := by decide +kernel
theorem dX0_isRankedAheadOf_47 : decode cX0_isRankedAheadOf 47 = .ok (.iconst 3, 1) := by decide +kernel
theorem dX0_isRankedAheadOf_48 : decode cX0_isRankedAheadOf 48 = .ok (.invokevirtual 43, 3) := by decide +kernel
theorem dX0_isRankedAheadOf_51 : decode cX0_isRankedAheadOf 51 = .ok (.if_icmp .ge 7, 3) := by decide +kernel
theorem dX0_isRankedAheadOf_54 : decode cX0_isRankedAheadOf 54 = .ok (.iconst 1, 1) := by decide +kernel
theorem dX0_isRankedAheadOf_55 : decode cX0_isRankedAheadOf 55 = .ok (.goto 4, 3) := by decide +kernel
theorem dX0_isRankedAheadOf_58 : decode cX0_isRankedAheadOf 58 = .ok (.iconst 0, 1) := by decide +kernel
theorem dX0_isRankedAheadOf_59 : decode cX0_isRankedAheadOf 59 = .ok (.ireturn, 1) := by decide +kernel
theorem dX0_isRankedAheadOf_60 : decode cX0_isRankedAheadOf 60 = .ok (.aload_n 0, 1) := by decide +kernel
theorem dX0_isRankedAheadOf_61 : decode cX0_isRankedAheadOf 61 = .ok (.iconst 0, 1) := by decide +kernel
theorem dX0_isRankedAheadOf_62 : decode cX0_isRankedAheadOf 62 = .ok (.invokevirtual 43, 3) := by decide +kernel
theorem dX0_isRankedAheadOf_65 : decode cX0_isRankedAheadOf 65 = .ok (.aload_n 0, 1) := by decide +kernel
theorem dX0_isRankedAheadOf_66 : decode cX0_isRankedAheadOf 66 = .ok (.iconst 1, 1) := by decide +kernel
theorem dX0_isRankedAheadOf_67 : decode cX0_isRankedAheadOf 67 = .ok (.invokevirtual 43, 3) := by decide +kernel
theorem dX0_isRankedAheadOf_70 : decode cX0_isRankedAheadOf 70 = .ok (.iadd, 1) := by decide +kernel
theorem dX0_isRankedAheadOf_71 : decode cX0_isRankedAheadOf 71 = .ok (.istore_n 2, 1) := by decide +kernel
theorem dX0_isRankedAheadOf_72 : decode cX0_isRankedAheadOf 72 = .ok (.aload_n 1, 1) := by decide +kernel
theorem dX0_isRankedAheadOf_73 : decode cX0_isRankedAheadOf 73 = .ok (.iconst 0, 1) := by decide +kernel
theorem dX0_isRankedAheadOf_74 : decode cX0_isRankedAheadOf 74 = .ok (.invokevirtual 43, 3) := by decide +kernel
theorem dX0_isRankedAheadOf_77 : decode cX0_isRankedAheadOf 77 = .ok (.aload_n 1, 1) := by decide +kernel
theorem dX0_isRankedAheadOf_78 : decode cX0_isRankedAheadOf 78 = .ok (.iconst 1, 1) := by decide +kernel
theorem dX0_isRankedAheadOf_79 : decode cX0_isRankedAheadOf 79 = .ok (.invokevirtual 43, 3) := by decide +kernel
theorem dX0_isRankedAheadOf_82 : decode cX0_isRankedAheadOf 82 = .ok (.iadd, 1) := by decide +kernel
theorem dX0_isRankedAheadOf_83 : decode cX0_isRankedAheadOf 83 = .ok (.istore_n 3, 1) := by decide +kernel
theorem dX0_isRankedAheadOf_84 : decode cX0_isRankedAheadOf 84 = .ok (.iload_n 2, 1) := by decide +kernel
theorem dX0_isRankedAheadOf_85 : decode cX0_isRankedAheadOf 85 = .ok (.iload_n 3, 1) := by decide +kernel
theorem dX0_isRankedAheadOf_86 : decode cX0_isRankedAheadOf 86 = .ok (.if_icmp .eq 14, 3) := by decide +kernel
theorem dX0_isRankedAheadOf_89 : decode cX0_isRankedAheadOf 89 = .ok (.iload_n 2, 1) := by decide +kernel
theorem dX0_isRankedAheadOf_90 : decode cX0_isRankedAheadOf 90 = .ok (.iload_n 3, 1) := by decide +kernel
theorem dX0_isRankedAheadOf_91 : decode cX0_isRankedAheadOf 91 = .ok (.if_icmp .ge 7, 3) := by decide +kernel
theorem dX0_isRankedAheadOf_94 : decode cX0_isRankedAheadOf 94 = .ok (.iconst 1, 1) := by decide +kernel
theorem dX0_isRankedAheadOf_95 : decode cX0_isRankedAheadOf 95 = .ok (.goto 4, 3) := by decide +kernel
theorem dX0_isRankedAheadOf_98 : decode cX0_isRankedAheadOf 98 = .ok (.iconst 0, 1) := by decide +kernel
theorem dX0_isRankedAheadOf_99 : decode cX0_isRankedAheadOf 99 = .ok (.ireturn, 1) := by decide +kernel
theorem dX0_isRankedAheadOf_100 : decode cX0_isRankedAheadOf 100 = .ok (.aload_n 0, 1) := by decide +kernel
theorem dX0_isRankedAheadOf_101 : decode cX0_isRankedAheadOf 101 = .ok (.getfield 9, 3) := by decide +kernel
theorem dX0_isRankedAheadOf_104 : decode cX0_isRankedAheadOf 104 = .ok (.aload_n 1, 1) := by decide +kernel
theorem dX0_isRankedAheadOf_105 : decode cX0_isRankedAheadOf 105 = .ok (.getfield 9, 3) := by decide +kernel
theorem dX0_isRankedAheadOf_108 : decode cX0_isRankedAheadOf 108 = .ok (.if_icmp .ge 7, 3) := by decide +kernel
theorem dX0_isRankedAheadOf_111 : decode cX0_isRankedAheadOf 111 = .ok (.iconst 1, 1) := by decide +kernel
theorem dX0_isRankedAheadOf_112 : decode cX0_isRankedAheadOf 112 = .ok (.goto 4, 3) := by decide +kernel
theorem dX0_isRankedAheadOf_115 : decode cX0_isRankedAheadOf 115 = .ok (.iconst 0, 1) := by decide +kernel
theorem dX0_isRankedAheadOf_116 : decode cX0_isRankedAheadOf 116 = .ok (.ireturn, 1) := by decide +kernel
theorem dX0_beginSeason_0 : decode cX0_beginSeason 0 = .ok (.aload_n 0, 1) := by decide +kernel
theorem dX0_beginSeason_1 : decode cX0_beginSeason 1 = .ok (.getfield 15, 3) := by decide +kernel
theorem dX0_beginSeason_4 : decode cX0_beginSeason 4 = .ok (.aload_n 0, 1) := by decide +kernel
theorem dX0_beginSeason_5 : decode cX0_beginSeason 5 = .ok (.getfield 18, 3) := by decide +kernel
theorem dX0_beginSeason_8 : decode cX0_beginSeason 8 = .ok (.if_icmp .eq 7, 3) := by decide +kernel
theorem dX0_beginSeason_11 : decode cX0_beginSeason 11 = .ok (.iconst 1, 1) := by decide +kernel
theorem dX0_beginSeason_12 : decode cX0_beginSeason 12 = .ok (.goto 4, 3) := by decide +kernel
theorem dX0_beginSeason_15 : decode cX0_beginSeason 15 = .ok (.iconst 0, 1) := by decide +kernel
theorem dX0_beginSeason_16 : decode cX0_beginSeason 16 = .ok (.istore_n 1, 1) := by decide +kernel
theorem dX0_beginSeason_17 : decode cX0_beginSeason 17 = .ok (.aload_n 0, 1) := by decide +kernel
theorem dX0_beginSeason_18 : decode cX0_beginSeason 18 = .ok (.aload_n 0, 1) := by decide +kernel
theorem dX0_beginSeason_19 : decode cX0_beginSeason 19 = .ok (.getfield 18, 3) := by decide +kernel
theorem dX0_beginSeason_22 : decode cX0_beginSeason 22 = .ok (.putfield 15, 3) := by decide +kernel
theorem dX0_beginSeason_25 : decode cX0_beginSeason 25 = .ok (.aload_n 0, 1) := by decide +kernel
theorem dX0_beginSeason_26 : decode cX0_beginSeason 26 = .ok (.iconst 0, 1) := by decide +kernel
theorem dX0_beginSeason_27 : decode cX0_beginSeason 27 = .ok (.putfield 40, 3) := by decide +kernel
theorem dX0_beginSeason_30 : decode cX0_beginSeason 30 = .ok (.iload_n 1, 1) := by decide +kernel
theorem dX0_beginSeason_31 : decode cX0_beginSeason 31 = .ok (.ireturn, 1) := by decide +kernel
theorem dX0_tell_0 : decode cX0_tell 0 = .ok (.iload_n 1, 1) := by decide +kernel
theorem dX0_tell_1 : decode cX0_tell 1 = .ok (.tableswitch 51 0 3 #[31, 36, 41, 46], 31) := by decide +kernel
theorem dX0_tell_32 : decode cX0_tell 32 = .ok (.aload_n 0, 1) := by decide +kernel
theorem dX0_tell_33 : decode cX0_tell 33 = .ok (.getfield 15, 3) := by decide +kernel
theorem dX0_tell_36 : decode cX0_tell 36 = .ok (.ireturn, 1) := by decide +kernel
theorem dX0_tell_37 : decode cX0_tell 37 = .ok (.aload_n 0, 1) := by decide +kernel
theorem dX0_tell_38 : decode cX0_tell 38 = .ok (.getfield 40, 3) := by decide +kernel
theorem dX0_tell_41 : decode cX0_tell 41 = .ok (.ireturn, 1) := by decide +kernel
theorem dX0_tell_42 : decode cX0_tell 42 = .ok (.aload_n 0, 1) := by decide +kernel
theorem dX0_tell_43 : decode cX0_tell 43 = .ok (.getfield 21, 3) := by decide +kernel
theorem dX0_tell_46 : decode cX0_tell 46 = .ok (.ireturn, 1) := by decide +kernel
theorem dX0_tell_47 : decode cX0_tell 47 = .ok (.aload_n 0, 1) := by decide +kernel
theorem dX0_tell_48 : decode cX0_tell 48 = .ok (.getfield 24, 3) := by decide +kernel
theorem dX0_tell_51 : decode cX0_tell 51 = .ok (.ireturn, 1) := by decide +kernel
theorem dX0_tell_52 : decode cX0_tell 52 = .ok (.aload_n 0, 1) := by decide +kernel
theorem dX0_tell_53 : decode cX0_tell 53 = .ok (.getfield 34, 3) := by decide +kernel
theorem dX0_tell_56 : decode cX0_tell 56 = .ok (.ireturn, 1) := by decide +kernel
theorem dX1_init_0 : decode cX1_init 0 = .ok (.aload_n 0, 1) := by decide +kernel
theorem dX1_init_1 : decode cX1_init 1 = .ok (.invokespecial 1, 3) := by decide +kernel
theorem dX1_init_4 : decode cX1_init 4 = .ok (.aload_n 0, 1) := by decide +kernel
theorem dX1_init_5 : decode cX1_init 5 = .ok (.iload_n 1, 1) := by decide +kernel
theorem dX1_init_6 : decode cX1_init 6 = .ok (.putfield 7, 3) := by decide +kernel
theorem dX1_init_9 : decode cX1_init 9 = .ok (.aload_n 0, 1) := by decide +kernel
theorem dX1_init_10 : decode cX1_init 10 = .ok (.iload_n 2, 1) := by decide +kernel
theorem dX1_init_11 : decode cX1_init 11 = .ok (.putfield 13, 3) := by decide +kernel
theorem dX1_init_14 : decode cX1_init 14 = .ok (.aload_n 0, 1) := by decide +kernel
theorem dX1_init_15 : decode cX1_init 15 = .ok (.iload_n 3, 1) := by decide +kernel
theorem dX1_init_16 : decode cX1_init 16 = .ok (.putfield 16, 3) := by decide +kernel
theorem dX1_init_19 : decode cX1_init 19 = .ok (.return_, 1) := by decide +kernel
theorem dX1_becomeLike_0 : decode cX1_becomeLike 0 = .ok (.aload_n 0, 1) := by decide +kernel
theorem dX1_becomeLike_1 : decode cX1_becomeLike 1 = .ok (.aload_n 1, 1) := by decide +kernel
theorem dX1_becomeLike_2 : decode cX1_becomeLike 2 = .ok (.getfield 7, 3) := by decide +kernel
theorem dX1_becomeLike_5 : decode cX1_becomeLike 5 = .ok (.putfield 7, 3) := by decide +kernel
theorem dX1_becomeLike_8 : decode cX1_becomeLike 8 = .ok (.aload_n 0, 1) := by decide +kernel
theorem dX1_becomeLike_9 : decode cX1_becomeLike 9 = .ok (.aload_n 1, 1) := by decide +kernel
theorem dX1_becomeLike_10 : decode cX1_becomeLike 10 = .ok (.getfield 13, 3) := by decide +kernel
theorem dX1_becomeLike_13 : decode cX1_becomeLike 13 = .ok (.putfield 13, 3) := by decide +kernel
theorem dX1_becomeLike_16 : decode cX1_becomeLike 16 = .ok (.aload_n 0, 1) := by decide +kernel
theorem dX1_becomeLike_17 : decode cX1_becomeLike 17 = .ok (.aload_n 1, 1) := by decide +kernel
theorem dX1_becomeLike_18 : decode cX1_becomeLike 18 = .ok (.getfield 16, 3) := by decide +kernel
theorem dX1_becomeLike_21 : decode cX1_becomeLike 21 = .ok (.putfield 16, 3) := by decide +kernel
theorem dX1_becomeLike_24 : decode cX1_becomeLike 24 = .ok (.aload_n 0, 1) := by decide +kernel
theorem dX1_becomeLike_25 : decode cX1_becomeLike 25 = .ok (.aload_n 1, 1) := by decide +kernel
theorem dX1_becomeLike_26 : decode cX1_becomeLike 26 = .ok (.getfield 19, 3) := by decide +kernel
theorem dX1_becomeLike_29 : decode cX1_becomeLike 29 = .ok (.putfield 19, 3) := by decide +kernel
theorem dX1_becomeLike_32 : decode cX1_becomeLike 32 = .ok (.aload_n 0, 1) := by decide +kernel
theorem dX1_becomeLike_33 : decode cX1_becomeLike 33 = .ok (.aload_n 1, 1) := by decide +kernel
theorem dX1_becomeLike_34 : decode cX1_becomeLike 34 = .ok (.getfield 22, 3) := by decide +kernel
theorem dX1_becomeLike_37 : decode cX1_becomeLike 37 = .ok (.putfield 22, 3) := by decide +kernel
theorem dX1_becomeLike_40 : decode cX1_becomeLike 40 = .ok (.aload_n 0, 1) := by decide +kernel
theorem dX1_becomeLike_41 : decode cX1_becomeLike 41 = .ok (.aload_n 1, 1) := by decide +kernel
theorem dX1_becomeLike_42 : decode cX1_becomeLike 42 = .ok (.getfield 25, 3) := by decide +kernel
theorem dX1_becomeLike_45 : decode cX1_becomeLike 45 = .ok (.putfield 25, 3) := by decide +kernel
theorem dX1_becomeLike_48 : decode cX1_becomeLike 48 = .ok (.aload_n 0, 1) := by decide +kernel
theorem dX1_becomeLike_49 : decode cX1_becomeLike 49 = .ok (.aload_n 1, 1) := by decide +kernel
theorem dX1_becomeLike_50 : decode cX1_becomeLike 50 = .ok (.getfield 28, 3) := by decide +kernel
theorem dX1_becomeLike_53 : decode cX1_becomeLike 53 = .ok (.putfield 28, 3) := by decide +kernel
theorem dX1_becomeLike_56 : decode cX1_becomeLike 56 = .ok (.return_, 1) := by decide +kernel
theorem dX1_pitch_0 : decode cX1_pitch 0 = .ok (.aload_n 0, 1) := by decide +kernel
theorem dX1_pitch_1 : decode cX1_pitch 1 = .ok (.getfield 7, 3) := by decide +kernel
theorem dX1_pitch_4 : decode cX1_pitch 4 = .ok (.aload_n 0, 1) := by decide +kernel
theorem dX1_pitch_5 : decode cX1_pitch 5 = .ok (.getfield 19, 3) := by decide +kernel
theorem dX1_pitch_8 : decode cX1_pitch 8 = .ok (.iadd, 1) := by decide +kernel
theorem dX1_pitch_9 : decode cX1_pitch 9 = .ok (.iconst 2, 1) := by decide +kernel
theorem dX1_pitch_10 : decode cX1_pitch 10 = .ok (.aload_n 0, 1) := by decide +kernel
theorem dX1_pitch_11 : decode cX1_pitch 11 = .ok (.getfield 13, 3) := by decide +kernel
theorem dX1_pitch_14 : decode cX1_pitch 14 = .ok (.imul, 1) := by decide +kernel
theorem dX1_pitch_15 : decode cX1_pitch 15 = .ok (.iadd, 1) := by decide +kernel
theorem dX1_pitch_16 : decode cX1_pitch 16 = .ok (.iconst 3, 1) := by decide +kernel
theorem dX1_pitch_17 : decode cX1_pitch 17 = .ok (.aload_n 0, 1) := by decide +kernel
theorem dX1_pitch_18 : decode cX1_pitch 18 = .ok (.getfield 22, 3) := by decide +kernel
theorem dX1_pitch_21 : decode cX1_pitch 21 = .ok (.imul, 1) := by decide +kernel
theorem dX1_pitch_22 : decode cX1_pitch 22 = .ok (.iadd, 1) := by decide +kernel
theorem dX1_pitch_23 : decode cX1_pitch 23 = .ok (.aload_n 0, 1) := by decide +kernel
theorem dX1_pitch_24 : decode cX1_pitch 24 = .ok (.getfield 25, 3) := by decide +kernel
theorem dX1_pitch_27 : decode cX1_pitch 27 = .ok (.isub, 1) := by decide +kernel
theorem dX1_pitch_28 : decode cX1_pitch 28 = .ok (.ireturn, 1) := by decide +kernel
theorem dX1_goThrough_0 : decode cX1_goThrough 0 = .ok (.iconst 0, 1) := by decide +kernel
theorem dX1_goThrough_1 : decode cX1_goThrough 1 = .ok (.istore 4, 2) := by decide +kernel
theorem dX1_goThrough_3 : decode cX1_goThrough 3 = .ok (.iload 4, 2) := by decide +kernel
theorem dX1_goThrough_5 : decode cX1_goThrough 5 = .ok (.iload_n 1, 1) := by decide +kernel
theorem dX1_goThrough_6 : decode cX1_goThrough 6 = .ok (.if_icmp .ge 29, 3) := by decide +kernel
theorem dX1_goThrough_9 : decode cX1_goThrough 9 = .ok (.aload_n 0, 1) := by decide +kernel
theorem dX1_goThrough_10 : decode cX1_goThrough 10 = .ok (.getfield 28, 3) := by decide +kernel
theorem dX1_goThrough_13 : decode cX1_goThrough 13 = .ok (.ifCond .eq 10, 3) := by decide +kernel
theorem dX1_goThrough_16 : decode cX1_goThrough 16 = .ok (.aload_n 0, 1) := by decide +kernel
theorem dX1_goThrough_17 : decode cX1_goThrough 17 = .ok (.invokevirtual 32, 3) := by decide +kernel
theorem dX1_goThrough_20 : decode cX1_goThrough 20 = .ok (.goto 9, 3) := by decide +kernel
theorem dX1_goThrough_23 : decode cX1_goThrough 23 = .ok (.aload_n 0, 1) := by decide +kernel
theorem dX1_goThrough_24 : decode cX1_goThrough 24 = .ok (.iload_n 2, 1) := by decide +kernel
theorem dX1_goThrough_25 : decode cX1_goThrough 25 = .ok (.iload_n 3, 1) := by decide +kernel
theorem dX1_goThrough_26 : decode cX1_goThrough 26 = .ok (.invokevirtual 35, 3) := by decide +kernel
theorem dX1_goThrough_29 : decode cX1_goThrough 29 = .ok (.iinc 4 1, 3) := by decide +kernel
theorem dX1_goThrough_32 : decode cX1_goThrough 32 = .ok (.goto (-29), 3) := by decide +kernel
theorem dX1_goThrough_35 : decode cX1_goThrough 35 = .ok (.return_, 1) := by decide +kernel
theorem dX1_restAMinute_0 : decode cX1_restAMinute 0 = .ok (.aload_n 0, 1) := by decide +kernel
theorem dX1_restAMinute_1 : decode cX1_restAMinute 1 = .ok (.iconst 0, 1) := by decide +kernel
theorem dX1_restAMinute_2 : decode cX1_restAMinute 2 = .ok (.aload_n 0, 1) := by decide +kernel
theorem dX1_restAMinute_3 : decode cX1_restAMinute 3 = .ok (.getfield 25, 3) := by decide +kernel
theorem dX1_restAMinute_6 : decode cX1_restAMinute 6 = .ok (.iconst 2, 1) := by decide +kernel
theorem dX1_restAMinute_7 : decode cX1_restAMinute 7 = .ok (.isub, 1) := by decide +kernel
theorem dX1_restAMinute_8 : decode cX1_restAMinute 8 = .ok (.invokestatic 39, 3) := by decide +kernel
theorem dX1_restAMinute_11 : decode cX1_restAMinute 11 = .ok (.putfield 25, 3) := by decide +kernel
theorem dX1_restAMinute_14 : decode cX1_restAMinute 14 = .ok (.aload_n 0, 1) := by decide +kernel
theorem dX1_restAMinute_15 : decode cX1_restAMinute 15 = .ok (.iconst 0, 1) := by decide +kernel
theorem dX1_restAMinute_16 : decode cX1_restAMinute 16 = .ok (.aload_n 0, 1) := by decide +kernel
theorem dX1_restAMinute_17 : decode cX1_restAMinute 17 = .ok (.getfield 22, 3) := by decide +kernel
theorem dX1_restAMinute_20 : decode cX1_restAMinute 20 = .ok (.iconst 1, 1) := by decide +kernel
theorem dX1_restAMinute_21 : decode cX1_restAMinute 21 = .ok (.isub, 1) := by decide +kernel
theorem dX1_restAMinute_22 : decode cX1_restAMinute 22 = .ok (.invokestatic 39, 3) := by decide +kernel
theorem dX1_restAMinute_25 : decode cX1_restAMinute 25 = .ok (.putfield 22, 3) := by decide +kernel
theorem dX1_restAMinute_28 : decode cX1_restAMinute 28 = .ok (.return_, 1) := by decide +kernel
theorem dX1_playAMinute_0 : decode cX1_playAMinute 0 = .ok (.aload_n 0, 1) := by decide +kernel
theorem dX1_playAMinute_1 : decode cX1_playAMinute 1 = .ok (.bipush 100, 2) := by decide +kernel
theorem dX1_playAMinute_3 : decode cX1_playAMinute 3 = .ok (.aload_n 0, 1) := by decide +kernel
theorem dX1_playAMinute_4 : decode cX1_playAMinute 4 = .ok (.getfield 25, 3) := by decide +kernel
theorem dX1_playAMinute_7 : decode cX1_playAMinute 7 = .ok (.aload_n 0, 1) := by decide +kernel
theorem dX1_playAMinute_8 : decode cX1_playAMinute 8 = .ok (.getfield 16, 3) := by decide +kernel
theorem dX1_playAMinute_11 : decode cX1_playAMinute 11 = .ok (.iadd, 1) := by decide +kernel
theorem dX1_playAMinute_12 : decode cX1_playAMinute 12 = .ok (.iload_n 1, 1) := by decide +kernel
theorem dX1_playAMinute_13 : decode cX1_playAMinute 13 = .ok (.iadd, 1) := by decide +kernel
theorem dX1_playAMinute_14 : decode cX1_playAMinute 14 = .ok (.invokestatic 45, 3) := by decide +kernel
theorem dX1_playAMinute_17 : decode cX1_playAMinute 17 = .ok (.putfield 25, 3) := by decide +kernel
theorem dX1_playAMinute_20 : decode cX1_playAMinute 20 = .ok (.aload_n 0, 1) := by decide +kernel
theorem dX1_playAMinute_21 : decode cX1_playAMinute 21 = .ok (.getfield 22, 3) := by decide +kernel
theorem dX1_playAMinute_24 : decode cX1_playAMinute 24 = .ok (.iload_n 2, 1) := by decide +kernel
theorem dX1_playAMinute_25 : decode cX1_playAMinute 25 = .ok (.if_icmp .ge 16, 3) := by decide +kernel
theorem dX1_playAMinute_28 : decode cX1_playAMinute 28 = .ok (.aload_n 0, 1) := by decide +kernel
theorem dX1_playAMinute_29 : decode cX1_playAMinute 29 = .ok (.dup, 1) := by decide +kernel
theorem dX1_playAMinute_30 : decode cX1_playAMinute 30 = .ok (.getfield 22, 3) := by decide +kernel
theorem dX1_playAMinute_33 : decode cX1_playAMinute 33 = .ok (.iconst 1, 1) := by decide +kernel
theorem dX1_playAMinute_34 : decode cX1_playAMinute 34 = .ok (.iadd, 1) := by decide +kernel
theorem dX1_playAMinute_35 : decode cX1_playAMinute 35 = .ok (.putfield 22, 3) := by decide +kernel
theorem dX1_playAMinute_38 : decode cX1_playAMinute 38 = .ok (.goto 21, 3) := by decide +kernel
theorem dX1_playAMinute_41 : decode cX1_playAMinute 41 = .ok (.aload_n 0, 1) := by decide +kernel
theorem dX1_playAMinute_42 : decode cX1_playAMinute 42 = .ok (.getfield 22, 3) := by decide +kernel
theorem dX1_playAMinute_45 : decode cX1_playAMinute 45 = .ok (.iload_n 2, 1) := by decide +kernel
theorem dX1_playAMinute_46 : decode cX1_playAMinute 46 = .ok (.if_icmp .le 13, 3) := by decide +kernel
theorem dX1_playAMinute_49 : decode cX1_playAMinute 49 = .ok (.aload_n 0, 1) := by decide +kernel
theorem dX1_playAMinute_50 : decode cX1_playAMinute 50 = .ok (.dup, 1) := by decide +kernel
theorem dX1_playAMinute_51 : decode cX1_playAMinute 51 = .ok (.getfield 22, 3) := by decide +kernel
theorem dX1_playAMinute_54 : decode cX1_playAMinute 54 = .ok (.iconst 1, 1) := by decide +kernel
theorem dX1_playAMinute_55 : decode cX1_playAMinute 55 = .ok (.isub, 1) := by decide +kernel
theorem dX1_playAMinute_56 : decode cX1_playAMinute 56 = .ok (.putfield 22, 3) := by decide +kernel
theorem dX1_playAMinute_59 : decode cX1_playAMinute 59 = .ok (.aload_n 0, 1) := by decide +kernel
theorem dX1_playAMinute_60 : decode cX1_playAMinute 60 = .ok (.getfield 25, 3) := by decide +kernel
theorem dX1_playAMinute_63 : decode cX1_playAMinute 63 = .ok (.bipush 100, 2) := by decide +kernel
theorem dX1_playAMinute_65 : decode cX1_playAMinute 65 = .ok (.if_icmp .ne 18, 3) := by decide +kernel
theorem dX1_playAMinute_68 : decode cX1_playAMinute 68 = .ok (.aload_n 0, 1) := by decide +kernel
theorem dX1_playAMinute_69 : decode cX1_playAMinute 69 = .ok (.bipush (-100), 2) := by decide +kernel
theorem dX1_playAMinute_71 : decode cX1_playAMinute 71 = .ok (.aload_n 0, 1) := by decide +kernel
theorem dX1_playAMinute_72 : decode cX1_playAMinute 72 = .ok (.getfield 7, 3) := by decide +kernel
theorem dX1_playAMinute_75 : decode cX1_playAMinute 75 = .ok (.iconst 1, 1) := by decide +kernel
theorem dX1_playAMinute_76 : decode cX1_playAMinute 76 = .ok (.isub, 1) := by decide +kernel
theorem dX1_playAMinute_77 : decode cX1_playAMinute 77 = .ok (.invokestatic 39, 3) := by decide +kernel
theorem dX1_playAMinute_80 : decode cX1_playAMinute 80 = .ok (.putfield 7, 3) := by decide +kernel
theorem dX1_playAMinute_83 : decode cX1_playAMinute 83 = .ok (.return_, 1) := by decide +kernel
theorem dX1_tell_0 : decode cX1_tell 0 = .ok (.iload_n 1, 1) := by decide +kernel
theorem dX1_tell_1 : decode cX1_tell 1 = .ok (.tableswitch 51 0 3 #[31, 36, 41, 46], 31) := by decide +kernel
theorem dX1_tell_32 : decode cX1_tell 32 = .ok (.aload_n 0, 1) := by decide +kernel
theorem dX1_tell_33 : decode cX1_tell 33 = .ok (.invokevirtual 48, 3) := by decide +kernel
theorem dX1_tell_36 : decode cX1_tell 36 = .ok (.ireturn, 1) := by decide +kernel
theorem dX1_tell_37 : decode cX1_tell 37 = .ok (.aload_n 0, 1) := by decide +kernel
theorem dX1_tell_38 : decode cX1_tell 38 = .ok (.getfield 7, 3) := by decide +kernel
theorem dX1_tell_41 : decode cX1_tell 41 = .ok (.ireturn, 1) := by decide +kernel
theorem dX1_tell_42 : decode cX1_tell 42 = .ok (.aload_n 0, 1) := by decide +kernel
theorem dX1_tell_43 : decode cX1_tell 43 = .ok (.getfield 19, 3) := by decide +kernel
theorem dX1_tell_46 : decode cX1_tell 46 = .ok (.ireturn, 1) := by decide +kernel
theorem dX1_tell_47 : decode cX1_tell 47 = .ok (.aload_n 0, 1) := by decide +kernel
theorem dX1_tell_48 : decode cX1_tell 48 = .ok (.getfield 22, 3) := by decide +kernel
theorem dX1_tell_51 : decode cX1_tell 51 = .ok (.ireturn, 1) := by decide +kernel
theorem dX1_tell_52 : decode cX1_tell 52 = .ok (.aload_n 0, 1) := by decide +kernel
theorem dX1_tell_53 : decode cX1_tell 53 = .ok (.getfield 25, 3) := by decide +kernel
theorem dX1_tell_56 : decode cX1_tell 56 = .ok (.ireturn, 1) := by decide +kernel
theorem dX2_init_0 : decode cX2_init 0 = .ok (.aload_n 0, 1) := by decide +kernel
theorem dX2_init_1 : decode cX2_init 1 = .ok (.invokespecial 3, 3) := by decide +kernel
theorem dX2_init_4 : decode cX2_init 4 = .ok (.aload_n 0, 1) := by decide +kernel
theorem dX2_init_5 : decode cX2_init 5 = .ok (.bipush 8, 2) := by decide +kernel
theorem dX2_init_7 : decode cX2_init 7 = .ok (.newarray .int, 2) := by decide +kernel
theorem dX2_init_9 : decode cX2_init 9 = .ok (.putfield 9, 3) := by decide +kernel
theorem dX2_init_12 : decode cX2_init 12 = .ok (.return_, 1) := by decide +kernel
theorem dX2_empty_0 : decode cX2_empty 0 = .ok (.aload_n 0, 1) := by decide +kernel
theorem dX2_empty_1 : decode cX2_empty 1 = .ok (.iconst 0, 1) := by decide +kernel
theorem dX2_empty_2 : decode cX2_empty 2 = .ok (.putfield 15, 3) := by decide +kernel
theorem dX2_empty_5 : decode cX2_empty 5 = .ok (.return_, 1) := by decide +kernel
theorem dX2_put_0 : decode cX2_put 0 = .ok (.aload_n 0, 1) := by decide +kernel
theorem dX2_put_1 : decode cX2_put 1 = .ok (.getfield 15, 3) := by decide +kernel
theorem dX2_put_4 : decode cX2_put 4 = .ok (.ifCond .lt 15, 3) := by decide +kernel
theorem dX2_put_7 : decode cX2_put 7 = .ok (.aload_n 0, 1) := by decide +kernel
theorem dX2_put_8 : decode cX2_put 8 = .ok (.getfield 15, 3) := by decide +kernel
theorem dX2_put_11 : decode cX2_put 11 = .ok (.aload_n 0, 1) := by decide +kernel
theorem dX2_put_12 : decode cX2_put 12 = .ok (.getfield 9, 3) := by decide +kernel
theorem dX2_put_15 : decode cX2_put 15 = .ok (.arraylength, 1) := by decide +kernel
theorem dX2_put_16 : decode cX2_put 16 = .ok (.if_icmp .lt 4, 3) := by decide +kernel
theorem dX2_put_19 : decode cX2_put 19 = .ok (.return_, 1) := by decide +kernel
theorem dX2_put_20 : decode cX2_put 20 = .ok (.aload_n 0, 1) := by decide +kernel
theorem dX2_put_21 : decode cX2_put 21 = .ok (.getfield 15, 3) := by decide +kernel
theorem dX2_put_24 : decode cX2_put 24 = .ok (.istore_n 2, 1) := by decide +kernel
theorem dX2_put_25 : decode cX2_put 25 = .ok (.iload_n 2, 1) := by decide +kernel
theorem dX2_put_26 : decode cX2_put 26 = .ok (.ifCond .le 35, 3) := by decide +kernel
theorem dX2_put_29 : decode cX2_put 29 = .ok (.aload_n 0, 1) := by decide +kernel
theorem dX2_put_30 : decode cX2_put 30 = .ok (.getfield 9, 3) := by decide +kernel
theorem dX2_put_33 : decode cX2_put 33 = .ok (.iload_n 2, 1) := by decide +kernel
theorem dX2_put_34 : decode cX2_put 34 = .ok (.iconst 1, 1) := by decide +kernel
theorem dX2_put_35 : decode cX2_put 35 = .ok (.isub, 1) := by decide +kernel
theorem dX2_put_36 : decode cX2_put 36 = .ok (.iaload, 1) := by decide +kernel
theorem dX2_put_37 : decode cX2_put 37 = .ok (.iload_n 1, 1) := by decide +kernel
theorem dX2_put_38 : decode cX2_put 38 = .ok (.if_icmp .le 23, 3) := by decide +kernel
theorem dX2_put_41 : decode cX2_put 41 = .ok (.aload_n 0, 1) := by decide +kernel
theorem dX2_put_42 : decode cX2_put 42 = .ok (.getfield 9, 3) := by decide +kernel
theorem dX2_put_45 : decode cX2_put 45 = .ok (.iload_n 2, 1) := by decide +kernel
theorem dX2_put_46 : decode cX2_put 46 = .ok (.aload_n 0, 1) := by decide +kernel
theorem dX2_put_47 : decode cX2_put 47 = .ok (.getfield 9, 3) := by decide +kernel
theorem dX2_put_50 : decode cX2_put 50 = .ok (.iload_n 2, 1) := by decide +kernel
theorem dX2_put_51 : decode cX2_put 51 = .ok (.iconst 1, 1) := by decide +kernel
theorem dX2_put_52 : decode cX2_put 52 = .ok (.isub, 1) := by decide +kernel
theorem dX2_put_53 : decode cX2_put 53 = .ok (.iaload, 1) := by decide +kernel
theorem dX2_put_54 : decode cX2_put 54 = .ok (.iastore, 1) := by decide +kernel
theorem dX2_put_55 : decode cX2_put 55 = .ok (.iinc 2 (-1), 3) := by decide +kernel
theorem dX2_put_58 : decode cX2_put 58 = .ok (.goto (-33), 3) := by decide +kernel
theorem dX2_put_61 : decode cX2_put 61 = .ok (.aload_n 0, 1) := by decide +kernel
theorem dX2_put_62 : decode cX2_put 62 = .ok (.getfield 9, 3) := by decide +kernel
theorem dX2_put_65 : decode cX2_put 65 = .ok (.iload_n 2, 1) := by decide +kernel
theorem dX2_put_66 : decode cX2_put 66 = .ok (.iload_n 1, 1) := by decide +kernel
theorem dX2_put_67 : decode cX2_put 67 = .ok (.iastore, 1) := by decide +kernel
theorem dX2_put_68 : decode cX2_put 68 = .ok (.aload_n 0, 1) := by decide +kernel
theorem dX2_put_69 : decode cX2_put 69 = .ok (.dup, 1) := by decide +kernel
theorem dX2_put_70 : decode cX2_put 70 = .ok (.getfield 15, 3) := by decide +kernel
theorem dX2_put_73 : decode cX2_put 73 = .ok (.iconst 1, 1) := by decide +kernel
theorem dX2_put_74 : decode cX2_put 74 = .ok (.iadd, 1) := by decide +kernel
theorem dX2_put_75 : decode cX2_put 75 = .ok (.putfield 15, 3) := by decide +kernel
theorem dX2_put_78 : decode cX2_put 78 = .ok (.return_, 1) := by decide +kernel
theorem dX2_range_0 : decode cX2_range 0 = .ok (.aload_n 0, 1) := by decide +kernel
theorem dX2_range_1 : decode cX2_range 1 = .ok (.getfield 15, 3) := by decide +kernel
theorem dX2_range_4 : decode cX2_range 4 = .ok (.iconst 1, 1) := by decide +kernel
theorem dX2_range_5 : decode cX2_range 5 = .ok (.if_icmp .lt 15, 3) := by decide +kernel
theorem dX2_range_8 : decode cX2_range 8 = .ok (.aload_n 0, 1) := by decide +kernel
theorem dX2_range_9 : decode cX2_range 9 = .ok (.getfield 15, 3) := by decide +kernel
theorem dX2_range_12 : decode cX2_range 12 = .ok (.aload_n 0, 1) := by decide +kernel
theorem dX2_range_13 : decode cX2_range 13 = .ok (.getfield 9, 3) := by decide +kernel
theorem dX2_range_16 : decode cX2_range 16 = .ok (.arraylength, 1) := by decide +kernel
theorem dX2_range_17 : decode cX2_range 17 = .ok (.if_icmp .le 7, 3) := by decide +kernel
theorem dX2_range_20 : decode cX2_range 20 = .ok (.iconst 0, 1) := by decide +kernel
theorem dX2_range_21 : decode cX2_range 21 = .ok (.goto 21, 3) := by decide +kernel
theorem dX2_range_24 : decode cX2_range 24 = .ok (.aload_n 0, 1) := by decide +kernel
theorem dX2_range_25 : decode cX2_range 25 = .ok (.getfield 9, 3) := by decide +kernel
theorem dX2_range_28 : decode cX2_range 28 = .ok (.aload_n 0, 1) := by decide +kernel
theorem dX2_range_29 : decode cX2_range 29 = .ok (.getfield 15, 3) := by decide +kernel
theorem dX2_range_32 : decode cX2_range 32 = .ok (.iconst 1, 1) := by decide +kernel
theorem dX2_range_33 : decode cX2_range 33 = .ok (.isub, 1) := by decide +kernel
theorem dX2_range_34 : decode cX2_range 34 = .ok (.iaload, 1) := by decide +kernel
theorem dX2_range_35 : decode cX2_range 35 = .ok (.aload_n 0, 1) := by decide +kernel
theorem dX2_range_36 : decode cX2_range 36 = .ok (.getfield 9, 3) := by decide +kernel
theorem dX2_range_39 : decode cX2_range 39 = .ok (.iconst 0, 1) := by decide +kernel
theorem dX2_range_40 : decode cX2_range 40 = .ok (.iaload, 1) := by decide +kernel
theorem dX2_range_41 : decode cX2_range 41 = .ok (.isub, 1) := by decide +kernel
theorem dX2_range_42 : decode cX2_range 42 = .ok (.ireturn, 1) := by decide +kernel
theorem dX2_middle_0 : decode cX2_middle 0 = .ok (.aload_n 0, 1) := by decide +kernel
theorem dX2_middle_1 : decode cX2_middle 1 = .ok (.getfield 15, 3) := by decide +kernel
theorem dX2_middle_4 : decode cX2_middle 4 = .ok (.iconst 1, 1) := by decide +kernel
theorem dX2_middle_5 : decode cX2_middle 5 = .ok (.if_icmp .lt 15, 3) := by decide +kernel
theorem dX2_middle_8 : decode cX2_middle 8 = .ok (.aload_n 0, 1) := by decide +kernel
theorem dX2_middle_9 : decode cX2_middle 9 = .ok (.getfield 15, 3) := by decide +kernel
theorem dX2_middle_12 : decode cX2_middle 12 = .ok (.aload_n 0, 1) := by decide +kernel
theorem dX2_middle_13 : decode cX2_middle 13 = .ok (.getfield 9, 3) := by decide +kernel
theorem dX2_middle_16 : decode cX2_middle 16 = .ok (.arraylength, 1) := by decide +kernel
theorem dX2_middle_17 : decode cX2_middle 17 = .ok (.if_icmp .le 7, 3) := by decide +kernel
theorem dX2_middle_20 : decode cX2_middle 20 = .ok (.iconst 0, 1) := by decide +kernel
theorem dX2_middle_21 : decode cX2_middle 21 = .ok (.goto 16, 3) := by decide +kernel
theorem dX2_middle_24 : decode cX2_middle 24 = .ok (.aload_n 0, 1) := by decide +kernel
theorem dX2_middle_25 : decode cX2_middle 25 = .ok (.getfield 9, 3) := by decide +kernel
theorem dX2_middle_28 : decode cX2_middle 28 = .ok (.aload_n 0, 1) := by decide +kernel
theorem dX2_middle_29 : decode cX2_middle 29 = .ok (.getfield 15, 3) := by decide +kernel
theorem dX2_middle_32 : decode cX2_middle 32 = .ok (.iconst 1, 1) := by decide +kernel
theorem dX2_middle_33 : decode cX2_middle 33 = .ok (.isub, 1) := by decide +kernel
theorem dX2_middle_34 : decode cX2_middle 34 = .ok (.iconst 2, 1) := by decide +kernel
theorem dX2_middle_35 : decode cX2_middle 35 = .ok (.idiv, 1) := by decide +kernel
theorem dX2_middle_36 : decode cX2_middle 36 = .ok (.iaload, 1) := by decide +kernel
theorem dX2_middle_37 : decode cX2_middle 37 = .ok (.ireturn, 1) := by decide +kernel
theorem dJ9_abs_0f7a4_0 : decode cJ9_abs_0f7a4 0 = .ok (.iload_n 0, 1) := by decide +kernel
theorem dJ9_abs_0f7a4_1 : decode cJ9_abs_0f7a4 1 = .ok (.ifCond .ge 8, 3) := by decide +kernel
theorem dJ9_abs_0f7a4_4 : decode cJ9_abs_0f7a4 4 = .ok (.iload_n 0, 1) := by decide +kernel
theorem dJ9_abs_0f7a4_5 : decode cJ9_abs_0f7a4 5 = .ok (.ineg, 1) := by decide +kernel
theorem dJ9_abs_0f7a4_6 : decode cJ9_abs_0f7a4 6 = .ok (.goto 4, 3) := by decide +kernel
theorem dJ9_abs_0f7a4_9 : decode cJ9_abs_0f7a4 9 = .ok (.iload_n 0, 1) := by decide +kernel
theorem dJ9_abs_0f7a4_10 : decode cJ9_abs_0f7a4 10 = .ok (.ireturn, 1) := by decide +kernel
theorem dJ9_max_7cf53_0 : decode cJ9_max_7cf53 0 = .ok (.iload_n 0, 1) := by decide +kernel
theorem dJ9_max_7cf53_1 : decode cJ9_max_7cf53 1 = .ok (.iload_n 1, 1) := by decide +kernel
theorem dJ9_max_7cf53_2 : decode cJ9_max_7cf53 2 = .ok (.if_icmp .lt 7, 3) := by decide +kernel
theorem dJ9_max_7cf53_5 : decode cJ9_max_7cf53 5 = .ok (.iload_n 0, 1) := by decide +kernel
theorem dJ9_max_7cf53_6 : decode cJ9_max_7cf53 6 = .ok (.goto 4, 3) := by decide +kernel
theorem dJ9_max_7cf53_9 : decode cJ9_max_7cf53 9 = .ok (.iload_n 1, 1) := by decide +kernel
theorem dJ9_max_7cf53_10 : decode cJ9_max_7cf53 10 = .ok (.ireturn, 1) := by decide +kernel
theorem dJ9_min_7cf53_0 : decode cJ9_min_7cf53 0 = .ok (.iload_n 0, 1) := by decide +kernel
theorem dJ9_min_7cf53_1 : decode cJ9_min_7cf53 1 = .ok (.iload_n 1, 1) := by decide +kernel
theorem dJ9_min_7cf53_2 : decode cJ9_min_7cf53 2 = .ok (.if_icmp .gt 7, 3) := by decide +kernel
theorem dJ9_min_7cf53_5 : decode cJ9_min_7cf53 5 = .ok (.iload_n 0, 1) := by decide +kernel
theorem dJ9_min_7cf53_6 : decode cJ9_min_7cf53 6 = .ok (.goto 4, 3) := by decide +kernel
theorem dJ9_min_7cf53_9 : decode cJ9_min_7cf53 9 = .ok (.iload_n 1, 1) := by decide +kernel
theorem dJ9_min_7cf53_10 : decode cJ9_min_7cf53 10 = .ok (.ireturn, 1) := by decide +kernel
theorem dJxa1e45_init_da8c8_0 : decode cJxa1e45_init_da8c8 0 = .ok (.aload_n 0, 1) := by decide +kernel
theorem dJxa1e45_init_da8c8_1 : decode cJxa1e45_init_da8c8 1 = .ok (.invokespecial 1, 3) := by decide +kernel
theorem dJxa1e45_init_da8c8_4 : decode cJxa1e45_init_da8c8 4 = .ok (.return_, 1) := by decide +kernel
theorem dJxc12de_init_da8c8_0 : decode cJxc12de_init_da8c8 0 = .ok (.aload_n 0, 1) := by decide +kernel
theorem dJxc12de_init_da8c8_1 : decode cJxc12de_init_da8c8 1 = .ok (.invokespecial 1, 3) := by decide +kernel
theorem dJxc12de_init_da8c8_4 : decode cJxc12de_init_da8c8 4 = .ok (.aload_n 0, 1) := by decide +kernel
theorem dJxc12de_init_da8c8_5 : decode cJxc12de_init_da8c8 5 = .ok (.iconst 0, 1) := by decide +kernel
theorem dJxc12de_init_da8c8_6 : decode cJxc12de_init_da8c8 6 = .ok (.putfield 7, 3) := by decide +kernel
theorem dJxc12de_init_da8c8_9 : decode cJxc12de_init_da8c8 9 = .ok (.return_, 1) := by decide +kernel
theorem dJx4a65c_init_da8c8_0 : decode cJx4a65c_init_da8c8 0 = .ok (.aload_n 0, 1) := by decide +kernel
theorem dJx4a65c_init_da8c8_1 : decode cJx4a65c_init_da8c8 1 = .ok (.invokespecial 1, 3) := by decide +kernel
theorem dJx4a65c_init_da8c8_4 : decode cJx4a65c_init_da8c8 4 = .ok (.aload_n 0, 1) := by decide +kernel
theorem dJx4a65c_init_da8c8_5 : decode cJx4a65c_init_da8c8 5 = .ok (.getstatic 39, 3) := by decide +kernel
theorem dJx4a65c_init_da8c8_8 : decode cJx4a65c_init_da8c8 8 = .ok (.putfield 9, 3) := by decide +kernel
theorem dJx4a65c_init_da8c8_11 : decode cJx4a65c_init_da8c8 11 = .ok (.return_, 1) := by decide +kernel
theorem dJx4a65c_grow_92f84_0 : decode cJx4a65c_grow_92f84 0 = .ok (.aload_n 0, 1) := by decide +kernel
theorem dJx4a65c_grow_92f84_1 : decode cJx4a65c_grow_92f84 1 = .ok (.getfield 9, 3) := by decide +kernel
theorem dJx4a65c_grow_92f84_4 : decode cJx4a65c_grow_92f84 4 = .ok (.arraylength, 1) := by decide +kernel
theorem dJx4a65c_grow_92f84_5 : decode cJx4a65c_grow_92f84 5 = .ok (.istore_n 2, 1) := by decide +kernel
theorem dJx4a65c_grow_92f84_6 : decode cJx4a65c_grow_92f84 6 = .ok (.iload_n 2, 1) := by decide +kernel
theorem dJx4a65c_grow_92f84_7 : decode cJx4a65c_grow_92f84 7 = .ok (.ifCond .gt 13, 3) := by decide +kernel
theorem dJx4a65c_grow_92f84_10 : decode cJx4a65c_grow_92f84 10 = .ok (.aload_n 0, 1) := by decide +kernel
theorem dJx4a65c_grow_92f84_11 : decode cJx4a65c_grow_92f84 11 = .ok (.getfield 9, 3) := by decide +kernel
theorem dJx4a65c_grow_92f84_14 : decode cJx4a65c_grow_92f84 14 = .ok (.getstatic 39, 3) := by decide +kernel
theorem dJx4a65c_grow_92f84_17 : decode cJx4a65c_grow_92f84 17 = .ok (.if_acmp .eq 28, 3) := by decide +kernel
theorem dJx4a65c_grow_92f84_20 : decode cJx4a65c_grow_92f84 20 = .ok (.iload_n 2, 1) := by decide +kernel
theorem dJx4a65c_grow_92f84_21 : decode cJx4a65c_grow_92f84 21 = .ok (.iload_n 1, 1) := by decide +kernel
theorem dJx4a65c_grow_92f84_22 : decode cJx4a65c_grow_92f84 22 = .ok (.iload_n 2, 1) := by decide +kernel
theorem dJx4a65c_grow_92f84_23 : decode cJx4a65c_grow_92f84 23 = .ok (.isub, 1) := by decide +kernel
theorem dJx4a65c_grow_92f84_24 : decode cJx4a65c_grow_92f84 24 = .ok (.iload_n 2, 1) := by decide +kernel
theorem dJx4a65c_grow_92f84_25 : decode cJx4a65c_grow_92f84 25 = .ok (.iconst 1, 1) := by decide +kernel
theorem dJx4a65c_grow_92f84_26 : decode cJx4a65c_grow_92f84 26 = .ok (.ishr, 1) := by decide +kernel
theorem dJx4a65c_grow_92f84_27 : decode cJx4a65c_grow_92f84 27 = .ok (.invokestatic 73, 3) := by decide +kernel
theorem dJx4a65c_grow_92f84_30 : decode cJx4a65c_grow_92f84 30 = .ok (.istore_n 3, 1) := by decide +kernel
theorem dJx4a65c_grow_92f84_31 : decode cJx4a65c_grow_92f84 31 = .ok (.aload_n 0, 1) := by decide +kernel
theorem dJx4a65c_grow_92f84_32 : decode cJx4a65c_grow_92f84 32 = .ok (.aload_n 0, 1) := by decide +kernel
theorem dJx4a65c_grow_92f84_33 : decode cJx4a65c_grow_92f84 33 = .ok (.getfield 9, 3) := by decide +kernel
theorem dJx4a65c_grow_92f84_36 : decode cJx4a65c_grow_92f84 36 = .ok (.iload_n 3, 1) := by decide +kernel
theorem dJx4a65c_grow_92f84_37 : decode cJx4a65c_grow_92f84 37 = .ok (.invokestatic 66, 3) := by decide +kernel
theorem dJx4a65c_grow_92f84_40 : decode cJx4a65c_grow_92f84 40 = .ok (.dup_x1, 1) := by decide +kernel
theorem dJx4a65c_grow_92f84_41 : decode cJx4a65c_grow_92f84 41 = .ok (.putfield 9, 3) := by decide +kernel
theorem dJx4a65c_grow_92f84_44 : decode cJx4a65c_grow_92f84 44 = .ok (.areturn, 1) := by decide +kernel
theorem dJx4a65c_grow_92f84_45 : decode cJx4a65c_grow_92f84 45 = .ok (.aload_n 0, 1) := by decide +kernel
theorem dJx4a65c_grow_92f84_46 : decode cJx4a65c_grow_92f84 46 = .ok (.bipush 10, 2) := by decide +kernel
theorem dJx4a65c_grow_92f84_48 : decode cJx4a65c_grow_92f84 48 = .ok (.iload_n 1, 1) := by decide +kernel
theorem dJx4a65c_grow_92f84_49 : decode cJx4a65c_grow_92f84 49 = .ok (.invokestatic 79, 3) := by decide +kernel
theorem dJx4a65c_grow_92f84_52 : decode cJx4a65c_grow_92f84 52 = .ok (.anewarray 7, 3) := by decide +kernel
theorem dJx4a65c_grow_92f84_55 : decode cJx4a65c_grow_92f84 55 = .ok (.dup_x1, 1) := by decide +kernel
theorem dJx4a65c_grow_92f84_56 : decode cJx4a65c_grow_92f84 56 = .ok (.putfield 9, 3) := by decide +kernel
theorem dJx4a65c_grow_92f84_59 : decode cJx4a65c_grow_92f84 59 = .ok (.areturn, 1) := by decide +kernel
theorem dJx4a65c_grow_d5877_0 : decode cJx4a65c_grow_d5877 0 = .ok (.aload_n 0, 1) := by decide +kernel
theorem dJx4a65c_grow_d5877_1 : decode cJx4a65c_grow_d5877 1 = .ok (.aload_n 0, 1) := by decide +kernel
theorem dJx4a65c_grow_d5877_2 : decode cJx4a65c_grow_d5877 2 = .ok (.getfield 48, 3) := by decide +kernel
theorem dJx4a65c_grow_d5877_5 : decode cJx4a65c_grow_d5877 5 = .ok (.iconst 1, 1) := by decide +kernel
theorem dJx4a65c_grow_d5877_6 : decode cJx4a65c_grow_d5877 6 = .ok (.iadd, 1) := by decide +kernel
theorem dJx4a65c_grow_d5877_7 : decode cJx4a65c_grow_d5877 7 = .ok (.invokevirtual 69, 3) := by decide +kernel
theorem dJx4a65c_grow_d5877_10 : decode cJx4a65c_grow_d5877 10 = .ok (.areturn, 1) := by decide +kernel
theorem dJx4a65c_size_8abf5_0 : decode cJx4a65c_size_8abf5 0 = .ok (.aload_n 0, 1) := by decide +kernel
theorem dJx4a65c_size_8abf5_1 : decode cJx4a65c_size_8abf5 1 = .ok (.getfield 48, 3) := by decide +kernel
theorem dJx4a65c_size_8abf5_4 : decode cJx4a65c_size_8abf5 4 = .ok (.ireturn, 1) := by decide +kernel
theorem dJx4a65c_elementData_915e3_0 : decode cJx4a65c_elementData_915e3 0 = .ok (.aload_n 0, 1) := by decide +kernel
theorem dJx4a65c_elementData_915e3_1 : decode cJx4a65c_elementData_915e3 1 = .ok (.getfield 9, 3) := by decide +kernel
theorem dJx4a65c_elementData_915e3_4 : decode cJx4a65c_elementData_915e3 4 = .ok (.iload_n 1, 1) := by decide +kernel
theorem dJx4a65c_elementData_915e3_5 : decode cJx4a65c_elementData_915e3 5 = .ok (.aaload, 1) := by decide +kernel
theorem dJx4a65c_elementData_915e3_6 : decode cJx4a65c_elementData_915e3 6 = .ok (.areturn, 1) := by decide +kernel
theorem dJx4a65c_get_915e3_0 : decode cJx4a65c_get_915e3 0 = .ok (.iload_n 1, 1) := by decide +kernel
theorem dJx4a65c_get_915e3_1 : decode cJx4a65c_get_915e3 1 = .ok (.aload_n 0, 1) := by decide +kernel
theorem dJx4a65c_get_915e3_2 : decode cJx4a65c_get_915e3 2 = .ok (.getfield 48, 3) := by decide +kernel
theorem dJx4a65c_get_915e3_5 : decode cJx4a65c_get_915e3 5 = .ok (.invokestatic 118, 3) := by decide +kernel
theorem dJx4a65c_get_915e3_8 : decode cJx4a65c_get_915e3 8 = .ok (.pop, 1) := by decide +kernel
theorem dJx4a65c_get_915e3_9 : decode cJx4a65c_get_915e3 9 = .ok (.aload_n 0, 1) := by decide +kernel
theorem dJx4a65c_get_915e3_10 : decode cJx4a65c_get_915e3 10 = .ok (.iload_n 1, 1) := by decide +kernel
theorem dJx4a65c_get_915e3_11 : decode cJx4a65c_get_915e3 11 = .ok (.invokevirtual 123, 3) := by decide +kernel
theorem dJx4a65c_get_915e3_14 : decode cJx4a65c_get_915e3 14 = .ok (.areturn, 1) := by decide +kernel
theorem dJx4a65c_add_72be8_0 : decode cJx4a65c_add_72be8 0 = .ok (.iload_n 3, 1) := by decide +kernel
theorem dJx4a65c_add_72be8_1 : decode cJx4a65c_add_72be8 1 = .ok (.aload_n 2, 1) := by decide +kernel
theorem dJx4a65c_add_72be8_2 : decode cJx4a65c_add_72be8 2 = .ok (.arraylength, 1) := by decide +kernel
theorem dJx4a65c_add_72be8_3 : decode cJx4a65c_add_72be8 3 = .ok (.if_icmp .ne 8, 3) := by decide +kernel
theorem dJx4a65c_add_72be8_6 : decode cJx4a65c_add_72be8 6 = .ok (.aload_n 0, 1) := by decide +kernel
theorem dJx4a65c_add_72be8_7 : decode cJx4a65c_add_72be8 7 = .ok (.invokevirtual 129, 3) := by decide +kernel
theorem dJx4a65c_add_72be8_10 : decode cJx4a65c_add_72be8 10 = .ok (.astore_n 2, 1) := by decide +kernel
theorem dJx4a65c_add_72be8_11 : decode cJx4a65c_add_72be8 11 = .ok (.aload_n 2, 1) := by decide +kernel
theorem dJx4a65c_add_72be8_12 : decode cJx4a65c_add_72be8 12 = .ok (.iload_n 3, 1) := by decide +kernel
theorem dJx4a65c_add_72be8_13 : decode cJx4a65c_add_72be8 13 = .ok (.aload_n 1, 1) := by decide +kernel
theorem dJx4a65c_add_72be8_14 : decode cJx4a65c_add_72be8 14 = .ok (.aastore, 1) := by decide +kernel
theorem dJx4a65c_add_72be8_15 : decode cJx4a65c_add_72be8 15 = .ok (.aload_n 0, 1) := by decide +kernel
theorem dJx4a65c_add_72be8_16 : decode cJx4a65c_add_72be8 16 = .ok (.iload_n 3, 1) := by decide +kernel
theorem dJx4a65c_add_72be8_17 : decode cJx4a65c_add_72be8 17 = .ok (.iconst 1, 1) := by decide +kernel
theorem dJx4a65c_add_72be8_18 : decode cJx4a65c_add_72be8 18 = .ok (.iadd, 1) := by decide +kernel
theorem dJx4a65c_add_72be8_19 : decode cJx4a65c_add_72be8 19 = .ok (.putfield 48, 3) := by decide +kernel
theorem dJx4a65c_add_72be8_22 : decode cJx4a65c_add_72be8 22 = .ok (.return_, 1) := by decide +kernel
theorem dJx4a65c_add_9ea2d_0 : decode cJx4a65c_add_9ea2d 0 = .ok (.aload_n 0, 1) := by decide +kernel
theorem dJx4a65c_add_9ea2d_1 : decode cJx4a65c_add_9ea2d 1 = .ok (.dup, 1) := by decide +kernel
theorem dJx4a65c_add_9ea2d_2 : decode cJx4a65c_add_9ea2d 2 = .ok (.getfield 63, 3) := by decide +kernel
theorem dJx4a65c_add_9ea2d_5 : decode cJx4a65c_add_9ea2d 5 = .ok (.iconst 1, 1) := by decide +kernel
theorem dJx4a65c_add_9ea2d_6 : decode cJx4a65c_add_9ea2d 6 = .ok (.iadd, 1) := by decide +kernel
theorem dJx4a65c_add_9ea2d_7 : decode cJx4a65c_add_9ea2d 7 = .ok (.putfield 63, 3) := by decide +kernel
theorem dJx4a65c_add_9ea2d_10 : decode cJx4a65c_add_9ea2d 10 = .ok (.aload_n 0, 1) := by decide +kernel
theorem dJx4a65c_add_9ea2d_11 : decode cJx4a65c_add_9ea2d 11 = .ok (.aload_n 1, 1) := by decide +kernel
theorem dJx4a65c_add_9ea2d_12 : decode cJx4a65c_add_9ea2d 12 = .ok (.aload_n 0, 1) := by decide +kernel
theorem dJx4a65c_add_9ea2d_13 : decode cJx4a65c_add_9ea2d 13 = .ok (.getfield 9, 3) := by decide +kernel
theorem dJx4a65c_add_9ea2d_16 : decode cJx4a65c_add_9ea2d 16 = .ok (.aload_n 0, 1) := by decide +kernel
theorem dJx4a65c_add_9ea2d_17 : decode cJx4a65c_add_9ea2d 17 = .ok (.getfield 48, 3) := by decide +kernel
theorem dJx4a65c_add_9ea2d_20 : decode cJx4a65c_add_9ea2d 20 = .ok (.invokevirtual 131, 3) := by decide +kernel
theorem dJx4a65c_add_9ea2d_23 : decode cJx4a65c_add_9ea2d 23 = .ok (.iconst 1, 1) := by decide +kernel
theorem dJx4a65c_add_9ea2d_24 : decode cJx4a65c_add_9ea2d 24 = .ok (.ireturn, 1) := by decide +kernel
theorem dJx4a65c_remove_915e3_0 : decode cJx4a65c_remove_915e3 0 = .ok (.iload_n 1, 1) := by decide +kernel
theorem dJx4a65c_remove_915e3_1 : decode cJx4a65c_remove_915e3 1 = .ok (.aload_n 0, 1) := by decide +kernel
theorem dJx4a65c_remove_915e3_2 : decode cJx4a65c_remove_915e3 2 = .ok (.getfield 48, 3) := by decide +kernel
theorem dJx4a65c_remove_915e3_5 : decode cJx4a65c_remove_915e3 5 = .ok (.invokestatic 118, 3) := by decide +kernel
theorem dJx4a65c_remove_915e3_8 : decode cJx4a65c_remove_915e3 8 = .ok (.pop, 1) := by decide +kernel
theorem dJx4a65c_remove_915e3_9 : decode cJx4a65c_remove_915e3 9 = .ok (.aload_n 0, 1) := by decide +kernel
theorem dJx4a65c_remove_915e3_10 : decode cJx4a65c_remove_915e3 10 = .ok (.getfield 9, 3) := by decide +kernel
theorem dJx4a65c_remove_915e3_13 : decode cJx4a65c_remove_915e3 13 = .ok (.astore_n 2, 1) := by decide +kernel
theorem dJx4a65c_remove_915e3_14 : decode cJx4a65c_remove_915e3 14 = .ok (.aload_n 2, 1) := by decide +kernel
theorem dJx4a65c_remove_915e3_15 : decode cJx4a65c_remove_915e3 15 = .ok (.iload_n 1, 1) := by decide +kernel
theorem dJx4a65c_remove_915e3_16 : decode cJx4a65c_remove_915e3 16 = .ok (.aaload, 1) := by decide +kernel
theorem dJx4a65c_remove_915e3_17 : decode cJx4a65c_remove_915e3 17 = .ok (.astore_n 3, 1) := by decide +kernel
theorem dJx4a65c_remove_915e3_18 : decode cJx4a65c_remove_915e3 18 = .ok (.aload_n 0, 1) := by decide +kernel
theorem dJx4a65c_remove_915e3_19 : decode cJx4a65c_remove_915e3 19 = .ok (.aload_n 2, 1) := by decide +kernel
theorem dJx4a65c_remove_915e3_20 : decode cJx4a65c_remove_915e3 20 = .ok (.iload_n 1, 1) := by decide +kernel
theorem dJx4a65c_remove_915e3_21 : decode cJx4a65c_remove_915e3 21 = .ok (.invokevirtual 144, 3) := by decide +kernel
theorem dJx4a65c_remove_915e3_24 : decode cJx4a65c_remove_915e3 24 = .ok (.aload_n 3, 1) := by decide +kernel
theorem dJx4a65c_remove_915e3_25 : decode cJx4a65c_remove_915e3 25 = .ok (.areturn, 1) := by decide +kernel
theorem dJx4a65c_fastRemove_b59b0_0 : decode cJx4a65c_fastRemove_b59b0 0 = .ok (.aload_n 0, 1) := by decide +kernel
theorem dJx4a65c_fastRemove_b59b0_1 : decode cJx4a65c_fastRemove_b59b0 1 = .ok (.dup, 1) := by decide +kernel
theorem dJx4a65c_fastRemove_b59b0_2 : decode cJx4a65c_fastRemove_b59b0 2 = .ok (.getfield 63, 3) := by decide +kernel
theorem dJx4a65c_fastRemove_b59b0_5 : decode cJx4a65c_fastRemove_b59b0 5 = .ok (.iconst 1, 1) := by decide +kernel
theorem dJx4a65c_fastRemove_b59b0_6 : decode cJx4a65c_fastRemove_b59b0 6 = .ok (.iadd, 1) := by decide +kernel
theorem dJx4a65c_fastRemove_b59b0_7 : decode cJx4a65c_fastRemove_b59b0 7 = .ok (.putfield 63, 3) := by decide +kernel
theorem dJx4a65c_fastRemove_b59b0_10 : decode cJx4a65c_fastRemove_b59b0 10 = .ok (.aload_n 0, 1) := by decide +kernel
theorem dJx4a65c_fastRemove_b59b0_11 : decode cJx4a65c_fastRemove_b59b0 11 = .ok (.getfield 48, 3) := by decide +kernel
theorem dJx4a65c_fastRemove_b59b0_14 : decode cJx4a65c_fastRemove_b59b0 14 = .ok (.iconst 1, 1) := by decide +kernel
theorem dJx4a65c_fastRemove_b59b0_15 : decode cJx4a65c_fastRemove_b59b0 15 = .ok (.isub, 1) := by decide +kernel
theorem dJx4a65c_fastRemove_b59b0_16 : decode cJx4a65c_fastRemove_b59b0 16 = .ok (.dup, 1) := by decide +kernel
theorem dJx4a65c_fastRemove_b59b0_17 : decode cJx4a65c_fastRemove_b59b0 17 = .ok (.istore_n 3, 1) := by decide +kernel
theorem dJx4a65c_fastRemove_b59b0_18 : decode cJx4a65c_fastRemove_b59b0 18 = .ok (.iload_n 2, 1) := by decide +kernel
theorem dJx4a65c_fastRemove_b59b0_19 : decode cJx4a65c_fastRemove_b59b0 19 = .ok (.if_icmp .le 15, 3) := by decide +kernel
theorem dJx4a65c_fastRemove_b59b0_22 : decode cJx4a65c_fastRemove_b59b0 22 = .ok (.aload_n 1, 1) := by decide +kernel
theorem dJx4a65c_fastRemove_b59b0_23 : decode cJx4a65c_fastRemove_b59b0 23 = .ok (.iload_n 2, 1) := by decide +kernel
theorem dJx4a65c_fastRemove_b59b0_24 : decode cJx4a65c_fastRemove_b59b0 24 = .ok (.iconst 1, 1) := by decide +kernel
theorem dJx4a65c_fastRemove_b59b0_25 : decode cJx4a65c_fastRemove_b59b0 25 = .ok (.iadd, 1) := by decide +kernel
theorem dJx4a65c_fastRemove_b59b0_26 : decode cJx4a65c_fastRemove_b59b0 26 = .ok (.aload_n 1, 1) := by decide +kernel
theorem dJx4a65c_fastRemove_b59b0_27 : decode cJx4a65c_fastRemove_b59b0 27 = .ok (.iload_n 2, 1) := by decide +kernel
theorem dJx4a65c_fastRemove_b59b0_28 : decode cJx4a65c_fastRemove_b59b0 28 = .ok (.iload_n 3, 1) := by decide +kernel
theorem dJx4a65c_fastRemove_b59b0_29 : decode cJx4a65c_fastRemove_b59b0 29 = .ok (.iload_n 2, 1) := by decide +kernel
theorem dJx4a65c_fastRemove_b59b0_30 : decode cJx4a65c_fastRemove_b59b0 30 = .ok (.isub, 1) := by decide +kernel
theorem dJx4a65c_fastRemove_b59b0_31 : decode cJx4a65c_fastRemove_b59b0 31 = .ok (.invokestatic 112, 3) := by decide +kernel
theorem dJx4a65c_fastRemove_b59b0_34 : decode cJx4a65c_fastRemove_b59b0 34 = .ok (.aload_n 1, 1) := by decide +kernel
theorem dJx4a65c_fastRemove_b59b0_35 : decode cJx4a65c_fastRemove_b59b0 35 = .ok (.aload_n 0, 1) := by decide +kernel
theorem dJx4a65c_fastRemove_b59b0_36 : decode cJx4a65c_fastRemove_b59b0 36 = .ok (.iload_n 3, 1) := by decide +kernel
theorem dJx4a65c_fastRemove_b59b0_37 : decode cJx4a65c_fastRemove_b59b0 37 = .ok (.dup_x1, 1) := by decide +kernel
theorem dJx4a65c_fastRemove_b59b0_38 : decode cJx4a65c_fastRemove_b59b0 38 = .ok (.putfield 48, 3) := by decide +kernel
theorem dJx4a65c_fastRemove_b59b0_41 : decode cJx4a65c_fastRemove_b59b0 41 = .ok (.aconst_null, 1) := by decide +kernel
theorem dJx4a65c_fastRemove_b59b0_42 : decode cJx4a65c_fastRemove_b59b0 42 = .ok (.aastore, 1) := by decide +kernel
theorem dJx4a65c_fastRemove_b59b0_43 : decode cJx4a65c_fastRemove_b59b0 43 = .ok (.return_, 1) := by decide +kernel
theorem dJ7_copyOf_1904c_0 : decode cJ7_copyOf_1904c 0 = .ok (.aload_n 0, 1) := by decide +kernel
theorem dJ7_copyOf_1904c_1 : decode cJ7_copyOf_1904c 1 = .ok (.iload_n 1, 1) := by decide +kernel
theorem dJ7_copyOf_1904c_2 : decode cJ7_copyOf_1904c 2 = .ok (.aload_n 0, 1) := by decide +kernel
theorem dJ7_copyOf_1904c_3 : decode cJ7_copyOf_1904c 3 = .ok (.invokevirtual 86, 3) := by decide +kernel
theorem dJ7_copyOf_1904c_6 : decode cJ7_copyOf_1904c 6 = .ok (.invokestatic 300, 3) := by decide +kernel
theorem dJ7_copyOf_1904c_9 : decode cJ7_copyOf_1904c 9 = .ok (.areturn, 1) := by decide +kernel
theorem dJ7_copyOf_6403c_0 : decode cJ7_copyOf_6403c 0 = .ok (.aload_n 2, 1) := by decide +kernel
theorem dJ7_copyOf_6403c_1 : decode cJ7_copyOf_6403c 1 = .ok (.ldc 110, 2) := by decide +kernel
theorem dJ7_copyOf_6403c_3 : decode cJ7_copyOf_6403c 3 = .ok (.if_acmp .ne 10, 3) := by decide +kernel
theorem dJ7_copyOf_6403c_6 : decode cJ7_copyOf_6403c 6 = .ok (.iload_n 1, 1) := by decide +kernel
theorem dJ7_copyOf_6403c_7 : decode cJ7_copyOf_6403c 7 = .ok (.anewarray 2, 3) := by decide +kernel
theorem dJ7_copyOf_6403c_10 : decode cJ7_copyOf_6403c 10 = .ok (.goto 14, 3) := by decide +kernel
theorem dJ7_copyOf_6403c_13 : decode cJ7_copyOf_6403c 13 = .ok (.aload_n 2, 1) := by decide +kernel
theorem dJ7_copyOf_6403c_14 : decode cJ7_copyOf_6403c 14 = .ok (.invokevirtual 90, 3) := by decide +kernel
theorem dJ7_copyOf_6403c_17 : decode cJ7_copyOf_6403c 17 = .ok (.iload_n 1, 1) := by decide +kernel
theorem dJ7_copyOf_6403c_18 : decode cJ7_copyOf_6403c 18 = .ok (.invokestatic 95, 3) := by decide +kernel
theorem dJ7_copyOf_6403c_21 : decode cJ7_copyOf_6403c 21 = .ok (.checkcast 110, 3) := by decide +kernel
theorem dJ7_copyOf_6403c_24 : decode cJ7_copyOf_6403c 24 = .ok (.astore_n 3, 1) := by decide +kernel
theorem dJ7_copyOf_6403c_25 : decode cJ7_copyOf_6403c 25 = .ok (.aload_n 0, 1) := by decide +kernel
theorem dJ7_copyOf_6403c_26 : decode cJ7_copyOf_6403c 26 = .ok (.iconst 0, 1) := by decide +kernel
theorem dJ7_copyOf_6403c_27 : decode cJ7_copyOf_6403c 27 = .ok (.aload_n 3, 1) := by decide +kernel
theorem dJ7_copyOf_6403c_28 : decode cJ7_copyOf_6403c 28 = .ok (.iconst 0, 1) := by decide +kernel
theorem dJ7_copyOf_6403c_29 : decode cJ7_copyOf_6403c 29 = .ok (.aload_n 0, 1) := by decide +kernel
theorem dJ7_copyOf_6403c_30 : decode cJ7_copyOf_6403c 30 = .ok (.arraylength, 1) := by decide +kernel
theorem dJ7_copyOf_6403c_31 : decode cJ7_copyOf_6403c 31 = .ok (.iload_n 1, 1) := by decide +kernel
theorem dJ7_copyOf_6403c_32 : decode cJ7_copyOf_6403c 32 = .ok (.invokestatic 304, 3) := by decide +kernel
theorem dJ7_copyOf_6403c_35 : decode cJ7_copyOf_6403c 35 = .ok (.invokestatic 150, 3) := by decide +kernel
theorem dJ7_copyOf_6403c_38 : decode cJ7_copyOf_6403c 38 = .ok (.aload_n 3, 1) := by decide +kernel
theorem dJ7_copyOf_6403c_39 : decode cJ7_copyOf_6403c 39 = .ok (.areturn, 1) := by decide +kernel
theorem dJ15_checkIndex_7cf53_0 : decode cJ15_checkIndex_7cf53 0 = .ok (.iload_n 0, 1) := by decide +kernel
theorem dJ15_checkIndex_7cf53_1 : decode cJ15_checkIndex_7cf53 1 = .ok (.iload_n 1, 1) := by decide +kernel
theorem dJ15_checkIndex_7cf53_2 : decode cJ15_checkIndex_7cf53 2 = .ok (.aconst_null, 1) := by decide +kernel
theorem dJ15_checkIndex_7cf53_3 : decode cJ15_checkIndex_7cf53 3 = .ok (.invokestatic 105, 3) := by decide +kernel
theorem dJ15_checkIndex_7cf53_6 : decode cJ15_checkIndex_7cf53 6 = .ok (.ireturn, 1) := by decide +kernel
theorem dJ8_newLength_cabcc_0 : decode cJ8_newLength_cabcc 0 = .ok (.iload_n 0, 1) := by decide +kernel
theorem dJ8_newLength_cabcc_1 : decode cJ8_newLength_cabcc 1 = .ok (.iload_n 1, 1) := by decide +kernel
theorem dJ8_newLength_cabcc_2 : decode cJ8_newLength_cabcc 2 = .ok (.iload_n 2, 1) := by decide +kernel
theorem dJ8_newLength_cabcc_3 : decode cJ8_newLength_cabcc 3 = .ok (.invokestatic 194, 3) := by decide +kernel
theorem dJ8_newLength_cabcc_6 : decode cJ8_newLength_cabcc 6 = .ok (.iadd, 1) := by decide +kernel
theorem dJ8_newLength_cabcc_7 : decode cJ8_newLength_cabcc 7 = .ok (.istore_n 3, 1) := by decide +kernel
theorem dJ8_newLength_cabcc_8 : decode cJ8_newLength_cabcc 8 = .ok (.iconst 0, 1) := by decide +kernel
theorem dJ8_newLength_cabcc_9 : decode cJ8_newLength_cabcc 9 = .ok (.iload_n 3, 1) := by decide +kernel
theorem dJ8_newLength_cabcc_10 : decode cJ8_newLength_cabcc 10 = .ok (.if_icmp .ge 11, 3) := by decide +kernel
theorem dJ8_newLength_cabcc_13 : decode cJ8_newLength_cabcc 13 = .ok (.iload_n 3, 1) := by decide +kernel
theorem dJ8_newLength_cabcc_14 : decode cJ8_newLength_cabcc 14 = .ok (.ldc 200, 2) := by decide +kernel
theorem dJ8_newLength_cabcc_16 : decode cJ8_newLength_cabcc 16 = .ok (.if_icmp .gt 5, 3) := by decide +kernel
theorem dJ8_newLength_cabcc_19 : decode cJ8_newLength_cabcc 19 = .ok (.iload_n 3, 1) := by decide +kernel
theorem dJ8_newLength_cabcc_20 : decode cJ8_newLength_cabcc 20 = .ok (.ireturn, 1) := by decide +kernel
theorem dJ8_newLength_cabcc_21 : decode cJ8_newLength_cabcc 21 = .ok (.iload_n 0, 1) := by decide +kernel
theorem dJ8_newLength_cabcc_22 : decode cJ8_newLength_cabcc 22 = .ok (.iload_n 1, 1) := by decide +kernel
theorem dJ8_newLength_cabcc_23 : decode cJ8_newLength_cabcc 23 = .ok (.invokestatic 201, 3) := by decide +kernel
theorem dJ8_newLength_cabcc_26 : decode cJ8_newLength_cabcc 26 = .ok (.ireturn, 1) := by decide +kernel
theorem dJ8_hugeLength_7cf53_0 : decode cJ8_hugeLength_7cf53 0 = .ok (.iload_n 0, 1) := by decide +kernel
theorem dJ8_hugeLength_7cf53_1 : decode cJ8_hugeLength_7cf53 1 = .ok (.iload_n 1, 1) := by decide +kernel
theorem dJ8_hugeLength_7cf53_2 : decode cJ8_hugeLength_7cf53 2 = .ok (.iadd, 1) := by decide +kernel
theorem dJ8_hugeLength_7cf53_3 : decode cJ8_hugeLength_7cf53 3 = .ok (.istore_n 2, 1) := by decide +kernel
theorem dJ8_hugeLength_7cf53_4 : decode cJ8_hugeLength_7cf53 4 = .ok (.iload_n 2, 1) := by decide +kernel
theorem dJ8_hugeLength_7cf53_5 : decode cJ8_hugeLength_7cf53 5 = .ok (.ifCond .ge 44, 3) := by decide +kernel
theorem dJ8_hugeLength_7cf53_8 : decode cJ8_hugeLength_7cf53 8 = .ok (.new 204, 3) := by decide +kernel
theorem dJ8_hugeLength_7cf53_11 : decode cJ8_hugeLength_7cf53 11 = .ok (.dup, 1) := by decide +kernel
theorem dJ8_hugeLength_7cf53_12 : decode cJ8_hugeLength_7cf53 12 = .ok (.new 89, 3) := by decide +kernel
theorem dJ8_hugeLength_7cf53_15 : decode cJ8_hugeLength_7cf53 15 = .ok (.dup, 1) := by decide +kernel
theorem dJ8_hugeLength_7cf53_16 : decode cJ8_hugeLength_7cf53 16 = .ok (.invokespecial 91, 3) := by decide +kernel
theorem dJ8_hugeLength_7cf53_19 : decode cJ8_hugeLength_7cf53 19 = .ok (.ldc 206, 2) := by decide +kernel
theorem dJ8_hugeLength_7cf53_21 : decode cJ8_hugeLength_7cf53 21 = .ok (.invokevirtual 94, 3) := by decide +kernel
theorem dJ8_hugeLength_7cf53_24 : decode cJ8_hugeLength_7cf53 24 = .ok (.iload_n 0, 1) := by decide +kernel
theorem dJ8_hugeLength_7cf53_25 : decode cJ8_hugeLength_7cf53 25 = .ok (.invokevirtual 98, 3) := by decide +kernel
theorem dJ8_hugeLength_7cf53_28 : decode cJ8_hugeLength_7cf53 28 = .ok (.ldc 208, 2) := by decide +kernel
theorem dJ8_hugeLength_7cf53_30 : decode cJ8_hugeLength_7cf53 30 = .ok (.invokevirtual 94, 3) := by decide +kernel
theorem dJ8_hugeLength_7cf53_33 : decode cJ8_hugeLength_7cf53 33 = .ok (.iload_n 1, 1) := by decide +kernel
theorem dJ8_hugeLength_7cf53_34 : decode cJ8_hugeLength_7cf53 34 = .ok (.invokevirtual 98, 3) := by decide +kernel
theorem dJ8_hugeLength_7cf53_37 : decode cJ8_hugeLength_7cf53 37 = .ok (.ldc 210, 2) := by decide +kernel
theorem dJ8_hugeLength_7cf53_39 : decode cJ8_hugeLength_7cf53 39 = .ok (.invokevirtual 94, 3) := by decide +kernel
theorem dJ8_hugeLength_7cf53_42 : decode cJ8_hugeLength_7cf53 42 = .ok (.invokevirtual 101, 3) := by decide +kernel
theorem dJ8_hugeLength_7cf53_45 : decode cJ8_hugeLength_7cf53 45 = .ok (.invokespecial 212, 3) := by decide +kernel
theorem dJ8_hugeLength_7cf53_48 : decode cJ8_hugeLength_7cf53 48 = .ok (.athrow, 1) := by decide +kernel
theorem dJ8_hugeLength_7cf53_49 : decode cJ8_hugeLength_7cf53 49 = .ok (.iload_n 2, 1) := by decide +kernel
theorem dJ8_hugeLength_7cf53_50 : decode cJ8_hugeLength_7cf53 50 = .ok (.ldc 200, 2) := by decide +kernel
theorem dJ8_hugeLength_7cf53_52 : decode cJ8_hugeLength_7cf53 52 = .ok (.if_icmp .gt 6, 3) := by decide +kernel
theorem dJ8_hugeLength_7cf53_55 : decode cJ8_hugeLength_7cf53 55 = .ok (.ldc 200, 2) := by decide +kernel
theorem dJ8_hugeLength_7cf53_57 : decode cJ8_hugeLength_7cf53 57 = .ok (.ireturn, 1) := by decide +kernel
theorem dJ8_hugeLength_7cf53_58 : decode cJ8_hugeLength_7cf53 58 = .ok (.iload_n 2, 1) := by decide +kernel
theorem dJ8_hugeLength_7cf53_59 : decode cJ8_hugeLength_7cf53 59 = .ok (.ireturn, 1) := by decide +kernel
theorem dJ3_checkIndex_8e157_0 : decode cJ3_checkIndex_8e157 0 = .ok (.iload_n 0, 1) := by decide +kernel
theorem dJ3_checkIndex_8e157_1 : decode cJ3_checkIndex_8e157 1 = .ok (.ifCond .lt 8, 3) := by decide +kernel
theorem dJ3_checkIndex_8e157_4 : decode cJ3_checkIndex_8e157 4 = .ok (.iload_n 0, 1) := by decide +kernel
theorem dJ3_checkIndex_8e157_5 : decode cJ3_checkIndex_8e157 5 = .ok (.iload_n 1, 1) := by decide +kernel
theorem dJ3_checkIndex_8e157_6 : decode cJ3_checkIndex_8e157 6 = .ok (.if_icmp .lt 10, 3) := by decide +kernel
theorem dJ3_checkIndex_8e157_9 : decode cJ3_checkIndex_8e157 9 = .ok (.aload_n 2, 1) := by decide +kernel
theorem dJ3_checkIndex_8e157_10 : decode cJ3_checkIndex_8e157 10 = .ok (.iload_n 0, 1) := by decide +kernel
theorem dJ3_checkIndex_8e157_11 : decode cJ3_checkIndex_8e157 11 = .ok (.iload_n 1, 1) := by decide +kernel
theorem dJ3_checkIndex_8e157_12 : decode cJ3_checkIndex_8e157 12 = .ok (.invokestatic 95, 3) := by decide +kernel
theorem dJ3_checkIndex_8e157_15 : decode cJ3_checkIndex_8e157 15 = .ok (.athrow, 1) := by decide +kernel
theorem dJ3_checkIndex_8e157_16 : decode cJ3_checkIndex_8e157 16 = .ok (.iload_n 0, 1) := by decide +kernel
theorem dJ3_checkIndex_8e157_17 : decode cJ3_checkIndex_8e157 17 = .ok (.ireturn, 1) := by decide +kernel
