theorem dX3_init_0 : decode cX3_init 0 = .ok (.aload_n 0, 1) := by decide +kernel
theorem dX3_init_1 : decode cX3_init 1 = .ok (.invokespecial 3, 3) := by decide +kernel
theorem dX3_init_4 : decode cX3_init 4 = .ok (.aload_n 0, 1) := by decide +kernel
theorem dX3_init_5 : decode cX3_init 5 = .ok (.iload_n 1, 1) := by decide +kernel
theorem dX3_init_6 : decode cX3_init 6 = .ok (.putfield 9, 3) := by decide +kernel
theorem dX3_init_9 : decode cX3_init 9 = .ok (.aload_n 0, 1) := by decide +kernel
theorem dX3_init_10 : decode cX3_init 10 = .ok (.iload_n 2, 1) := by decide +kernel
theorem dX3_init_11 : decode cX3_init 11 = .ok (.putfield 15, 3) := by decide +kernel
theorem dX3_init_14 : decode cX3_init 14 = .ok (.aload_n 0, 1) := by decide +kernel
theorem dX3_init_15 : decode cX3_init 15 = .ok (.bipush 64, 2) := by decide +kernel
theorem dX3_init_17 : decode cX3_init 17 = .ok (.newarray .int, 2) := by decide +kernel
theorem dX3_init_19 : decode cX3_init 19 = .ok (.putfield 18, 3) := by decide +kernel
theorem dX3_init_22 : decode cX3_init 22 = .ok (.aload_n 0, 1) := by decide +kernel
theorem dX3_init_23 : decode cX3_init 23 = .ok (.bipush 64, 2) := by decide +kernel
theorem dX3_init_25 : decode cX3_init 25 = .ok (.newarray .int, 2) := by decide +kernel
theorem dX3_init_27 : decode cX3_init 27 = .ok (.putfield 22, 3) := by decide +kernel
theorem dX3_init_30 : decode cX3_init 30 = .ok (.aload_n 0, 1) := by decide +kernel
theorem dX3_init_31 : decode cX3_init 31 = .ok (.bipush 64, 2) := by decide +kernel
theorem dX3_init_33 : decode cX3_init 33 = .ok (.newarray .int, 2) := by decide +kernel
theorem dX3_init_35 : decode cX3_init 35 = .ok (.putfield 25, 3) := by decide +kernel
theorem dX3_init_38 : decode cX3_init 38 = .ok (.aload_n 0, 1) := by decide +kernel
theorem dX3_init_39 : decode cX3_init 39 = .ok (.bipush 64, 2) := by decide +kernel
theorem dX3_init_41 : decode cX3_init 41 = .ok (.newarray .int, 2) := by decide +kernel
theorem dX3_init_43 : decode cX3_init 43 = .ok (.putfield 28, 3) := by decide +kernel
theorem dX3_init_46 : decode cX3_init 46 = .ok (.aload_n 0, 1) := by decide +kernel
theorem dX3_init_47 : decode cX3_init 47 = .ok (.sipush 128, 3) := by decide +kernel
theorem dX3_init_50 : decode cX3_init 50 = .ok (.newarray .int, 2) := by decide +kernel
theorem dX3_init_52 : decode cX3_init 52 = .ok (.putfield 31, 3) := by decide +kernel
theorem dX3_init_55 : decode cX3_init 55 = .ok (.return_, 1) := by decide +kernel
theorem dX3_barUnits_0 : decode cX3_barUnits 0 = .ok (.aload_n 0, 1) := by decide +kernel
theorem dX3_barUnits_1 : decode cX3_barUnits 1 = .ok (.getfield 15, 3) := by decide +kernel
theorem dX3_barUnits_4 : decode cX3_barUnits 4 = .ok (.lookupswitch 34 #[(1, 28), (3, 31)], 28) := by decide +kernel
theorem dX3_barUnits_32 : decode cX3_barUnits 32 = .ok (.bipush 16, 2) := by decide +kernel
theorem dX3_barUnits_34 : decode cX3_barUnits 34 = .ok (.ireturn, 1) := by decide +kernel
theorem dX3_barUnits_35 : decode cX3_barUnits 35 = .ok (.bipush 6, 2) := by decide +kernel
theorem dX3_barUnits_37 : decode cX3_barUnits 37 = .ok (.ireturn, 1) := by decide +kernel
theorem dX3_barUnits_38 : decode cX3_barUnits 38 = .ok (.bipush 8, 2) := by decide +kernel
theorem dX3_barUnits_40 : decode cX3_barUnits 40 = .ok (.ireturn, 1) := by decide +kernel
theorem dX3_canTake_0 : decode cX3_canTake 0 = .ok (.aload_n 0, 1) := by decide +kernel
theorem dX3_canTake_1 : decode cX3_canTake 1 = .ok (.invokevirtual 34, 3) := by decide +kernel
theorem dX3_canTake_4 : decode cX3_canTake 4 = .ok (.aload_n 0, 1) := by decide +kernel
theorem dX3_canTake_5 : decode cX3_canTake 5 = .ok (.invokevirtual 38, 3) := by decide +kernel
theorem dX3_canTake_8 : decode cX3_canTake 8 = .ok (.isub, 1) := by decide +kernel
theorem dX3_canTake_9 : decode cX3_canTake 9 = .ok (.istore 4, 2) := by decide +kernel
theorem dX3_canTake_11 : decode cX3_canTake 11 = .ok (.aload_n 0, 1) := by decide +kernel
theorem dX3_canTake_12 : decode cX3_canTake 12 = .ok (.getfield 41, 3) := by decide +kernel
theorem dX3_canTake_15 : decode cX3_canTake 15 = .ok (.bipush 64, 2) := by decide +kernel
theorem dX3_canTake_17 : decode cX3_canTake 17 = .ok (.if_icmp .ge 22, 3) := by decide +kernel
theorem dX3_canTake_20 : decode cX3_canTake 20 = .ok (.iload_n 2, 1) := by decide +kernel
theorem dX3_canTake_21 : decode cX3_canTake 21 = .ok (.iload 4, 2) := by decide +kernel
theorem dX3_canTake_23 : decode cX3_canTake 23 = .ok (.if_icmp .gt 16, 3) := by decide +kernel
theorem dX3_canTake_26 : decode cX3_canTake 26 = .ok (.aload_n 0, 1) := by decide +kernel
theorem dX3_canTake_27 : decode cX3_canTake 27 = .ok (.iload_n 1, 1) := by decide +kernel
theorem dX3_canTake_28 : decode cX3_canTake 28 = .ok (.iload_n 3, 1) := by decide +kernel
theorem dX3_canTake_29 : decode cX3_canTake 29 = .ok (.invokevirtual 44, 3) := by decide +kernel
theorem dX3_canTake_32 : decode cX3_canTake 32 = .ok (.ifCond .eq 7, 3) := by decide +kernel
theorem dX3_canTake_35 : decode cX3_canTake 35 = .ok (.iconst 1, 1) := by decide +kernel
theorem dX3_canTake_36 : decode cX3_canTake 36 = .ok (.goto 4, 3) := by decide +kernel
theorem dX3_canTake_39 : decode cX3_canTake 39 = .ok (.iconst 0, 1) := by decide +kernel
theorem dX3_canTake_40 : decode cX3_canTake 40 = .ok (.ireturn, 1) := by decide +kernel
theorem dX3_openBars_0 : decode cX3_openBars 0 = .ok (.aload_n 0, 1) := by decide +kernel
theorem dX3_openBars_1 : decode cX3_openBars 1 = .ok (.invokevirtual 34, 3) := by decide +kernel
theorem dX3_openBars_4 : decode cX3_openBars 4 = .ok (.istore_n 1, 1) := by decide +kernel
theorem dX3_openBars_5 : decode cX3_openBars 5 = .ok (.iload_n 1, 1) := by decide +kernel
theorem dX3_openBars_6 : decode cX3_openBars 6 = .ok (.iconst 1, 1) := by decide +kernel
theorem dX3_openBars_7 : decode cX3_openBars 7 = .ok (.if_icmp .ge 7, 3) := by decide +kernel
theorem dX3_openBars_10 : decode cX3_openBars 10 = .ok (.iconst 0, 1) := by decide +kernel
theorem dX3_openBars_11 : decode cX3_openBars 11 = .ok (.goto 9, 3) := by decide +kernel
theorem dX3_openBars_14 : decode cX3_openBars 14 = .ok (.aload_n 0, 1) := by decide +kernel
theorem dX3_openBars_15 : decode cX3_openBars 15 = .ok (.getfield 48, 3) := by decide +kernel
theorem dX3_openBars_18 : decode cX3_openBars 18 = .ok (.iload_n 1, 1) := by decide +kernel
theorem dX3_openBars_19 : decode cX3_openBars 19 = .ok (.idiv, 1) := by decide +kernel
theorem dX3_openBars_20 : decode cX3_openBars 20 = .ok (.ireturn, 1) := by decide +kernel
theorem dX3_unitsInOpenBar_0 : decode cX3_unitsInOpenBar 0 = .ok (.aload_n 0, 1) := by decide +kernel
theorem dX3_unitsInOpenBar_1 : decode cX3_unitsInOpenBar 1 = .ok (.invokevirtual 34, 3) := by decide +kernel
theorem dX3_unitsInOpenBar_4 : decode cX3_unitsInOpenBar 4 = .ok (.istore_n 1, 1) := by decide +kernel
theorem dX3_unitsInOpenBar_5 : decode cX3_unitsInOpenBar 5 = .ok (.iload_n 1, 1) := by decide +kernel
theorem dX3_unitsInOpenBar_6 : decode cX3_unitsInOpenBar 6 = .ok (.iconst 1, 1) := by decide +kernel
theorem dX3_unitsInOpenBar_7 : decode cX3_unitsInOpenBar 7 = .ok (.if_icmp .ge 7, 3) := by decide +kernel
theorem dX3_unitsInOpenBar_10 : decode cX3_unitsInOpenBar 10 = .ok (.iconst 0, 1) := by decide +kernel
theorem dX3_unitsInOpenBar_11 : decode cX3_unitsInOpenBar 11 = .ok (.goto 9, 3) := by decide +kernel
theorem dX3_unitsInOpenBar_14 : decode cX3_unitsInOpenBar 14 = .ok (.aload_n 0, 1) := by decide +kernel
theorem dX3_unitsInOpenBar_15 : decode cX3_unitsInOpenBar 15 = .ok (.getfield 48, 3) := by decide +kernel
theorem dX3_unitsInOpenBar_18 : decode cX3_unitsInOpenBar 18 = .ok (.iload_n 1, 1) := by decide +kernel
theorem dX3_unitsInOpenBar_19 : decode cX3_unitsInOpenBar 19 = .ok (.irem, 1) := by decide +kernel
theorem dX3_unitsInOpenBar_20 : decode cX3_unitsInOpenBar 20 = .ok (.ireturn, 1) := by decide +kernel
theorem dX3_isLawful_0 : decode cX3_isLawful 0 = .ok (.iload_n 2, 1) := by decide +kernel
theorem dX3_isLawful_1 : decode cX3_isLawful 1 = .ok (.tableswitch 156 0 8 #[51, 65, 76, 87, 99, 111, 123, 134, 145], 51) := by decide +kernel
theorem dX3_isLawful_52 : decode cX3_isLawful 52 = .ok (.aload_n 0, 1) := by decide +kernel
theorem dX3_isLawful_53 : decode cX3_isLawful 53 = .ok (.invokevirtual 51, 3) := by decide +kernel
theorem dX3_isLawful_56 : decode cX3_isLawful 56 = .ok (.iload_n 1, 1) := by decide +kernel
theorem dX3_isLawful_57 : decode cX3_isLawful 57 = .ok (.if_icmp .eq 7, 3) := by decide +kernel
theorem dX3_isLawful_60 : decode cX3_isLawful 60 = .ok (.iconst 1, 1) := by decide +kernel
theorem dX3_isLawful_61 : decode cX3_isLawful 61 = .ok (.goto 4, 3) := by decide +kernel
theorem dX3_isLawful_64 : decode cX3_isLawful 64 = .ok (.iconst 0, 1) := by decide +kernel
theorem dX3_isLawful_65 : decode cX3_isLawful 65 = .ok (.ireturn, 1) := by decide +kernel
theorem dX3_isLawful_66 : decode cX3_isLawful 66 = .ok (.iload_n 1, 1) := by decide +kernel
theorem dX3_isLawful_67 : decode cX3_isLawful 67 = .ok (.iconst 4, 1) := by decide +kernel
theorem dX3_isLawful_68 : decode cX3_isLawful 68 = .ok (.if_icmp .ge 7, 3) := by decide +kernel
theorem dX3_isLawful_71 : decode cX3_isLawful 71 = .ok (.iconst 1, 1) := by decide +kernel
theorem dX3_isLawful_72 : decode cX3_isLawful 72 = .ok (.goto 4, 3) := by decide +kernel
theorem dX3_isLawful_75 : decode cX3_isLawful 75 = .ok (.iconst 0, 1) := by decide +kernel
theorem dX3_isLawful_76 : decode cX3_isLawful 76 = .ok (.ireturn, 1) := by decide +kernel
theorem dX3_isLawful_77 : decode cX3_isLawful 77 = .ok (.iload_n 1, 1) := by decide +kernel
theorem dX3_isLawful_78 : decode cX3_isLawful 78 = .ok (.iconst 5, 1) := by decide +kernel
theorem dX3_isLawful_79 : decode cX3_isLawful 79 = .ok (.if_icmp .ge 7, 3) := by decide +kernel
theorem dX3_isLawful_82 : decode cX3_isLawful 82 = .ok (.iconst 1, 1) := by decide +kernel
theorem dX3_isLawful_83 : decode cX3_isLawful 83 = .ok (.goto 4, 3) := by decide +kernel
theorem dX3_isLawful_86 : decode cX3_isLawful 86 = .ok (.iconst 0, 1) := by decide +kernel
theorem dX3_isLawful_87 : decode cX3_isLawful 87 = .ok (.ireturn, 1) := by decide +kernel
theorem dX3_isLawful_88 : decode cX3_isLawful 88 = .ok (.iload_n 1, 1) := by decide +kernel
theorem dX3_isLawful_89 : decode cX3_isLawful 89 = .ok (.bipush 7, 2) := by decide +kernel
theorem dX3_isLawful_91 : decode cX3_isLawful 91 = .ok (.if_icmp .ge 7, 3) := by decide +kernel
theorem dX3_isLawful_94 : decode cX3_isLawful 94 = .ok (.iconst 1, 1) := by decide +kernel
theorem dX3_isLawful_95 : decode cX3_isLawful 95 = .ok (.goto 4, 3) := by decide +kernel
theorem dX3_isLawful_98 : decode cX3_isLawful 98 = .ok (.iconst 0, 1) := by decide +kernel
theorem dX3_isLawful_99 : decode cX3_isLawful 99 = .ok (.ireturn, 1) := by decide +kernel
theorem dX3_isLawful_100 : decode cX3_isLawful 100 = .ok (.iload_n 1, 1) := by decide +kernel
theorem dX3_isLawful_101 : decode cX3_isLawful 101 = .ok (.bipush 8, 2) := by decide +kernel
theorem dX3_isLawful_103 : decode cX3_isLawful 103 = .ok (.if_icmp .ge 7, 3) := by decide +kernel
theorem dX3_isLawful_106 : decode cX3_isLawful 106 = .ok (.iconst 1, 1) := by decide +kernel
theorem dX3_isLawful_107 : decode cX3_isLawful 107 = .ok (.goto 4, 3) := by decide +kernel
theorem dX3_isLawful_110 : decode cX3_isLawful 110 = .ok (.iconst 0, 1) := by decide +kernel
theorem dX3_isLawful_111 : decode cX3_isLawful 111 = .ok (.ireturn, 1) := by decide +kernel
theorem dX3_isLawful_112 : decode cX3_isLawful 112 = .ok (.iload_n 1, 1) := by decide +kernel
theorem dX3_isLawful_113 : decode cX3_isLawful 113 = .ok (.bipush 6, 2) := by decide +kernel
theorem dX3_isLawful_115 : decode cX3_isLawful 115 = .ok (.if_icmp .gt 7, 3) := by decide +kernel
theorem dX3_isLawful_118 : decode cX3_isLawful 118 = .ok (.iconst 1, 1) := by decide +kernel
theorem dX3_isLawful_119 : decode cX3_isLawful 119 = .ok (.goto 4, 3) := by decide +kernel
theorem dX3_isLawful_122 : decode cX3_isLawful 122 = .ok (.iconst 0, 1) := by decide +kernel
theorem dX3_isLawful_123 : decode cX3_isLawful 123 = .ok (.ireturn, 1) := by decide +kernel
theorem dX3_isLawful_124 : decode cX3_isLawful 124 = .ok (.iload_n 1, 1) := by decide +kernel
theorem dX3_isLawful_125 : decode cX3_isLawful 125 = .ok (.iconst 1, 1) := by decide +kernel
theorem dX3_isLawful_126 : decode cX3_isLawful 126 = .ok (.if_icmp .lt 7, 3) := by decide +kernel
theorem dX3_isLawful_129 : decode cX3_isLawful 129 = .ok (.iconst 1, 1) := by decide +kernel
theorem dX3_isLawful_130 : decode cX3_isLawful 130 = .ok (.goto 4, 3) := by decide +kernel
theorem dX3_isLawful_133 : decode cX3_isLawful 133 = .ok (.iconst 0, 1) := by decide +kernel
theorem dX3_isLawful_134 : decode cX3_isLawful 134 = .ok (.ireturn, 1) := by decide +kernel
theorem dX3_isLawful_135 : decode cX3_isLawful 135 = .ok (.iload_n 1, 1) := by decide +kernel
theorem dX3_isLawful_136 : decode cX3_isLawful 136 = .ok (.iconst 4, 1) := by decide +kernel
theorem dX3_isLawful_137 : decode cX3_isLawful 137 = .ok (.if_icmp .ne 7, 3) := by decide +kernel
theorem dX3_isLawful_140 : decode cX3_isLawful 140 = .ok (.iconst 1, 1) := by decide +kernel
theorem dX3_isLawful_141 : decode cX3_isLawful 141 = .ok (.goto 4, 3) := by decide +kernel
theorem dX3_isLawful_144 : decode cX3_isLawful 144 = .ok (.iconst 0, 1) := by decide +kernel
theorem dX3_isLawful_145 : decode cX3_isLawful 145 = .ok (.ireturn, 1) := by decide +kernel
theorem dX3_isLawful_146 : decode cX3_isLawful 146 = .ok (.iload_n 1, 1) := by decide +kernel
theorem dX3_isLawful_147 : decode cX3_isLawful 147 = .ok (.iconst 1, 1) := by decide +kernel
theorem dX3_isLawful_148 : decode cX3_isLawful 148 = .ok (.if_icmp .ne 7, 3) := by decide +kernel
theorem dX3_isLawful_151 : decode cX3_isLawful 151 = .ok (.iconst 1, 1) := by decide +kernel
theorem dX3_isLawful_152 : decode cX3_isLawful 152 = .ok (.goto 4, 3) := by decide +kernel
theorem dX3_isLawful_155 : decode cX3_isLawful 155 = .ok (.iconst 0, 1) := by decide +kernel
theorem dX3_isLawful_156 : decode cX3_isLawful 156 = .ok (.ireturn, 1) := by decide +kernel
theorem dX3_isLawful_157 : decode cX3_isLawful 157 = .ok (.iconst 0, 1) := by decide +kernel
theorem dX3_isLawful_158 : decode cX3_isLawful 158 = .ok (.ireturn, 1) := by decide +kernel
theorem dX3_lastWrittenHeight_0 : decode cX3_lastWrittenHeight 0 = .ok (.aload_n 0, 1) := by decide +kernel
theorem dX3_lastWrittenHeight_1 : decode cX3_lastWrittenHeight 1 = .ok (.getfield 41, 3) := by decide +kernel
theorem dX3_lastWrittenHeight_4 : decode cX3_lastWrittenHeight 4 = .ok (.iconst 1, 1) := by decide +kernel
theorem dX3_lastWrittenHeight_5 : decode cX3_lastWrittenHeight 5 = .ok (.isub, 1) := by decide +kernel
theorem dX3_lastWrittenHeight_6 : decode cX3_lastWrittenHeight 6 = .ok (.istore_n 1, 1) := by decide +kernel
theorem dX3_lastWrittenHeight_7 : decode cX3_lastWrittenHeight 7 = .ok (.iload_n 1, 1) := by decide +kernel
theorem dX3_lastWrittenHeight_8 : decode cX3_lastWrittenHeight 8 = .ok (.ifCond .lt 21, 3) := by decide +kernel
theorem dX3_lastWrittenHeight_11 : decode cX3_lastWrittenHeight 11 = .ok (.iload_n 1, 1) := by decide +kernel
theorem dX3_lastWrittenHeight_12 : decode cX3_lastWrittenHeight 12 = .ok (.aload_n 0, 1) := by decide +kernel
theorem dX3_lastWrittenHeight_13 : decode cX3_lastWrittenHeight 13 = .ok (.getfield 18, 3) := by decide +kernel
theorem dX3_lastWrittenHeight_16 : decode cX3_lastWrittenHeight 16 = .ok (.arraylength, 1) := by decide +kernel
theorem dX3_lastWrittenHeight_17 : decode cX3_lastWrittenHeight 17 = .ok (.if_icmp .ge 12, 3) := by decide +kernel
theorem dX3_lastWrittenHeight_20 : decode cX3_lastWrittenHeight 20 = .ok (.aload_n 0, 1) := by decide +kernel
theorem dX3_lastWrittenHeight_21 : decode cX3_lastWrittenHeight 21 = .ok (.getfield 18, 3) := by decide +kernel
theorem dX3_lastWrittenHeight_24 : decode cX3_lastWrittenHeight 24 = .ok (.iload_n 1, 1) := by decide +kernel
theorem dX3_lastWrittenHeight_25 : decode cX3_lastWrittenHeight 25 = .ok (.iaload, 1) := by decide +kernel
theorem dX3_lastWrittenHeight_26 : decode cX3_lastWrittenHeight 26 = .ok (.goto 4, 3) := by decide +kernel
theorem dX3_lastWrittenHeight_29 : decode cX3_lastWrittenHeight 29 = .ok (.iconst (-1), 1) := by decide +kernel
theorem dX3_lastWrittenHeight_30 : decode cX3_lastWrittenHeight 30 = .ok (.ireturn, 1) := by decide +kernel
theorem dX3_write_0 : decode cX3_write 0 = .ok (.aload_n 0, 1) := by decide +kernel
theorem dX3_write_1 : decode cX3_write 1 = .ok (.getfield 41, 3) := by decide +kernel
theorem dX3_write_4 : decode cX3_write 4 = .ok (.istore 4, 2) := by decide +kernel
theorem dX3_write_6 : decode cX3_write 6 = .ok (.iload 4, 2) := by decide +kernel
theorem dX3_write_8 : decode cX3_write 8 = .ok (.ifCond .lt 54, 3) := by decide +kernel
theorem dX3_write_11 : decode cX3_write 11 = .ok (.iload 4, 2) := by decide +kernel
theorem dX3_write_13 : decode cX3_write 13 = .ok (.bipush 64, 2) := by decide +kernel
theorem dX3_write_15 : decode cX3_write 15 = .ok (.if_icmp .ge 47, 3) := by decide +kernel
theorem dX3_write_18 : decode cX3_write 18 = .ok (.aload_n 0, 1) := by decide +kernel
theorem dX3_write_19 : decode cX3_write 19 = .ok (.getfield 18, 3) := by decide +kernel
theorem dX3_write_22 : decode cX3_write 22 = .ok (.iload 4, 2) := by decide +kernel
theorem dX3_write_24 : decode cX3_write 24 = .ok (.iload_n 1, 1) := by decide +kernel
theorem dX3_write_25 : decode cX3_write 25 = .ok (.iastore, 1) := by decide +kernel
theorem dX3_write_26 : decode cX3_write 26 = .ok (.aload_n 0, 1) := by decide +kernel
theorem dX3_write_27 : decode cX3_write 27 = .ok (.getfield 22, 3) := by decide +kernel
theorem dX3_write_30 : decode cX3_write 30 = .ok (.iload 4, 2) := by decide +kernel
theorem dX3_write_32 : decode cX3_write 32 = .ok (.iload_n 2, 1) := by decide +kernel
theorem dX3_write_33 : decode cX3_write 33 = .ok (.iastore, 1) := by decide +kernel
theorem dX3_write_34 : decode cX3_write 34 = .ok (.aload_n 0, 1) := by decide +kernel
theorem dX3_write_35 : decode cX3_write 35 = .ok (.getfield 25, 3) := by decide +kernel
theorem dX3_write_38 : decode cX3_write 38 = .ok (.iload 4, 2) := by decide +kernel
theorem dX3_write_40 : decode cX3_write 40 = .ok (.iload_n 3, 1) := by decide +kernel
theorem dX3_write_41 : decode cX3_write 41 = .ok (.iastore, 1) := by decide +kernel
theorem dX3_write_42 : decode cX3_write 42 = .ok (.aload_n 0, 1) := by decide +kernel
theorem dX3_write_43 : decode cX3_write 43 = .ok (.dup, 1) := by decide +kernel
theorem dX3_write_44 : decode cX3_write 44 = .ok (.getfield 48, 3) := by decide +kernel
theorem dX3_write_47 : decode cX3_write 47 = .ok (.iload_n 2, 1) := by decide +kernel
theorem dX3_write_48 : decode cX3_write 48 = .ok (.iadd, 1) := by decide +kernel
theorem dX3_write_49 : decode cX3_write 49 = .ok (.putfield 48, 3) := by decide +kernel
theorem dX3_write_52 : decode cX3_write 52 = .ok (.aload_n 0, 1) := by decide +kernel
theorem dX3_write_53 : decode cX3_write 53 = .ok (.dup, 1) := by decide +kernel
theorem dX3_write_54 : decode cX3_write 54 = .ok (.getfield 41, 3) := by decide +kernel
theorem dX3_write_57 : decode cX3_write 57 = .ok (.iconst 1, 1) := by decide +kernel
theorem dX3_write_58 : decode cX3_write 58 = .ok (.iadd, 1) := by decide +kernel
theorem dX3_write_59 : decode cX3_write 59 = .ok (.putfield 41, 3) := by decide +kernel
theorem dX3_write_62 : decode cX3_write 62 = .ok (.aload_n 0, 1) := by decide +kernel
theorem dX3_write_63 : decode cX3_write 63 = .ok (.getfield 41, 3) := by decide +kernel
theorem dX3_write_66 : decode cX3_write 66 = .ok (.ireturn, 1) := by decide +kernel
theorem dX3_canEndPart_0 : decode cX3_canEndPart 0 = .ok (.aload_n 0, 1) := by decide +kernel
theorem dX3_canEndPart_1 : decode cX3_canEndPart 1 = .ok (.getfield 54, 3) := by decide +kernel
theorem dX3_canEndPart_4 : decode cX3_canEndPart 4 = .ok (.bipush 8, 2) := by decide +kernel
theorem dX3_canEndPart_6 : decode cX3_canEndPart 6 = .ok (.if_icmp .ge 25, 3) := by decide +kernel
theorem dX3_canEndPart_9 : decode cX3_canEndPart 9 = .ok (.aload_n 0, 1) := by decide +kernel
theorem dX3_canEndPart_10 : decode cX3_canEndPart 10 = .ok (.getfield 57, 3) := by decide +kernel
theorem dX3_canEndPart_13 : decode cX3_canEndPart 13 = .ok (.aload_n 0, 1) := by decide +kernel
theorem dX3_canEndPart_14 : decode cX3_canEndPart 14 = .ok (.getfield 41, 3) := by decide +kernel
theorem dX3_canEndPart_17 : decode cX3_canEndPart 17 = .ok (.if_icmp .ge 14, 3) := by decide +kernel
theorem dX3_canEndPart_20 : decode cX3_canEndPart 20 = .ok (.aload_n 0, 1) := by decide +kernel
theorem dX3_canEndPart_21 : decode cX3_canEndPart 21 = .ok (.invokevirtual 38, 3) := by decide +kernel
theorem dX3_canEndPart_24 : decode cX3_canEndPart 24 = .ok (.ifCond .ne 7, 3) := by decide +kernel
theorem dX3_canEndPart_27 : decode cX3_canEndPart 27 = .ok (.iconst 1, 1) := by decide +kernel
theorem dX3_canEndPart_28 : decode cX3_canEndPart 28 = .ok (.goto 4, 3) := by decide +kernel
theorem dX3_canEndPart_31 : decode cX3_canEndPart 31 = .ok (.iconst 0, 1) := by decide +kernel
theorem dX3_canEndPart_32 : decode cX3_canEndPart 32 = .ok (.ireturn, 1) := by decide +kernel
theorem dX3_endPart_0 : decode cX3_endPart 0 = .ok (.aload_n 0, 1) := by decide +kernel
theorem dX3_endPart_1 : decode cX3_endPart 1 = .ok (.getfield 57, 3) := by decide +kernel
theorem dX3_endPart_4 : decode cX3_endPart 4 = .ok (.istore_n 2, 1) := by decide +kernel
theorem dX3_endPart_5 : decode cX3_endPart 5 = .ok (.iload_n 2, 1) := by decide +kernel
theorem dX3_endPart_6 : decode cX3_endPart 6 = .ok (.ifCond .lt 36, 3) := by decide +kernel
theorem dX3_endPart_9 : decode cX3_endPart 9 = .ok (.iload_n 2, 1) := by decide +kernel
theorem dX3_endPart_10 : decode cX3_endPart 10 = .ok (.aload_n 0, 1) := by decide +kernel
theorem dX3_endPart_11 : decode cX3_endPart 11 = .ok (.getfield 41, 3) := by decide +kernel
theorem dX3_endPart_14 : decode cX3_endPart 14 = .ok (.if_icmp .ge 28, 3) := by decide +kernel
theorem dX3_endPart_17 : decode cX3_endPart 17 = .ok (.iload_n 2, 1) := by decide +kernel
theorem dX3_endPart_18 : decode cX3_endPart 18 = .ok (.aload_n 0, 1) := by decide +kernel
theorem dX3_endPart_19 : decode cX3_endPart 19 = .ok (.getfield 28, 3) := by decide +kernel
theorem dX3_endPart_22 : decode cX3_endPart 22 = .ok (.arraylength, 1) := by decide +kernel
theorem dX3_endPart_23 : decode cX3_endPart 23 = .ok (.if_icmp .ge 19, 3) := by decide +kernel
theorem dX3_endPart_26 : decode cX3_endPart 26 = .ok (.aload_n 0, 1) := by decide +kernel
theorem dX3_endPart_27 : decode cX3_endPart 27 = .ok (.getfield 28, 3) := by decide +kernel
theorem dX3_endPart_30 : decode cX3_endPart 30 = .ok (.iload_n 2, 1) := by decide +kernel
theorem dX3_endPart_31 : decode cX3_endPart 31 = .ok (.aload_n 0, 1) := by decide +kernel
theorem dX3_endPart_32 : decode cX3_endPart 32 = .ok (.getfield 54, 3) := by decide +kernel
theorem dX3_endPart_35 : decode cX3_endPart 35 = .ok (.iastore, 1) := by decide +kernel
theorem dX3_endPart_36 : decode cX3_endPart 36 = .ok (.iinc 2 1, 3) := by decide +kernel
theorem dX3_endPart_39 : decode cX3_endPart 39 = .ok (.goto (-34), 3) := by decide +kernel
theorem dX3_endPart_42 : decode cX3_endPart 42 = .ok (.aload_n 0, 1) := by decide +kernel
theorem dX3_endPart_43 : decode cX3_endPart 43 = .ok (.invokevirtual 60, 3) := by decide +kernel
theorem dX3_endPart_46 : decode cX3_endPart 46 = .ok (.iload_n 1, 1) := by decide +kernel
theorem dX3_endPart_47 : decode cX3_endPart 47 = .ok (.ifCond .eq 7, 3) := by decide +kernel
theorem dX3_endPart_50 : decode cX3_endPart 50 = .ok (.aload_n 0, 1) := by decide +kernel
theorem dX3_endPart_51 : decode cX3_endPart 51 = .ok (.invokevirtual 60, 3) := by decide +kernel
theorem dX3_endPart_54 : decode cX3_endPart 54 = .ok (.aload_n 0, 1) := by decide +kernel
theorem dX3_endPart_55 : decode cX3_endPart 55 = .ok (.invokevirtual 63, 3) := by decide +kernel
theorem dX3_endPart_58 : decode cX3_endPart 58 = .ok (.istore_n 2, 1) := by decide +kernel
theorem dX3_endPart_59 : decode cX3_endPart 59 = .ok (.aload_n 0, 1) := by decide +kernel
theorem dX3_endPart_60 : decode cX3_endPart 60 = .ok (.aload_n 0, 1) := by decide +kernel
theorem dX3_endPart_61 : decode cX3_endPart 61 = .ok (.getfield 41, 3) := by decide +kernel
theorem dX3_endPart_64 : decode cX3_endPart 64 = .ok (.putfield 57, 3) := by decide +kernel
theorem dX3_endPart_67 : decode cX3_endPart 67 = .ok (.aload_n 0, 1) := by decide +kernel
theorem dX3_endPart_68 : decode cX3_endPart 68 = .ok (.iconst 0, 1) := by decide +kernel
theorem dX3_endPart_69 : decode cX3_endPart 69 = .ok (.putfield 48, 3) := by decide +kernel
theorem dX3_endPart_72 : decode cX3_endPart 72 = .ok (.aload_n 0, 1) := by decide +kernel
theorem dX3_endPart_73 : decode cX3_endPart 73 = .ok (.dup, 1) := by decide +kernel
theorem dX3_endPart_74 : decode cX3_endPart 74 = .ok (.getfield 54, 3) := by decide +kernel
theorem dX3_endPart_77 : decode cX3_endPart 77 = .ok (.iconst 1, 1) := by decide +kernel
theorem dX3_endPart_78 : decode cX3_endPart 78 = .ok (.iadd, 1) := by decide +kernel
theorem dX3_endPart_79 : decode cX3_endPart 79 = .ok (.putfield 54, 3) := by decide +kernel
theorem dX3_endPart_82 : decode cX3_endPart 82 = .ok (.iload_n 2, 1) := by decide +kernel
theorem dX3_endPart_83 : decode cX3_endPart 83 = .ok (.ireturn, 1) := by decide +kernel
theorem dX3_playOpenNotes_0 : decode cX3_playOpenNotes 0 = .ok (.aload_n 0, 1) := by decide +kernel
theorem dX3_playOpenNotes_1 : decode cX3_playOpenNotes 1 = .ok (.getfield 57, 3) := by decide +kernel
theorem dX3_playOpenNotes_4 : decode cX3_playOpenNotes 4 = .ok (.istore_n 1, 1) := by decide +kernel
theorem dX3_playOpenNotes_5 : decode cX3_playOpenNotes 5 = .ok (.iload_n 1, 1) := by decide +kernel
theorem dX3_playOpenNotes_6 : decode cX3_playOpenNotes 6 = .ok (.aload_n 0, 1) := by decide +kernel
theorem dX3_playOpenNotes_7 : decode cX3_playOpenNotes 7 = .ok (.getfield 41, 3) := by decide +kernel
theorem dX3_playOpenNotes_10 : decode cX3_playOpenNotes 10 = .ok (.if_icmp .ge 41, 3) := by decide +kernel
theorem dX3_playOpenNotes_13 : decode cX3_playOpenNotes 13 = .ok (.aload_n 0, 1) := by decide +kernel
theorem dX3_playOpenNotes_14 : decode cX3_playOpenNotes 14 = .ok (.getfield 66, 3) := by decide +kernel
theorem dX3_playOpenNotes_17 : decode cX3_playOpenNotes 17 = .ok (.aload_n 0, 1) := by decide +kernel
theorem dX3_playOpenNotes_18 : decode cX3_playOpenNotes 18 = .ok (.getfield 31, 3) := by decide +kernel
theorem dX3_playOpenNotes_21 : decode cX3_playOpenNotes 21 = .ok (.arraylength, 1) := by decide +kernel
theorem dX3_playOpenNotes_22 : decode cX3_playOpenNotes 22 = .ok (.if_icmp .ge 29, 3) := by decide +kernel
theorem dX3_playOpenNotes_25 : decode cX3_playOpenNotes 25 = .ok (.aload_n 0, 1) := by decide +kernel
theorem dX3_playOpenNotes_26 : decode cX3_playOpenNotes 26 = .ok (.getfield 31, 3) := by decide +kernel
theorem dX3_playOpenNotes_29 : decode cX3_playOpenNotes 29 = .ok (.aload_n 0, 1) := by decide +kernel
theorem dX3_playOpenNotes_30 : decode cX3_playOpenNotes 30 = .ok (.getfield 66, 3) := by decide +kernel
theorem dX3_playOpenNotes_33 : decode cX3_playOpenNotes 33 = .ok (.iload_n 1, 1) := by decide +kernel
theorem dX3_playOpenNotes_34 : decode cX3_playOpenNotes 34 = .ok (.iastore, 1) := by decide +kernel
theorem dX3_playOpenNotes_35 : decode cX3_playOpenNotes 35 = .ok (.aload_n 0, 1) := by decide +kernel
theorem dX3_playOpenNotes_36 : decode cX3_playOpenNotes 36 = .ok (.dup, 1) := by decide +kernel
theorem dX3_playOpenNotes_37 : decode cX3_playOpenNotes 37 = .ok (.getfield 66, 3) := by decide +kernel
theorem dX3_playOpenNotes_40 : decode cX3_playOpenNotes 40 = .ok (.iconst 1, 1) := by decide +kernel
theorem dX3_playOpenNotes_41 : decode cX3_playOpenNotes 41 = .ok (.iadd, 1) := by decide +kernel
theorem dX3_playOpenNotes_42 : decode cX3_playOpenNotes 42 = .ok (.putfield 66, 3) := by decide +kernel
theorem dX3_playOpenNotes_45 : decode cX3_playOpenNotes 45 = .ok (.iinc 1 1, 3) := by decide +kernel
theorem dX3_playOpenNotes_48 : decode cX3_playOpenNotes 48 = .ok (.goto (-43), 3) := by decide +kernel
theorem dX3_playOpenNotes_51 : decode cX3_playOpenNotes 51 = .ok (.return_, 1) := by decide +kernel
theorem dX3_ofPlayed_0 : decode cX3_ofPlayed 0 = .ok (.iload_n 2, 1) := by decide +kernel
theorem dX3_ofPlayed_1 : decode cX3_ofPlayed 1 = .ok (.ifCond .lt 20, 3) := by decide +kernel
theorem dX3_ofPlayed_4 : decode cX3_ofPlayed 4 = .ok (.iload_n 2, 1) := by decide +kernel
theorem dX3_ofPlayed_5 : decode cX3_ofPlayed 5 = .ok (.aload_n 0, 1) := by decide +kernel
theorem dX3_ofPlayed_6 : decode cX3_ofPlayed 6 = .ok (.getfield 66, 3) := by decide +kernel
theorem dX3_ofPlayed_9 : decode cX3_ofPlayed 9 = .ok (.if_icmp .ge 12, 3) := by decide +kernel
theorem dX3_ofPlayed_12 : decode cX3_ofPlayed 12 = .ok (.iload_n 2, 1) := by decide +kernel
theorem dX3_ofPlayed_13 : decode cX3_ofPlayed 13 = .ok (.aload_n 0, 1) := by decide +kernel
theorem dX3_ofPlayed_14 : decode cX3_ofPlayed 14 = .ok (.getfield 31, 3) := by decide +kernel
theorem dX3_ofPlayed_17 : decode cX3_ofPlayed 17 = .ok (.arraylength, 1) := by decide +kernel
theorem dX3_ofPlayed_18 : decode cX3_ofPlayed 18 = .ok (.if_icmp .lt 5, 3) := by decide +kernel
theorem dX3_ofPlayed_21 : decode cX3_ofPlayed 21 = .ok (.iconst (-1), 1) := by decide +kernel
theorem dX3_ofPlayed_22 : decode cX3_ofPlayed 22 = .ok (.ireturn, 1) := by decide +kernel
theorem dX3_ofPlayed_23 : decode cX3_ofPlayed 23 = .ok (.aload_n 0, 1) := by decide +kernel
theorem dX3_ofPlayed_24 : decode cX3_ofPlayed 24 = .ok (.getfield 31, 3) := by decide +kernel
theorem dX3_ofPlayed_27 : decode cX3_ofPlayed 27 = .ok (.iload_n 2, 1) := by decide +kernel
theorem dX3_ofPlayed_28 : decode cX3_ofPlayed 28 = .ok (.iaload, 1) := by decide +kernel
theorem dX3_ofPlayed_29 : decode cX3_ofPlayed 29 = .ok (.istore_n 3, 1) := by decide +kernel
theorem dX3_ofPlayed_30 : decode cX3_ofPlayed 30 = .ok (.iload_n 3, 1) := by decide +kernel
theorem dX3_ofPlayed_31 : decode cX3_ofPlayed 31 = .ok (.ifCond .lt 15, 3) := by decide +kernel
theorem dX3_ofPlayed_34 : decode cX3_ofPlayed 34 = .ok (.iload_n 3, 1) := by decide +kernel
theorem dX3_ofPlayed_35 : decode cX3_ofPlayed 35 = .ok (.aload_n 1, 1) := by decide +kernel
theorem dX3_ofPlayed_36 : decode cX3_ofPlayed 36 = .ok (.arraylength, 1) := by decide +kernel
theorem dX3_ofPlayed_37 : decode cX3_ofPlayed 37 = .ok (.if_icmp .ge 9, 3) := by decide +kernel
theorem dX3_ofPlayed_40 : decode cX3_ofPlayed 40 = .ok (.aload_n 1, 1) := by decide +kernel
theorem dX3_ofPlayed_41 : decode cX3_ofPlayed 41 = .ok (.iload_n 3, 1) := by decide +kernel
theorem dX3_ofPlayed_42 : decode cX3_ofPlayed 42 = .ok (.iaload, 1) := by decide +kernel
theorem dX3_ofPlayed_43 : decode cX3_ofPlayed 43 = .ok (.goto 4, 3) := by decide +kernel
theorem dX3_ofPlayed_46 : decode cX3_ofPlayed 46 = .ok (.iconst (-1), 1) := by decide +kernel
theorem dX3_ofPlayed_47 : decode cX3_ofPlayed 47 = .ok (.ireturn, 1) := by decide +kernel
theorem dX3_heightAt_0 : decode cX3_heightAt 0 = .ok (.aload_n 0, 1) := by decide +kernel
theorem dX3_heightAt_1 : decode cX3_heightAt 1 = .ok (.aload_n 0, 1) := by decide +kernel
theorem dX3_heightAt_2 : decode cX3_heightAt 2 = .ok (.getfield 18, 3) := by decide +kernel
theorem dX3_heightAt_5 : decode cX3_heightAt 5 = .ok (.iload_n 1, 1) := by decide +kernel
theorem dX3_heightAt_6 : decode cX3_heightAt 6 = .ok (.invokevirtual 69, 3) := by decide +kernel
theorem dX3_heightAt_9 : decode cX3_heightAt 9 = .ok (.ireturn, 1) := by decide +kernel
theorem dX3_graceAt_0 : decode cX3_graceAt 0 = .ok (.aload_n 0, 1) := by decide +kernel
theorem dX3_graceAt_1 : decode cX3_graceAt 1 = .ok (.aload_n 0, 1) := by decide +kernel
theorem dX3_graceAt_2 : decode cX3_graceAt 2 = .ok (.getfield 25, 3) := by decide +kernel
theorem dX3_graceAt_5 : decode cX3_graceAt 5 = .ok (.iload_n 1, 1) := by decide +kernel
theorem dX3_graceAt_6 : decode cX3_graceAt 6 = .ok (.invokevirtual 69, 3) := by decide +kernel
theorem dX3_graceAt_9 : decode cX3_graceAt 9 = .ok (.ireturn, 1) := by decide +kernel
theorem dX3_unitsAhead_0 : decode cX3_unitsAhead 0 = .ok (.iconst 0, 1) := by decide +kernel
theorem dX3_unitsAhead_1 : decode cX3_unitsAhead 1 = .ok (.istore_n 2, 1) := by decide +kernel
theorem dX3_unitsAhead_2 : decode cX3_unitsAhead 2 = .ok (.iconst 0, 1) := by decide +kernel
theorem dX3_unitsAhead_3 : decode cX3_unitsAhead 3 = .ok (.istore_n 3, 1) := by decide +kernel
theorem dX3_unitsAhead_4 : decode cX3_unitsAhead 4 = .ok (.iload_n 3, 1) := by decide +kernel
theorem dX3_unitsAhead_5 : decode cX3_unitsAhead 5 = .ok (.iload_n 1, 1) := by decide +kernel
theorem dX3_unitsAhead_6 : decode cX3_unitsAhead 6 = .ok (.if_icmp .ge 29, 3) := by decide +kernel
theorem dX3_unitsAhead_9 : decode cX3_unitsAhead 9 = .ok (.iload_n 3, 1) := by decide +kernel
theorem dX3_unitsAhead_10 : decode cX3_unitsAhead 10 = .ok (.aload_n 0, 1) := by decide +kernel
theorem dX3_unitsAhead_11 : decode cX3_unitsAhead 11 = .ok (.getfield 66, 3) := by decide +kernel
theorem dX3_unitsAhead_14 : decode cX3_unitsAhead 14 = .ok (.if_icmp .ge 21, 3) := by decide +kernel
theorem dX3_unitsAhead_17 : decode cX3_unitsAhead 17 = .ok (.iload_n 2, 1) := by decide +kernel
theorem dX3_unitsAhead_18 : decode cX3_unitsAhead 18 = .ok (.aload_n 0, 1) := by decide +kernel
theorem dX3_unitsAhead_19 : decode cX3_unitsAhead 19 = .ok (.aload_n 0, 1) := by decide +kernel
theorem dX3_unitsAhead_20 : decode cX3_unitsAhead 20 = .ok (.getfield 22, 3) := by decide +kernel
theorem dX3_unitsAhead_23 : decode cX3_unitsAhead 23 = .ok (.iload_n 3, 1) := by decide +kernel
theorem dX3_unitsAhead_24 : decode cX3_unitsAhead 24 = .ok (.invokevirtual 69, 3) := by decide +kernel
theorem dX3_unitsAhead_27 : decode cX3_unitsAhead 27 = .ok (.iadd, 1) := by decide +kernel
theorem dX3_unitsAhead_28 : decode cX3_unitsAhead 28 = .ok (.istore_n 2, 1) := by decide +kernel
theorem dX3_unitsAhead_29 : decode cX3_unitsAhead 29 = .ok (.iinc 3 1, 3) := by decide +kernel
theorem dX3_unitsAhead_32 : decode cX3_unitsAhead 32 = .ok (.goto (-28), 3) := by decide +kernel
theorem dX3_unitsAhead_35 : decode cX3_unitsAhead 35 = .ok (.iload_n 2, 1) := by decide +kernel
theorem dX3_unitsAhead_36 : decode cX3_unitsAhead 36 = .ok (.ireturn, 1) := by decide +kernel
theorem dX3_unitsPlayed_0 : decode cX3_unitsPlayed 0 = .ok (.aload_n 0, 1) := by decide +kernel
theorem dX3_unitsPlayed_1 : decode cX3_unitsPlayed 1 = .ok (.aload_n 0, 1) := by decide +kernel
theorem dX3_unitsPlayed_2 : decode cX3_unitsPlayed 2 = .ok (.getfield 66, 3) := by decide +kernel
theorem dX3_unitsPlayed_5 : decode cX3_unitsPlayed 5 = .ok (.invokevirtual 73, 3) := by decide +kernel
theorem dX3_unitsPlayed_8 : decode cX3_unitsPlayed 8 = .ok (.ireturn, 1) := by decide +kernel
theorem dX3_tellPlayed_0 : decode cX3_tellPlayed 0 = .ok (.iload_n 2, 1) := by decide +kernel
theorem dX3_tellPlayed_1 : decode cX3_tellPlayed 1 = .ok (.tableswitch 59 0 3 #[31, 37, 47, 53], 31) := by decide +kernel
theorem dX3_tellPlayed_32 : decode cX3_tellPlayed 32 = .ok (.aload_n 0, 1) := by decide +kernel
theorem dX3_tellPlayed_33 : decode cX3_tellPlayed 33 = .ok (.iload_n 1, 1) := by decide +kernel
theorem dX3_tellPlayed_34 : decode cX3_tellPlayed 34 = .ok (.invokevirtual 77, 3) := by decide +kernel
theorem dX3_tellPlayed_37 : decode cX3_tellPlayed 37 = .ok (.ireturn, 1) := by decide +kernel
theorem dX3_tellPlayed_38 : decode cX3_tellPlayed 38 = .ok (.aload_n 0, 1) := by decide +kernel
theorem dX3_tellPlayed_39 : decode cX3_tellPlayed 39 = .ok (.aload_n 0, 1) := by decide +kernel
theorem dX3_tellPlayed_40 : decode cX3_tellPlayed 40 = .ok (.getfield 22, 3) := by decide +kernel
theorem dX3_tellPlayed_43 : decode cX3_tellPlayed 43 = .ok (.iload_n 1, 1) := by decide +kernel
theorem dX3_tellPlayed_44 : decode cX3_tellPlayed 44 = .ok (.invokevirtual 69, 3) := by decide +kernel
theorem dX3_tellPlayed_47 : decode cX3_tellPlayed 47 = .ok (.ireturn, 1) := by decide +kernel
theorem dX3_tellPlayed_48 : decode cX3_tellPlayed 48 = .ok (.aload_n 0, 1) := by decide +kernel
theorem dX3_tellPlayed_49 : decode cX3_tellPlayed 49 = .ok (.iload_n 1, 1) := by decide +kernel
theorem dX3_tellPlayed_50 : decode cX3_tellPlayed 50 = .ok (.invokevirtual 80, 3) := by decide +kernel
theorem dX3_tellPlayed_53 : decode cX3_tellPlayed 53 = .ok (.ireturn, 1) := by decide +kernel
theorem dX3_tellPlayed_54 : decode cX3_tellPlayed 54 = .ok (.aload_n 0, 1) := by decide +kernel
theorem dX3_tellPlayed_55 : decode cX3_tellPlayed 55 = .ok (.iload_n 1, 1) := by decide +kernel
theorem dX3_tellPlayed_56 : decode cX3_tellPlayed 56 = .ok (.invokevirtual 73, 3) := by decide +kernel
theorem dX3_tellPlayed_59 : decode cX3_tellPlayed 59 = .ok (.ireturn, 1) := by decide +kernel
theorem dX3_tellPlayed_60 : decode cX3_tellPlayed 60 = .ok (.aload_n 0, 1) := by decide +kernel
theorem dX3_tellPlayed_61 : decode cX3_tellPlayed 61 = .ok (.aload_n 0, 1) := by decide +kernel
theorem dX3_tellPlayed_62 : decode cX3_tellPlayed 62 = .ok (.getfield 28, 3) := by decide +kernel
theorem dX3_tellPlayed_65 : decode cX3_tellPlayed 65 = .ok (.iload_n 1, 1) := by decide +kernel
theorem dX3_tellPlayed_66 : decode cX3_tellPlayed 66 = .ok (.invokevirtual 69, 3) := by decide +kernel
theorem dX3_tellPlayed_69 : decode cX3_tellPlayed 69 = .ok (.ireturn, 1) := by decide +kernel
theorem dX3_tell_0 : decode cX3_tell 0 = .ok (.iload_n 1, 1) := by decide +kernel
theorem dX3_tell_1 : decode cX3_tell 1 = .ok (.tableswitch 69 0 5 #[39, 44, 49, 54, 59, 64], 39) := by decide +kernel
theorem dX3_tell_40 : decode cX3_tell 40 = .ok (.aload_n 0, 1) := by decide +kernel
theorem dX3_tell_41 : decode cX3_tell 41 = .ok (.getfield 15, 3) := by decide +kernel
theorem dX3_tell_44 : decode cX3_tell 44 = .ok (.ireturn, 1) := by decide +kernel
theorem dX3_tell_45 : decode cX3_tell 45 = .ok (.aload_n 0, 1) := by decide +kernel
theorem dX3_tell_46 : decode cX3_tell 46 = .ok (.getfield 66, 3) := by decide +kernel
theorem dX3_tell_49 : decode cX3_tell 49 = .ok (.ireturn, 1) := by decide +kernel
theorem dX3_tell_50 : decode cX3_tell 50 = .ok (.aload_n 0, 1) := by decide +kernel
theorem dX3_tell_51 : decode cX3_tell 51 = .ok (.invokevirtual 83, 3) := by decide +kernel
theorem dX3_tell_54 : decode cX3_tell 54 = .ok (.ireturn, 1) := by decide +kernel
theorem dX3_tell_55 : decode cX3_tell 55 = .ok (.aload_n 0, 1) := by decide +kernel
theorem dX3_tell_56 : decode cX3_tell 56 = .ok (.invokevirtual 86, 3) := by decide +kernel
theorem dX3_tell_59 : decode cX3_tell 59 = .ok (.ireturn, 1) := by decide +kernel
theorem dX3_tell_60 : decode cX3_tell 60 = .ok (.aload_n 0, 1) := by decide +kernel
theorem dX3_tell_61 : decode cX3_tell 61 = .ok (.invokevirtual 89, 3) := by decide +kernel
theorem dX3_tell_64 : decode cX3_tell 64 = .ok (.ireturn, 1) := by decide +kernel
theorem dX3_tell_65 : decode cX3_tell 65 = .ok (.aload_n 0, 1) := by decide +kernel
theorem dX3_tell_66 : decode cX3_tell 66 = .ok (.getfield 54, 3) := by decide +kernel
theorem dX3_tell_69 : decode cX3_tell 69 = .ok (.ireturn, 1) := by decide +kernel
theorem dX3_tell_70 : decode cX3_tell 70 = .ok (.aload_n 0, 1) := by decide +kernel
theorem dX3_tell_71 : decode cX3_tell 71 = .ok (.getfield 41, 3) := by decide +kernel
theorem dX3_tell_74 : decode cX3_tell 74 = .ok (.aload_n 0, 1) := by decide +kernel
theorem dX3_tell_75 : decode cX3_tell 75 = .ok (.getfield 57, 3) := by decide +kernel
theorem dX3_tell_78 : decode cX3_tell 78 = .ok (.isub, 1) := by decide +kernel
theorem dX3_tell_79 : decode cX3_tell 79 = .ok (.ireturn, 1) := by decide +kernel
theorem dX3_clashes_0 : decode cX3_clashes 0 = .ok (.iconst 0, 1) := by decide +kernel
theorem dX3_clashes_1 : decode cX3_clashes 1 = .ok (.istore_n 1, 1) := by decide +kernel
theorem dX3_clashes_2 : decode cX3_clashes 2 = .ok (.iconst 1, 1) := by decide +kernel
theorem dX3_clashes_3 : decode cX3_clashes 3 = .ok (.istore_n 2, 1) := by decide +kernel
theorem dX3_clashes_4 : decode cX3_clashes 4 = .ok (.iload_n 2, 1) := by decide +kernel
theorem dX3_clashes_5 : decode cX3_clashes 5 = .ok (.aload_n 0, 1) := by decide +kernel
theorem dX3_clashes_6 : decode cX3_clashes 6 = .ok (.getfield 66, 3) := by decide +kernel
theorem dX3_clashes_9 : decode cX3_clashes 9 = .ok (.if_icmp .ge 35, 3) := by decide +kernel
theorem dX3_clashes_12 : decode cX3_clashes 12 = .ok (.aload_n 0, 1) := by decide +kernel
theorem dX3_clashes_13 : decode cX3_clashes 13 = .ok (.iload_n 2, 1) := by decide +kernel
theorem dX3_clashes_14 : decode cX3_clashes 14 = .ok (.invokevirtual 80, 3) := by decide +kernel
theorem dX3_clashes_17 : decode cX3_clashes 17 = .ok (.ifCond .ne 21, 3) := by decide +kernel
theorem dX3_clashes_20 : decode cX3_clashes 20 = .ok (.aload_n 0, 1) := by decide +kernel
theorem dX3_clashes_21 : decode cX3_clashes 21 = .ok (.iload_n 2, 1) := by decide +kernel
theorem dX3_clashes_22 : decode cX3_clashes 22 = .ok (.invokevirtual 77, 3) := by decide +kernel
theorem dX3_clashes_25 : decode cX3_clashes 25 = .ok (.aload_n 0, 1) := by decide +kernel
theorem dX3_clashes_26 : decode cX3_clashes 26 = .ok (.iload_n 2, 1) := by decide +kernel
theorem dX3_clashes_27 : decode cX3_clashes 27 = .ok (.iconst 1, 1) := by decide +kernel
theorem dX3_clashes_28 : decode cX3_clashes 28 = .ok (.isub, 1) := by decide +kernel
theorem dX3_clashes_29 : decode cX3_clashes 29 = .ok (.invokevirtual 77, 3) := by decide +kernel
theorem dX3_clashes_32 : decode cX3_clashes 32 = .ok (.if_icmp .ne 6, 3) := by decide +kernel
theorem dX3_clashes_35 : decode cX3_clashes 35 = .ok (.iinc 1 1, 3) := by decide +kernel
theorem dX3_clashes_38 : decode cX3_clashes 38 = .ok (.iinc 2 1, 3) := by decide +kernel
theorem dX3_clashes_41 : decode cX3_clashes 41 = .ok (.goto (-37), 3) := by decide +kernel
theorem dX3_clashes_44 : decode cX3_clashes 44 = .ok (.iload_n 1, 1) := by decide +kernel
theorem dX3_clashes_45 : decode cX3_clashes 45 = .ok (.ireturn, 1) := by decide +kernel
theorem dX3_smallNotes_0 : decode cX3_smallNotes 0 = .ok (.iconst 0, 1) := by decide +kernel
theorem dX3_smallNotes_1 : decode cX3_smallNotes 1 = .ok (.istore_n 1, 1) := by decide +kernel
theorem dX3_smallNotes_2 : decode cX3_smallNotes 2 = .ok (.iconst 0, 1) := by decide +kernel
theorem dX3_smallNotes_3 : decode cX3_smallNotes 3 = .ok (.istore_n 2, 1) := by decide +kernel
theorem dX3_smallNotes_4 : decode cX3_smallNotes 4 = .ok (.iload_n 2, 1) := by decide +kernel
theorem dX3_smallNotes_5 : decode cX3_smallNotes 5 = .ok (.aload_n 0, 1) := by decide +kernel
theorem dX3_smallNotes_6 : decode cX3_smallNotes 6 = .ok (.getfield 66, 3) := by decide +kernel
theorem dX3_smallNotes_9 : decode cX3_smallNotes 9 = .ok (.if_icmp .ge 20, 3) := by decide +kernel
theorem dX3_smallNotes_12 : decode cX3_smallNotes 12 = .ok (.iload_n 1, 1) := by decide +kernel
theorem dX3_smallNotes_13 : decode cX3_smallNotes 13 = .ok (.aload_n 0, 1) := by decide +kernel
theorem dX3_smallNotes_14 : decode cX3_smallNotes 14 = .ok (.iload_n 2, 1) := by decide +kernel
theorem dX3_smallNotes_15 : decode cX3_smallNotes 15 = .ok (.invokevirtual 80, 3) := by decide +kernel
theorem dX3_smallNotes_18 : decode cX3_smallNotes 18 = .ok (.invokestatic 92, 3) := by decide +kernel
theorem dX3_smallNotes_21 : decode cX3_smallNotes 21 = .ok (.iadd, 1) := by decide +kernel
theorem dX3_smallNotes_22 : decode cX3_smallNotes 22 = .ok (.istore_n 1, 1) := by decide +kernel
theorem dX3_smallNotes_23 : decode cX3_smallNotes 23 = .ok (.iinc 2 1, 3) := by decide +kernel
theorem dX3_smallNotes_26 : decode cX3_smallNotes 26 = .ok (.goto (-22), 3) := by decide +kernel
theorem dX3_smallNotes_29 : decode cX3_smallNotes 29 = .ok (.iload_n 1, 1) := by decide +kernel
theorem dX3_smallNotes_30 : decode cX3_smallNotes 30 = .ok (.ireturn, 1) := by decide +kernel
theorem dX3_smallNotesOf_0 : decode cX3_smallNotesOf 0 = .ok (.iload_n 0, 1) := by decide +kernel
theorem dX3_smallNotesOf_1 : decode cX3_smallNotesOf 1 = .ok (.tableswitch 57 0 8 #[51, 57, 57, 57, 57, 53, 53, 53, 55], 51) := by decide +kernel
theorem dX3_smallNotesOf_52 : decode cX3_smallNotesOf 52 = .ok (.iconst 0, 1) := by decide +kernel
theorem dX3_smallNotesOf_53 : decode cX3_smallNotesOf 53 = .ok (.ireturn, 1) := by decide +kernel
theorem dX3_smallNotesOf_54 : decode cX3_smallNotesOf 54 = .ok (.iconst 3, 1) := by decide +kernel
theorem dX3_smallNotesOf_55 : decode cX3_smallNotesOf 55 = .ok (.ireturn, 1) := by decide +kernel
theorem dX3_smallNotesOf_56 : decode cX3_smallNotesOf 56 = .ok (.iconst 4, 1) := by decide +kernel
theorem dX3_smallNotesOf_57 : decode cX3_smallNotesOf 57 = .ok (.ireturn, 1) := by decide +kernel
theorem dX3_smallNotesOf_58 : decode cX3_smallNotesOf 58 = .ok (.iconst 1, 1) := by decide +kernel
theorem dX3_smallNotesOf_59 : decode cX3_smallNotesOf 59 = .ok (.ireturn, 1) := by decide +kernel
theorem dX3_likenessByShifts_0 : decode cX3_likenessByShifts 0 = .ok (.iconst 0, 1) := by decide +kernel
theorem dX3_likenessByShifts_1 : decode cX3_likenessByShifts 1 = .ok (.istore_n 2, 1) := by decide +kernel
theorem dX3_likenessByShifts_2 : decode cX3_likenessByShifts 2 = .ok (.iconst 1, 1) := by decide +kernel
theorem dX3_likenessByShifts_3 : decode cX3_likenessByShifts 3 = .ok (.aload_n 1, 1) := by decide +kernel
theorem dX3_likenessByShifts_4 : decode cX3_likenessByShifts 4 = .ok (.getfield 66, 3) := by decide +kernel
theorem dX3_likenessByShifts_7 : decode cX3_likenessByShifts 7 = .ok (.isub, 1) := by decide +kernel
theorem dX3_likenessByShifts_8 : decode cX3_likenessByShifts 8 = .ok (.istore_n 3, 1) := by decide +kernel
theorem dX3_likenessByShifts_9 : decode cX3_likenessByShifts 9 = .ok (.iload_n 3, 1) := by decide +kernel
theorem dX3_likenessByShifts_10 : decode cX3_likenessByShifts 10 = .ok (.aload_n 0, 1) := by decide +kernel
theorem dX3_likenessByShifts_11 : decode cX3_likenessByShifts 11 = .ok (.getfield 66, 3) := by decide +kernel
theorem dX3_likenessByShifts_14 : decode cX3_likenessByShifts 14 = .ok (.if_icmp .ge 79, 3) := by decide +kernel
theorem dX3_likenessByShifts_17 : decode cX3_likenessByShifts 17 = .ok (.iconst 0, 1) := by decide +kernel
theorem dX3_likenessByShifts_18 : decode cX3_likenessByShifts 18 = .ok (.istore 4, 2) := by decide +kernel
theorem dX3_likenessByShifts_20 : decode cX3_likenessByShifts 20 = .ok (.iconst 0, 1) := by decide +kernel
theorem dX3_likenessByShifts_21 : decode cX3_likenessByShifts 21 = .ok (.iload_n 3, 1) := by decide +kernel
theorem dX3_likenessByShifts_22 : decode cX3_likenessByShifts 22 = .ok (.invokestatic 95, 3) := by decide +kernel
theorem dX3_likenessByShifts_25 : decode cX3_likenessByShifts 25 = .ok (.istore 5, 2) := by decide +kernel
theorem dX3_likenessByShifts_27 : decode cX3_likenessByShifts 27 = .ok (.iload 5, 2) := by decide +kernel
theorem dX3_likenessByShifts_29 : decode cX3_likenessByShifts 29 = .ok (.aload_n 0, 1) := by decide +kernel
theorem dX3_likenessByShifts_30 : decode cX3_likenessByShifts 30 = .ok (.getfield 66, 3) := by decide +kernel
theorem dX3_likenessByShifts_33 : decode cX3_likenessByShifts 33 = .ok (.if_icmp .ge 54, 3) := by decide +kernel
theorem dX3_likenessByShifts_36 : decode cX3_likenessByShifts 36 = .ok (.iload 5, 2) := by decide +kernel
theorem dX3_likenessByShifts_38 : decode cX3_likenessByShifts 38 = .ok (.iload_n 3, 1) := by decide +kernel
theorem dX3_likenessByShifts_39 : decode cX3_likenessByShifts 39 = .ok (.isub, 1) := by decide +kernel
theorem dX3_likenessByShifts_40 : decode cX3_likenessByShifts 40 = .ok (.aload_n 1, 1) := by decide +kernel
theorem dX3_likenessByShifts_41 : decode cX3_likenessByShifts 41 = .ok (.getfield 66, 3) := by decide +kernel
theorem dX3_likenessByShifts_44 : decode cX3_likenessByShifts 44 = .ok (.if_icmp .ge 43, 3) := by decide +kernel
theorem dX3_likenessByShifts_47 : decode cX3_likenessByShifts 47 = .ok (.aload_n 0, 1) := by decide +kernel
theorem dX3_likenessByShifts_48 : decode cX3_likenessByShifts 48 = .ok (.iload 5, 2) := by decide +kernel
theorem dX3_likenessByShifts_50 : decode cX3_likenessByShifts 50 = .ok (.invokevirtual 77, 3) := by decide +kernel
theorem dX3_likenessByShifts_53 : decode cX3_likenessByShifts 53 = .ok (.aload_n 1, 1) := by decide +kernel
theorem dX3_likenessByShifts_54 : decode cX3_likenessByShifts 54 = .ok (.iload 5, 2) := by decide +kernel
theorem dX3_likenessByShifts_56 : decode cX3_likenessByShifts 56 = .ok (.iload_n 3, 1) := by decide +kernel
theorem dX3_likenessByShifts_57 : decode cX3_likenessByShifts 57 = .ok (.isub, 1) := by decide +kernel
theorem dX3_likenessByShifts_58 : decode cX3_likenessByShifts 58 = .ok (.invokevirtual 77, 3) := by decide +kernel
theorem dX3_likenessByShifts_61 : decode cX3_likenessByShifts 61 = .ok (.if_icmp .ne 10, 3) := by decide +kernel
theorem dX3_likenessByShifts_64 : decode cX3_likenessByShifts 64 = .ok (.iload 4, 2) := by decide +kernel
theorem dX3_likenessByShifts_66 : decode cX3_likenessByShifts 66 = .ok (.iconst 1, 1) := by decide +kernel
theorem dX3_likenessByShifts_67 : decode cX3_likenessByShifts 67 = .ok (.iadd, 1) := by decide +kernel
theorem dX3_likenessByShifts_68 : decode cX3_likenessByShifts 68 = .ok (.goto 4, 3) := by decide +kernel
theorem dX3_likenessByShifts_71 : decode cX3_likenessByShifts 71 = .ok (.iconst 0, 1) := by decide +kernel
theorem dX3_likenessByShifts_72 : decode cX3_likenessByShifts 72 = .ok (.istore 4, 2) := by decide +kernel
theorem dX3_likenessByShifts_74 : decode cX3_likenessByShifts 74 = .ok (.iload_n 2, 1) := by decide +kernel
theorem dX3_likenessByShifts_75 : decode cX3_likenessByShifts 75 = .ok (.iload 4, 2) := by decide +kernel
theorem dX3_likenessByShifts_77 : decode cX3_likenessByShifts 77 = .ok (.invokestatic 95, 3) := by decide +kernel
theorem dX3_likenessByShifts_80 : decode cX3_likenessByShifts 80 = .ok (.istore_n 2, 1) := by decide +kernel
theorem dX3_likenessByShifts_81 : decode cX3_likenessByShifts 81 = .ok (.iinc 5 1, 3) := by decide +kernel
theorem dX3_likenessByShifts_84 : decode cX3_likenessByShifts 84 = .ok (.goto (-57), 3) := by decide +kernel
theorem dX3_likenessByShifts_87 : decode cX3_likenessByShifts 87 = .ok (.iinc 3 1, 3) := by decide +kernel
theorem dX3_likenessByShifts_90 : decode cX3_likenessByShifts 90 = .ok (.goto (-81), 3) := by decide +kernel
theorem dX3_likenessByShifts_93 : decode cX3_likenessByShifts 93 = .ok (.iload_n 2, 1) := by decide +kernel
theorem dX3_likenessByShifts_94 : decode cX3_likenessByShifts 94 = .ok (.ireturn, 1) := by decide +kernel
theorem dX3_likenessByBeginnings_0 : decode cX3_likenessByBeginnings 0 = .ok (.iconst 0, 1) := by decide +kernel
theorem dX3_likenessByBeginnings_1 : decode cX3_likenessByBeginnings 1 = .ok (.istore_n 2, 1) := by decide +kernel
theorem dX3_likenessByBeginnings_2 : decode cX3_likenessByBeginnings 2 = .ok (.iconst 0, 1) := by decide +kernel
theorem dX3_likenessByBeginnings_3 : decode cX3_likenessByBeginnings 3 = .ok (.istore_n 3, 1) := by decide +kernel
theorem dX3_likenessByBeginnings_4 : decode cX3_likenessByBeginnings 4 = .ok (.iload_n 3, 1) := by decide +kernel
theorem dX3_likenessByBeginnings_5 : decode cX3_likenessByBeginnings 5 = .ok (.iload_n 2, 1) := by decide +kernel
theorem dX3_likenessByBeginnings_6 : decode cX3_likenessByBeginnings 6 = .ok (.iadd, 1) := by decide +kernel
theorem dX3_likenessByBeginnings_7 : decode cX3_likenessByBeginnings 7 = .ok (.aload_n 0, 1) := by decide +kernel
theorem dX3_likenessByBeginnings_8 : decode cX3_likenessByBeginnings 8 = .ok (.getfield 66, 3) := by decide +kernel
theorem dX3_likenessByBeginnings_11 : decode cX3_likenessByBeginnings 11 = .ok (.if_icmp .ge 42, 3) := by decide +kernel
theorem dX3_likenessByBeginnings_14 : decode cX3_likenessByBeginnings 14 = .ok (.iconst 0, 1) := by decide +kernel
theorem dX3_likenessByBeginnings_15 : decode cX3_likenessByBeginnings 15 = .ok (.istore 4, 2) := by decide +kernel
theorem dX3_likenessByBeginnings_17 : decode cX3_likenessByBeginnings 17 = .ok (.iload 4, 2) := by decide +kernel
theorem dX3_likenessByBeginnings_19 : decode cX3_likenessByBeginnings 19 = .ok (.iload_n 2, 1) := by decide +kernel
theorem dX3_likenessByBeginnings_20 : decode cX3_likenessByBeginnings 20 = .ok (.iadd, 1) := by decide +kernel
theorem dX3_likenessByBeginnings_21 : decode cX3_likenessByBeginnings 21 = .ok (.aload_n 1, 1) := by decide +kernel
theorem dX3_likenessByBeginnings_22 : decode cX3_likenessByBeginnings 22 = .ok (.getfield 66, 3) := by decide +kernel
theorem dX3_likenessByBeginnings_25 : decode cX3_likenessByBeginnings 25 = .ok (.if_icmp .ge 22, 3) := by decide +kernel
theorem dX3_likenessByBeginnings_28 : decode cX3_likenessByBeginnings 28 = .ok (.iload_n 2, 1) := by decide +kernel
theorem dX3_likenessByBeginnings_29 : decode cX3_likenessByBeginnings 29 = .ok (.aload_n 0, 1) := by decide +kernel
theorem dX3_likenessByBeginnings_30 : decode cX3_likenessByBeginnings 30 = .ok (.iload_n 3, 1) := by decide +kernel
theorem dX3_likenessByBeginnings_31 : decode cX3_likenessByBeginnings 31 = .ok (.aload_n 1, 1) := by decide +kernel
theorem dX3_likenessByBeginnings_32 : decode cX3_likenessByBeginnings 32 = .ok (.iload 4, 2) := by decide +kernel
theorem dX3_likenessByBeginnings_34 : decode cX3_likenessByBeginnings 34 = .ok (.invokevirtual 101, 3) := by decide +kernel
theorem dX3_likenessByBeginnings_37 : decode cX3_likenessByBeginnings 37 = .ok (.invokestatic 95, 3) := by decide +kernel
theorem dX3_likenessByBeginnings_40 : decode cX3_likenessByBeginnings 40 = .ok (.istore_n 2, 1) := by decide +kernel
theorem dX3_likenessByBeginnings_41 : decode cX3_likenessByBeginnings 41 = .ok (.iinc 4 1, 3) := by decide +kernel
theorem dX3_likenessByBeginnings_44 : decode cX3_likenessByBeginnings 44 = .ok (.goto (-27), 3) := by decide +kernel
theorem dX3_likenessByBeginnings_47 : decode cX3_likenessByBeginnings 47 = .ok (.iinc 3 1, 3) := by decide +kernel
theorem dX3_likenessByBeginnings_50 : decode cX3_likenessByBeginnings 50 = .ok (.goto (-46), 3) := by decide +kernel
theorem dX3_likenessByBeginnings_53 : decode cX3_likenessByBeginnings 53 = .ok (.iload_n 2, 1) := by decide +kernel
theorem dX3_likenessByBeginnings_54 : decode cX3_likenessByBeginnings 54 = .ok (.ireturn, 1) := by decide +kernel
theorem dX3_runFrom_0 : decode cX3_runFrom 0 = .ok (.iconst 0, 1) := by decide +kernel
theorem dX3_runFrom_1 : decode cX3_runFrom 1 = .ok (.istore 4, 2) := by decide +kernel
theorem dX3_runFrom_3 : decode cX3_runFrom 3 = .ok (.iload_n 1, 1) := by decide +kernel
theorem dX3_runFrom_4 : decode cX3_runFrom 4 = .ok (.iload 4, 2) := by decide +kernel
theorem dX3_runFrom_6 : decode cX3_runFrom 6 = .ok (.iadd, 1) := by decide +kernel
theorem dX3_runFrom_7 : decode cX3_runFrom 7 = .ok (.aload_n 0, 1) := by decide +kernel
theorem dX3_runFrom_8 : decode cX3_runFrom 8 = .ok (.getfield 66, 3) := by decide +kernel
theorem dX3_runFrom_11 : decode cX3_runFrom 11 = .ok (.if_icmp .ge 39, 3) := by decide +kernel
theorem dX3_runFrom_14 : decode cX3_runFrom 14 = .ok (.iload_n 3, 1) := by decide +kernel
theorem dX3_runFrom_15 : decode cX3_runFrom 15 = .ok (.iload 4, 2) := by decide +kernel
theorem dX3_runFrom_17 : decode cX3_runFrom 17 = .ok (.iadd, 1) := by decide +kernel
theorem dX3_runFrom_18 : decode cX3_runFrom 18 = .ok (.aload_n 2, 1) := by decide +kernel
theorem dX3_runFrom_19 : decode cX3_runFrom 19 = .ok (.getfield 66, 3) := by decide +kernel
theorem dX3_runFrom_22 : decode cX3_runFrom 22 = .ok (.if_icmp .ge 28, 3) := by decide +kernel
theorem dX3_runFrom_25 : decode cX3_runFrom 25 = .ok (.aload_n 0, 1) := by decide +kernel
theorem dX3_runFrom_26 : decode cX3_runFrom 26 = .ok (.iload_n 1, 1) := by decide +kernel
theorem dX3_runFrom_27 : decode cX3_runFrom 27 = .ok (.iload 4, 2) := by decide +kernel
theorem dX3_runFrom_29 : decode cX3_runFrom 29 = .ok (.iadd, 1) := by decide +kernel
theorem dX3_runFrom_30 : decode cX3_runFrom 30 = .ok (.invokevirtual 77, 3) := by decide +kernel
theorem dX3_runFrom_33 : decode cX3_runFrom 33 = .ok (.aload_n 2, 1) := by decide +kernel
theorem dX3_runFrom_34 : decode cX3_runFrom 34 = .ok (.iload_n 3, 1) := by decide +kernel
theorem dX3_runFrom_35 : decode cX3_runFrom 35 = .ok (.iload 4, 2) := by decide +kernel
theorem dX3_runFrom_37 : decode cX3_runFrom 37 = .ok (.iadd, 1) := by decide +kernel
theorem dX3_runFrom_38 : decode cX3_runFrom 38 = .ok (.invokevirtual 77, 3) := by decide +kernel
theorem dX3_runFrom_41 : decode cX3_runFrom 41 = .ok (.if_icmp .ne 9, 3) := by decide +kernel
theorem dX3_runFrom_44 : decode cX3_runFrom 44 = .ok (.iinc 4 1, 3) := by decide +kernel
theorem dX3_runFrom_47 : decode cX3_runFrom 47 = .ok (.goto (-44), 3) := by decide +kernel
theorem dX3_runFrom_50 : decode cX3_runFrom 50 = .ok (.iload 4, 2) := by decide +kernel
theorem dX3_runFrom_52 : decode cX3_runFrom 52 = .ok (.ireturn, 1) := by decide +kernel
theorem dX4_init_0 : decode cX4_init 0 = .ok (.aload_n 0, 1) := by decide +kernel
theorem dX4_init_1 : decode cX4_init 1 = .ok (.invokespecial 1, 3) := by decide +kernel
theorem dX4_init_4 : decode cX4_init 4 = .ok (.aload_n 0, 1) := by decide +kernel
theorem dX4_init_5 : decode cX4_init 5 = .ok (.new 7, 3) := by decide +kernel
theorem dX4_init_8 : decode cX4_init 8 = .ok (.dup, 1) := by decide +kernel
theorem dX4_init_9 : decode cX4_init 9 = .ok (.invokespecial 9, 3) := by decide +kernel
theorem dX4_init_12 : decode cX4_init 12 = .ok (.putfield 10, 3) := by decide +kernel
theorem dX4_init_15 : decode cX4_init 15 = .ok (.aload_n 0, 1) := by decide +kernel
theorem dX4_init_16 : decode cX4_init 16 = .ok (.new 7, 3) := by decide +kernel
theorem dX4_init_19 : decode cX4_init 19 = .ok (.dup, 1) := by decide +kernel
theorem dX4_init_20 : decode cX4_init 20 = .ok (.invokespecial 9, 3) := by decide +kernel
theorem dX4_init_23 : decode cX4_init 23 = .ok (.putfield 16, 3) := by decide +kernel
theorem dX4_init_26 : decode cX4_init 26 = .ok (.aload_n 0, 1) := by decide +kernel
theorem dX4_init_27 : decode cX4_init 27 = .ok (.bipush 8, 2) := by decide +kernel
theorem dX4_init_29 : decode cX4_init 29 = .ok (.newarray .int, 2) := by decide +kernel
theorem dX4_init_31 : decode cX4_init 31 = .ok (.putfield 19, 3) := by decide +kernel
theorem dX4_init_34 : decode cX4_init 34 = .ok (.aload_n 0, 1) := by decide +kernel
theorem dX4_init_35 : decode cX4_init 35 = .ok (.new 7, 3) := by decide +kernel
theorem dX4_init_38 : decode cX4_init 38 = .ok (.dup, 1) := by decide +kernel
theorem dX4_init_39 : decode cX4_init 39 = .ok (.invokespecial 9, 3) := by decide +kernel
theorem dX4_init_42 : decode cX4_init 42 = .ok (.putfield 23, 3) := by decide +kernel
theorem dX4_init_45 : decode cX4_init 45 = .ok (.aload_n 0, 1) := by decide +kernel
theorem dX4_init_46 : decode cX4_init 46 = .ok (.new 26, 3) := by decide +kernel
theorem dX4_init_49 : decode cX4_init 49 = .ok (.dup, 1) := by decide +kernel
theorem dX4_init_50 : decode cX4_init 50 = .ok (.iconst 0, 1) := by decide +kernel
theorem dX4_init_51 : decode cX4_init 51 = .ok (.iconst 0, 1) := by decide +kernel
theorem dX4_init_52 : decode cX4_init 52 = .ok (.iconst 0, 1) := by decide +kernel
theorem dX4_init_53 : decode cX4_init 53 = .ok (.invokespecial 28, 3) := by decide +kernel
theorem dX4_init_56 : decode cX4_init 56 = .ok (.putfield 31, 3) := by decide +kernel
theorem dX4_init_59 : decode cX4_init 59 = .ok (.aload_n 0, 1) := by decide +kernel
theorem dX4_init_60 : decode cX4_init 60 = .ok (.new 35, 3) := by decide +kernel
theorem dX4_init_63 : decode cX4_init 63 = .ok (.dup, 1) := by decide +kernel
theorem dX4_init_64 : decode cX4_init 64 = .ok (.invokespecial 37, 3) := by decide +kernel
theorem dX4_init_67 : decode cX4_init 67 = .ok (.putfield 38, 3) := by decide +kernel
theorem dX4_init_70 : decode cX4_init 70 = .ok (.aload_n 0, 1) := by decide +kernel
theorem dX4_init_71 : decode cX4_init 71 = .ok (.new 7, 3) := by decide +kernel
theorem dX4_init_74 : decode cX4_init 74 = .ok (.dup, 1) := by decide +kernel
theorem dX4_init_75 : decode cX4_init 75 = .ok (.invokespecial 9, 3) := by decide +kernel
theorem dX4_init_78 : decode cX4_init 78 = .ok (.putfield 42, 3) := by decide +kernel
theorem dX4_init_81 : decode cX4_init 81 = .ok (.aload_n 0, 1) := by decide +kernel
theorem dX4_init_82 : decode cX4_init 82 = .ok (.iconst 0, 1) := by decide +kernel
theorem dX4_init_83 : decode cX4_init 83 = .ok (.putfield 45, 3) := by decide +kernel
theorem dX4_init_86 : decode cX4_init 86 = .ok (.aload_n 0, 1) := by decide +kernel
theorem dX4_init_87 : decode cX4_init 87 = .ok (.iconst 0, 1) := by decide +kernel
theorem dX4_init_88 : decode cX4_init 88 = .ok (.putfield 49, 3) := by decide +kernel
theorem dX4_init_91 : decode cX4_init 91 = .ok (.return_, 1) := by decide +kernel
theorem dX4_tune_0 : decode cX4_tune 0 = .ok (.iload_n 1, 1) := by decide +kernel
theorem dX4_tune_1 : decode cX4_tune 1 = .ok (.iconst 0, 1) := by decide +kernel
theorem dX4_tune_2 : decode cX4_tune 2 = .ok (.iconst 3, 1) := by decide +kernel
theorem dX4_tune_3 : decode cX4_tune 3 = .ok (.invokestatic 53, 3) := by decide +kernel
theorem dX4_tune_6 : decode cX4_tune 6 = .ok (.ifCond .ne 13, 3) := by decide +kernel
theorem dX4_tune_9 : decode cX4_tune 9 = .ok (.new 57, 3) := by decide +kernel
theorem dX4_tune_12 : decode cX4_tune 12 = .ok (.dup, 1) := by decide +kernel
theorem dX4_tune_13 : decode cX4_tune 13 = .ok (.ldc 59, 2) := by decide +kernel
theorem dX4_tune_15 : decode cX4_tune 15 = .ok (.invokespecial 61, 3) := by decide +kernel
theorem dX4_tune_18 : decode cX4_tune 18 = .ok (.athrow, 1) := by decide +kernel
theorem dX4_tune_19 : decode cX4_tune 19 = .ok (.aload_n 0, 1) := by decide +kernel
theorem dX4_tune_20 : decode cX4_tune 20 = .ok (.getfield 10, 3) := by decide +kernel
theorem dX4_tune_23 : decode cX4_tune 23 = .ok (.invokevirtual 64, 3) := by decide +kernel
theorem dX4_tune_26 : decode cX4_tune 26 = .ok (.bipush 10, 2) := by decide +kernel
theorem dX4_tune_28 : decode cX4_tune 28 = .ok (.if_icmp .lt 13, 3) := by decide +kernel
theorem dX4_tune_31 : decode cX4_tune 31 = .ok (.new 68, 3) := by decide +kernel
theorem dX4_tune_34 : decode cX4_tune 34 = .ok (.dup, 1) := by decide +kernel
theorem dX4_tune_35 : decode cX4_tune 35 = .ok (.ldc 70, 2) := by decide +kernel
theorem dX4_tune_37 : decode cX4_tune 37 = .ok (.invokespecial 72, 3) := by decide +kernel
theorem dX4_tune_40 : decode cX4_tune 40 = .ok (.athrow, 1) := by decide +kernel
theorem dX4_tune_41 : decode cX4_tune 41 = .ok (.aload_n 0, 1) := by decide +kernel
theorem dX4_tune_42 : decode cX4_tune 42 = .ok (.getfield 10, 3) := by decide +kernel
theorem dX4_tune_45 : decode cX4_tune 45 = .ok (.invokevirtual 64, 3) := by decide +kernel
theorem dX4_tune_48 : decode cX4_tune 48 = .ok (.istore_n 2, 1) := by decide +kernel
theorem dX4_tune_49 : decode cX4_tune 49 = .ok (.aload_n 0, 1) := by decide +kernel
theorem dX4_tune_50 : decode cX4_tune 50 = .ok (.getfield 10, 3) := by decide +kernel
theorem dX4_tune_53 : decode cX4_tune 53 = .ok (.new 73, 3) := by decide +kernel
theorem dX4_tune_56 : decode cX4_tune 56 = .ok (.dup, 1) := by decide +kernel
theorem dX4_tune_57 : decode cX4_tune 57 = .ok (.iload_n 2, 1) := by decide +kernel
theorem dX4_tune_58 : decode cX4_tune 58 = .ok (.iload_n 1, 1) := by decide +kernel
theorem dX4_tune_59 : decode cX4_tune 59 = .ok (.invokespecial 75, 3) := by decide +kernel
theorem dX4_tune_62 : decode cX4_tune 62 = .ok (.invokevirtual 78, 3) := by decide +kernel
theorem dX4_tune_65 : decode cX4_tune 65 = .ok (.pop, 1) := by decide +kernel
theorem dX4_tune_66 : decode cX4_tune 66 = .ok (.iload_n 2, 1) := by decide +kernel
theorem dX4_tune_67 : decode cX4_tune 67 = .ok (.ireturn, 1) := by decide +kernel
theorem dX4_note_0 : decode cX4_note 0 = .ok (.aload_n 0, 1) := by decide +kernel
theorem dX4_note_1 : decode cX4_note 1 = .ok (.iload_n 1, 1) := by decide +kernel
theorem dX4_note_2 : decode cX4_note 2 = .ok (.invokevirtual 82, 3) := by decide +kernel
theorem dX4_note_5 : decode cX4_note 5 = .ok (.astore 5, 2) := by decide +kernel
theorem dX4_note_7 : decode cX4_note 7 = .ok (.iload_n 2, 1) := by decide +kernel
theorem dX4_note_8 : decode cX4_note 8 = .ok (.iconst 0, 1) := by decide +kernel
theorem dX4_note_9 : decode cX4_note 9 = .ok (.bipush 8, 2) := by decide +kernel
theorem dX4_note_11 : decode cX4_note 11 = .ok (.invokestatic 53, 3) := by decide +kernel
theorem dX4_note_14 : decode cX4_note 14 = .ok (.ifCond .eq 24, 3) := by decide +kernel
theorem dX4_note_17 : decode cX4_note 17 = .ok (.iload_n 3, 1) := by decide +kernel
theorem dX4_note_18 : decode cX4_note 18 = .ok (.iconst 1, 1) := by decide +kernel
theorem dX4_note_19 : decode cX4_note 19 = .ok (.bipush 16, 2) := by decide +kernel
theorem dX4_note_21 : decode cX4_note 21 = .ok (.invokestatic 53, 3) := by decide +kernel
theorem dX4_note_24 : decode cX4_note 24 = .ok (.ifCond .eq 14, 3) := by decide +kernel
theorem dX4_note_27 : decode cX4_note 27 = .ok (.iload 4, 2) := by decide +kernel
theorem dX4_note_29 : decode cX4_note 29 = .ok (.iconst 0, 1) := by decide +kernel
theorem dX4_note_30 : decode cX4_note 30 = .ok (.bipush 8, 2) := by decide +kernel
theorem dX4_note_32 : decode cX4_note 32 = .ok (.invokestatic 53, 3) := by decide +kernel
theorem dX4_note_35 : decode cX4_note 35 = .ok (.ifCond .ne 13, 3) := by decide +kernel
theorem dX4_note_38 : decode cX4_note 38 = .ok (.new 57, 3) := by decide +kernel
theorem dX4_note_41 : decode cX4_note 41 = .ok (.dup, 1) := by decide +kernel
theorem dX4_note_42 : decode cX4_note 42 = .ok (.ldc 86, 2) := by decide +kernel
theorem dX4_note_44 : decode cX4_note 44 = .ok (.invokespecial 61, 3) := by decide +kernel
theorem dX4_note_47 : decode cX4_note 47 = .ok (.athrow, 1) := by decide +kernel
theorem dX4_note_48 : decode cX4_note 48 = .ok (.aload 5, 2) := by decide +kernel
theorem dX4_note_50 : decode cX4_note 50 = .ok (.iload_n 2, 1) := by decide +kernel
theorem dX4_note_51 : decode cX4_note 51 = .ok (.iload_n 3, 1) := by decide +kernel
theorem dX4_note_52 : decode cX4_note 52 = .ok (.iload 4, 2) := by decide +kernel
theorem dX4_note_54 : decode cX4_note 54 = .ok (.invokevirtual 88, 3) := by decide +kernel
theorem dX4_note_57 : decode cX4_note 57 = .ok (.ifCond .ne 13, 3) := by decide +kernel
theorem dX4_note_60 : decode cX4_note 60 = .ok (.new 68, 3) := by decide +kernel
theorem dX4_note_63 : decode cX4_note 63 = .ok (.dup, 1) := by decide +kernel
theorem dX4_note_64 : decode cX4_note 64 = .ok (.ldc 91, 2) := by decide +kernel
theorem dX4_note_66 : decode cX4_note 66 = .ok (.invokespecial 72, 3) := by decide +kernel
theorem dX4_note_69 : decode cX4_note 69 = .ok (.athrow, 1) := by decide +kernel
theorem dX4_note_70 : decode cX4_note 70 = .ok (.aload 5, 2) := by decide +kernel
theorem dX4_note_72 : decode cX4_note 72 = .ok (.iload_n 2, 1) := by decide +kernel
theorem dX4_note_73 : decode cX4_note 73 = .ok (.iload_n 3, 1) := by decide +kernel
theorem dX4_note_74 : decode cX4_note 74 = .ok (.iload 4, 2) := by decide +kernel
theorem dX4_note_76 : decode cX4_note 76 = .ok (.invokevirtual 93, 3) := by decide +kernel
theorem dX4_note_79 : decode cX4_note 79 = .ok (.ireturn, 1) := by decide +kernel
theorem dX4_part_0 : decode cX4_part 0 = .ok (.aload_n 0, 1) := by decide +kernel
theorem dX4_part_1 : decode cX4_part 1 = .ok (.iload_n 1, 1) := by decide +kernel
theorem dX4_part_2 : decode cX4_part 2 = .ok (.invokevirtual 82, 3) := by decide +kernel
theorem dX4_part_5 : decode cX4_part 5 = .ok (.astore_n 3, 1) := by decide +kernel
theorem dX4_part_6 : decode cX4_part 6 = .ok (.aload_n 3, 1) := by decide +kernel
theorem dX4_part_7 : decode cX4_part 7 = .ok (.invokevirtual 97, 3) := by decide +kernel
theorem dX4_part_10 : decode cX4_part 10 = .ok (.ifCond .ne 13, 3) := by decide +kernel
theorem dX4_part_13 : decode cX4_part 13 = .ok (.new 68, 3) := by decide +kernel
theorem dX4_part_16 : decode cX4_part 16 = .ok (.dup, 1) := by decide +kernel
theorem dX4_part_17 : decode cX4_part 17 = .ok (.ldc 101, 2) := by decide +kernel
theorem dX4_part_19 : decode cX4_part 19 = .ok (.invokespecial 72, 3) := by decide +kernel
theorem dX4_part_22 : decode cX4_part 22 = .ok (.athrow, 1) := by decide +kernel
theorem dX4_part_23 : decode cX4_part 23 = .ok (.aload_n 3, 1) := by decide +kernel
theorem dX4_part_24 : decode cX4_part 24 = .ok (.iload_n 2, 1) := by decide +kernel
theorem dX4_part_25 : decode cX4_part 25 = .ok (.invokevirtual 103, 3) := by decide +kernel
theorem dX4_part_28 : decode cX4_part 28 = .ok (.ireturn, 1) := by decide +kernel
theorem dX4_played_0 : decode cX4_played 0 = .ok (.aload_n 0, 1) := by decide +kernel
theorem dX4_played_1 : decode cX4_played 1 = .ok (.iload_n 1, 1) := by decide +kernel
theorem dX4_played_2 : decode cX4_played 2 = .ok (.invokevirtual 82, 3) := by decide +kernel
theorem dX4_played_5 : decode cX4_played 5 = .ok (.astore 4, 2) := by decide +kernel
theorem dX4_played_7 : decode cX4_played 7 = .ok (.iload_n 2, 1) := by decide +kernel
theorem dX4_played_8 : decode cX4_played 8 = .ok (.ifCond .lt 12, 3) := by decide +kernel
theorem dX4_played_11 : decode cX4_played 11 = .ok (.iload_n 2, 1) := by decide +kernel
theorem dX4_played_12 : decode cX4_played 12 = .ok (.aload 4, 2) := by decide +kernel
theorem dX4_played_14 : decode cX4_played 14 = .ok (.getfield 107, 3) := by decide +kernel
theorem dX4_played_17 : decode cX4_played 17 = .ok (.if_icmp .lt 13, 3) := by decide +kernel
theorem dX4_played_20 : decode cX4_played 20 = .ok (.new 110, 3) := by decide +kernel
theorem dX4_played_23 : decode cX4_played 23 = .ok (.dup, 1) := by decide +kernel
theorem dX4_played_24 : decode cX4_played 24 = .ok (.ldc 112, 2) := by decide +kernel
theorem dX4_played_26 : decode cX4_played 26 = .ok (.invokespecial 114, 3) := by decide +kernel
theorem dX4_played_29 : decode cX4_played 29 = .ok (.athrow, 1) := by decide +kernel
theorem dX4_played_30 : decode cX4_played 30 = .ok (.iload_n 3, 1) := by decide +kernel
theorem dX4_played_31 : decode cX4_played 31 = .ok (.iconst 0, 1) := by decide +kernel
theorem dX4_played_32 : decode cX4_played 32 = .ok (.iconst 4, 1) := by decide +kernel
theorem dX4_played_33 : decode cX4_played 33 = .ok (.invokestatic 53, 3) := by decide +kernel
theorem dX4_played_36 : decode cX4_played 36 = .ok (.ifCond .ne 13, 3) := by decide +kernel
theorem dX4_played_39 : decode cX4_played 39 = .ok (.new 57, 3) := by decide +kernel
theorem dX4_played_42 : decode cX4_played 42 = .ok (.dup, 1) := by decide +kernel
theorem dX4_played_43 : decode cX4_played 43 = .ok (.ldc 115, 2) := by decide +kernel
theorem dX4_played_45 : decode cX4_played 45 = .ok (.invokespecial 61, 3) := by decide +kernel
theorem dX4_played_48 : decode cX4_played 48 = .ok (.athrow, 1) := by decide +kernel
theorem dX4_played_49 : decode cX4_played 49 = .ok (.aload 4, 2) := by decide +kernel
theorem dX4_played_51 : decode cX4_played 51 = .ok (.iload_n 2, 1) := by decide +kernel
theorem dX4_played_52 : decode cX4_played 52 = .ok (.iload_n 3, 1) := by decide +kernel
theorem dX4_played_53 : decode cX4_played 53 = .ok (.invokevirtual 117, 3) := by decide +kernel
theorem dX4_played_56 : decode cX4_played 56 = .ok (.ireturn, 1) := by decide +kernel
theorem dX4_ofTune_0 : decode cX4_ofTune 0 = .ok (.aload_n 0, 1) := by decide +kernel
theorem dX4_ofTune_1 : decode cX4_ofTune 1 = .ok (.iload_n 1, 1) := by decide +kernel
theorem dX4_ofTune_2 : decode cX4_ofTune 2 = .ok (.invokevirtual 82, 3) := by decide +kernel
theorem dX4_ofTune_5 : decode cX4_ofTune 5 = .ok (.astore_n 3, 1) := by decide +kernel
theorem dX4_ofTune_6 : decode cX4_ofTune 6 = .ok (.iload_n 2, 1) := by decide +kernel
theorem dX4_ofTune_7 : decode cX4_ofTune 7 = .ok (.iconst 0, 1) := by decide +kernel
theorem dX4_ofTune_8 : decode cX4_ofTune 8 = .ok (.bipush 6, 2) := by decide +kernel
theorem dX4_ofTune_10 : decode cX4_ofTune 10 = .ok (.invokestatic 53, 3) := by decide +kernel
theorem dX4_ofTune_13 : decode cX4_ofTune 13 = .ok (.ifCond .ne 13, 3) := by decide +kernel
theorem dX4_ofTune_16 : decode cX4_ofTune 16 = .ok (.new 57, 3) := by decide +kernel
theorem dX4_ofTune_19 : decode cX4_ofTune 19 = .ok (.dup, 1) := by decide +kernel
theorem dX4_ofTune_20 : decode cX4_ofTune 20 = .ok (.ldc 115, 2) := by decide +kernel
theorem dX4_ofTune_22 : decode cX4_ofTune 22 = .ok (.invokespecial 61, 3) := by decide +kernel
theorem dX4_ofTune_25 : decode cX4_ofTune 25 = .ok (.athrow, 1) := by decide +kernel
theorem dX4_ofTune_26 : decode cX4_ofTune 26 = .ok (.aload_n 3, 1) := by decide +kernel
theorem dX4_ofTune_27 : decode cX4_ofTune 27 = .ok (.iload_n 2, 1) := by decide +kernel
theorem dX4_ofTune_28 : decode cX4_ofTune 28 = .ok (.invokevirtual 121, 3) := by decide +kernel
theorem dX4_ofTune_31 : decode cX4_ofTune 31 = .ok (.ireturn, 1) := by decide +kernel
theorem dX4_alike_0 : decode cX4_alike 0 = .ok (.aload_n 0, 1) := by decide +kernel
theorem dX4_alike_1 : decode cX4_alike 1 = .ok (.iload_n 1, 1) := by decide +kernel
theorem dX4_alike_2 : decode cX4_alike 2 = .ok (.invokevirtual 82, 3) := by decide +kernel
theorem dX4_alike_5 : decode cX4_alike 5 = .ok (.astore_n 3, 1) := by decide +kernel
theorem dX4_alike_6 : decode cX4_alike 6 = .ok (.aload_n 3, 1) := by decide +kernel
theorem dX4_alike_7 : decode cX4_alike 7 = .ok (.aload_n 0, 1) := by decide +kernel
theorem dX4_alike_8 : decode cX4_alike 8 = .ok (.iload_n 2, 1) := by decide +kernel
theorem dX4_alike_9 : decode cX4_alike 9 = .ok (.invokevirtual 82, 3) := by decide +kernel
theorem dX4_alike_12 : decode cX4_alike 12 = .ok (.invokevirtual 125, 3) := by decide +kernel
theorem dX4_alike_15 : decode cX4_alike 15 = .ok (.ireturn, 1) := by decide +kernel
theorem dX4_alikeAnew_0 : decode cX4_alikeAnew 0 = .ok (.aload_n 0, 1) := by decide +kernel
theorem dX4_alikeAnew_1 : decode cX4_alikeAnew 1 = .ok (.iload_n 1, 1) := by decide +kernel
theorem dX4_alikeAnew_2 : decode cX4_alikeAnew 2 = .ok (.invokevirtual 82, 3) := by decide +kernel
theorem dX4_alikeAnew_5 : decode cX4_alikeAnew 5 = .ok (.astore_n 3, 1) := by decide +kernel
theorem dX4_alikeAnew_6 : decode cX4_alikeAnew 6 = .ok (.aload_n 3, 1) := by decide +kernel
theorem dX4_alikeAnew_7 : decode cX4_alikeAnew 7 = .ok (.aload_n 0, 1) := by decide +kernel
theorem dX4_alikeAnew_8 : decode cX4_alikeAnew 8 = .ok (.iload_n 2, 1) := by decide +kernel
theorem dX4_alikeAnew_9 : decode cX4_alikeAnew 9 = .ok (.invokevirtual 82, 3) := by decide +kernel
theorem dX4_alikeAnew_12 : decode cX4_alikeAnew 12 = .ok (.invokevirtual 129, 3) := by decide +kernel
theorem dX4_alikeAnew_15 : decode cX4_alikeAnew 15 = .ok (.ireturn, 1) := by decide +kernel
theorem dX4_tuneOfNumber_0 : decode cX4_tuneOfNumber 0 = .ok (.iload_n 1, 1) := by decide +kernel
theorem dX4_tuneOfNumber_1 : decode cX4_tuneOfNumber 1 = .ok (.ifCond .lt 14, 3) := by decide +kernel
theorem dX4_tuneOfNumber_4 : decode cX4_tuneOfNumber 4 = .ok (.iload_n 1, 1) := by decide +kernel
theorem dX4_tuneOfNumber_5 : decode cX4_tuneOfNumber 5 = .ok (.aload_n 0, 1) := by decide +kernel
theorem dX4_tuneOfNumber_6 : decode cX4_tuneOfNumber 6 = .ok (.getfield 10, 3) := by decide +kernel
theorem dX4_tuneOfNumber_9 : decode cX4_tuneOfNumber 9 = .ok (.invokevirtual 64, 3) := by decide +kernel
theorem dX4_tuneOfNumber_12 : decode cX4_tuneOfNumber 12 = .ok (.if_icmp .lt 13, 3) := by decide +kernel
theorem dX4_tuneOfNumber_15 : decode cX4_tuneOfNumber 15 = .ok (.new 110, 3) := by decide +kernel
theorem dX4_tuneOfNumber_18 : decode cX4_tuneOfNumber 18 = .ok (.dup, 1) := by decide +kernel
theorem dX4_tuneOfNumber_19 : decode cX4_tuneOfNumber 19 = .ok (.ldc 132, 2) := by decide +kernel
theorem dX4_tuneOfNumber_21 : decode cX4_tuneOfNumber 21 = .ok (.invokespecial 114, 3) := by decide +kernel
theorem dX4_tuneOfNumber_24 : decode cX4_tuneOfNumber 24 = .ok (.athrow, 1) := by decide +kernel
theorem dX4_tuneOfNumber_25 : decode cX4_tuneOfNumber 25 = .ok (.aload_n 0, 1) := by decide +kernel
theorem dX4_tuneOfNumber_26 : decode cX4_tuneOfNumber 26 = .ok (.getfield 10, 3) := by decide +kernel
theorem dX4_tuneOfNumber_29 : decode cX4_tuneOfNumber 29 = .ok (.iload_n 1, 1) := by decide +kernel
theorem dX4_tuneOfNumber_30 : decode cX4_tuneOfNumber 30 = .ok (.invokevirtual 134, 3) := by decide +kernel
theorem dX4_tuneOfNumber_33 : decode cX4_tuneOfNumber 33 = .ok (.checkcast 73, 3) := by decide +kernel
theorem dX4_tuneOfNumber_36 : decode cX4_tuneOfNumber 36 = .ok (.areturn, 1) := by decide +kernel
theorem dX4_follow_0 : decode cX4_follow 0 = .ok (.aload_n 0, 1) := by decide +kernel
theorem dX4_follow_1 : decode cX4_follow 1 = .ok (.iload_n 1, 1) := by decide +kernel
theorem dX4_follow_2 : decode cX4_follow 2 = .ok (.invokevirtual 82, 3) := by decide +kernel
theorem dX4_follow_5 : decode cX4_follow 5 = .ok (.astore_n 3, 1) := by decide +kernel
theorem dX4_follow_6 : decode cX4_follow 6 = .ok (.iload_n 2, 1) := by decide +kernel
theorem dX4_follow_7 : decode cX4_follow 7 = .ok (.bipush 30, 2) := by decide +kernel
theorem dX4_follow_9 : decode cX4_follow 9 = .ok (.sipush 600, 3) := by decide +kernel
theorem dX4_follow_12 : decode cX4_follow 12 = .ok (.invokestatic 53, 3) := by decide +kernel
theorem dX4_follow_15 : decode cX4_follow 15 = .ok (.ifCond .ne 13, 3) := by decide +kernel
theorem dX4_follow_18 : decode cX4_follow 18 = .ok (.new 57, 3) := by decide +kernel
theorem dX4_follow_21 : decode cX4_follow 21 = .ok (.dup, 1) := by decide +kernel
theorem dX4_follow_22 : decode cX4_follow 22 = .ok (.ldc 138, 2) := by decide +kernel
theorem dX4_follow_24 : decode cX4_follow 24 = .ok (.invokespecial 61, 3) := by decide +kernel
theorem dX4_follow_27 : decode cX4_follow 27 = .ok (.athrow, 1) := by decide +kernel
theorem dX4_follow_28 : decode cX4_follow 28 = .ok (.aload_n 0, 1) := by decide +kernel
theorem dX4_follow_29 : decode cX4_follow 29 = .ok (.getfield 16, 3) := by decide +kernel
theorem dX4_follow_32 : decode cX4_follow 32 = .ok (.invokevirtual 64, 3) := by decide +kernel
theorem dX4_follow_35 : decode cX4_follow 35 = .ok (.istore 4, 2) := by decide +kernel
theorem dX4_follow_37 : decode cX4_follow 37 = .ok (.iload 4, 2) := by decide +kernel
theorem dX4_follow_39 : decode cX4_follow 39 = .ok (.bipush 8, 2) := by decide +kernel
theorem dX4_follow_41 : decode cX4_follow 41 = .ok (.if_icmp .ge 22, 3) := by decide +kernel
theorem dX4_follow_44 : decode cX4_follow 44 = .ok (.iload 4, 2) := by decide +kernel
theorem dX4_follow_46 : decode cX4_follow 46 = .ok (.aload_n 0, 1) := by decide +kernel
theorem dX4_follow_47 : decode cX4_follow 47 = .ok (.getfield 19, 3) := by decide +kernel
theorem dX4_follow_50 : decode cX4_follow 50 = .ok (.arraylength, 1) := by decide +kernel
theorem dX4_follow_51 : decode cX4_follow 51 = .ok (.if_icmp .ge 12, 3) := by decide +kernel
theorem dX4_follow_54 : decode cX4_follow 54 = .ok (.aload_n 0, 1) := by decide +kernel
theorem dX4_follow_55 : decode cX4_follow 55 = .ok (.aload_n 3, 1) := by decide +kernel
theorem dX4_follow_56 : decode cX4_follow 56 = .ok (.iload_n 2, 1) := by decide +kernel
theorem dX4_follow_57 : decode cX4_follow 57 = .ok (.invokevirtual 140, 3) := by decide +kernel
theorem dX4_follow_60 : decode cX4_follow 60 = .ok (.ifCond .ne 13, 3) := by decide +kernel
theorem dX4_follow_63 : decode cX4_follow 63 = .ok (.new 68, 3) := by decide +kernel
theorem dX4_follow_66 : decode cX4_follow 66 = .ok (.dup, 1) := by decide +kernel
theorem dX4_follow_67 : decode cX4_follow 67 = .ok (.ldc 144, 2) := by decide +kernel
theorem dX4_follow_69 : decode cX4_follow 69 = .ok (.invokespecial 72, 3) := by decide +kernel
theorem dX4_follow_72 : decode cX4_follow 72 = .ok (.athrow, 1) := by decide +kernel
theorem dX4_follow_73 : decode cX4_follow 73 = .ok (.aload_n 0, 1) := by decide +kernel
theorem dX4_follow_74 : decode cX4_follow 74 = .ok (.getfield 16, 3) := by decide +kernel
theorem dX4_follow_77 : decode cX4_follow 77 = .ok (.aload_n 3, 1) := by decide +kernel
theorem dX4_follow_78 : decode cX4_follow 78 = .ok (.invokevirtual 78, 3) := by decide +kernel
theorem dX4_follow_81 : decode cX4_follow 81 = .ok (.pop, 1) := by decide +kernel
theorem dX4_follow_82 : decode cX4_follow 82 = .ok (.aload_n 0, 1) := by decide +kernel
theorem dX4_follow_83 : decode cX4_follow 83 = .ok (.getfield 19, 3) := by decide +kernel
theorem dX4_follow_86 : decode cX4_follow 86 = .ok (.iload 4, 2) := by decide +kernel
theorem dX4_follow_88 : decode cX4_follow 88 = .ok (.iload_n 2, 1) := by decide +kernel
theorem dX4_follow_89 : decode cX4_follow 89 = .ok (.iastore, 1) := by decide +kernel
theorem dX4_follow_90 : decode cX4_follow 90 = .ok (.iload 4, 2) := by decide +kernel
theorem dX4_follow_92 : decode cX4_follow 92 = .ok (.iconst 1, 1) := by decide +kernel
theorem dX4_follow_93 : decode cX4_follow 93 = .ok (.iadd, 1) := by decide +kernel
theorem dX4_follow_94 : decode cX4_follow 94 = .ok (.ireturn, 1) := by decide +kernel
theorem dX4_drop_0 : decode cX4_drop 0 = .ok (.aload_n 0, 1) := by decide +kernel
theorem dX4_drop_1 : decode cX4_drop 1 = .ok (.getfield 16, 3) := by decide +kernel
theorem dX4_drop_4 : decode cX4_drop 4 = .ok (.invokevirtual 64, 3) := by decide +kernel
theorem dX4_drop_7 : decode cX4_drop 7 = .ok (.istore_n 1, 1) := by decide +kernel
theorem dX4_drop_8 : decode cX4_drop 8 = .ok (.iload_n 1, 1) := by decide +kernel
theorem dX4_drop_9 : decode cX4_drop 9 = .ok (.iconst 1, 1) := by decide +kernel
theorem dX4_drop_10 : decode cX4_drop 10 = .ok (.if_icmp .ge 13, 3) := by decide +kernel
theorem dX4_drop_13 : decode cX4_drop 13 = .ok (.new 68, 3) := by decide +kernel
theorem dX4_drop_16 : decode cX4_drop 16 = .ok (.dup, 1) := by decide +kernel
theorem dX4_drop_17 : decode cX4_drop 17 = .ok (.ldc 146, 2) := by decide +kernel
theorem dX4_drop_19 : decode cX4_drop 19 = .ok (.invokespecial 72, 3) := by decide +kernel
theorem dX4_drop_22 : decode cX4_drop 22 = .ok (.athrow, 1) := by decide +kernel
theorem dX4_drop_23 : decode cX4_drop 23 = .ok (.aload_n 0, 1) := by decide +kernel
theorem dX4_drop_24 : decode cX4_drop 24 = .ok (.getfield 16, 3) := by decide +kernel
theorem dX4_drop_27 : decode cX4_drop 27 = .ok (.iload_n 1, 1) := by decide +kernel
theorem dX4_drop_28 : decode cX4_drop 28 = .ok (.iconst 1, 1) := by decide +kernel
theorem dX4_drop_29 : decode cX4_drop 29 = .ok (.isub, 1) := by decide +kernel
theorem dX4_drop_30 : decode cX4_drop 30 = .ok (.invokevirtual 148, 3) := by decide +kernel
theorem dX4_drop_33 : decode cX4_drop 33 = .ok (.checkcast 73, 3) := by decide +kernel
theorem dX4_drop_36 : decode cX4_drop 36 = .ok (.getfield 151, 3) := by decide +kernel
theorem dX4_drop_39 : decode cX4_drop 39 = .ok (.ireturn, 1) := by decide +kernel
theorem dX4_time_0 : decode cX4_time 0 = .ok (.lconst 0, 1) := by decide +kernel
theorem dX4_time_1 : decode cX4_time 1 = .ok (.lstore_n 1, 1) := by decide +kernel
theorem dX4_time_2 : decode cX4_time 2 = .ok (.iconst 0, 1) := by decide +kernel
theorem dX4_time_3 : decode cX4_time 3 = .ok (.istore_n 3, 1) := by decide +kernel
theorem dX4_time_4 : decode cX4_time 4 = .ok (.iload_n 3, 1) := by decide +kernel
theorem dX4_time_5 : decode cX4_time 5 = .ok (.aload_n 0, 1) := by decide +kernel
theorem dX4_time_6 : decode cX4_time 6 = .ok (.getfield 16, 3) := by decide +kernel
theorem dX4_time_9 : decode cX4_time 9 = .ok (.invokevirtual 64, 3) := by decide +kernel
theorem dX4_time_12 : decode cX4_time 12 = .ok (.if_icmp .ge 57, 3) := by decide +kernel
theorem dX4_time_15 : decode cX4_time 15 = .ok (.iload_n 3, 1) := by decide +kernel
theorem dX4_time_16 : decode cX4_time 16 = .ok (.aload_n 0, 1) := by decide +kernel
theorem dX4_time_17 : decode cX4_time 17 = .ok (.getfield 19, 3) := by decide +kernel
theorem dX4_time_20 : decode cX4_time 20 = .ok (.arraylength, 1) := by decide +kernel
theorem dX4_time_21 : decode cX4_time 21 = .ok (.if_icmp .ge 48, 3) := by decide +kernel
theorem dX4_time_24 : decode cX4_time 24 = .ok (.aload_n 0, 1) := by decide +kernel
theorem dX4_time_25 : decode cX4_time 25 = .ok (.getfield 19, 3) := by decide +kernel
theorem dX4_time_28 : decode cX4_time 28 = .ok (.iload_n 3, 1) := by decide +kernel
theorem dX4_time_29 : decode cX4_time 29 = .ok (.iaload, 1) := by decide +kernel
theorem dX4_time_30 : decode cX4_time 30 = .ok (.ifCond .le 33, 3) := by decide +kernel
theorem dX4_time_33 : decode cX4_time 33 = .ok (.lload_n 1, 1) := by decide +kernel
theorem dX4_time_34 : decode cX4_time 34 = .ok (.ldc2_w 154, 3) := by decide +kernel
theorem dX4_time_37 : decode cX4_time 37 = .ok (.aload_n 0, 1) := by decide +kernel
theorem dX4_time_38 : decode cX4_time 38 = .ok (.getfield 16, 3) := by decide +kernel
theorem dX4_time_41 : decode cX4_time 41 = .ok (.iload_n 3, 1) := by decide +kernel
theorem dX4_time_42 : decode cX4_time 42 = .ok (.invokevirtual 134, 3) := by decide +kernel
theorem dX4_time_45 : decode cX4_time 45 = .ok (.checkcast 73, 3) := by decide +kernel
theorem dX4_time_48 : decode cX4_time 48 = .ok (.invokevirtual 156, 3) := by decide +kernel
theorem dX4_time_51 : decode cX4_time 51 = .ok (.i2l, 1) := by decide +kernel
theorem dX4_time_52 : decode cX4_time 52 = .ok (.lmul, 1) := by decide +kernel
theorem dX4_time_53 : decode cX4_time 53 = .ok (.aload_n 0, 1) := by decide +kernel
theorem dX4_time_54 : decode cX4_time 54 = .ok (.getfield 19, 3) := by decide +kernel
theorem dX4_time_57 : decode cX4_time 57 = .ok (.iload_n 3, 1) := by decide +kernel
theorem dX4_time_58 : decode cX4_time 58 = .ok (.iaload, 1) := by decide +kernel
theorem dX4_time_59 : decode cX4_time 59 = .ok (.i2l, 1) := by decide +kernel
theorem dX4_time_60 : decode cX4_time 60 = .ok (.ldiv, 1) := by decide +kernel
theorem dX4_time_61 : decode cX4_time 61 = .ok (.ladd, 1) := by decide +kernel
theorem dX4_time_62 : decode cX4_time 62 = .ok (.lstore_n 1, 1) := by decide +kernel
theorem dX4_time_63 : decode cX4_time 63 = .ok (.iinc 3 1, 3) := by decide +kernel
theorem dX4_time_66 : decode cX4_time 66 = .ok (.goto (-62), 3) := by decide +kernel
theorem dX4_time_69 : decode cX4_time 69 = .ok (.lload_n 1, 1) := by decide +kernel
theorem dX4_time_70 : decode cX4_time 70 = .ok (.lreturn, 1) := by decide +kernel
theorem dX4_mayFollow_0 : decode cX4_mayFollow 0 = .ok (.aload_n 1, 1) := by decide +kernel
theorem dX4_mayFollow_1 : decode cX4_mayFollow 1 = .ok (.getfield 107, 3) := by decide +kernel
theorem dX4_mayFollow_4 : decode cX4_mayFollow 4 = .ok (.iconst 1, 1) := by decide +kernel
theorem dX4_mayFollow_5 : decode cX4_mayFollow 5 = .ok (.if_icmp .ge 5, 3) := by decide +kernel
theorem dX4_mayFollow_8 : decode cX4_mayFollow 8 = .ok (.iconst 0, 1) := by decide +kernel
theorem dX4_mayFollow_9 : decode cX4_mayFollow 9 = .ok (.ireturn, 1) := by decide +kernel
theorem dX4_mayFollow_10 : decode cX4_mayFollow 10 = .ok (.aload_n 0, 1) := by decide +kernel
theorem dX4_mayFollow_11 : decode cX4_mayFollow 11 = .ok (.getfield 16, 3) := by decide +kernel
theorem dX4_mayFollow_14 : decode cX4_mayFollow 14 = .ok (.invokevirtual 64, 3) := by decide +kernel
theorem dX4_mayFollow_17 : decode cX4_mayFollow 17 = .ok (.iconst 1, 1) := by decide +kernel
theorem dX4_mayFollow_18 : decode cX4_mayFollow 18 = .ok (.isub, 1) := by decide +kernel
theorem dX4_mayFollow_19 : decode cX4_mayFollow 19 = .ok (.istore_n 3, 1) := by decide +kernel
theorem dX4_mayFollow_20 : decode cX4_mayFollow 20 = .ok (.iload_n 3, 1) := by decide +kernel
theorem dX4_mayFollow_21 : decode cX4_mayFollow 21 = .ok (.ifCond .lt 12, 3) := by decide +kernel
theorem dX4_mayFollow_24 : decode cX4_mayFollow 24 = .ok (.iload_n 3, 1) := by decide +kernel
theorem dX4_mayFollow_25 : decode cX4_mayFollow 25 = .ok (.aload_n 0, 1) := by decide +kernel
theorem dX4_mayFollow_26 : decode cX4_mayFollow 26 = .ok (.getfield 19, 3) := by decide +kernel
theorem dX4_mayFollow_29 : decode cX4_mayFollow 29 = .ok (.arraylength, 1) := by decide +kernel
theorem dX4_mayFollow_30 : decode cX4_mayFollow 30 = .ok (.if_icmp .lt 5, 3) := by decide +kernel
theorem dX4_mayFollow_33 : decode cX4_mayFollow 33 = .ok (.iconst 1, 1) := by decide +kernel
theorem dX4_mayFollow_34 : decode cX4_mayFollow 34 = .ok (.ireturn, 1) := by decide +kernel
theorem dX4_mayFollow_35 : decode cX4_mayFollow 35 = .ok (.aload_n 0, 1) := by decide +kernel
theorem dX4_mayFollow_36 : decode cX4_mayFollow 36 = .ok (.getfield 16, 3) := by decide +kernel
theorem dX4_mayFollow_39 : decode cX4_mayFollow 39 = .ok (.iload_n 3, 1) := by decide +kernel
theorem dX4_mayFollow_40 : decode cX4_mayFollow 40 = .ok (.invokevirtual 134, 3) := by decide +kernel
theorem dX4_mayFollow_43 : decode cX4_mayFollow 43 = .ok (.checkcast 73, 3) := by decide +kernel
theorem dX4_mayFollow_46 : decode cX4_mayFollow 46 = .ok (.astore 4, 2) := by decide +kernel
theorem dX4_mayFollow_48 : decode cX4_mayFollow 48 = .ok (.aload 4, 2) := by decide +kernel
theorem dX4_mayFollow_50 : decode cX4_mayFollow 50 = .ok (.getfield 159, 3) := by decide +kernel
theorem dX4_mayFollow_53 : decode cX4_mayFollow 53 = .ok (.aload_n 1, 1) := by decide +kernel
theorem dX4_mayFollow_54 : decode cX4_mayFollow 54 = .ok (.getfield 159, 3) := by decide +kernel
theorem dX4_mayFollow_57 : decode cX4_mayFollow 57 = .ok (.if_icmp .ne 15, 3) := by decide +kernel
theorem dX4_mayFollow_60 : decode cX4_mayFollow 60 = .ok (.iload_n 2, 1) := by decide +kernel
theorem dX4_mayFollow_61 : decode cX4_mayFollow 61 = .ok (.aload_n 0, 1) := by decide +kernel
theorem dX4_mayFollow_62 : decode cX4_mayFollow 62 = .ok (.getfield 19, 3) := by decide +kernel
theorem dX4_mayFollow_65 : decode cX4_mayFollow 65 = .ok (.iload_n 3, 1) := by decide +kernel
theorem dX4_mayFollow_66 : decode cX4_mayFollow 66 = .ok (.iaload, 1) := by decide +kernel
theorem dX4_mayFollow_67 : decode cX4_mayFollow 67 = .ok (.if_icmp .ge 5, 3) := by decide +kernel
theorem dX4_mayFollow_70 : decode cX4_mayFollow 70 = .ok (.iconst 0, 1) := by decide +kernel
theorem dX4_mayFollow_71 : decode cX4_mayFollow 71 = .ok (.ireturn, 1) := by decide +kernel
theorem dX4_mayFollow_72 : decode cX4_mayFollow 72 = .ok (.aload_n 1, 1) := by decide +kernel
theorem dX4_mayFollow_73 : decode cX4_mayFollow 73 = .ok (.iconst 0, 1) := by decide +kernel
theorem dX4_mayFollow_74 : decode cX4_mayFollow 74 = .ok (.invokevirtual 162, 3) := by decide +kernel
theorem dX4_mayFollow_77 : decode cX4_mayFollow 77 = .ok (.ifCond .ne 23, 3) := by decide +kernel
theorem dX4_mayFollow_80 : decode cX4_mayFollow 80 = .ok (.aload_n 1, 1) := by decide +kernel
theorem dX4_mayFollow_81 : decode cX4_mayFollow 81 = .ok (.iconst 0, 1) := by decide +kernel
theorem dX4_mayFollow_82 : decode cX4_mayFollow 82 = .ok (.invokevirtual 165, 3) := by decide +kernel
theorem dX4_mayFollow_85 : decode cX4_mayFollow 85 = .ok (.aload 4, 2) := by decide +kernel
theorem dX4_mayFollow_87 : decode cX4_mayFollow 87 = .ok (.aload 4, 2) := by decide +kernel
theorem dX4_mayFollow_89 : decode cX4_mayFollow 89 = .ok (.getfield 107, 3) := by decide +kernel
theorem dX4_mayFollow_92 : decode cX4_mayFollow 92 = .ok (.iconst 1, 1) := by decide +kernel
theorem dX4_mayFollow_93 : decode cX4_mayFollow 93 = .ok (.isub, 1) := by decide +kernel
theorem dX4_mayFollow_94 : decode cX4_mayFollow 94 = .ok (.invokevirtual 165, 3) := by decide +kernel
theorem dX4_mayFollow_97 : decode cX4_mayFollow 97 = .ok (.if_icmp .eq 7, 3) := by decide +kernel
theorem dX4_mayFollow_100 : decode cX4_mayFollow 100 = .ok (.iconst 1, 1) := by decide +kernel
theorem dX4_mayFollow_101 : decode cX4_mayFollow 101 = .ok (.goto 4, 3) := by decide +kernel
theorem dX4_mayFollow_104 : decode cX4_mayFollow 104 = .ok (.iconst 0, 1) := by decide +kernel
theorem dX4_mayFollow_105 : decode cX4_mayFollow 105 = .ok (.ireturn, 1) := by decide +kernel
theorem dX4_piper_0 : decode cX4_piper 0 = .ok (.iload_n 1, 1) := by decide +kernel
theorem dX4_piper_1 : decode cX4_piper 1 = .ok (.bipush (-100), 2) := by decide +kernel
theorem dX4_piper_3 : decode cX4_piper 3 = .ok (.bipush 100, 2) := by decide +kernel
theorem dX4_piper_5 : decode cX4_piper 5 = .ok (.invokestatic 53, 3) := by decide +kernel
theorem dX4_piper_8 : decode cX4_piper 8 = .ok (.ifCond .eq 24, 3) := by decide +kernel
theorem dX4_piper_11 : decode cX4_piper 11 = .ok (.iload_n 2, 1) := by decide +kernel
theorem dX4_piper_12 : decode cX4_piper 12 = .ok (.bipush 10, 2) := by decide +kernel
theorem dX4_piper_14 : decode cX4_piper 14 = .ok (.bipush 40, 2) := by decide +kernel
theorem dX4_piper_16 : decode cX4_piper 16 = .ok (.invokestatic 53, 3) := by decide +kernel
theorem dX4_piper_19 : decode cX4_piper 19 = .ok (.ifCond .eq 13, 3) := by decide +kernel
theorem dX4_piper_22 : decode cX4_piper 22 = .ok (.iload_n 3, 1) := by decide +kernel
theorem dX4_piper_23 : decode cX4_piper 23 = .ok (.iconst 0, 1) := by decide +kernel
theorem dX4_piper_24 : decode cX4_piper 24 = .ok (.bipush 9, 2) := by decide +kernel
theorem dX4_piper_26 : decode cX4_piper 26 = .ok (.invokestatic 53, 3) := by decide +kernel
theorem dX4_piper_29 : decode cX4_piper 29 = .ok (.ifCond .ne 13, 3) := by decide +kernel
theorem dX4_piper_32 : decode cX4_piper 32 = .ok (.new 57, 3) := by decide +kernel
theorem dX4_piper_35 : decode cX4_piper 35 = .ok (.dup, 1) := by decide +kernel
theorem dX4_piper_36 : decode cX4_piper 36 = .ok (.ldc 168, 2) := by decide +kernel
theorem dX4_piper_38 : decode cX4_piper 38 = .ok (.invokespecial 61, 3) := by decide +kernel
theorem dX4_piper_41 : decode cX4_piper 41 = .ok (.athrow, 1) := by decide +kernel
theorem dX4_piper_42 : decode cX4_piper 42 = .ok (.aload_n 0, 1) := by decide +kernel
theorem dX4_piper_43 : decode cX4_piper 43 = .ok (.getfield 23, 3) := by decide +kernel
theorem dX4_piper_46 : decode cX4_piper 46 = .ok (.invokevirtual 64, 3) := by decide +kernel
theorem dX4_piper_49 : decode cX4_piper 49 = .ok (.bipush 8, 2) := by decide +kernel
theorem dX4_piper_51 : decode cX4_piper 51 = .ok (.if_icmp .lt 13, 3) := by decide +kernel
theorem dX4_piper_54 : decode cX4_piper 54 = .ok (.new 68, 3) := by decide +kernel
theorem dX4_piper_57 : decode cX4_piper 57 = .ok (.dup, 1) := by decide +kernel
theorem dX4_piper_58 : decode cX4_piper 58 = .ok (.ldc 170, 2) := by decide +kernel
theorem dX4_piper_60 : decode cX4_piper 60 = .ok (.invokespecial 72, 3) := by decide +kernel
theorem dX4_piper_63 : decode cX4_piper 63 = .ok (.athrow, 1) := by decide +kernel
theorem dX4_piper_64 : decode cX4_piper 64 = .ok (.aload_n 0, 1) := by decide +kernel
theorem dX4_piper_65 : decode cX4_piper 65 = .ok (.getfield 23, 3) := by decide +kernel
theorem dX4_piper_68 : decode cX4_piper 68 = .ok (.new 26, 3) := by decide +kernel
theorem dX4_piper_71 : decode cX4_piper 71 = .ok (.dup, 1) := by decide +kernel
theorem dX4_piper_72 : decode cX4_piper 72 = .ok (.iload_n 1, 1) := by decide +kernel
theorem dX4_piper_73 : decode cX4_piper 73 = .ok (.iload_n 2, 1) := by decide +kernel
theorem dX4_piper_74 : decode cX4_piper 74 = .ok (.iload_n 3, 1) := by decide +kernel
theorem dX4_piper_75 : decode cX4_piper 75 = .ok (.invokespecial 28, 3) := by decide +kernel
theorem dX4_piper_78 : decode cX4_piper 78 = .ok (.invokevirtual 78, 3) := by decide +kernel
theorem dX4_piper_81 : decode cX4_piper 81 = .ok (.pop, 1) := by decide +kernel
theorem dX4_piper_82 : decode cX4_piper 82 = .ok (.aload_n 0, 1) := by decide +kernel
theorem dX4_piper_83 : decode cX4_piper 83 = .ok (.getfield 23, 3) := by decide +kernel
theorem dX4_piper_86 : decode cX4_piper 86 = .ok (.invokevirtual 64, 3) := by decide +kernel
theorem dX4_piper_89 : decode cX4_piper 89 = .ok (.iconst 1, 1) := by decide +kernel
theorem dX4_piper_90 : decode cX4_piper 90 = .ok (.isub, 1) := by decide +kernel
theorem dX4_piper_91 : decode cX4_piper 91 = .ok (.ireturn, 1) := by decide +kernel
theorem dX4_seat_0 : decode cX4_seat 0 = .ok (.aload_n 0, 1) := by decide +kernel
theorem dX4_seat_1 : decode cX4_seat 1 = .ok (.iload_n 1, 1) := by decide +kernel
theorem dX4_seat_2 : decode cX4_seat 2 = .ok (.invokevirtual 172, 3) := by decide +kernel
theorem dX4_seat_5 : decode cX4_seat 5 = .ok (.astore_n 3, 1) := by decide +kernel
theorem dX4_seat_6 : decode cX4_seat 6 = .ok (.iload_n 2, 1) := by decide +kernel
theorem dX4_seat_7 : decode cX4_seat 7 = .ok (.bipush (-100), 2) := by decide +kernel
theorem dX4_seat_9 : decode cX4_seat 9 = .ok (.bipush 100, 2) := by decide +kernel
theorem dX4_seat_11 : decode cX4_seat 11 = .ok (.invokestatic 53, 3) := by decide +kernel
theorem dX4_seat_14 : decode cX4_seat 14 = .ok (.ifCond .eq 19, 3) := by decide +kernel
theorem dX4_seat_17 : decode cX4_seat 17 = .ok (.aload_n 3, 1) := by decide +kernel
theorem dX4_seat_18 : decode cX4_seat 18 = .ok (.getfield 176, 3) := by decide +kernel
theorem dX4_seat_21 : decode cX4_seat 21 = .ok (.iload_n 2, 1) := by decide +kernel
theorem dX4_seat_22 : decode cX4_seat 22 = .ok (.iadd, 1) := by decide +kernel
theorem dX4_seat_23 : decode cX4_seat 23 = .ok (.bipush (-100), 2) := by decide +kernel
theorem dX4_seat_25 : decode cX4_seat 25 = .ok (.bipush 100, 2) := by decide +kernel
theorem dX4_seat_27 : decode cX4_seat 27 = .ok (.invokestatic 53, 3) := by decide +kernel
theorem dX4_seat_30 : decode cX4_seat 30 = .ok (.ifCond .ne 13, 3) := by decide +kernel
theorem dX4_seat_33 : decode cX4_seat 33 = .ok (.new 57, 3) := by decide +kernel
theorem dX4_seat_36 : decode cX4_seat 36 = .ok (.dup, 1) := by decide +kernel
theorem dX4_seat_37 : decode cX4_seat 37 = .ok (.ldc 179, 2) := by decide +kernel
theorem dX4_seat_39 : decode cX4_seat 39 = .ok (.invokespecial 61, 3) := by decide +kernel
theorem dX4_seat_42 : decode cX4_seat 42 = .ok (.athrow, 1) := by decide +kernel
theorem dX4_seat_43 : decode cX4_seat 43 = .ok (.aload_n 3, 1) := by decide +kernel
theorem dX4_seat_44 : decode cX4_seat 44 = .ok (.dup, 1) := by decide +kernel
theorem dX4_seat_45 : decode cX4_seat 45 = .ok (.getfield 176, 3) := by decide +kernel
theorem dX4_seat_48 : decode cX4_seat 48 = .ok (.iload_n 2, 1) := by decide +kernel
theorem dX4_seat_49 : decode cX4_seat 49 = .ok (.iadd, 1) := by decide +kernel
theorem dX4_seat_50 : decode cX4_seat 50 = .ok (.putfield 176, 3) := by decide +kernel
theorem dX4_seat_53 : decode cX4_seat 53 = .ok (.aload_n 3, 1) := by decide +kernel
theorem dX4_seat_54 : decode cX4_seat 54 = .ok (.getfield 176, 3) := by decide +kernel
theorem dX4_seat_57 : decode cX4_seat 57 = .ok (.ireturn, 1) := by decide +kernel
theorem dX4_rest_0 : decode cX4_rest 0 = .ok (.aload_n 0, 1) := by decide +kernel
theorem dX4_rest_1 : decode cX4_rest 1 = .ok (.iload_n 1, 1) := by decide +kernel
theorem dX4_rest_2 : decode cX4_rest 2 = .ok (.invokevirtual 172, 3) := by decide +kernel
theorem dX4_rest_5 : decode cX4_rest 5 = .ok (.astore_n 3, 1) := by decide +kernel
theorem dX4_rest_6 : decode cX4_rest 6 = .ok (.aload_n 3, 1) := by decide +kernel
theorem dX4_rest_7 : decode cX4_rest 7 = .ok (.getfield 181, 3) := by decide +kernel
theorem dX4_rest_10 : decode cX4_rest 10 = .ok (.istore 4, 2) := by decide +kernel
theorem dX4_rest_12 : decode cX4_rest 12 = .ok (.aload_n 3, 1) := by decide +kernel
theorem dX4_rest_13 : decode cX4_rest 13 = .ok (.iload_n 2, 1) := by decide +kernel
theorem dX4_rest_14 : decode cX4_rest 14 = .ok (.putfield 181, 3) := by decide +kernel
theorem dX4_rest_17 : decode cX4_rest 17 = .ok (.iload 4, 2) := by decide +kernel
theorem dX4_rest_19 : decode cX4_rest 19 = .ok (.ireturn, 1) := by decide +kernel
theorem dX4_play_0 : decode cX4_play 0 = .ok (.iload_n 1, 1) := by decide +kernel
theorem dX4_play_1 : decode cX4_play 1 = .ok (.iload_n 2, 1) := by decide +kernel
theorem dX4_play_2 : decode cX4_play 2 = .ok (.iload_n 3, 1) := by decide +kernel
theorem dX4_play_3 : decode cX4_play 3 = .ok (.invokestatic 184, 3) := by decide +kernel
theorem dX4_play_6 : decode cX4_play 6 = .ok (.ifCond .ne 13, 3) := by decide +kernel
theorem dX4_play_9 : decode cX4_play 9 = .ok (.new 57, 3) := by decide +kernel
theorem dX4_play_12 : decode cX4_play 12 = .ok (.dup, 1) := by decide +kernel
theorem dX4_play_13 : decode cX4_play 13 = .ok (.ldc 187, 2) := by decide +kernel
theorem dX4_play_15 : decode cX4_play 15 = .ok (.invokespecial 61, 3) := by decide +kernel
theorem dX4_play_18 : decode cX4_play 18 = .ok (.athrow, 1) := by decide +kernel
theorem dX4_play_19 : decode cX4_play 19 = .ok (.iconst 0, 1) := by decide +kernel
theorem dX4_play_20 : decode cX4_play 20 = .ok (.istore 4, 2) := by decide +kernel
theorem dX4_play_22 : decode cX4_play 22 = .ok (.iload 4, 2) := by decide +kernel
theorem dX4_play_24 : decode cX4_play 24 = .ok (.aload_n 0, 1) := by decide +kernel
theorem dX4_play_25 : decode cX4_play 25 = .ok (.getfield 23, 3) := by decide +kernel
theorem dX4_play_28 : decode cX4_play 28 = .ok (.invokevirtual 64, 3) := by decide +kernel
theorem dX4_play_31 : decode cX4_play 31 = .ok (.if_icmp .ge 27, 3) := by decide +kernel
theorem dX4_play_34 : decode cX4_play 34 = .ok (.aload_n 0, 1) := by decide +kernel
theorem dX4_play_35 : decode cX4_play 35 = .ok (.getfield 23, 3) := by decide +kernel
theorem dX4_play_38 : decode cX4_play 38 = .ok (.iload 4, 2) := by decide +kernel
theorem dX4_play_40 : decode cX4_play 40 = .ok (.invokevirtual 134, 3) := by decide +kernel
theorem dX4_play_43 : decode cX4_play 43 = .ok (.checkcast 26, 3) := by decide +kernel
theorem dX4_play_46 : decode cX4_play 46 = .ok (.iload_n 1, 1) := by decide +kernel
theorem dX4_play_47 : decode cX4_play 47 = .ok (.iload_n 2, 1) := by decide +kernel
theorem dX4_play_48 : decode cX4_play 48 = .ok (.iload_n 3, 1) := by decide +kernel
theorem dX4_play_49 : decode cX4_play 49 = .ok (.invokevirtual 189, 3) := by decide +kernel
theorem dX4_play_52 : decode cX4_play 52 = .ok (.iinc 4 1, 3) := by decide +kernel
theorem dX4_play_55 : decode cX4_play 55 = .ok (.goto (-33), 3) := by decide +kernel
theorem dX4_play_58 : decode cX4_play 58 = .ok (.aload_n 0, 1) := by decide +kernel
theorem dX4_play_59 : decode cX4_play 59 = .ok (.iconst (-1), 1) := by decide +kernel
theorem dX4_play_60 : decode cX4_play 60 = .ok (.invokevirtual 192, 3) := by decide +kernel
theorem dX4_play_63 : decode cX4_play 63 = .ok (.ireturn, 1) := by decide +kernel
theorem dX4_ofPiper_0 : decode cX4_ofPiper 0 = .ok (.aload_n 0, 1) := by decide +kernel
theorem dX4_ofPiper_1 : decode cX4_ofPiper 1 = .ok (.iload_n 1, 1) := by decide +kernel
theorem dX4_ofPiper_2 : decode cX4_ofPiper 2 = .ok (.invokevirtual 172, 3) := by decide +kernel
theorem dX4_ofPiper_5 : decode cX4_ofPiper 5 = .ok (.astore_n 3, 1) := by decide +kernel
theorem dX4_ofPiper_6 : decode cX4_ofPiper 6 = .ok (.iload_n 2, 1) := by decide +kernel
theorem dX4_ofPiper_7 : decode cX4_ofPiper 7 = .ok (.iconst 0, 1) := by decide +kernel
theorem dX4_ofPiper_8 : decode cX4_ofPiper 8 = .ok (.iconst 5, 1) := by decide +kernel
theorem dX4_ofPiper_9 : decode cX4_ofPiper 9 = .ok (.invokestatic 53, 3) := by decide +kernel
theorem dX4_ofPiper_12 : decode cX4_ofPiper 12 = .ok (.ifCond .ne 13, 3) := by decide +kernel
theorem dX4_ofPiper_15 : decode cX4_ofPiper 15 = .ok (.new 57, 3) := by decide +kernel
theorem dX4_ofPiper_18 : decode cX4_ofPiper 18 = .ok (.dup, 1) := by decide +kernel
theorem dX4_ofPiper_19 : decode cX4_ofPiper 19 = .ok (.ldc 115, 2) := by decide +kernel
theorem dX4_ofPiper_21 : decode cX4_ofPiper 21 = .ok (.invokespecial 61, 3) := by decide +kernel
theorem dX4_ofPiper_24 : decode cX4_ofPiper 24 = .ok (.athrow, 1) := by decide +kernel
theorem dX4_ofPiper_25 : decode cX4_ofPiper 25 = .ok (.iload_n 2, 1) := by decide +kernel
theorem dX4_ofPiper_26 : decode cX4_ofPiper 26 = .ok (.iconst 5, 1) := by decide +kernel
theorem dX4_ofPiper_27 : decode cX4_ofPiper 27 = .ok (.if_icmp .ne 11, 3) := by decide +kernel
theorem dX4_ofPiper_30 : decode cX4_ofPiper 30 = .ok (.aload_n 0, 1) := by decide +kernel
theorem dX4_ofPiper_31 : decode cX4_ofPiper 31 = .ok (.aload_n 3, 1) := by decide +kernel
theorem dX4_ofPiper_32 : decode cX4_ofPiper 32 = .ok (.invokevirtual 195, 3) := by decide +kernel
theorem dX4_ofPiper_35 : decode cX4_ofPiper 35 = .ok (.goto 8, 3) := by decide +kernel
theorem dX4_ofPiper_38 : decode cX4_ofPiper 38 = .ok (.aload_n 3, 1) := by decide +kernel
theorem dX4_ofPiper_39 : decode cX4_ofPiper 39 = .ok (.iload_n 2, 1) := by decide +kernel
theorem dX4_ofPiper_40 : decode cX4_ofPiper 40 = .ok (.invokevirtual 199, 3) := by decide +kernel
theorem dX4_ofPiper_43 : decode cX4_ofPiper 43 = .ok (.ireturn, 1) := by decide +kernel
theorem dX4_spread_0 : decode cX4_spread 0 = .ok (.aload_n 0, 1) := by decide +kernel
theorem dX4_spread_1 : decode cX4_spread 1 = .ok (.iconst (-1), 1) := by decide +kernel
theorem dX4_spread_2 : decode cX4_spread 2 = .ok (.invokevirtual 192, 3) := by decide +kernel
theorem dX4_spread_5 : decode cX4_spread 5 = .ok (.ireturn, 1) := by decide +kernel
theorem dX4_odd_0 : decode cX4_odd 0 = .ok (.aload_n 0, 1) := by decide +kernel
theorem dX4_odd_1 : decode cX4_odd 1 = .ok (.iconst (-1), 1) := by decide +kernel
theorem dX4_odd_2 : decode cX4_odd 2 = .ok (.invokevirtual 200, 3) := by decide +kernel
theorem dX4_odd_5 : decode cX4_odd 5 = .ok (.aload_n 0, 1) := by decide +kernel
theorem dX4_odd_6 : decode cX4_odd 6 = .ok (.getfield 38, 3) := by decide +kernel
theorem dX4_odd_9 : decode cX4_odd 9 = .ok (.getfield 204, 3) := by decide +kernel
theorem dX4_odd_12 : decode cX4_odd 12 = .ok (.iconst 2, 1) := by decide +kernel
theorem dX4_odd_13 : decode cX4_odd 13 = .ok (.if_icmp .ge 5, 3) := by decide +kernel
theorem dX4_odd_16 : decode cX4_odd 16 = .ok (.iconst (-1), 1) := by decide +kernel
theorem dX4_odd_17 : decode cX4_odd 17 = .ok (.ireturn, 1) := by decide +kernel
theorem dX4_odd_18 : decode cX4_odd 18 = .ok (.iconst (-1), 1) := by decide +kernel
theorem dX4_odd_19 : decode cX4_odd 19 = .ok (.istore_n 1, 1) := by decide +kernel
theorem dX4_odd_20 : decode cX4_odd 20 = .ok (.iconst 0, 1) := by decide +kernel
theorem dX4_odd_21 : decode cX4_odd 21 = .ok (.istore_n 2, 1) := by decide +kernel
theorem dX4_odd_22 : decode cX4_odd 22 = .ok (.iconst 0, 1) := by decide +kernel
theorem dX4_odd_23 : decode cX4_odd 23 = .ok (.istore_n 3, 1) := by decide +kernel
theorem dX4_odd_24 : decode cX4_odd 24 = .ok (.iload_n 3, 1) := by decide +kernel
theorem dX4_odd_25 : decode cX4_odd 25 = .ok (.aload_n 0, 1) := by decide +kernel
theorem dX4_odd_26 : decode cX4_odd 26 = .ok (.getfield 23, 3) := by decide +kernel
theorem dX4_odd_29 : decode cX4_odd 29 = .ok (.invokevirtual 64, 3) := by decide +kernel
theorem dX4_odd_32 : decode cX4_odd 32 = .ok (.if_icmp .ge 52, 3) := by decide +kernel
theorem dX4_odd_35 : decode cX4_odd 35 = .ok (.aload_n 0, 1) := by decide +kernel
theorem dX4_odd_36 : decode cX4_odd 36 = .ok (.getfield 23, 3) := by decide +kernel
theorem dX4_odd_39 : decode cX4_odd 39 = .ok (.iload_n 3, 1) := by decide +kernel
theorem dX4_odd_40 : decode cX4_odd 40 = .ok (.invokevirtual 134, 3) := by decide +kernel
theorem dX4_odd_43 : decode cX4_odd 43 = .ok (.checkcast 26, 3) := by decide +kernel
theorem dX4_odd_46 : decode cX4_odd 46 = .ok (.getfield 181, 3) := by decide +kernel
theorem dX4_odd_49 : decode cX4_odd 49 = .ok (.ifCond .eq 6, 3) := by decide +kernel
theorem dX4_odd_52 : decode cX4_odd 52 = .ok (.goto 26, 3) := by decide +kernel
theorem dX4_odd_55 : decode cX4_odd 55 = .ok (.aload_n 0, 1) := by decide +kernel
theorem dX4_odd_56 : decode cX4_odd 56 = .ok (.iload_n 3, 1) := by decide +kernel
theorem dX4_odd_57 : decode cX4_odd 57 = .ok (.invokevirtual 192, 3) := by decide +kernel
theorem dX4_odd_60 : decode cX4_odd 60 = .ok (.istore 4, 2) := by decide +kernel
theorem dX4_odd_62 : decode cX4_odd 62 = .ok (.iload_n 1, 1) := by decide +kernel
theorem dX4_odd_63 : decode cX4_odd 63 = .ok (.iconst (-1), 1) := by decide +kernel
theorem dX4_odd_64 : decode cX4_odd 64 = .ok (.if_icmp .eq 9, 3) := by decide +kernel
theorem dX4_odd_67 : decode cX4_odd 67 = .ok (.iload 4, 2) := by decide +kernel
theorem dX4_odd_69 : decode cX4_odd 69 = .ok (.iload_n 2, 1) := by decide +kernel
theorem dX4_odd_70 : decode cX4_odd 70 = .ok (.if_icmp .ge 8, 3) := by decide +kernel
theorem dX4_odd_73 : decode cX4_odd 73 = .ok (.iload_n 3, 1) := by decide +kernel
theorem dX4_odd_74 : decode cX4_odd 74 = .ok (.istore_n 1, 1) := by decide +kernel
theorem dX4_odd_75 : decode cX4_odd 75 = .ok (.iload 4, 2) := by decide +kernel
theorem dX4_odd_77 : decode cX4_odd 77 = .ok (.istore_n 2, 1) := by decide +kernel
theorem dX4_odd_78 : decode cX4_odd 78 = .ok (.iinc 3 1, 3) := by decide +kernel
theorem dX4_odd_81 : decode cX4_odd 81 = .ok (.goto (-57), 3) := by decide +kernel
theorem dX4_odd_84 : decode cX4_odd 84 = .ok (.iload_n 1, 1) := by decide +kernel
theorem dX4_odd_85 : decode cX4_odd 85 = .ok (.ireturn, 1) := by decide +kernel
theorem dX4_beats_0 : decode cX4_beats 0 = .ok (.aload_n 0, 1) := by decide +kernel
theorem dX4_beats_1 : decode cX4_beats 1 = .ok (.iload_n 1, 1) := by decide +kernel
theorem dX4_beats_2 : decode cX4_beats 2 = .ok (.invokevirtual 172, 3) := by decide +kernel
theorem dX4_beats_5 : decode cX4_beats 5 = .ok (.invokevirtual 207, 3) := by decide +kernel
theorem dX4_beats_8 : decode cX4_beats 8 = .ok (.aload_n 0, 1) := by decide +kernel
theorem dX4_beats_9 : decode cX4_beats 9 = .ok (.iload_n 2, 1) := by decide +kernel
theorem dX4_beats_10 : decode cX4_beats 10 = .ok (.invokevirtual 172, 3) := by decide +kernel
theorem dX4_beats_13 : decode cX4_beats 13 = .ok (.invokevirtual 207, 3) := by decide +kernel
theorem dX4_beats_16 : decode cX4_beats 16 = .ok (.isub, 1) := by decide +kernel
theorem dX4_beats_17 : decode cX4_beats 17 = .ok (.istore_n 3, 1) := by decide +kernel
theorem dX4_beats_18 : decode cX4_beats 18 = .ok (.sipush 480, 3) := by decide +kernel
theorem dX4_beats_21 : decode cX4_beats 21 = .ok (.iload_n 3, 1) := by decide +kernel
theorem dX4_beats_22 : decode cX4_beats 22 = .ok (.invokestatic 210, 3) := by decide +kernel
theorem dX4_beats_25 : decode cX4_beats 25 = .ok (.imul, 1) := by decide +kernel
theorem dX4_beats_26 : decode cX4_beats 26 = .ok (.i2f, 1) := by decide +kernel
theorem dX4_beats_27 : decode cX4_beats 27 = .ok (.ldc 215, 2) := by decide +kernel
theorem dX4_beats_29 : decode cX4_beats 29 = .ok (.fdiv, 1) := by decide +kernel
theorem dX4_beats_30 : decode cX4_beats 30 = .ok (.freturn, 1) := by decide +kernel
theorem dX4_ahead_0 : decode cX4_ahead 0 = .ok (.iload_n 1, 1) := by decide +kernel
theorem dX4_ahead_1 : decode cX4_ahead 1 = .ok (.iload_n 2, 1) := by decide +kernel
theorem dX4_ahead_2 : decode cX4_ahead 2 = .ok (.iload_n 3, 1) := by decide +kernel
theorem dX4_ahead_3 : decode cX4_ahead 3 = .ok (.invokestatic 184, 3) := by decide +kernel
theorem dX4_ahead_6 : decode cX4_ahead 6 = .ok (.ifCond .ne 13, 3) := by decide +kernel
theorem dX4_ahead_9 : decode cX4_ahead 9 = .ok (.new 57, 3) := by decide +kernel
theorem dX4_ahead_12 : decode cX4_ahead 12 = .ok (.dup, 1) := by decide +kernel
theorem dX4_ahead_13 : decode cX4_ahead 13 = .ok (.ldc 187, 2) := by decide +kernel
theorem dX4_ahead_15 : decode cX4_ahead 15 = .ok (.invokespecial 61, 3) := by decide +kernel
theorem dX4_ahead_18 : decode cX4_ahead 18 = .ok (.athrow, 1) := by decide +kernel
theorem dX4_ahead_19 : decode cX4_ahead 19 = .ok (.aload_n 0, 1) := by decide +kernel
theorem dX4_ahead_20 : decode cX4_ahead 20 = .ok (.getfield 38, 3) := by decide +kernel
theorem dX4_ahead_23 : decode cX4_ahead 23 = .ok (.invokevirtual 216, 3) := by decide +kernel
theorem dX4_ahead_26 : decode cX4_ahead 26 = .ok (.iconst 0, 1) := by decide +kernel
theorem dX4_ahead_27 : decode cX4_ahead 27 = .ok (.istore 4, 2) := by decide +kernel
theorem dX4_ahead_29 : decode cX4_ahead 29 = .ok (.iload 4, 2) := by decide +kernel
theorem dX4_ahead_31 : decode cX4_ahead 31 = .ok (.aload_n 0, 1) := by decide +kernel
theorem dX4_ahead_32 : decode cX4_ahead 32 = .ok (.getfield 23, 3) := by decide +kernel
theorem dX4_ahead_35 : decode cX4_ahead 35 = .ok (.invokevirtual 64, 3) := by decide +kernel
theorem dX4_ahead_38 : decode cX4_ahead 38 = .ok (.if_icmp .ge 64, 3) := by decide +kernel
theorem dX4_ahead_41 : decode cX4_ahead 41 = .ok (.aload_n 0, 1) := by decide +kernel
theorem dX4_ahead_42 : decode cX4_ahead 42 = .ok (.getfield 23, 3) := by decide +kernel
theorem dX4_ahead_45 : decode cX4_ahead 45 = .ok (.iload 4, 2) := by decide +kernel
theorem dX4_ahead_47 : decode cX4_ahead 47 = .ok (.invokevirtual 134, 3) := by decide +kernel
theorem dX4_ahead_50 : decode cX4_ahead 50 = .ok (.checkcast 26, 3) := by decide +kernel
theorem dX4_ahead_53 : decode cX4_ahead 53 = .ok (.astore 5, 2) := by decide +kernel
theorem dX4_ahead_55 : decode cX4_ahead 55 = .ok (.aload 5, 2) := by decide +kernel
theorem dX4_ahead_57 : decode cX4_ahead 57 = .ok (.getfield 181, 3) := by decide +kernel
theorem dX4_ahead_60 : decode cX4_ahead 60 = .ok (.ifCond .ne 36, 3) := by decide +kernel
theorem dX4_ahead_63 : decode cX4_ahead 63 = .ok (.aload_n 0, 1) := by decide +kernel
theorem dX4_ahead_64 : decode cX4_ahead 64 = .ok (.getfield 31, 3) := by decide +kernel
theorem dX4_ahead_67 : decode cX4_ahead 67 = .ok (.aload 5, 2) := by decide +kernel
theorem dX4_ahead_69 : decode cX4_ahead 69 = .ok (.invokevirtual 219, 3) := by decide +kernel
theorem dX4_ahead_72 : decode cX4_ahead 72 = .ok (.aload_n 0, 1) := by decide +kernel
theorem dX4_ahead_73 : decode cX4_ahead 73 = .ok (.getfield 31, 3) := by decide +kernel
theorem dX4_ahead_76 : decode cX4_ahead 76 = .ok (.iload_n 1, 1) := by decide +kernel
theorem dX4_ahead_77 : decode cX4_ahead 77 = .ok (.iload_n 2, 1) := by decide +kernel
theorem dX4_ahead_78 : decode cX4_ahead 78 = .ok (.iload_n 3, 1) := by decide +kernel
theorem dX4_ahead_79 : decode cX4_ahead 79 = .ok (.invokevirtual 189, 3) := by decide +kernel
theorem dX4_ahead_82 : decode cX4_ahead 82 = .ok (.aload_n 0, 1) := by decide +kernel
theorem dX4_ahead_83 : decode cX4_ahead 83 = .ok (.getfield 38, 3) := by decide +kernel
theorem dX4_ahead_86 : decode cX4_ahead 86 = .ok (.aload_n 0, 1) := by decide +kernel
theorem dX4_ahead_87 : decode cX4_ahead 87 = .ok (.getfield 31, 3) := by decide +kernel
theorem dX4_ahead_90 : decode cX4_ahead 90 = .ok (.invokevirtual 207, 3) := by decide +kernel
theorem dX4_ahead_93 : decode cX4_ahead 93 = .ok (.invokevirtual 223, 3) := by decide +kernel
theorem dX4_ahead_96 : decode cX4_ahead 96 = .ok (.iinc 4 1, 3) := by decide +kernel
theorem dX4_ahead_99 : decode cX4_ahead 99 = .ok (.goto (-70), 3) := by decide +kernel
theorem dX4_ahead_102 : decode cX4_ahead 102 = .ok (.aload_n 0, 1) := by decide +kernel
theorem dX4_ahead_103 : decode cX4_ahead 103 = .ok (.getfield 38, 3) := by decide +kernel
theorem dX4_ahead_106 : decode cX4_ahead 106 = .ok (.invokevirtual 226, 3) := by decide +kernel
theorem dX4_ahead_109 : decode cX4_ahead 109 = .ok (.ireturn, 1) := by decide +kernel
theorem dX4_piperOfNumber_0 : decode cX4_piperOfNumber 0 = .ok (.iload_n 1, 1) := by decide +kernel
theorem dX4_piperOfNumber_1 : decode cX4_piperOfNumber 1 = .ok (.ifCond .lt 14, 3) := by decide +kernel
theorem dX4_piperOfNumber_4 : decode cX4_piperOfNumber 4 = .ok (.iload_n 1, 1) := by decide +kernel
theorem dX4_piperOfNumber_5 : decode cX4_piperOfNumber 5 = .ok (.aload_n 0, 1) := by decide +kernel
theorem dX4_piperOfNumber_6 : decode cX4_piperOfNumber 6 = .ok (.getfield 23, 3) := by decide +kernel
theorem dX4_piperOfNumber_9 : decode cX4_piperOfNumber 9 = .ok (.invokevirtual 64, 3) := by decide +kernel
theorem dX4_piperOfNumber_12 : decode cX4_piperOfNumber 12 = .ok (.if_icmp .lt 13, 3) := by decide +kernel
theorem dX4_piperOfNumber_15 : decode cX4_piperOfNumber 15 = .ok (.new 110, 3) := by decide +kernel
theorem dX4_piperOfNumber_18 : decode cX4_piperOfNumber 18 = .ok (.dup, 1) := by decide +kernel
theorem dX4_piperOfNumber_19 : decode cX4_piperOfNumber 19 = .ok (.ldc 229, 2) := by decide +kernel
theorem dX4_piperOfNumber_21 : decode cX4_piperOfNumber 21 = .ok (.invokespecial 114, 3) := by decide +kernel
theorem dX4_piperOfNumber_24 : decode cX4_piperOfNumber 24 = .ok (.athrow, 1) := by decide +kernel
theorem dX4_piperOfNumber_25 : decode cX4_piperOfNumber 25 = .ok (.aload_n 0, 1) := by decide +kernel
theorem dX4_piperOfNumber_26 : decode cX4_piperOfNumber 26 = .ok (.getfield 23, 3) := by decide +kernel
theorem dX4_piperOfNumber_29 : decode cX4_piperOfNumber 29 = .ok (.iload_n 1, 1) := by decide +kernel
theorem dX4_piperOfNumber_30 : decode cX4_piperOfNumber 30 = .ok (.invokevirtual 134, 3) := by decide +kernel
theorem dX4_piperOfNumber_33 : decode cX4_piperOfNumber 33 = .ok (.checkcast 26, 3) := by decide +kernel
theorem dX4_piperOfNumber_36 : decode cX4_piperOfNumber 36 = .ok (.areturn, 1) := by decide +kernel
theorem dX4_isWeather_0 : decode cX4_isWeather 0 = .ok (.iload_n 0, 1) := by decide +kernel
theorem dX4_isWeather_1 : decode cX4_isWeather 1 = .ok (.iconst 1, 1) := by decide +kernel
theorem dX4_isWeather_2 : decode cX4_isWeather 2 = .ok (.bipush 120, 2) := by decide +kernel
theorem dX4_isWeather_4 : decode cX4_isWeather 4 = .ok (.invokestatic 53, 3) := by decide +kernel
theorem dX4_isWeather_7 : decode cX4_isWeather 7 = .ok (.ifCond .eq 27, 3) := by decide +kernel
theorem dX4_isWeather_10 : decode cX4_isWeather 10 = .ok (.iload_n 1, 1) := by decide +kernel
theorem dX4_isWeather_11 : decode cX4_isWeather 11 = .ok (.iconst 0, 1) := by decide +kernel
theorem dX4_isWeather_12 : decode cX4_isWeather 12 = .ok (.bipush 9, 2) := by decide +kernel
theorem dX4_isWeather_14 : decode cX4_isWeather 14 = .ok (.invokestatic 53, 3) := by decide +kernel
theorem dX4_isWeather_17 : decode cX4_isWeather 17 = .ok (.ifCond .eq 17, 3) := by decide +kernel
theorem dX4_isWeather_20 : decode cX4_isWeather 20 = .ok (.iload_n 2, 1) := by decide +kernel
theorem dX4_isWeather_21 : decode cX4_isWeather 21 = .ok (.iconst 0, 1) := by decide +kernel
theorem dX4_isWeather_22 : decode cX4_isWeather 22 = .ok (.bipush 40, 2) := by decide +kernel
theorem dX4_isWeather_24 : decode cX4_isWeather 24 = .ok (.invokestatic 53, 3) := by decide +kernel
theorem dX4_isWeather_27 : decode cX4_isWeather 27 = .ok (.ifCond .eq 7, 3) := by decide +kernel
theorem dX4_isWeather_30 : decode cX4_isWeather 30 = .ok (.iconst 1, 1) := by decide +kernel
theorem dX4_isWeather_31 : decode cX4_isWeather 31 = .ok (.goto 4, 3) := by decide +kernel
theorem dX4_isWeather_34 : decode cX4_isWeather 34 = .ok (.iconst 0, 1) := by decide +kernel
theorem dX4_isWeather_35 : decode cX4_isWeather 35 = .ok (.ireturn, 1) := by decide +kernel
theorem dX4_gatherPitchesWithout_0 : decode cX4_gatherPitchesWithout 0 = .ok (.aload_n 0, 1) := by decide +kernel
theorem dX4_gatherPitchesWithout_1 : decode cX4_gatherPitchesWithout 1 = .ok (.getfield 38, 3) := by decide +kernel
theorem dX4_gatherPitchesWithout_4 : decode cX4_gatherPitchesWithout 4 = .ok (.invokevirtual 216, 3) := by decide +kernel
theorem dX4_gatherPitchesWithout_7 : decode cX4_gatherPitchesWithout 7 = .ok (.iconst 0, 1) := by decide +kernel
theorem dX4_gatherPitchesWithout_8 : decode cX4_gatherPitchesWithout 8 = .ok (.istore_n 2, 1) := by decide +kernel
theorem dX4_gatherPitchesWithout_9 : decode cX4_gatherPitchesWithout 9 = .ok (.iload_n 2, 1) := by decide +kernel
theorem dX4_gatherPitchesWithout_10 : decode cX4_gatherPitchesWithout 10 = .ok (.aload_n 0, 1) := by decide +kernel
theorem dX4_gatherPitchesWithout_11 : decode cX4_gatherPitchesWithout 11 = .ok (.getfield 23, 3) := by decide +kernel
theorem dX4_gatherPitchesWithout_14 : decode cX4_gatherPitchesWithout 14 = .ok (.invokevirtual 64, 3) := by decide +kernel
theorem dX4_gatherPitchesWithout_17 : decode cX4_gatherPitchesWithout 17 = .ok (.if_icmp .ge 44, 3) := by decide +kernel
theorem dX4_gatherPitchesWithout_20 : decode cX4_gatherPitchesWithout 20 = .ok (.aload_n 0, 1) := by decide +kernel
theorem dX4_gatherPitchesWithout_21 : decode cX4_gatherPitchesWithout 21 = .ok (.getfield 23, 3) := by decide +kernel
theorem dX4_gatherPitchesWithout_24 : decode cX4_gatherPitchesWithout 24 = .ok (.iload_n 2, 1) := by decide +kernel
theorem dX4_gatherPitchesWithout_25 : decode cX4_gatherPitchesWithout 25 = .ok (.invokevirtual 134, 3) := by decide +kernel
theorem dX4_gatherPitchesWithout_28 : decode cX4_gatherPitchesWithout 28 = .ok (.checkcast 26, 3) := by decide +kernel
theorem dX4_gatherPitchesWithout_31 : decode cX4_gatherPitchesWithout 31 = .ok (.astore_n 3, 1) := by decide +kernel
theorem dX4_gatherPitchesWithout_32 : decode cX4_gatherPitchesWithout 32 = .ok (.iload_n 2, 1) := by decide +kernel
theorem dX4_gatherPitchesWithout_33 : decode cX4_gatherPitchesWithout 33 = .ok (.iload_n 1, 1) := by decide +kernel
theorem dX4_gatherPitchesWithout_34 : decode cX4_gatherPitchesWithout 34 = .ok (.if_icmp .eq 21, 3) := by decide +kernel
theorem dX4_gatherPitchesWithout_37 : decode cX4_gatherPitchesWithout 37 = .ok (.aload_n 3, 1) := by decide +kernel
theorem dX4_gatherPitchesWithout_38 : decode cX4_gatherPitchesWithout 38 = .ok (.getfield 181, 3) := by decide +kernel
theorem dX4_gatherPitchesWithout_41 : decode cX4_gatherPitchesWithout 41 = .ok (.ifCond .ne 14, 3) := by decide +kernel
theorem dX4_gatherPitchesWithout_44 : decode cX4_gatherPitchesWithout 44 = .ok (.aload_n 0, 1) := by decide +kernel
theorem dX4_gatherPitchesWithout_45 : decode cX4_gatherPitchesWithout 45 = .ok (.getfield 38, 3) := by decide +kernel
theorem dX4_gatherPitchesWithout_48 : decode cX4_gatherPitchesWithout 48 = .ok (.aload_n 3, 1) := by decide +kernel
theorem dX4_gatherPitchesWithout_49 : decode cX4_gatherPitchesWithout 49 = .ok (.invokevirtual 207, 3) := by decide +kernel
theorem dX4_gatherPitchesWithout_52 : decode cX4_gatherPitchesWithout 52 = .ok (.invokevirtual 223, 3) := by decide +kernel
theorem dX4_gatherPitchesWithout_55 : decode cX4_gatherPitchesWithout 55 = .ok (.iinc 2 1, 3) := by decide +kernel
theorem dX4_gatherPitchesWithout_58 : decode cX4_gatherPitchesWithout 58 = .ok (.goto (-49), 3) := by decide +kernel
theorem dX4_gatherPitchesWithout_61 : decode cX4_gatherPitchesWithout 61 = .ok (.return_, 1) := by decide +kernel
theorem dX4_spreadWithout_0 : decode cX4_spreadWithout 0 = .ok (.aload_n 0, 1) := by decide +kernel
theorem dX4_spreadWithout_1 : decode cX4_spreadWithout 1 = .ok (.iload_n 1, 1) := by decide +kernel
theorem dX4_spreadWithout_2 : decode cX4_spreadWithout 2 = .ok (.invokevirtual 200, 3) := by decide +kernel
theorem dX4_spreadWithout_5 : decode cX4_spreadWithout 5 = .ok (.aload_n 0, 1) := by decide +kernel
theorem dX4_spreadWithout_6 : decode cX4_spreadWithout 6 = .ok (.getfield 38, 3) := by decide +kernel
theorem dX4_spreadWithout_9 : decode cX4_spreadWithout 9 = .ok (.invokevirtual 226, 3) := by decide +kernel
theorem dX4_spreadWithout_12 : decode cX4_spreadWithout 12 = .ok (.ireturn, 1) := by decide +kernel
theorem dX4_seatToMiddle_0 : decode cX4_seatToMiddle 0 = .ok (.aload_n 0, 1) := by decide +kernel
theorem dX4_seatToMiddle_1 : decode cX4_seatToMiddle 1 = .ok (.iconst (-1), 1) := by decide +kernel
theorem dX4_seatToMiddle_2 : decode cX4_seatToMiddle 2 = .ok (.invokevirtual 200, 3) := by decide +kernel
theorem dX4_seatToMiddle_5 : decode cX4_seatToMiddle 5 = .ok (.aload_n 0, 1) := by decide +kernel
theorem dX4_seatToMiddle_6 : decode cX4_seatToMiddle 6 = .ok (.getfield 38, 3) := by decide +kernel
theorem dX4_seatToMiddle_9 : decode cX4_seatToMiddle 9 = .ok (.getfield 204, 3) := by decide +kernel
theorem dX4_seatToMiddle_12 : decode cX4_seatToMiddle 12 = .ok (.iconst 1, 1) := by decide +kernel
theorem dX4_seatToMiddle_13 : decode cX4_seatToMiddle 13 = .ok (.if_icmp .ge 7, 3) := by decide +kernel
theorem dX4_seatToMiddle_16 : decode cX4_seatToMiddle 16 = .ok (.iconst 0, 1) := by decide +kernel
theorem dX4_seatToMiddle_17 : decode cX4_seatToMiddle 17 = .ok (.goto 15, 3) := by decide +kernel
theorem dX4_seatToMiddle_20 : decode cX4_seatToMiddle 20 = .ok (.aload_n 0, 1) := by decide +kernel
theorem dX4_seatToMiddle_21 : decode cX4_seatToMiddle 21 = .ok (.getfield 38, 3) := by decide +kernel
theorem dX4_seatToMiddle_24 : decode cX4_seatToMiddle 24 = .ok (.invokevirtual 231, 3) := by decide +kernel
theorem dX4_seatToMiddle_27 : decode cX4_seatToMiddle 27 = .ok (.aload_n 1, 1) := by decide +kernel
theorem dX4_seatToMiddle_28 : decode cX4_seatToMiddle 28 = .ok (.invokevirtual 207, 3) := by decide +kernel
theorem dX4_seatToMiddle_31 : decode cX4_seatToMiddle 31 = .ok (.isub, 1) := by decide +kernel
theorem dX4_seatToMiddle_32 : decode cX4_seatToMiddle 32 = .ok (.ireturn, 1) := by decide +kernel
theorem dX4_band_0 : decode cX4_band 0 = .ok (.iload_n 1, 1) := by decide +kernel
theorem dX4_band_1 : decode cX4_band 1 = .ok (.iconst 1, 1) := by decide +kernel
theorem dX4_band_2 : decode cX4_band 2 = .ok (.iconst 5, 1) := by decide +kernel
theorem dX4_band_3 : decode cX4_band 3 = .ok (.invokestatic 53, 3) := by decide +kernel
theorem dX4_band_6 : decode cX4_band 6 = .ok (.ifCond .ne 13, 3) := by decide +kernel
theorem dX4_band_9 : decode cX4_band 9 = .ok (.new 57, 3) := by decide +kernel
theorem dX4_band_12 : decode cX4_band 12 = .ok (.dup, 1) := by decide +kernel
theorem dX4_band_13 : decode cX4_band 13 = .ok (.ldc 234, 2) := by decide +kernel
theorem dX4_band_15 : decode cX4_band 15 = .ok (.invokespecial 61, 3) := by decide +kernel
theorem dX4_band_18 : decode cX4_band 18 = .ok (.athrow, 1) := by decide +kernel
theorem dX4_band_19 : decode cX4_band 19 = .ok (.aload_n 0, 1) := by decide +kernel
theorem dX4_band_20 : decode cX4_band 20 = .ok (.getfield 42, 3) := by decide +kernel
theorem dX4_band_23 : decode cX4_band 23 = .ok (.invokevirtual 64, 3) := by decide +kernel
theorem dX4_band_26 : decode cX4_band 26 = .ok (.bipush 8, 2) := by decide +kernel
theorem dX4_band_28 : decode cX4_band 28 = .ok (.if_icmp .lt 13, 3) := by decide +kernel
theorem dX4_band_31 : decode cX4_band 31 = .ok (.new 68, 3) := by decide +kernel
theorem dX4_band_34 : decode cX4_band 34 = .ok (.dup, 1) := by decide +kernel
theorem dX4_band_35 : decode cX4_band 35 = .ok (.ldc 236, 2) := by decide +kernel
theorem dX4_band_37 : decode cX4_band 37 = .ok (.invokespecial 72, 3) := by decide +kernel
theorem dX4_band_40 : decode cX4_band 40 = .ok (.athrow, 1) := by decide +kernel
theorem dX4_band_41 : decode cX4_band 41 = .ok (.aload_n 0, 1) := by decide +kernel
theorem dX4_band_42 : decode cX4_band 42 = .ok (.getfield 42, 3) := by decide +kernel
theorem dX4_band_45 : decode cX4_band 45 = .ok (.invokevirtual 64, 3) := by decide +kernel
theorem dX4_band_48 : decode cX4_band 48 = .ok (.istore_n 2, 1) := by decide +kernel
theorem dX4_band_49 : decode cX4_band 49 = .ok (.aload_n 0, 1) := by decide +kernel
theorem dX4_band_50 : decode cX4_band 50 = .ok (.getfield 42, 3) := by decide +kernel
theorem dX4_band_53 : decode cX4_band 53 = .ok (.new 238, 3) := by decide +kernel
theorem dX4_band_56 : decode cX4_band 56 = .ok (.dup, 1) := by decide +kernel
theorem dX4_band_57 : decode cX4_band 57 = .ok (.iload_n 2, 1) := by decide +kernel
theorem dX4_band_58 : decode cX4_band 58 = .ok (.iload_n 1, 1) := by decide +kernel
theorem dX4_band_59 : decode cX4_band 59 = .ok (.invokespecial 240, 3) := by decide +kernel
theorem dX4_band_62 : decode cX4_band 62 = .ok (.invokevirtual 78, 3) := by decide +kernel
theorem dX4_band_65 : decode cX4_band 65 = .ok (.pop, 1) := by decide +kernel
theorem dX4_band_66 : decode cX4_band 66 = .ok (.iload_n 2, 1) := by decide +kernel
theorem dX4_band_67 : decode cX4_band 67 = .ok (.ireturn, 1) := by decide +kernel
theorem dX4_contest_0 : decode cX4_contest 0 = .ok (.iload_n 1, 1) := by decide +kernel
theorem dX4_contest_1 : decode cX4_contest 1 = .ok (.iconst 1, 1) := by decide +kernel
theorem dX4_contest_2 : decode cX4_contest 2 = .ok (.iconst 5, 1) := by decide +kernel
theorem dX4_contest_3 : decode cX4_contest 3 = .ok (.invokestatic 53, 3) := by decide +kernel
theorem dX4_contest_6 : decode cX4_contest 6 = .ok (.ifCond .ne 13, 3) := by decide +kernel
theorem dX4_contest_9 : decode cX4_contest 9 = .ok (.new 57, 3) := by decide +kernel
theorem dX4_contest_12 : decode cX4_contest 12 = .ok (.dup, 1) := by decide +kernel
theorem dX4_contest_13 : decode cX4_contest 13 = .ok (.ldc 234, 2) := by decide +kernel
theorem dX4_contest_15 : decode cX4_contest 15 = .ok (.invokespecial 61, 3) := by decide +kernel
theorem dX4_contest_18 : decode cX4_contest 18 = .ok (.athrow, 1) := by decide +kernel
theorem dX4_contest_19 : decode cX4_contest 19 = .ok (.aload_n 0, 1) := by decide +kernel
theorem dX4_contest_20 : decode cX4_contest 20 = .ok (.iload_n 1, 1) := by decide +kernel
theorem dX4_contest_21 : decode cX4_contest 21 = .ok (.invokevirtual 241, 3) := by decide +kernel
theorem dX4_contest_24 : decode cX4_contest 24 = .ok (.istore_n 2, 1) := by decide +kernel
theorem dX4_contest_25 : decode cX4_contest 25 = .ok (.aload_n 0, 1) := by decide +kernel
theorem dX4_contest_26 : decode cX4_contest 26 = .ok (.getfield 45, 3) := by decide +kernel
theorem dX4_contest_29 : decode cX4_contest 29 = .ok (.ifCond .ne 8, 3) := by decide +kernel
theorem dX4_contest_32 : decode cX4_contest 32 = .ok (.iload_n 2, 1) := by decide +kernel
theorem dX4_contest_33 : decode cX4_contest 33 = .ok (.iconst 2, 1) := by decide +kernel
theorem dX4_contest_34 : decode cX4_contest 34 = .ok (.if_icmp .ge 13, 3) := by decide +kernel
theorem dX4_contest_37 : decode cX4_contest 37 = .ok (.new 68, 3) := by decide +kernel
theorem dX4_contest_40 : decode cX4_contest 40 = .ok (.dup, 1) := by decide +kernel
theorem dX4_contest_41 : decode cX4_contest 41 = .ok (.ldc 244, 2) := by decide +kernel
theorem dX4_contest_43 : decode cX4_contest 43 = .ok (.invokespecial 72, 3) := by decide +kernel
theorem dX4_contest_46 : decode cX4_contest 46 = .ok (.athrow, 1) := by decide +kernel
theorem dX4_contest_47 : decode cX4_contest 47 = .ok (.iconst 0, 1) := by decide +kernel
theorem dX4_contest_48 : decode cX4_contest 48 = .ok (.istore_n 3, 1) := by decide +kernel
theorem dX4_contest_49 : decode cX4_contest 49 = .ok (.iload_n 3, 1) := by decide +kernel
theorem dX4_contest_50 : decode cX4_contest 50 = .ok (.aload_n 0, 1) := by decide +kernel
theorem dX4_contest_51 : decode cX4_contest 51 = .ok (.getfield 42, 3) := by decide +kernel
theorem dX4_contest_54 : decode cX4_contest 54 = .ok (.invokevirtual 64, 3) := by decide +kernel
theorem dX4_contest_57 : decode cX4_contest 57 = .ok (.if_icmp .ge 46, 3) := by decide +kernel
theorem dX4_contest_60 : decode cX4_contest 60 = .ok (.aload_n 0, 1) := by decide +kernel
theorem dX4_contest_61 : decode cX4_contest 61 = .ok (.getfield 42, 3) := by decide +kernel
theorem dX4_contest_64 : decode cX4_contest 64 = .ok (.iload_n 3, 1) := by decide +kernel
theorem dX4_contest_65 : decode cX4_contest 65 = .ok (.invokevirtual 134, 3) := by decide +kernel
theorem dX4_contest_68 : decode cX4_contest 68 = .ok (.checkcast 238, 3) := by decide +kernel
theorem dX4_contest_71 : decode cX4_contest 71 = .ok (.astore 4, 2) := by decide +kernel
theorem dX4_contest_73 : decode cX4_contest 73 = .ok (.aload 4, 2) := by decide +kernel
theorem dX4_contest_75 : decode cX4_contest 75 = .ok (.aload 4, 2) := by decide +kernel
theorem dX4_contest_77 : decode cX4_contest 77 = .ok (.getfield 246, 3) := by decide +kernel
theorem dX4_contest_80 : decode cX4_contest 80 = .ok (.iload_n 1, 1) := by decide +kernel
theorem dX4_contest_81 : decode cX4_contest 81 = .ok (.if_icmp .ne 7, 3) := by decide +kernel
theorem dX4_contest_84 : decode cX4_contest 84 = .ok (.iconst 1, 1) := by decide +kernel
theorem dX4_contest_85 : decode cX4_contest 85 = .ok (.goto 4, 3) := by decide +kernel
theorem dX4_contest_88 : decode cX4_contest 88 = .ok (.iconst 0, 1) := by decide +kernel
theorem dX4_contest_89 : decode cX4_contest 89 = .ok (.putfield 249, 3) := by decide +kernel
theorem dX4_contest_92 : decode cX4_contest 92 = .ok (.aload 4, 2) := by decide +kernel
theorem dX4_contest_94 : decode cX4_contest 94 = .ok (.invokevirtual 252, 3) := by decide +kernel
theorem dX4_contest_97 : decode cX4_contest 97 = .ok (.iinc 3 1, 3) := by decide +kernel
theorem dX4_contest_100 : decode cX4_contest 100 = .ok (.goto (-51), 3) := by decide +kernel
theorem dX4_contest_103 : decode cX4_contest 103 = .ok (.aload_n 0, 1) := by decide +kernel
theorem dX4_contest_104 : decode cX4_contest 104 = .ok (.iconst 1, 1) := by decide +kernel
theorem dX4_contest_105 : decode cX4_contest 105 = .ok (.putfield 45, 3) := by decide +kernel
theorem dX4_contest_108 : decode cX4_contest 108 = .ok (.aload_n 0, 1) := by decide +kernel
theorem dX4_contest_109 : decode cX4_contest 109 = .ok (.iload_n 2, 1) := by decide +kernel
theorem dX4_contest_110 : decode cX4_contest 110 = .ok (.iconst 4, 1) := by decide +kernel
theorem dX4_contest_111 : decode cX4_contest 111 = .ok (.imul, 1) := by decide +kernel
theorem dX4_contest_112 : decode cX4_contest 112 = .ok (.putfield 49, 3) := by decide +kernel
theorem dX4_contest_115 : decode cX4_contest 115 = .ok (.iload_n 2, 1) := by decide +kernel
theorem dX4_contest_116 : decode cX4_contest 116 = .ok (.ireturn, 1) := by decide +kernel
theorem dX4_mark_0 : decode cX4_mark 0 = .ok (.iload_n 1, 1) := by decide +kernel
theorem dX4_mark_1 : decode cX4_mark 1 = .ok (.iconst 0, 1) := by decide +kernel
theorem dX4_mark_2 : decode cX4_mark 2 = .ok (.iconst 3, 1) := by decide +kernel
theorem dX4_mark_3 : decode cX4_mark 3 = .ok (.invokestatic 53, 3) := by decide +kernel
theorem dX4_mark_6 : decode cX4_mark 6 = .ok (.ifCond .ne 13, 3) := by decide +kernel
theorem dX4_mark_9 : decode cX4_mark 9 = .ok (.new 110, 3) := by decide +kernel
theorem dX4_mark_12 : decode cX4_mark 12 = .ok (.dup, 1) := by decide +kernel
theorem dX4_mark_13 : decode cX4_mark 13 = .ok (.ldc 255, 2) := by decide +kernel
theorem dX4_mark_15 : decode cX4_mark 15 = .ok (.invokespecial 114, 3) := by decide +kernel
theorem dX4_mark_18 : decode cX4_mark 18 = .ok (.athrow, 1) := by decide +kernel
theorem dX4_mark_19 : decode cX4_mark 19 = .ok (.aload_n 0, 1) := by decide +kernel
theorem dX4_mark_20 : decode cX4_mark 20 = .ok (.iload_n 2, 1) := by decide +kernel
theorem dX4_mark_21 : decode cX4_mark 21 = .ok (.invokevirtual 257, 3) := by decide +kernel
theorem dX4_mark_24 : decode cX4_mark 24 = .ok (.astore 4, 2) := by decide +kernel
theorem dX4_mark_26 : decode cX4_mark 26 = .ok (.iload_n 3, 1) := by decide +kernel
theorem dX4_mark_27 : decode cX4_mark 27 = .ok (.iconst 0, 1) := by decide +kernel
theorem dX4_mark_28 : decode cX4_mark 28 = .ok (.bipush 100, 2) := by decide +kernel
theorem dX4_mark_30 : decode cX4_mark 30 = .ok (.invokestatic 53, 3) := by decide +kernel
theorem dX4_mark_33 : decode cX4_mark 33 = .ok (.ifCond .ne 14, 3) := by decide +kernel
theorem dX4_mark_36 : decode cX4_mark 36 = .ok (.new 57, 3) := by decide +kernel
theorem dX4_mark_39 : decode cX4_mark 39 = .ok (.dup, 1) := by decide +kernel
theorem dX4_mark_40 : decode cX4_mark 40 = .ok (.ldc_w 261, 3) := by decide +kernel
theorem dX4_mark_43 : decode cX4_mark 43 = .ok (.invokespecial 61, 3) := by decide +kernel
theorem dX4_mark_46 : decode cX4_mark 46 = .ok (.athrow, 1) := by decide +kernel
theorem dX4_mark_47 : decode cX4_mark 47 = .ok (.aload_n 0, 1) := by decide +kernel
theorem dX4_mark_48 : decode cX4_mark 48 = .ok (.getfield 45, 3) := by decide +kernel
theorem dX4_mark_51 : decode cX4_mark 51 = .ok (.ifCond .eq 21, 3) := by decide +kernel
theorem dX4_mark_54 : decode cX4_mark 54 = .ok (.aload 4, 2) := by decide +kernel
theorem dX4_mark_56 : decode cX4_mark 56 = .ok (.getfield 249, 3) := by decide +kernel
theorem dX4_mark_59 : decode cX4_mark 59 = .ok (.ifCond .eq 13, 3) := by decide +kernel
theorem dX4_mark_62 : decode cX4_mark 62 = .ok (.aload 4, 2) := by decide +kernel
theorem dX4_mark_64 : decode cX4_mark 64 = .ok (.iload_n 1, 1) := by decide +kernel
theorem dX4_mark_65 : decode cX4_mark 65 = .ok (.invokevirtual 263, 3) := by decide +kernel
theorem dX4_mark_68 : decode cX4_mark 68 = .ok (.iconst (-1), 1) := by decide +kernel
theorem dX4_mark_69 : decode cX4_mark 69 = .ok (.if_icmp .eq 14, 3) := by decide +kernel
theorem dX4_mark_72 : decode cX4_mark 72 = .ok (.new 68, 3) := by decide +kernel
theorem dX4_mark_75 : decode cX4_mark 75 = .ok (.dup, 1) := by decide +kernel
theorem dX4_mark_76 : decode cX4_mark 76 = .ok (.ldc_w 266, 3) := by decide +kernel
theorem dX4_mark_79 : decode cX4_mark 79 = .ok (.invokespecial 72, 3) := by decide +kernel
theorem dX4_mark_82 : decode cX4_mark 82 = .ok (.athrow, 1) := by decide +kernel
theorem dX4_mark_83 : decode cX4_mark 83 = .ok (.aload 4, 2) := by decide +kernel
theorem dX4_mark_85 : decode cX4_mark 85 = .ok (.iload_n 1, 1) := by decide +kernel
theorem dX4_mark_86 : decode cX4_mark 86 = .ok (.iload_n 3, 1) := by decide +kernel
theorem dX4_mark_87 : decode cX4_mark 87 = .ok (.invokevirtual 268, 3) := by decide +kernel
theorem dX4_mark_90 : decode cX4_mark 90 = .ok (.aload_n 0, 1) := by decide +kernel
theorem dX4_mark_91 : decode cX4_mark 91 = .ok (.dup, 1) := by decide +kernel
theorem dX4_mark_92 : decode cX4_mark 92 = .ok (.getfield 49, 3) := by decide +kernel
theorem dX4_mark_95 : decode cX4_mark 95 = .ok (.iconst 1, 1) := by decide +kernel
theorem dX4_mark_96 : decode cX4_mark 96 = .ok (.isub, 1) := by decide +kernel
theorem dX4_mark_97 : decode cX4_mark 97 = .ok (.putfield 49, 3) := by decide +kernel
theorem dX4_mark_100 : decode cX4_mark 100 = .ok (.aload_n 0, 1) := by decide +kernel
theorem dX4_mark_101 : decode cX4_mark 101 = .ok (.getfield 49, 3) := by decide +kernel
theorem dX4_mark_104 : decode cX4_mark 104 = .ok (.ireturn, 1) := by decide +kernel
theorem dX4_close_0 : decode cX4_close 0 = .ok (.aload_n 0, 1) := by decide +kernel
theorem dX4_close_1 : decode cX4_close 1 = .ok (.getfield 45, 3) := by decide +kernel
theorem dX4_close_4 : decode cX4_close 4 = .ok (.ifCond .eq 10, 3) := by decide +kernel
theorem dX4_close_7 : decode cX4_close 7 = .ok (.aload_n 0, 1) := by decide +kernel
theorem dX4_close_8 : decode cX4_close 8 = .ok (.getfield 49, 3) := by decide +kernel
theorem dX4_close_11 : decode cX4_close 11 = .ok (.ifCond .le 14, 3) := by decide +kernel
theorem dX4_close_14 : decode cX4_close 14 = .ok (.new 68, 3) := by decide +kernel
theorem dX4_close_17 : decode cX4_close 17 = .ok (.dup, 1) := by decide +kernel
theorem dX4_close_18 : decode cX4_close 18 = .ok (.ldc_w 271, 3) := by decide +kernel
theorem dX4_close_21 : decode cX4_close 21 = .ok (.invokespecial 72, 3) := by decide +kernel
theorem dX4_close_24 : decode cX4_close 24 = .ok (.athrow, 1) := by decide +kernel
theorem dX4_close_25 : decode cX4_close 25 = .ok (.iconst 0, 1) := by decide +kernel
theorem dX4_close_26 : decode cX4_close 26 = .ok (.istore_n 1, 1) := by decide +kernel
theorem dX4_close_27 : decode cX4_close 27 = .ok (.iload_n 1, 1) := by decide +kernel
theorem dX4_close_28 : decode cX4_close 28 = .ok (.aload_n 0, 1) := by decide +kernel
theorem dX4_close_29 : decode cX4_close 29 = .ok (.getfield 42, 3) := by decide +kernel
theorem dX4_close_32 : decode cX4_close 32 = .ok (.invokevirtual 64, 3) := by decide +kernel
theorem dX4_close_35 : decode cX4_close 35 = .ok (.if_icmp .ge 37, 3) := by decide +kernel
theorem dX4_close_38 : decode cX4_close 38 = .ok (.aload_n 0, 1) := by decide +kernel
theorem dX4_close_39 : decode cX4_close 39 = .ok (.getfield 42, 3) := by decide +kernel
theorem dX4_close_42 : decode cX4_close 42 = .ok (.iload_n 1, 1) := by decide +kernel
theorem dX4_close_43 : decode cX4_close 43 = .ok (.invokevirtual 134, 3) := by decide +kernel
theorem dX4_close_46 : decode cX4_close 46 = .ok (.checkcast 238, 3) := by decide +kernel
theorem dX4_close_49 : decode cX4_close 49 = .ok (.astore_n 2, 1) := by decide +kernel
theorem dX4_close_50 : decode cX4_close 50 = .ok (.aload_n 2, 1) := by decide +kernel
theorem dX4_close_51 : decode cX4_close 51 = .ok (.invokevirtual 273, 3) := by decide +kernel
theorem dX4_close_54 : decode cX4_close 54 = .ok (.aload_n 2, 1) := by decide +kernel
theorem dX4_close_55 : decode cX4_close 55 = .ok (.getfield 249, 3) := by decide +kernel
theorem dX4_close_58 : decode cX4_close 58 = .ok (.ifCond .eq 8, 3) := by decide +kernel
theorem dX4_close_61 : decode cX4_close 61 = .ok (.aload_n 0, 1) := by decide +kernel
theorem dX4_close_62 : decode cX4_close 62 = .ok (.aload_n 2, 1) := by decide +kernel
theorem dX4_close_63 : decode cX4_close 63 = .ok (.invokevirtual 276, 3) := by decide +kernel
theorem dX4_close_66 : decode cX4_close 66 = .ok (.iinc 1 1, 3) := by decide +kernel
theorem dX4_close_69 : decode cX4_close 69 = .ok (.goto (-42), 3) := by decide +kernel
theorem dX4_close_72 : decode cX4_close 72 = .ok (.aload_n 0, 1) := by decide +kernel
theorem dX4_close_73 : decode cX4_close 73 = .ok (.invokevirtual 280, 3) := by decide +kernel
theorem dX4_close_76 : decode cX4_close 76 = .ok (.istore_n 1, 1) := by decide +kernel
theorem dX4_close_77 : decode cX4_close 77 = .ok (.aload_n 0, 1) := by decide +kernel
theorem dX4_close_78 : decode cX4_close 78 = .ok (.iconst 0, 1) := by decide +kernel
theorem dX4_close_79 : decode cX4_close 79 = .ok (.putfield 45, 3) := by decide +kernel
theorem dX4_close_82 : decode cX4_close 82 = .ok (.iload_n 1, 1) := by decide +kernel
theorem dX4_close_83 : decode cX4_close 83 = .ok (.ireturn, 1) := by decide +kernel
theorem dX4_season_0 : decode cX4_season 0 = .ok (.aload_n 0, 1) := by decide +kernel
theorem dX4_season_1 : decode cX4_season 1 = .ok (.getfield 45, 3) := by decide +kernel
theorem dX4_season_4 : decode cX4_season 4 = .ok (.ifCond .eq 14, 3) := by decide +kernel
theorem dX4_season_7 : decode cX4_season 7 = .ok (.new 68, 3) := by decide +kernel
theorem dX4_season_10 : decode cX4_season 10 = .ok (.dup, 1) := by decide +kernel
theorem dX4_season_11 : decode cX4_season 11 = .ok (.ldc_w 283, 3) := by decide +kernel
theorem dX4_season_14 : decode cX4_season 14 = .ok (.invokespecial 72, 3) := by decide +kernel
theorem dX4_season_17 : decode cX4_season 17 = .ok (.athrow, 1) := by decide +kernel
theorem dX4_season_18 : decode cX4_season 18 = .ok (.iconst 1, 1) := by decide +kernel
theorem dX4_season_19 : decode cX4_season 19 = .ok (.istore_n 1, 1) := by decide +kernel
theorem dX4_season_20 : decode cX4_season 20 = .ok (.iload_n 1, 1) := by decide +kernel
theorem dX4_season_21 : decode cX4_season 21 = .ok (.iconst 5, 1) := by decide +kernel
theorem dX4_season_22 : decode cX4_season 22 = .ok (.if_icmp .ge 21, 3) := by decide +kernel
theorem dX4_season_25 : decode cX4_season 25 = .ok (.aload_n 0, 1) := by decide +kernel
theorem dX4_season_26 : decode cX4_season 26 = .ok (.iload_n 1, 1) := by decide +kernel
theorem dX4_season_27 : decode cX4_season 27 = .ok (.iconst 1, 1) := by decide +kernel
theorem dX4_season_28 : decode cX4_season 28 = .ok (.iadd, 1) := by decide +kernel
theorem dX4_season_29 : decode cX4_season 29 = .ok (.invokevirtual 285, 3) := by decide +kernel
theorem dX4_season_32 : decode cX4_season 32 = .ok (.aload_n 0, 1) := by decide +kernel
theorem dX4_season_33 : decode cX4_season 33 = .ok (.iload_n 1, 1) := by decide +kernel
theorem dX4_season_34 : decode cX4_season 34 = .ok (.invokevirtual 288, 3) := by decide +kernel
theorem dX4_season_37 : decode cX4_season 37 = .ok (.iinc 1 1, 3) := by decide +kernel
theorem dX4_season_40 : decode cX4_season 40 = .ok (.goto (-20), 3) := by decide +kernel
theorem dX4_season_43 : decode cX4_season 43 = .ok (.iconst 0, 1) := by decide +kernel
theorem dX4_season_44 : decode cX4_season 44 = .ok (.istore_n 1, 1) := by decide +kernel
theorem dX4_season_45 : decode cX4_season 45 = .ok (.iconst 0, 1) := by decide +kernel
theorem dX4_season_46 : decode cX4_season 46 = .ok (.istore_n 2, 1) := by decide +kernel
theorem dX4_season_47 : decode cX4_season 47 = .ok (.iload_n 2, 1) := by decide +kernel
theorem dX4_season_48 : decode cX4_season 48 = .ok (.aload_n 0, 1) := by decide +kernel
theorem dX4_season_49 : decode cX4_season 49 = .ok (.getfield 42, 3) := by decide +kernel
theorem dX4_season_52 : decode cX4_season 52 = .ok (.invokevirtual 64, 3) := by decide +kernel
theorem dX4_season_55 : decode cX4_season 55 = .ok (.if_icmp .ge 34, 3) := by decide +kernel
theorem dX4_season_58 : decode cX4_season 58 = .ok (.iload_n 1, 1) := by decide +kernel
theorem dX4_season_59 : decode cX4_season 59 = .ok (.aload_n 0, 1) := by decide +kernel
theorem dX4_season_60 : decode cX4_season 60 = .ok (.getfield 42, 3) := by decide +kernel
theorem dX4_season_63 : decode cX4_season 63 = .ok (.iload_n 2, 1) := by decide +kernel
theorem dX4_season_64 : decode cX4_season 64 = .ok (.invokevirtual 134, 3) := by decide +kernel
theorem dX4_season_67 : decode cX4_season 67 = .ok (.checkcast 238, 3) := by decide +kernel
theorem dX4_season_70 : decode cX4_season 70 = .ok (.invokevirtual 291, 3) := by decide +kernel
theorem dX4_season_73 : decode cX4_season 73 = .ok (.ifCond .eq 7, 3) := by decide +kernel
theorem dX4_season_76 : decode cX4_season 76 = .ok (.iconst 1, 1) := by decide +kernel
theorem dX4_season_77 : decode cX4_season 77 = .ok (.goto 4, 3) := by decide +kernel
theorem dX4_season_80 : decode cX4_season 80 = .ok (.iconst 0, 1) := by decide +kernel
theorem dX4_season_81 : decode cX4_season 81 = .ok (.iadd, 1) := by decide +kernel
theorem dX4_season_82 : decode cX4_season 82 = .ok (.istore_n 1, 1) := by decide +kernel
theorem dX4_season_83 : decode cX4_season 83 = .ok (.iinc 2 1, 3) := by decide +kernel
theorem dX4_season_86 : decode cX4_season 86 = .ok (.goto (-39), 3) := by decide +kernel
theorem dX4_season_89 : decode cX4_season 89 = .ok (.iload_n 1, 1) := by decide +kernel
theorem dX4_season_90 : decode cX4_season 90 = .ok (.ireturn, 1) := by decide +kernel
theorem dX4_ofBand_0 : decode cX4_ofBand 0 = .ok (.aload_n 0, 1) := by decide +kernel
theorem dX4_ofBand_1 : decode cX4_ofBand 1 = .ok (.iload_n 1, 1) := by decide +kernel
theorem dX4_ofBand_2 : decode cX4_ofBand 2 = .ok (.invokevirtual 257, 3) := by decide +kernel
theorem dX4_ofBand_5 : decode cX4_ofBand 5 = .ok (.astore_n 3, 1) := by decide +kernel
theorem dX4_ofBand_6 : decode cX4_ofBand 6 = .ok (.iload_n 2, 1) := by decide +kernel
theorem dX4_ofBand_7 : decode cX4_ofBand 7 = .ok (.iconst 0, 1) := by decide +kernel
theorem dX4_ofBand_8 : decode cX4_ofBand 8 = .ok (.iconst 4, 1) := by decide +kernel
theorem dX4_ofBand_9 : decode cX4_ofBand 9 = .ok (.invokestatic 53, 3) := by decide +kernel
theorem dX4_ofBand_12 : decode cX4_ofBand 12 = .ok (.ifCond .ne 13, 3) := by decide +kernel
theorem dX4_ofBand_15 : decode cX4_ofBand 15 = .ok (.new 57, 3) := by decide +kernel
theorem dX4_ofBand_18 : decode cX4_ofBand 18 = .ok (.dup, 1) := by decide +kernel
theorem dX4_ofBand_19 : decode cX4_ofBand 19 = .ok (.ldc 115, 2) := by decide +kernel
theorem dX4_ofBand_21 : decode cX4_ofBand 21 = .ok (.invokespecial 61, 3) := by decide +kernel
theorem dX4_ofBand_24 : decode cX4_ofBand 24 = .ok (.athrow, 1) := by decide +kernel
theorem dX4_ofBand_25 : decode cX4_ofBand 25 = .ok (.aload_n 3, 1) := by decide +kernel
theorem dX4_ofBand_26 : decode cX4_ofBand 26 = .ok (.iload_n 2, 1) := by decide +kernel
theorem dX4_ofBand_27 : decode cX4_ofBand 27 = .ok (.invokevirtual 294, 3) := by decide +kernel
theorem dX4_ofBand_30 : decode cX4_ofBand 30 = .ok (.ireturn, 1) := by decide +kernel
theorem dX4_bandOfNumber_0 : decode cX4_bandOfNumber 0 = .ok (.iload_n 1, 1) := by decide +kernel
theorem dX4_bandOfNumber_1 : decode cX4_bandOfNumber 1 = .ok (.ifCond .lt 14, 3) := by decide +kernel
theorem dX4_bandOfNumber_4 : decode cX4_bandOfNumber 4 = .ok (.iload_n 1, 1) := by decide +kernel
theorem dX4_bandOfNumber_5 : decode cX4_bandOfNumber 5 = .ok (.aload_n 0, 1) := by decide +kernel
theorem dX4_bandOfNumber_6 : decode cX4_bandOfNumber 6 = .ok (.getfield 42, 3) := by decide +kernel
theorem dX4_bandOfNumber_9 : decode cX4_bandOfNumber 9 = .ok (.invokevirtual 64, 3) := by decide +kernel
theorem dX4_bandOfNumber_12 : decode cX4_bandOfNumber 12 = .ok (.if_icmp .lt 14, 3) := by decide +kernel
theorem dX4_bandOfNumber_15 : decode cX4_bandOfNumber 15 = .ok (.new 110, 3) := by decide +kernel
theorem dX4_bandOfNumber_18 : decode cX4_bandOfNumber 18 = .ok (.dup, 1) := by decide +kernel
theorem dX4_bandOfNumber_19 : decode cX4_bandOfNumber 19 = .ok (.ldc_w 295, 3) := by decide +kernel
theorem dX4_bandOfNumber_22 : decode cX4_bandOfNumber 22 = .ok (.invokespecial 114, 3) := by decide +kernel
theorem dX4_bandOfNumber_25 : decode cX4_bandOfNumber 25 = .ok (.athrow, 1) := by decide +kernel
theorem dX4_bandOfNumber_26 : decode cX4_bandOfNumber 26 = .ok (.aload_n 0, 1) := by decide +kernel
theorem dX4_bandOfNumber_27 : decode cX4_bandOfNumber 27 = .ok (.getfield 42, 3) := by decide +kernel
theorem dX4_bandOfNumber_30 : decode cX4_bandOfNumber 30 = .ok (.iload_n 1, 1) := by decide +kernel
theorem dX4_bandOfNumber_31 : decode cX4_bandOfNumber 31 = .ok (.invokevirtual 134, 3) := by decide +kernel
theorem dX4_bandOfNumber_34 : decode cX4_bandOfNumber 34 = .ok (.checkcast 238, 3) := by decide +kernel
theorem dX4_bandOfNumber_37 : decode cX4_bandOfNumber 37 = .ok (.areturn, 1) := by decide +kernel
theorem dX4_bandsOfGrade_0 : decode cX4_bandsOfGrade 0 = .ok (.iconst 0, 1) := by decide +kernel
theorem dX4_bandsOfGrade_1 : decode cX4_bandsOfGrade 1 = .ok (.istore_n 2, 1) := by decide +kernel
theorem dX4_bandsOfGrade_2 : decode cX4_bandsOfGrade 2 = .ok (.iconst 0, 1) := by decide +kernel
theorem dX4_bandsOfGrade_3 : decode cX4_bandsOfGrade 3 = .ok (.istore_n 3, 1) := by decide +kernel
theorem dX4_bandsOfGrade_4 : decode cX4_bandsOfGrade 4 = .ok (.iload_n 3, 1) := by decide +kernel
theorem dX4_bandsOfGrade_5 : decode cX4_bandsOfGrade 5 = .ok (.aload_n 0, 1) := by decide +kernel
theorem dX4_bandsOfGrade_6 : decode cX4_bandsOfGrade 6 = .ok (.getfield 42, 3) := by decide +kernel
theorem dX4_bandsOfGrade_9 : decode cX4_bandsOfGrade 9 = .ok (.invokevirtual 64, 3) := by decide +kernel
theorem dX4_bandsOfGrade_12 : decode cX4_bandsOfGrade 12 = .ok (.if_icmp .ge 35, 3) := by decide +kernel
theorem dX4_bandsOfGrade_15 : decode cX4_bandsOfGrade 15 = .ok (.iload_n 2, 1) := by decide +kernel
theorem dX4_bandsOfGrade_16 : decode cX4_bandsOfGrade 16 = .ok (.aload_n 0, 1) := by decide +kernel
theorem dX4_bandsOfGrade_17 : decode cX4_bandsOfGrade 17 = .ok (.getfield 42, 3) := by decide +kernel
theorem dX4_bandsOfGrade_20 : decode cX4_bandsOfGrade 20 = .ok (.iload_n 3, 1) := by decide +kernel
theorem dX4_bandsOfGrade_21 : decode cX4_bandsOfGrade 21 = .ok (.invokevirtual 134, 3) := by decide +kernel
theorem dX4_bandsOfGrade_24 : decode cX4_bandsOfGrade 24 = .ok (.checkcast 238, 3) := by decide +kernel
theorem dX4_bandsOfGrade_27 : decode cX4_bandsOfGrade 27 = .ok (.getfield 246, 3) := by decide +kernel
theorem dX4_bandsOfGrade_30 : decode cX4_bandsOfGrade 30 = .ok (.iload_n 1, 1) := by decide +kernel
theorem dX4_bandsOfGrade_31 : decode cX4_bandsOfGrade 31 = .ok (.if_icmp .ne 7, 3) := by decide +kernel
theorem dX4_bandsOfGrade_34 : decode cX4_bandsOfGrade 34 = .ok (.iconst 1, 1) := by decide +kernel
theorem dX4_bandsOfGrade_35 : decode cX4_bandsOfGrade 35 = .ok (.goto 4, 3) := by decide +kernel
theorem dX4_bandsOfGrade_38 : decode cX4_bandsOfGrade 38 = .ok (.iconst 0, 1) := by decide +kernel
theorem dX4_bandsOfGrade_39 : decode cX4_bandsOfGrade 39 = .ok (.iadd, 1) := by decide +kernel
theorem dX4_bandsOfGrade_40 : decode cX4_bandsOfGrade 40 = .ok (.istore_n 2, 1) := by decide +kernel
theorem dX4_bandsOfGrade_41 : decode cX4_bandsOfGrade 41 = .ok (.iinc 3 1, 3) := by decide +kernel
theorem dX4_bandsOfGrade_44 : decode cX4_bandsOfGrade 44 = .ok (.goto (-40), 3) := by decide +kernel
theorem dX4_bandsOfGrade_47 : decode cX4_bandsOfGrade 47 = .ok (.iload_n 2, 1) := by decide +kernel
theorem dX4_bandsOfGrade_48 : decode cX4_bandsOfGrade 48 = .ok (.ireturn, 1) := by decide +kernel
theorem dX4_findPlaces_0 : decode cX4_findPlaces 0 = .ok (.iconst 0, 1) := by decide +kernel
theorem dX4_findPlaces_1 : decode cX4_findPlaces 1 = .ok (.istore_n 2, 1) := by decide +kernel
theorem dX4_findPlaces_2 : decode cX4_findPlaces 2 = .ok (.iconst 0, 1) := by decide +kernel
theorem dX4_findPlaces_3 : decode cX4_findPlaces 3 = .ok (.istore_n 3, 1) := by decide +kernel
theorem dX4_findPlaces_4 : decode cX4_findPlaces 4 = .ok (.iload_n 3, 1) := by decide +kernel
theorem dX4_findPlaces_5 : decode cX4_findPlaces 5 = .ok (.iconst 4, 1) := by decide +kernel
theorem dX4_findPlaces_6 : decode cX4_findPlaces 6 = .ok (.if_icmp .ge 84, 3) := by decide +kernel
theorem dX4_findPlaces_9 : decode cX4_findPlaces 9 = .ok (.iconst 1, 1) := by decide +kernel
theorem dX4_findPlaces_10 : decode cX4_findPlaces 10 = .ok (.istore 4, 2) := by decide +kernel
theorem dX4_findPlaces_12 : decode cX4_findPlaces 12 = .ok (.iconst 0, 1) := by decide +kernel
theorem dX4_findPlaces_13 : decode cX4_findPlaces 13 = .ok (.istore 5, 2) := by decide +kernel
theorem dX4_findPlaces_15 : decode cX4_findPlaces 15 = .ok (.iload 5, 2) := by decide +kernel
theorem dX4_findPlaces_17 : decode cX4_findPlaces 17 = .ok (.aload_n 0, 1) := by decide +kernel
theorem dX4_findPlaces_18 : decode cX4_findPlaces 18 = .ok (.getfield 42, 3) := by decide +kernel
theorem dX4_findPlaces_21 : decode cX4_findPlaces 21 = .ok (.invokevirtual 64, 3) := by decide +kernel
theorem dX4_findPlaces_24 : decode cX4_findPlaces 24 = .ok (.if_icmp .ge 48, 3) := by decide +kernel
theorem dX4_findPlaces_27 : decode cX4_findPlaces 27 = .ok (.aload_n 0, 1) := by decide +kernel
theorem dX4_findPlaces_28 : decode cX4_findPlaces 28 = .ok (.getfield 42, 3) := by decide +kernel
theorem dX4_findPlaces_31 : decode cX4_findPlaces 31 = .ok (.iload 5, 2) := by decide +kernel
theorem dX4_findPlaces_33 : decode cX4_findPlaces 33 = .ok (.invokevirtual 134, 3) := by decide +kernel
theorem dX4_findPlaces_36 : decode cX4_findPlaces 36 = .ok (.checkcast 238, 3) := by decide +kernel
theorem dX4_findPlaces_39 : decode cX4_findPlaces 39 = .ok (.astore 6, 2) := by decide +kernel
theorem dX4_findPlaces_41 : decode cX4_findPlaces 41 = .ok (.aload 6, 2) := by decide +kernel
theorem dX4_findPlaces_43 : decode cX4_findPlaces 43 = .ok (.getfield 249, 3) := by decide +kernel
theorem dX4_findPlaces_46 : decode cX4_findPlaces 46 = .ok (.ifCond .eq 20, 3) := by decide +kernel
theorem dX4_findPlaces_49 : decode cX4_findPlaces 49 = .ok (.aload 6, 2) := by decide +kernel
theorem dX4_findPlaces_51 : decode cX4_findPlaces 51 = .ok (.iload_n 3, 1) := by decide +kernel
theorem dX4_findPlaces_52 : decode cX4_findPlaces 52 = .ok (.invokevirtual 263, 3) := by decide +kernel
theorem dX4_findPlaces_55 : decode cX4_findPlaces 55 = .ok (.aload_n 1, 1) := by decide +kernel
theorem dX4_findPlaces_56 : decode cX4_findPlaces 56 = .ok (.iload_n 3, 1) := by decide +kernel
theorem dX4_findPlaces_57 : decode cX4_findPlaces 57 = .ok (.invokevirtual 263, 3) := by decide +kernel
theorem dX4_findPlaces_60 : decode cX4_findPlaces 60 = .ok (.if_icmp .le 6, 3) := by decide +kernel
theorem dX4_findPlaces_63 : decode cX4_findPlaces 63 = .ok (.iinc 4 1, 3) := by decide +kernel
theorem dX4_findPlaces_66 : decode cX4_findPlaces 66 = .ok (.iinc 5 1, 3) := by decide +kernel
theorem dX4_findPlaces_69 : decode cX4_findPlaces 69 = .ok (.goto (-54), 3) := by decide +kernel
theorem dX4_findPlaces_72 : decode cX4_findPlaces 72 = .ok (.aload_n 1, 1) := by decide +kernel
theorem dX4_findPlaces_73 : decode cX4_findPlaces 73 = .ok (.iload_n 3, 1) := by decide +kernel
theorem dX4_findPlaces_74 : decode cX4_findPlaces 74 = .ok (.iload 4, 2) := by decide +kernel
theorem dX4_findPlaces_76 : decode cX4_findPlaces 76 = .ok (.invokevirtual 297, 3) := by decide +kernel
theorem dX4_findPlaces_79 : decode cX4_findPlaces 79 = .ok (.iload_n 2, 1) := by decide +kernel
theorem dX4_findPlaces_80 : decode cX4_findPlaces 80 = .ok (.iload 4, 2) := by decide +kernel
theorem dX4_findPlaces_82 : decode cX4_findPlaces 82 = .ok (.iadd, 1) := by decide +kernel
theorem dX4_findPlaces_83 : decode cX4_findPlaces 83 = .ok (.istore_n 2, 1) := by decide +kernel
theorem dX4_findPlaces_84 : decode cX4_findPlaces 84 = .ok (.iinc 3 1, 3) := by decide +kernel
theorem dX4_findPlaces_87 : decode cX4_findPlaces 87 = .ok (.goto (-83), 3) := by decide +kernel
theorem dX4_findPlaces_90 : decode cX4_findPlaces 90 = .ok (.aload_n 1, 1) := by decide +kernel
theorem dX4_findPlaces_91 : decode cX4_findPlaces 91 = .ok (.iload_n 2, 1) := by decide +kernel
theorem dX4_findPlaces_92 : decode cX4_findPlaces 92 = .ok (.putfield 300, 3) := by decide +kernel
theorem dX4_findPlaces_95 : decode cX4_findPlaces 95 = .ok (.return_, 1) := by decide +kernel
theorem dX4_rankBands_0 : decode cX4_rankBands 0 = .ok (.iconst (-1), 1) := by decide +kernel
theorem dX4_rankBands_1 : decode cX4_rankBands 1 = .ok (.istore_n 1, 1) := by decide +kernel
theorem dX4_rankBands_2 : decode cX4_rankBands 2 = .ok (.iconst 0, 1) := by decide +kernel
theorem dX4_rankBands_3 : decode cX4_rankBands 3 = .ok (.istore_n 2, 1) := by decide +kernel
theorem dX4_rankBands_4 : decode cX4_rankBands 4 = .ok (.iload_n 2, 1) := by decide +kernel
theorem dX4_rankBands_5 : decode cX4_rankBands 5 = .ok (.aload_n 0, 1) := by decide +kernel
theorem dX4_rankBands_6 : decode cX4_rankBands 6 = .ok (.getfield 42, 3) := by decide +kernel
theorem dX4_rankBands_9 : decode cX4_rankBands 9 = .ok (.invokevirtual 64, 3) := by decide +kernel
theorem dX4_rankBands_12 : decode cX4_rankBands 12 = .ok (.if_icmp .ge 54, 3) := by decide +kernel
theorem dX4_rankBands_15 : decode cX4_rankBands 15 = .ok (.aload_n 0, 1) := by decide +kernel
theorem dX4_rankBands_16 : decode cX4_rankBands 16 = .ok (.getfield 42, 3) := by decide +kernel
theorem dX4_rankBands_19 : decode cX4_rankBands 19 = .ok (.iload_n 2, 1) := by decide +kernel
theorem dX4_rankBands_20 : decode cX4_rankBands 20 = .ok (.invokevirtual 134, 3) := by decide +kernel
theorem dX4_rankBands_23 : decode cX4_rankBands 23 = .ok (.checkcast 238, 3) := by decide +kernel
theorem dX4_rankBands_26 : decode cX4_rankBands 26 = .ok (.astore_n 3, 1) := by decide +kernel
theorem dX4_rankBands_27 : decode cX4_rankBands 27 = .ok (.aload_n 3, 1) := by decide +kernel
theorem dX4_rankBands_28 : decode cX4_rankBands 28 = .ok (.getfield 249, 3) := by decide +kernel
theorem dX4_rankBands_31 : decode cX4_rankBands 31 = .ok (.ifCond .ne 6, 3) := by decide +kernel
theorem dX4_rankBands_34 : decode cX4_rankBands 34 = .ok (.goto 26, 3) := by decide +kernel
theorem dX4_rankBands_37 : decode cX4_rankBands 37 = .ok (.iconst 1, 1) := by decide +kernel
theorem dX4_rankBands_38 : decode cX4_rankBands 38 = .ok (.aload_n 0, 1) := by decide +kernel
theorem dX4_rankBands_39 : decode cX4_rankBands 39 = .ok (.aload_n 3, 1) := by decide +kernel
theorem dX4_rankBands_40 : decode cX4_rankBands 40 = .ok (.invokevirtual 303, 3) := by decide +kernel
theorem dX4_rankBands_43 : decode cX4_rankBands 43 = .ok (.iadd, 1) := by decide +kernel
theorem dX4_rankBands_44 : decode cX4_rankBands 44 = .ok (.istore 4, 2) := by decide +kernel
theorem dX4_rankBands_46 : decode cX4_rankBands 46 = .ok (.aload_n 3, 1) := by decide +kernel
theorem dX4_rankBands_47 : decode cX4_rankBands 47 = .ok (.iload 4, 2) := by decide +kernel
theorem dX4_rankBands_49 : decode cX4_rankBands 49 = .ok (.invokevirtual 307, 3) := by decide +kernel
theorem dX4_rankBands_52 : decode cX4_rankBands 52 = .ok (.iload 4, 2) := by decide +kernel
theorem dX4_rankBands_54 : decode cX4_rankBands 54 = .ok (.iconst 1, 1) := by decide +kernel
theorem dX4_rankBands_55 : decode cX4_rankBands 55 = .ok (.if_icmp .ne 5, 3) := by decide +kernel
theorem dX4_rankBands_58 : decode cX4_rankBands 58 = .ok (.iload_n 2, 1) := by decide +kernel
theorem dX4_rankBands_59 : decode cX4_rankBands 59 = .ok (.istore_n 1, 1) := by decide +kernel
theorem dX4_rankBands_60 : decode cX4_rankBands 60 = .ok (.iinc 2 1, 3) := by decide +kernel
theorem dX4_rankBands_63 : decode cX4_rankBands 63 = .ok (.goto (-59), 3) := by decide +kernel
theorem dX4_rankBands_66 : decode cX4_rankBands 66 = .ok (.iload_n 1, 1) := by decide +kernel
theorem dX4_rankBands_67 : decode cX4_rankBands 67 = .ok (.ireturn, 1) := by decide +kernel
theorem dX4_bandsAheadOf_0 : decode cX4_bandsAheadOf 0 = .ok (.iconst 0, 1) := by decide +kernel
theorem dX4_bandsAheadOf_1 : decode cX4_bandsAheadOf 1 = .ok (.istore_n 2, 1) := by decide +kernel
theorem dX4_bandsAheadOf_2 : decode cX4_bandsAheadOf 2 = .ok (.iconst 0, 1) := by decide +kernel
theorem dX4_bandsAheadOf_3 : decode cX4_bandsAheadOf 3 = .ok (.istore_n 3, 1) := by decide +kernel
theorem dX4_bandsAheadOf_4 : decode cX4_bandsAheadOf 4 = .ok (.iload_n 3, 1) := by decide +kernel
theorem dX4_bandsAheadOf_5 : decode cX4_bandsAheadOf 5 = .ok (.aload_n 0, 1) := by decide +kernel
theorem dX4_bandsAheadOf_6 : decode cX4_bandsAheadOf 6 = .ok (.getfield 42, 3) := by decide +kernel
theorem dX4_bandsAheadOf_9 : decode cX4_bandsAheadOf 9 = .ok (.invokevirtual 64, 3) := by decide +kernel
theorem dX4_bandsAheadOf_12 : decode cX4_bandsAheadOf 12 = .ok (.if_icmp .ge 42, 3) := by decide +kernel
theorem dX4_bandsAheadOf_15 : decode cX4_bandsAheadOf 15 = .ok (.aload_n 0, 1) := by decide +kernel
theorem dX4_bandsAheadOf_16 : decode cX4_bandsAheadOf 16 = .ok (.getfield 42, 3) := by decide +kernel
theorem dX4_bandsAheadOf_19 : decode cX4_bandsAheadOf 19 = .ok (.iload_n 3, 1) := by decide +kernel
theorem dX4_bandsAheadOf_20 : decode cX4_bandsAheadOf 20 = .ok (.invokevirtual 134, 3) := by decide +kernel
theorem dX4_bandsAheadOf_23 : decode cX4_bandsAheadOf 23 = .ok (.checkcast 238, 3) := by decide +kernel
theorem dX4_bandsAheadOf_26 : decode cX4_bandsAheadOf 26 = .ok (.astore 4, 2) := by decide +kernel
theorem dX4_bandsAheadOf_28 : decode cX4_bandsAheadOf 28 = .ok (.aload 4, 2) := by decide +kernel
theorem dX4_bandsAheadOf_30 : decode cX4_bandsAheadOf 30 = .ok (.getfield 249, 3) := by decide +kernel
theorem dX4_bandsAheadOf_33 : decode cX4_bandsAheadOf 33 = .ok (.ifCond .eq 15, 3) := by decide +kernel
theorem dX4_bandsAheadOf_36 : decode cX4_bandsAheadOf 36 = .ok (.aload 4, 2) := by decide +kernel
theorem dX4_bandsAheadOf_38 : decode cX4_bandsAheadOf 38 = .ok (.aload_n 1, 1) := by decide +kernel
theorem dX4_bandsAheadOf_39 : decode cX4_bandsAheadOf 39 = .ok (.invokevirtual 310, 3) := by decide +kernel
theorem dX4_bandsAheadOf_42 : decode cX4_bandsAheadOf 42 = .ok (.ifCond .eq 6, 3) := by decide +kernel
theorem dX4_bandsAheadOf_45 : decode cX4_bandsAheadOf 45 = .ok (.iinc 2 1, 3) := by decide +kernel
theorem dX4_bandsAheadOf_48 : decode cX4_bandsAheadOf 48 = .ok (.iinc 3 1, 3) := by decide +kernel
theorem dX4_bandsAheadOf_51 : decode cX4_bandsAheadOf 51 = .ok (.goto (-47), 3) := by decide +kernel
theorem dX4_bandsAheadOf_54 : decode cX4_bandsAheadOf 54 = .ok (.iload_n 2, 1) := by decide +kernel
theorem dX4_bandsAheadOf_55 : decode cX4_bandsAheadOf 55 = .ok (.ireturn, 1) := by decide +kernel
theorem dX4_sendUpFrom_0 : decode cX4_sendUpFrom 0 = .ok (.iconst (-1), 1) := by decide +kernel
theorem dX4_sendUpFrom_1 : decode cX4_sendUpFrom 1 = .ok (.istore_n 2, 1) := by decide +kernel
theorem dX4_sendUpFrom_2 : decode cX4_sendUpFrom 2 = .ok (.iconst 0, 1) := by decide +kernel
theorem dX4_sendUpFrom_3 : decode cX4_sendUpFrom 3 = .ok (.istore_n 3, 1) := by decide +kernel
theorem dX4_sendUpFrom_4 : decode cX4_sendUpFrom 4 = .ok (.iconst 0, 1) := by decide +kernel
theorem dX4_sendUpFrom_5 : decode cX4_sendUpFrom 5 = .ok (.istore 4, 2) := by decide +kernel
theorem dX4_sendUpFrom_7 : decode cX4_sendUpFrom 7 = .ok (.iload 4, 2) := by decide +kernel
theorem dX4_sendUpFrom_9 : decode cX4_sendUpFrom 9 = .ok (.aload_n 0, 1) := by decide +kernel
theorem dX4_sendUpFrom_10 : decode cX4_sendUpFrom 10 = .ok (.getfield 42, 3) := by decide +kernel
theorem dX4_sendUpFrom_13 : decode cX4_sendUpFrom 13 = .ok (.invokevirtual 64, 3) := by decide +kernel
theorem dX4_sendUpFrom_16 : decode cX4_sendUpFrom 16 = .ok (.if_icmp .ge 50, 3) := by decide +kernel
theorem dX4_sendUpFrom_19 : decode cX4_sendUpFrom 19 = .ok (.aload_n 0, 1) := by decide +kernel
theorem dX4_sendUpFrom_20 : decode cX4_sendUpFrom 20 = .ok (.getfield 42, 3) := by decide +kernel
theorem dX4_sendUpFrom_23 : decode cX4_sendUpFrom 23 = .ok (.iload 4, 2) := by decide +kernel
theorem dX4_sendUpFrom_25 : decode cX4_sendUpFrom 25 = .ok (.invokevirtual 134, 3) := by decide +kernel
theorem dX4_sendUpFrom_28 : decode cX4_sendUpFrom 28 = .ok (.checkcast 238, 3) := by decide +kernel
theorem dX4_sendUpFrom_31 : decode cX4_sendUpFrom 31 = .ok (.astore 5, 2) := by decide +kernel
theorem dX4_sendUpFrom_33 : decode cX4_sendUpFrom 33 = .ok (.aload 5, 2) := by decide +kernel
theorem dX4_sendUpFrom_35 : decode cX4_sendUpFrom 35 = .ok (.getfield 246, 3) := by decide +kernel
theorem dX4_sendUpFrom_38 : decode cX4_sendUpFrom 38 = .ok (.iload_n 1, 1) := by decide +kernel
theorem dX4_sendUpFrom_39 : decode cX4_sendUpFrom 39 = .ok (.if_icmp .ne 21, 3) := by decide +kernel
theorem dX4_sendUpFrom_42 : decode cX4_sendUpFrom 42 = .ok (.aload 5, 2) := by decide +kernel
theorem dX4_sendUpFrom_44 : decode cX4_sendUpFrom 44 = .ok (.getfield 314, 3) := by decide +kernel
theorem dX4_sendUpFrom_47 : decode cX4_sendUpFrom 47 = .ok (.iload_n 3, 1) := by decide +kernel
theorem dX4_sendUpFrom_48 : decode cX4_sendUpFrom 48 = .ok (.if_icmp .le 12, 3) := by decide +kernel
theorem dX4_sendUpFrom_51 : decode cX4_sendUpFrom 51 = .ok (.iload 4, 2) := by decide +kernel
theorem dX4_sendUpFrom_53 : decode cX4_sendUpFrom 53 = .ok (.istore_n 2, 1) := by decide +kernel
theorem dX4_sendUpFrom_54 : decode cX4_sendUpFrom 54 = .ok (.aload 5, 2) := by decide +kernel
theorem dX4_sendUpFrom_56 : decode cX4_sendUpFrom 56 = .ok (.getfield 314, 3) := by decide +kernel
theorem dX4_sendUpFrom_59 : decode cX4_sendUpFrom 59 = .ok (.istore_n 3, 1) := by decide +kernel
theorem dX4_sendUpFrom_60 : decode cX4_sendUpFrom 60 = .ok (.iinc 4 1, 3) := by decide +kernel
theorem dX4_sendUpFrom_63 : decode cX4_sendUpFrom 63 = .ok (.goto (-56), 3) := by decide +kernel
theorem dX4_sendUpFrom_66 : decode cX4_sendUpFrom 66 = .ok (.iload_n 2, 1) := by decide +kernel
theorem dX4_sendUpFrom_67 : decode cX4_sendUpFrom 67 = .ok (.ifCond .lt 31, 3) := by decide +kernel
theorem dX4_sendUpFrom_70 : decode cX4_sendUpFrom 70 = .ok (.iload_n 2, 1) := by decide +kernel
theorem dX4_sendUpFrom_71 : decode cX4_sendUpFrom 71 = .ok (.aload_n 0, 1) := by decide +kernel
theorem dX4_sendUpFrom_72 : decode cX4_sendUpFrom 72 = .ok (.getfield 42, 3) := by decide +kernel
theorem dX4_sendUpFrom_75 : decode cX4_sendUpFrom 75 = .ok (.invokevirtual 64, 3) := by decide +kernel
theorem dX4_sendUpFrom_78 : decode cX4_sendUpFrom 78 = .ok (.if_icmp .ge 20, 3) := by decide +kernel
theorem dX4_sendUpFrom_81 : decode cX4_sendUpFrom 81 = .ok (.aload_n 0, 1) := by decide +kernel
theorem dX4_sendUpFrom_82 : decode cX4_sendUpFrom 82 = .ok (.getfield 42, 3) := by decide +kernel
theorem dX4_sendUpFrom_85 : decode cX4_sendUpFrom 85 = .ok (.iload_n 2, 1) := by decide +kernel
theorem dX4_sendUpFrom_86 : decode cX4_sendUpFrom 86 = .ok (.invokevirtual 134, 3) := by decide +kernel
theorem dX4_sendUpFrom_89 : decode cX4_sendUpFrom 89 = .ok (.checkcast 238, 3) := by decide +kernel
theorem dX4_sendUpFrom_92 : decode cX4_sendUpFrom 92 = .ok (.iload_n 1, 1) := by decide +kernel
theorem dX4_sendUpFrom_93 : decode cX4_sendUpFrom 93 = .ok (.iconst 1, 1) := by decide +kernel
theorem dX4_sendUpFrom_94 : decode cX4_sendUpFrom 94 = .ok (.isub, 1) := by decide +kernel
theorem dX4_sendUpFrom_95 : decode cX4_sendUpFrom 95 = .ok (.putfield 317, 3) := by decide +kernel
theorem dX4_sendUpFrom_98 : decode cX4_sendUpFrom 98 = .ok (.return_, 1) := by decide +kernel
theorem dX4_sendDownFrom_0 : decode cX4_sendDownFrom 0 = .ok (.iconst (-1), 1) := by decide +kernel
theorem dX4_sendDownFrom_1 : decode cX4_sendDownFrom 1 = .ok (.istore_n 2, 1) := by decide +kernel
theorem dX4_sendDownFrom_2 : decode cX4_sendDownFrom 2 = .ok (.iconst 0, 1) := by decide +kernel
theorem dX4_sendDownFrom_3 : decode cX4_sendDownFrom 3 = .ok (.istore_n 3, 1) := by decide +kernel
theorem dX4_sendDownFrom_4 : decode cX4_sendDownFrom 4 = .ok (.iconst 0, 1) := by decide +kernel
theorem dX4_sendDownFrom_5 : decode cX4_sendDownFrom 5 = .ok (.istore 4, 2) := by decide +kernel
theorem dX4_sendDownFrom_7 : decode cX4_sendDownFrom 7 = .ok (.iload 4, 2) := by decide +kernel
theorem dX4_sendDownFrom_9 : decode cX4_sendDownFrom 9 = .ok (.aload_n 0, 1) := by decide +kernel
theorem dX4_sendDownFrom_10 : decode cX4_sendDownFrom 10 = .ok (.getfield 42, 3) := by decide +kernel
theorem dX4_sendDownFrom_13 : decode cX4_sendDownFrom 13 = .ok (.invokevirtual 64, 3) := by decide +kernel
theorem dX4_sendDownFrom_16 : decode cX4_sendDownFrom 16 = .ok (.if_icmp .ge 55, 3) := by decide +kernel
theorem dX4_sendDownFrom_19 : decode cX4_sendDownFrom 19 = .ok (.aload_n 0, 1) := by decide +kernel
theorem dX4_sendDownFrom_20 : decode cX4_sendDownFrom 20 = .ok (.getfield 42, 3) := by decide +kernel
theorem dX4_sendDownFrom_23 : decode cX4_sendDownFrom 23 = .ok (.iload 4, 2) := by decide +kernel
theorem dX4_sendDownFrom_25 : decode cX4_sendDownFrom 25 = .ok (.invokevirtual 134, 3) := by decide +kernel
theorem dX4_sendDownFrom_28 : decode cX4_sendDownFrom 28 = .ok (.checkcast 238, 3) := by decide +kernel
theorem dX4_sendDownFrom_31 : decode cX4_sendDownFrom 31 = .ok (.astore 5, 2) := by decide +kernel
theorem dX4_sendDownFrom_33 : decode cX4_sendDownFrom 33 = .ok (.aload 5, 2) := by decide +kernel
theorem dX4_sendDownFrom_35 : decode cX4_sendDownFrom 35 = .ok (.getfield 246, 3) := by decide +kernel
theorem dX4_sendDownFrom_38 : decode cX4_sendDownFrom 38 = .ok (.iload_n 1, 1) := by decide +kernel
theorem dX4_sendDownFrom_39 : decode cX4_sendDownFrom 39 = .ok (.if_icmp .ne 26, 3) := by decide +kernel
theorem dX4_sendDownFrom_42 : decode cX4_sendDownFrom 42 = .ok (.iload_n 2, 1) := by decide +kernel
theorem dX4_sendDownFrom_43 : decode cX4_sendDownFrom 43 = .ok (.iconst (-1), 1) := by decide +kernel
theorem dX4_sendDownFrom_44 : decode cX4_sendDownFrom 44 = .ok (.if_icmp .eq 12, 3) := by decide +kernel
theorem dX4_sendDownFrom_47 : decode cX4_sendDownFrom 47 = .ok (.aload 5, 2) := by decide +kernel
theorem dX4_sendDownFrom_49 : decode cX4_sendDownFrom 49 = .ok (.getfield 314, 3) := by decide +kernel
theorem dX4_sendDownFrom_52 : decode cX4_sendDownFrom 52 = .ok (.iload_n 3, 1) := by decide +kernel
theorem dX4_sendDownFrom_53 : decode cX4_sendDownFrom 53 = .ok (.if_icmp .gt 12, 3) := by decide +kernel
theorem dX4_sendDownFrom_56 : decode cX4_sendDownFrom 56 = .ok (.iload 4, 2) := by decide +kernel
theorem dX4_sendDownFrom_58 : decode cX4_sendDownFrom 58 = .ok (.istore_n 2, 1) := by decide +kernel
theorem dX4_sendDownFrom_59 : decode cX4_sendDownFrom 59 = .ok (.aload 5, 2) := by decide +kernel
theorem dX4_sendDownFrom_61 : decode cX4_sendDownFrom 61 = .ok (.getfield 314, 3) := by decide +kernel
theorem dX4_sendDownFrom_64 : decode cX4_sendDownFrom 64 = .ok (.istore_n 3, 1) := by decide +kernel
theorem dX4_sendDownFrom_65 : decode cX4_sendDownFrom 65 = .ok (.iinc 4 1, 3) := by decide +kernel
theorem dX4_sendDownFrom_68 : decode cX4_sendDownFrom 68 = .ok (.goto (-61), 3) := by decide +kernel
theorem dX4_sendDownFrom_71 : decode cX4_sendDownFrom 71 = .ok (.aload_n 0, 1) := by decide +kernel
theorem dX4_sendDownFrom_72 : decode cX4_sendDownFrom 72 = .ok (.iload_n 1, 1) := by decide +kernel
theorem dX4_sendDownFrom_73 : decode cX4_sendDownFrom 73 = .ok (.invokevirtual 241, 3) := by decide +kernel
theorem dX4_sendDownFrom_76 : decode cX4_sendDownFrom 76 = .ok (.iconst 2, 1) := by decide +kernel
theorem dX4_sendDownFrom_77 : decode cX4_sendDownFrom 77 = .ok (.if_icmp .lt 35, 3) := by decide +kernel
theorem dX4_sendDownFrom_80 : decode cX4_sendDownFrom 80 = .ok (.iload_n 2, 1) := by decide +kernel
theorem dX4_sendDownFrom_81 : decode cX4_sendDownFrom 81 = .ok (.ifCond .lt 31, 3) := by decide +kernel
theorem dX4_sendDownFrom_84 : decode cX4_sendDownFrom 84 = .ok (.iload_n 2, 1) := by decide +kernel
theorem dX4_sendDownFrom_85 : decode cX4_sendDownFrom 85 = .ok (.aload_n 0, 1) := by decide +kernel
theorem dX4_sendDownFrom_86 : decode cX4_sendDownFrom 86 = .ok (.getfield 42, 3) := by decide +kernel
theorem dX4_sendDownFrom_89 : decode cX4_sendDownFrom 89 = .ok (.invokevirtual 64, 3) := by decide +kernel
theorem dX4_sendDownFrom_92 : decode cX4_sendDownFrom 92 = .ok (.if_icmp .ge 20, 3) := by decide +kernel
theorem dX4_sendDownFrom_95 : decode cX4_sendDownFrom 95 = .ok (.aload_n 0, 1) := by decide +kernel
theorem dX4_sendDownFrom_96 : decode cX4_sendDownFrom 96 = .ok (.getfield 42, 3) := by decide +kernel
theorem dX4_sendDownFrom_99 : decode cX4_sendDownFrom 99 = .ok (.iload_n 2, 1) := by decide +kernel
theorem dX4_sendDownFrom_100 : decode cX4_sendDownFrom 100 = .ok (.invokevirtual 134, 3) := by decide +kernel
theorem dX4_sendDownFrom_103 : decode cX4_sendDownFrom 103 = .ok (.checkcast 238, 3) := by decide +kernel
theorem dX4_sendDownFrom_106 : decode cX4_sendDownFrom 106 = .ok (.iload_n 1, 1) := by decide +kernel
theorem dX4_sendDownFrom_107 : decode cX4_sendDownFrom 107 = .ok (.iconst 1, 1) := by decide +kernel
theorem dX4_sendDownFrom_108 : decode cX4_sendDownFrom 108 = .ok (.iadd, 1) := by decide +kernel
theorem dX4_sendDownFrom_109 : decode cX4_sendDownFrom 109 = .ok (.putfield 317, 3) := by decide +kernel
theorem dX4_sendDownFrom_112 : decode cX4_sendDownFrom 112 = .ok (.return_, 1) := by decide +kernel
theorem dX4_isWithin_0 : decode cX4_isWithin 0 = .ok (.iload_n 0, 1) := by decide +kernel
theorem dX4_isWithin_1 : decode cX4_isWithin 1 = .ok (.iload_n 1, 1) := by decide +kernel
theorem dX4_isWithin_2 : decode cX4_isWithin 2 = .ok (.if_icmp .lt 12, 3) := by decide +kernel
theorem dX4_isWithin_5 : decode cX4_isWithin 5 = .ok (.iload_n 0, 1) := by decide +kernel
theorem dX4_isWithin_6 : decode cX4_isWithin 6 = .ok (.iload_n 2, 1) := by decide +kernel
theorem dX4_isWithin_7 : decode cX4_isWithin 7 = .ok (.if_icmp .gt 7, 3) := by decide +kernel
theorem dX4_isWithin_10 : decode cX4_isWithin 10 = .ok (.iconst 1, 1) := by decide +kernel
theorem dX4_isWithin_11 : decode cX4_isWithin 11 = .ok (.goto 4, 3) := by decide +kernel
theorem dX4_isWithin_14 : decode cX4_isWithin 14 = .ok (.iconst 0, 1) := by decide +kernel
theorem dX4_isWithin_15 : decode cX4_isWithin 15 = .ok (.ireturn, 1) := by decide +kernel
