theorem dX9_feed_0 : decode cX9_feed 0 = .ok (.aload_n 0, 1) := by decide +kernel
theorem dX9_feed_1 : decode cX9_feed 1 = .ok (.iconst 0, 1) := by decide +kernel
theorem dX9_feed_2 : decode cX9_feed 2 = .ok (.putfield 51, 3) := by decide +kernel
theorem dX9_feed_5 : decode cX9_feed 5 = .ok (.aload_n 0, 1) := by decide +kernel
theorem dX9_feed_6 : decode cX9_feed 6 = .ok (.getfield 132, 3) := by decide +kernel
theorem dX9_feed_9 : decode cX9_feed 9 = .ok (.bipush 20, 2) := by decide +kernel
theorem dX9_feed_11 : decode cX9_feed 11 = .ok (.iadd, 1) := by decide +kernel
theorem dX9_feed_12 : decode cX9_feed 12 = .ok (.sipush 24000, 3) := by decide +kernel
theorem dX9_feed_15 : decode cX9_feed 15 = .ok (.if_icmp .le 5, 3) := by decide +kernel
theorem dX9_feed_18 : decode cX9_feed 18 = .ok (.iconst 0, 1) := by decide +kernel
theorem dX9_feed_19 : decode cX9_feed 19 = .ok (.ireturn, 1) := by decide +kernel
theorem dX9_feed_20 : decode cX9_feed 20 = .ok (.iconst 0, 1) := by decide +kernel
theorem dX9_feed_21 : decode cX9_feed 21 = .ok (.istore 6, 2) := by decide +kernel
theorem dX9_feed_23 : decode cX9_feed 23 = .ok (.iload 6, 2) := by decide +kernel
theorem dX9_feed_25 : decode cX9_feed 25 = .ok (.bipush 20, 2) := by decide +kernel
theorem dX9_feed_27 : decode cX9_feed 27 = .ok (.if_icmp .ge 86, 3) := by decide +kernel
theorem dX9_feed_30 : decode cX9_feed 30 = .ok (.iload 6, 2) := by decide +kernel
theorem dX9_feed_32 : decode cX9_feed 32 = .ok (.iconst 4, 1) := by decide +kernel
theorem dX9_feed_33 : decode cX9_feed 33 = .ok (.if_icmp .ge 7, 3) := by decide +kernel
theorem dX9_feed_36 : decode cX9_feed 36 = .ok (.iload_n 1, 1) := by decide +kernel
theorem dX9_feed_37 : decode cX9_feed 37 = .ok (.goto 39, 3) := by decide +kernel
theorem dX9_feed_40 : decode cX9_feed 40 = .ok (.iload 6, 2) := by decide +kernel
theorem dX9_feed_42 : decode cX9_feed 42 = .ok (.bipush 8, 2) := by decide +kernel
theorem dX9_feed_44 : decode cX9_feed 44 = .ok (.if_icmp .ge 7, 3) := by decide +kernel
theorem dX9_feed_47 : decode cX9_feed 47 = .ok (.iload_n 2, 1) := by decide +kernel
theorem dX9_feed_48 : decode cX9_feed 48 = .ok (.goto 28, 3) := by decide +kernel
theorem dX9_feed_51 : decode cX9_feed 51 = .ok (.iload 6, 2) := by decide +kernel
theorem dX9_feed_53 : decode cX9_feed 53 = .ok (.bipush 12, 2) := by decide +kernel
theorem dX9_feed_55 : decode cX9_feed 55 = .ok (.if_icmp .ge 7, 3) := by decide +kernel
theorem dX9_feed_58 : decode cX9_feed 58 = .ok (.iload_n 3, 1) := by decide +kernel
theorem dX9_feed_59 : decode cX9_feed 59 = .ok (.goto 17, 3) := by decide +kernel
theorem dX9_feed_62 : decode cX9_feed 62 = .ok (.iload 6, 2) := by decide +kernel
theorem dX9_feed_64 : decode cX9_feed 64 = .ok (.bipush 16, 2) := by decide +kernel
theorem dX9_feed_66 : decode cX9_feed 66 = .ok (.if_icmp .ge 8, 3) := by decide +kernel
theorem dX9_feed_69 : decode cX9_feed 69 = .ok (.iload 4, 2) := by decide +kernel
theorem dX9_feed_71 : decode cX9_feed 71 = .ok (.goto 5, 3) := by decide +kernel
theorem dX9_feed_74 : decode cX9_feed 74 = .ok (.iload 5, 2) := by decide +kernel
theorem dX9_feed_76 : decode cX9_feed 76 = .ok (.istore 7, 2) := by decide +kernel
theorem dX9_feed_78 : decode cX9_feed 78 = .ok (.aload_n 0, 1) := by decide +kernel
theorem dX9_feed_79 : decode cX9_feed 79 = .ok (.getfield 28, 3) := by decide +kernel
theorem dX9_feed_82 : decode cX9_feed 82 = .ok (.aload_n 0, 1) := by decide +kernel
theorem dX9_feed_83 : decode cX9_feed 83 = .ok (.getfield 132, 3) := by decide +kernel
theorem dX9_feed_86 : decode cX9_feed 86 = .ok (.iload 6, 2) := by decide +kernel
theorem dX9_feed_88 : decode cX9_feed 88 = .ok (.iadd, 1) := by decide +kernel
theorem dX9_feed_89 : decode cX9_feed 89 = .ok (.iload 7, 2) := by decide +kernel
theorem dX9_feed_91 : decode cX9_feed 91 = .ok (.bipush 24, 2) := by decide +kernel
theorem dX9_feed_93 : decode cX9_feed 93 = .ok (.bipush 8, 2) := by decide +kernel
theorem dX9_feed_95 : decode cX9_feed 95 = .ok (.iload 6, 2) := by decide +kernel
theorem dX9_feed_97 : decode cX9_feed 97 = .ok (.iconst 4, 1) := by decide +kernel
theorem dX9_feed_98 : decode cX9_feed 98 = .ok (.irem, 1) := by decide +kernel
theorem dX9_feed_99 : decode cX9_feed 99 = .ok (.imul, 1) := by decide +kernel
theorem dX9_feed_100 : decode cX9_feed 100 = .ok (.isub, 1) := by decide +kernel
theorem dX9_feed_101 : decode cX9_feed 101 = .ok (.ishr, 1) := by decide +kernel
theorem dX9_feed_102 : decode cX9_feed 102 = .ok (.sipush 255, 3) := by decide +kernel
theorem dX9_feed_105 : decode cX9_feed 105 = .ok (.iand, 1) := by decide +kernel
theorem dX9_feed_106 : decode cX9_feed 106 = .ok (.iastore, 1) := by decide +kernel
theorem dX9_feed_107 : decode cX9_feed 107 = .ok (.iinc 6 1, 3) := by decide +kernel
theorem dX9_feed_110 : decode cX9_feed 110 = .ok (.goto (-87), 3) := by decide +kernel
theorem dX9_feed_113 : decode cX9_feed 113 = .ok (.aload_n 0, 1) := by decide +kernel
theorem dX9_feed_114 : decode cX9_feed 114 = .ok (.dup, 1) := by decide +kernel
theorem dX9_feed_115 : decode cX9_feed 115 = .ok (.getfield 132, 3) := by decide +kernel
theorem dX9_feed_118 : decode cX9_feed 118 = .ok (.bipush 20, 2) := by decide +kernel
theorem dX9_feed_120 : decode cX9_feed 120 = .ok (.iadd, 1) := by decide +kernel
theorem dX9_feed_121 : decode cX9_feed 121 = .ok (.putfield 132, 3) := by decide +kernel
theorem dX9_feed_124 : decode cX9_feed 124 = .ok (.iconst 1, 1) := by decide +kernel
theorem dX9_feed_125 : decode cX9_feed 125 = .ok (.ireturn, 1) := by decide +kernel
theorem dX9_end_0 : decode cX9_end 0 = .ok (.aload_n 0, 1) := by decide +kernel
theorem dX9_end_1 : decode cX9_end 1 = .ok (.iconst 0, 1) := by decide +kernel
theorem dX9_end_2 : decode cX9_end 2 = .ok (.putfield 51, 3) := by decide +kernel
theorem dX9_end_5 : decode cX9_end 5 = .ok (.iload_n 1, 1) := by decide +kernel
theorem dX9_end_6 : decode cX9_end 6 = .ok (.ifCond .lt 11, 3) := by decide +kernel
theorem dX9_end_9 : decode cX9_end 9 = .ok (.iload_n 1, 1) := by decide +kernel
theorem dX9_end_10 : decode cX9_end 10 = .ok (.aload_n 0, 1) := by decide +kernel
theorem dX9_end_11 : decode cX9_end 11 = .ok (.getfield 132, 3) := by decide +kernel
theorem dX9_end_14 : decode cX9_end 14 = .ok (.if_icmp .le 5, 3) := by decide +kernel
theorem dX9_end_17 : decode cX9_end 17 = .ok (.iconst 0, 1) := by decide +kernel
theorem dX9_end_18 : decode cX9_end 18 = .ok (.ireturn, 1) := by decide +kernel
theorem dX9_end_19 : decode cX9_end 19 = .ok (.iconst 0, 1) := by decide +kernel
theorem dX9_end_20 : decode cX9_end 20 = .ok (.istore_n 2, 1) := by decide +kernel
theorem dX9_end_21 : decode cX9_end 21 = .ok (.iload_n 2, 1) := by decide +kernel
theorem dX9_end_22 : decode cX9_end 22 = .ok (.iload_n 1, 1) := by decide +kernel
theorem dX9_end_23 : decode cX9_end 23 = .ok (.if_icmp .ge 21, 3) := by decide +kernel
theorem dX9_end_26 : decode cX9_end 26 = .ok (.aload_n 0, 1) := by decide +kernel
theorem dX9_end_27 : decode cX9_end 27 = .ok (.getfield 31, 3) := by decide +kernel
theorem dX9_end_30 : decode cX9_end 30 = .ok (.iload_n 2, 1) := by decide +kernel
theorem dX9_end_31 : decode cX9_end 31 = .ok (.aload_n 0, 1) := by decide +kernel
theorem dX9_end_32 : decode cX9_end 32 = .ok (.getfield 28, 3) := by decide +kernel
theorem dX9_end_35 : decode cX9_end 35 = .ok (.iload_n 2, 1) := by decide +kernel
theorem dX9_end_36 : decode cX9_end 36 = .ok (.iaload, 1) := by decide +kernel
theorem dX9_end_37 : decode cX9_end 37 = .ok (.iastore, 1) := by decide +kernel
theorem dX9_end_38 : decode cX9_end 38 = .ok (.iinc 2 1, 3) := by decide +kernel
theorem dX9_end_41 : decode cX9_end 41 = .ok (.goto (-20), 3) := by decide +kernel
theorem dX9_end_44 : decode cX9_end 44 = .ok (.aload_n 0, 1) := by decide +kernel
theorem dX9_end_45 : decode cX9_end 45 = .ok (.iload_n 1, 1) := by decide +kernel
theorem dX9_end_46 : decode cX9_end 46 = .ok (.putfield 120, 3) := by decide +kernel
theorem dX9_end_49 : decode cX9_end 49 = .ok (.aload_n 0, 1) := by decide +kernel
theorem dX9_end_50 : decode cX9_end 50 = .ok (.iconst 0, 1) := by decide +kernel
theorem dX9_end_51 : decode cX9_end 51 = .ok (.putfield 132, 3) := by decide +kernel
theorem dX9_end_54 : decode cX9_end 54 = .ok (.iconst 1, 1) := by decide +kernel
theorem dX9_end_55 : decode cX9_end 55 = .ok (.ireturn, 1) := by decide +kernel
theorem dX9_add_0 : decode cX9_add 0 = .ok (.aload_n 0, 1) := by decide +kernel
theorem dX9_add_1 : decode cX9_add 1 = .ok (.iconst 0, 1) := by decide +kernel
theorem dX9_add_2 : decode cX9_add 2 = .ok (.putfield 51, 3) := by decide +kernel
theorem dX9_add_5 : decode cX9_add 5 = .ok (.aload_n 0, 1) := by decide +kernel
theorem dX9_add_6 : decode cX9_add 6 = .ok (.getfield 120, 3) := by decide +kernel
theorem dX9_add_9 : decode cX9_add 9 = .ok (.sipush 255, 3) := by decide +kernel
theorem dX9_add_12 : decode cX9_add 12 = .ok (.if_icmp .gt 46, 3) := by decide +kernel
theorem dX9_add_15 : decode cX9_add 15 = .ok (.iload_n 1, 1) := by decide +kernel
theorem dX9_add_16 : decode cX9_add 16 = .ok (.iconst 1, 1) := by decide +kernel
theorem dX9_add_17 : decode cX9_add 17 = .ok (.if_icmp .lt 41, 3) := by decide +kernel
theorem dX9_add_20 : decode cX9_add 20 = .ok (.iload_n 1, 1) := by decide +kernel
theorem dX9_add_21 : decode cX9_add 21 = .ok (.sipush 1000, 3) := by decide +kernel
theorem dX9_add_24 : decode cX9_add 24 = .ok (.aload_n 0, 1) := by decide +kernel
theorem dX9_add_25 : decode cX9_add 25 = .ok (.getfield 135, 3) := by decide +kernel
theorem dX9_add_28 : decode cX9_add 28 = .ok (.isub, 1) := by decide +kernel
theorem dX9_add_29 : decode cX9_add 29 = .ok (.if_icmp .gt 29, 3) := by decide +kernel
theorem dX9_add_32 : decode cX9_add 32 = .ok (.iload_n 1, 1) := by decide +kernel
theorem dX9_add_33 : decode cX9_add 33 = .ok (.i2l, 1) := by decide +kernel
theorem dX9_add_34 : decode cX9_add 34 = .ok (.aload_n 0, 1) := by decide +kernel
theorem dX9_add_35 : decode cX9_add 35 = .ok (.getfield 120, 3) := by decide +kernel
theorem dX9_add_38 : decode cX9_add 38 = .ok (.i2l, 1) := by decide +kernel
theorem dX9_add_39 : decode cX9_add 39 = .ok (.lmul, 1) := by decide +kernel
theorem dX9_add_40 : decode cX9_add 40 = .ok (.sipush 20000, 3) := by decide +kernel
theorem dX9_add_43 : decode cX9_add 43 = .ok (.aload_n 0, 1) := by decide +kernel
theorem dX9_add_44 : decode cX9_add 44 = .ok (.getfield 7, 3) := by decide +kernel
theorem dX9_add_47 : decode cX9_add 47 = .ok (.aload_n 0, 1) := by decide +kernel
theorem dX9_add_48 : decode cX9_add 48 = .ok (.getfield 135, 3) := by decide +kernel
theorem dX9_add_51 : decode cX9_add 51 = .ok (.iaload, 1) := by decide +kernel
theorem dX9_add_52 : decode cX9_add 52 = .ok (.isub, 1) := by decide +kernel
theorem dX9_add_53 : decode cX9_add 53 = .ok (.i2l, 1) := by decide +kernel
theorem dX9_add_54 : decode cX9_add 54 = .ok (.lcmp, 1) := by decide +kernel
theorem dX9_add_55 : decode cX9_add 55 = .ok (.ifCond .le 5, 3) := by decide +kernel
theorem dX9_add_58 : decode cX9_add 58 = .ok (.iconst 0, 1) := by decide +kernel
theorem dX9_add_59 : decode cX9_add 59 = .ok (.ireturn, 1) := by decide +kernel
theorem dX9_add_60 : decode cX9_add 60 = .ok (.iconst 0, 1) := by decide +kernel
theorem dX9_add_61 : decode cX9_add 61 = .ok (.istore_n 2, 1) := by decide +kernel
theorem dX9_add_62 : decode cX9_add 62 = .ok (.iload_n 2, 1) := by decide +kernel
theorem dX9_add_63 : decode cX9_add 63 = .ok (.iload_n 1, 1) := by decide +kernel
theorem dX9_add_64 : decode cX9_add 64 = .ok (.if_icmp .ge 82, 3) := by decide +kernel
theorem dX9_add_67 : decode cX9_add 67 = .ok (.iconst 0, 1) := by decide +kernel
theorem dX9_add_68 : decode cX9_add 68 = .ok (.istore_n 3, 1) := by decide +kernel
theorem dX9_add_69 : decode cX9_add 69 = .ok (.iload_n 3, 1) := by decide +kernel
theorem dX9_add_70 : decode cX9_add 70 = .ok (.aload_n 0, 1) := by decide +kernel
theorem dX9_add_71 : decode cX9_add 71 = .ok (.getfield 120, 3) := by decide +kernel
theorem dX9_add_74 : decode cX9_add 74 = .ok (.if_icmp .ge 31, 3) := by decide +kernel
theorem dX9_add_77 : decode cX9_add 77 = .ok (.aload_n 0, 1) := by decide +kernel
theorem dX9_add_78 : decode cX9_add 78 = .ok (.getfield 19, 3) := by decide +kernel
theorem dX9_add_81 : decode cX9_add 81 = .ok (.aload_n 0, 1) := by decide +kernel
theorem dX9_add_82 : decode cX9_add 82 = .ok (.getfield 7, 3) := by decide +kernel
theorem dX9_add_85 : decode cX9_add 85 = .ok (.aload_n 0, 1) := by decide +kernel
theorem dX9_add_86 : decode cX9_add 86 = .ok (.getfield 135, 3) := by decide +kernel
theorem dX9_add_89 : decode cX9_add 89 = .ok (.iaload, 1) := by decide +kernel
theorem dX9_add_90 : decode cX9_add 90 = .ok (.iload_n 3, 1) := by decide +kernel
theorem dX9_add_91 : decode cX9_add 91 = .ok (.iadd, 1) := by decide +kernel
theorem dX9_add_92 : decode cX9_add 92 = .ok (.aload_n 0, 1) := by decide +kernel
theorem dX9_add_93 : decode cX9_add 93 = .ok (.getfield 31, 3) := by decide +kernel
theorem dX9_add_96 : decode cX9_add 96 = .ok (.iload_n 3, 1) := by decide +kernel
theorem dX9_add_97 : decode cX9_add 97 = .ok (.iaload, 1) := by decide +kernel
theorem dX9_add_98 : decode cX9_add 98 = .ok (.iastore, 1) := by decide +kernel
theorem dX9_add_99 : decode cX9_add 99 = .ok (.iinc 3 1, 3) := by decide +kernel
theorem dX9_add_102 : decode cX9_add 102 = .ok (.goto (-33), 3) := by decide +kernel
theorem dX9_add_105 : decode cX9_add 105 = .ok (.aload_n 0, 1) := by decide +kernel
theorem dX9_add_106 : decode cX9_add 106 = .ok (.getfield 7, 3) := by decide +kernel
theorem dX9_add_109 : decode cX9_add 109 = .ok (.aload_n 0, 1) := by decide +kernel
theorem dX9_add_110 : decode cX9_add 110 = .ok (.getfield 135, 3) := by decide +kernel
theorem dX9_add_113 : decode cX9_add 113 = .ok (.iconst 1, 1) := by decide +kernel
theorem dX9_add_114 : decode cX9_add 114 = .ok (.iadd, 1) := by decide +kernel
theorem dX9_add_115 : decode cX9_add 115 = .ok (.aload_n 0, 1) := by decide +kernel
theorem dX9_add_116 : decode cX9_add 116 = .ok (.getfield 7, 3) := by decide +kernel
theorem dX9_add_119 : decode cX9_add 119 = .ok (.aload_n 0, 1) := by decide +kernel
theorem dX9_add_120 : decode cX9_add 120 = .ok (.getfield 135, 3) := by decide +kernel
theorem dX9_add_123 : decode cX9_add 123 = .ok (.iaload, 1) := by decide +kernel
theorem dX9_add_124 : decode cX9_add 124 = .ok (.aload_n 0, 1) := by decide +kernel
theorem dX9_add_125 : decode cX9_add 125 = .ok (.getfield 120, 3) := by decide +kernel
theorem dX9_add_128 : decode cX9_add 128 = .ok (.iadd, 1) := by decide +kernel
theorem dX9_add_129 : decode cX9_add 129 = .ok (.iastore, 1) := by decide +kernel
theorem dX9_add_130 : decode cX9_add 130 = .ok (.aload_n 0, 1) := by decide +kernel
theorem dX9_add_131 : decode cX9_add 131 = .ok (.dup, 1) := by decide +kernel
theorem dX9_add_132 : decode cX9_add 132 = .ok (.getfield 135, 3) := by decide +kernel
theorem dX9_add_135 : decode cX9_add 135 = .ok (.iconst 1, 1) := by decide +kernel
theorem dX9_add_136 : decode cX9_add 136 = .ok (.iadd, 1) := by decide +kernel
theorem dX9_add_137 : decode cX9_add 137 = .ok (.putfield 135, 3) := by decide +kernel
theorem dX9_add_140 : decode cX9_add 140 = .ok (.iinc 2 1, 3) := by decide +kernel
theorem dX9_add_143 : decode cX9_add 143 = .ok (.goto (-81), 3) := by decide +kernel
theorem dX9_add_146 : decode cX9_add 146 = .ok (.iconst 1, 1) := by decide +kernel
theorem dX9_add_147 : decode cX9_add 147 = .ok (.ireturn, 1) := by decide +kernel
theorem dX9_clear_0 : decode cX9_clear 0 = .ok (.aload_n 0, 1) := by decide +kernel
theorem dX9_clear_1 : decode cX9_clear 1 = .ok (.iconst 0, 1) := by decide +kernel
theorem dX9_clear_2 : decode cX9_clear 2 = .ok (.putfield 51, 3) := by decide +kernel
theorem dX9_clear_5 : decode cX9_clear 5 = .ok (.aload_n 0, 1) := by decide +kernel
theorem dX9_clear_6 : decode cX9_clear 6 = .ok (.iconst 0, 1) := by decide +kernel
theorem dX9_clear_7 : decode cX9_clear 7 = .ok (.putfield 135, 3) := by decide +kernel
theorem dX9_clear_10 : decode cX9_clear 10 = .ok (.return_, 1) := by decide +kernel
theorem dX9_lengthOf_0 : decode cX9_lengthOf 0 = .ok (.aload_n 0, 1) := by decide +kernel
theorem dX9_lengthOf_1 : decode cX9_lengthOf 1 = .ok (.getfield 7, 3) := by decide +kernel
theorem dX9_lengthOf_4 : decode cX9_lengthOf 4 = .ok (.iload_n 1, 1) := by decide +kernel
theorem dX9_lengthOf_5 : decode cX9_lengthOf 5 = .ok (.iconst 1, 1) := by decide +kernel
theorem dX9_lengthOf_6 : decode cX9_lengthOf 6 = .ok (.iadd, 1) := by decide +kernel
theorem dX9_lengthOf_7 : decode cX9_lengthOf 7 = .ok (.iaload, 1) := by decide +kernel
theorem dX9_lengthOf_8 : decode cX9_lengthOf 8 = .ok (.aload_n 0, 1) := by decide +kernel
theorem dX9_lengthOf_9 : decode cX9_lengthOf 9 = .ok (.getfield 7, 3) := by decide +kernel
theorem dX9_lengthOf_12 : decode cX9_lengthOf 12 = .ok (.iload_n 1, 1) := by decide +kernel
theorem dX9_lengthOf_13 : decode cX9_lengthOf 13 = .ok (.iaload, 1) := by decide +kernel
theorem dX9_lengthOf_14 : decode cX9_lengthOf 14 = .ok (.isub, 1) := by decide +kernel
theorem dX9_lengthOf_15 : decode cX9_lengthOf 15 = .ok (.ireturn, 1) := by decide +kernel
theorem dX9_same_0 : decode cX9_same 0 = .ok (.aload_n 0, 1) := by decide +kernel
theorem dX9_same_1 : decode cX9_same 1 = .ok (.iload_n 1, 1) := by decide +kernel
theorem dX9_same_2 : decode cX9_same 2 = .ok (.invokevirtual 138, 3) := by decide +kernel
theorem dX9_same_5 : decode cX9_same 5 = .ok (.aload_n 0, 1) := by decide +kernel
theorem dX9_same_6 : decode cX9_same 6 = .ok (.iload_n 2, 1) := by decide +kernel
theorem dX9_same_7 : decode cX9_same 7 = .ok (.invokevirtual 138, 3) := by decide +kernel
theorem dX9_same_10 : decode cX9_same 10 = .ok (.if_icmp .ne 7, 3) := by decide +kernel
theorem dX9_same_13 : decode cX9_same 13 = .ok (.iconst 1, 1) := by decide +kernel
theorem dX9_same_14 : decode cX9_same 14 = .ok (.goto 4, 3) := by decide +kernel
theorem dX9_same_17 : decode cX9_same 17 = .ok (.iconst 0, 1) := by decide +kernel
theorem dX9_same_18 : decode cX9_same 18 = .ok (.istore_n 3, 1) := by decide +kernel
theorem dX9_same_19 : decode cX9_same 19 = .ok (.iconst 0, 1) := by decide +kernel
theorem dX9_same_20 : decode cX9_same 20 = .ok (.istore 4, 2) := by decide +kernel
theorem dX9_same_22 : decode cX9_same 22 = .ok (.iload_n 3, 1) := by decide +kernel
theorem dX9_same_23 : decode cX9_same 23 = .ok (.ifCond .eq 56, 3) := by decide +kernel
theorem dX9_same_26 : decode cX9_same 26 = .ok (.iload 4, 2) := by decide +kernel
theorem dX9_same_28 : decode cX9_same 28 = .ok (.aload_n 0, 1) := by decide +kernel
theorem dX9_same_29 : decode cX9_same 29 = .ok (.iload_n 2, 1) := by decide +kernel
theorem dX9_same_30 : decode cX9_same 30 = .ok (.invokevirtual 138, 3) := by decide +kernel
theorem dX9_same_33 : decode cX9_same 33 = .ok (.if_icmp .ge 46, 3) := by decide +kernel
theorem dX9_same_36 : decode cX9_same 36 = .ok (.aload_n 0, 1) := by decide +kernel
theorem dX9_same_37 : decode cX9_same 37 = .ok (.getfield 19, 3) := by decide +kernel
theorem dX9_same_40 : decode cX9_same 40 = .ok (.aload_n 0, 1) := by decide +kernel
theorem dX9_same_41 : decode cX9_same 41 = .ok (.getfield 7, 3) := by decide +kernel
theorem dX9_same_44 : decode cX9_same 44 = .ok (.iload_n 1, 1) := by decide +kernel
theorem dX9_same_45 : decode cX9_same 45 = .ok (.iaload, 1) := by decide +kernel
theorem dX9_same_46 : decode cX9_same 46 = .ok (.iload 4, 2) := by decide +kernel
theorem dX9_same_48 : decode cX9_same 48 = .ok (.iadd, 1) := by decide +kernel
theorem dX9_same_49 : decode cX9_same 49 = .ok (.iaload, 1) := by decide +kernel
theorem dX9_same_50 : decode cX9_same 50 = .ok (.aload_n 0, 1) := by decide +kernel
theorem dX9_same_51 : decode cX9_same 51 = .ok (.getfield 19, 3) := by decide +kernel
theorem dX9_same_54 : decode cX9_same 54 = .ok (.aload_n 0, 1) := by decide +kernel
theorem dX9_same_55 : decode cX9_same 55 = .ok (.getfield 7, 3) := by decide +kernel
theorem dX9_same_58 : decode cX9_same 58 = .ok (.iload_n 2, 1) := by decide +kernel
theorem dX9_same_59 : decode cX9_same 59 = .ok (.iaload, 1) := by decide +kernel
theorem dX9_same_60 : decode cX9_same 60 = .ok (.iload 4, 2) := by decide +kernel
theorem dX9_same_62 : decode cX9_same 62 = .ok (.iadd, 1) := by decide +kernel
theorem dX9_same_63 : decode cX9_same 63 = .ok (.iaload, 1) := by decide +kernel
theorem dX9_same_64 : decode cX9_same 64 = .ok (.if_icmp .ne 7, 3) := by decide +kernel
theorem dX9_same_67 : decode cX9_same 67 = .ok (.iconst 1, 1) := by decide +kernel
theorem dX9_same_68 : decode cX9_same 68 = .ok (.goto 4, 3) := by decide +kernel
theorem dX9_same_71 : decode cX9_same 71 = .ok (.iconst 0, 1) := by decide +kernel
theorem dX9_same_72 : decode cX9_same 72 = .ok (.istore_n 3, 1) := by decide +kernel
theorem dX9_same_73 : decode cX9_same 73 = .ok (.iinc 4 1, 3) := by decide +kernel
theorem dX9_same_76 : decode cX9_same 76 = .ok (.goto (-54), 3) := by decide +kernel
theorem dX9_same_79 : decode cX9_same 79 = .ok (.iload_n 3, 1) := by decide +kernel
theorem dX9_same_80 : decode cX9_same 80 = .ok (.ireturn, 1) := by decide +kernel
theorem dX9_firstLike_0 : decode cX9_firstLike 0 = .ok (.iconst 0, 1) := by decide +kernel
theorem dX9_firstLike_1 : decode cX9_firstLike 1 = .ok (.istore_n 2, 1) := by decide +kernel
theorem dX9_firstLike_2 : decode cX9_firstLike 2 = .ok (.aload_n 0, 1) := by decide +kernel
theorem dX9_firstLike_3 : decode cX9_firstLike 3 = .ok (.iload_n 2, 1) := by decide +kernel
theorem dX9_firstLike_4 : decode cX9_firstLike 4 = .ok (.iload_n 1, 1) := by decide +kernel
theorem dX9_firstLike_5 : decode cX9_firstLike 5 = .ok (.invokevirtual 142, 3) := by decide +kernel
theorem dX9_firstLike_8 : decode cX9_firstLike 8 = .ok (.ifCond .ne 9, 3) := by decide +kernel
theorem dX9_firstLike_11 : decode cX9_firstLike 11 = .ok (.iinc 2 1, 3) := by decide +kernel
theorem dX9_firstLike_14 : decode cX9_firstLike 14 = .ok (.goto (-12), 3) := by decide +kernel
theorem dX9_firstLike_17 : decode cX9_firstLike 17 = .ok (.iload_n 2, 1) := by decide +kernel
theorem dX9_firstLike_18 : decode cX9_firstLike 18 = .ok (.ireturn, 1) := by decide +kernel
theorem dX9_putText_0 : decode cX9_putText 0 = .ok (.aload_n 0, 1) := by decide +kernel
theorem dX9_putText_1 : decode cX9_putText 1 = .ok (.aload_n 0, 1) := by decide +kernel
theorem dX9_putText_2 : decode cX9_putText 2 = .ok (.iload_n 1, 1) := by decide +kernel
theorem dX9_putText_3 : decode cX9_putText 3 = .ok (.invokevirtual 138, 3) := by decide +kernel
theorem dX9_putText_6 : decode cX9_putText 6 = .ok (.i2l, 1) := by decide +kernel
theorem dX9_putText_7 : decode cX9_putText 7 = .ok (.invokevirtual 76, 3) := by decide +kernel
theorem dX9_putText_10 : decode cX9_putText 10 = .ok (.aload_n 0, 1) := by decide +kernel
theorem dX9_putText_11 : decode cX9_putText 11 = .ok (.getfield 7, 3) := by decide +kernel
theorem dX9_putText_14 : decode cX9_putText 14 = .ok (.iload_n 1, 1) := by decide +kernel
theorem dX9_putText_15 : decode cX9_putText 15 = .ok (.iaload, 1) := by decide +kernel
theorem dX9_putText_16 : decode cX9_putText 16 = .ok (.istore_n 2, 1) := by decide +kernel
theorem dX9_putText_17 : decode cX9_putText 17 = .ok (.iload_n 2, 1) := by decide +kernel
theorem dX9_putText_18 : decode cX9_putText 18 = .ok (.aload_n 0, 1) := by decide +kernel
theorem dX9_putText_19 : decode cX9_putText 19 = .ok (.getfield 7, 3) := by decide +kernel
theorem dX9_putText_22 : decode cX9_putText 22 = .ok (.iload_n 1, 1) := by decide +kernel
theorem dX9_putText_23 : decode cX9_putText 23 = .ok (.iconst 1, 1) := by decide +kernel
theorem dX9_putText_24 : decode cX9_putText 24 = .ok (.iadd, 1) := by decide +kernel
theorem dX9_putText_25 : decode cX9_putText 25 = .ok (.iaload, 1) := by decide +kernel
theorem dX9_putText_26 : decode cX9_putText 26 = .ok (.if_icmp .ge 19, 3) := by decide +kernel
theorem dX9_putText_29 : decode cX9_putText 29 = .ok (.aload_n 0, 1) := by decide +kernel
theorem dX9_putText_30 : decode cX9_putText 30 = .ok (.aload_n 0, 1) := by decide +kernel
theorem dX9_putText_31 : decode cX9_putText 31 = .ok (.getfield 19, 3) := by decide +kernel
theorem dX9_putText_34 : decode cX9_putText 34 = .ok (.iload_n 2, 1) := by decide +kernel
theorem dX9_putText_35 : decode cX9_putText 35 = .ok (.iaload, 1) := by decide +kernel
theorem dX9_putText_36 : decode cX9_putText 36 = .ok (.invokevirtual 66, 3) := by decide +kernel
theorem dX9_putText_39 : decode cX9_putText 39 = .ok (.iinc 2 1, 3) := by decide +kernel
theorem dX9_putText_42 : decode cX9_putText 42 = .ok (.goto (-25), 3) := by decide +kernel
theorem dX9_putText_45 : decode cX9_putText 45 = .ok (.return_, 1) := by decide +kernel
theorem dX9_writeLengths_0 : decode cX9_writeLengths 0 = .ok (.aload_n 0, 1) := by decide +kernel
theorem dX9_writeLengths_1 : decode cX9_writeLengths 1 = .ok (.aload_n 0, 1) := by decide +kernel
theorem dX9_writeLengths_2 : decode cX9_writeLengths 2 = .ok (.getfield 135, 3) := by decide +kernel
theorem dX9_writeLengths_5 : decode cX9_writeLengths 5 = .ok (.putfield 102, 3) := by decide +kernel
theorem dX9_writeLengths_8 : decode cX9_writeLengths 8 = .ok (.iconst 0, 1) := by decide +kernel
theorem dX9_writeLengths_9 : decode cX9_writeLengths 9 = .ok (.istore_n 1, 1) := by decide +kernel
theorem dX9_writeLengths_10 : decode cX9_writeLengths 10 = .ok (.iload_n 1, 1) := by decide +kernel
theorem dX9_writeLengths_11 : decode cX9_writeLengths 11 = .ok (.aload_n 0, 1) := by decide +kernel
theorem dX9_writeLengths_12 : decode cX9_writeLengths 12 = .ok (.getfield 135, 3) := by decide +kernel
theorem dX9_writeLengths_15 : decode cX9_writeLengths 15 = .ok (.if_icmp .ge 21, 3) := by decide +kernel
theorem dX9_writeLengths_18 : decode cX9_writeLengths 18 = .ok (.aload_n 0, 1) := by decide +kernel
theorem dX9_writeLengths_19 : decode cX9_writeLengths 19 = .ok (.getfield 38, 3) := by decide +kernel
theorem dX9_writeLengths_22 : decode cX9_writeLengths 22 = .ok (.iload_n 1, 1) := by decide +kernel
theorem dX9_writeLengths_23 : decode cX9_writeLengths 23 = .ok (.aload_n 0, 1) := by decide +kernel
theorem dX9_writeLengths_24 : decode cX9_writeLengths 24 = .ok (.iload_n 1, 1) := by decide +kernel
theorem dX9_writeLengths_25 : decode cX9_writeLengths 25 = .ok (.invokevirtual 138, 3) := by decide +kernel
theorem dX9_writeLengths_28 : decode cX9_writeLengths 28 = .ok (.i2l, 1) := by decide +kernel
theorem dX9_writeLengths_29 : decode cX9_writeLengths 29 = .ok (.lastore, 1) := by decide +kernel
theorem dX9_writeLengths_30 : decode cX9_writeLengths 30 = .ok (.iinc 1 1, 3) := by decide +kernel
theorem dX9_writeLengths_33 : decode cX9_writeLengths 33 = .ok (.goto (-23), 3) := by decide +kernel
theorem dX9_writeLengths_36 : decode cX9_writeLengths 36 = .ok (.aload_n 0, 1) := by decide +kernel
theorem dX9_writeLengths_37 : decode cX9_writeLengths 37 = .ok (.invokevirtual 146, 3) := by decide +kernel
theorem dX9_writeLengths_40 : decode cX9_writeLengths 40 = .ok (.iconst 0, 1) := by decide +kernel
theorem dX9_writeLengths_41 : decode cX9_writeLengths 41 = .ok (.istore_n 1, 1) := by decide +kernel
theorem dX9_writeLengths_42 : decode cX9_writeLengths 42 = .ok (.iload_n 1, 1) := by decide +kernel
theorem dX9_writeLengths_43 : decode cX9_writeLengths 43 = .ok (.aload_n 0, 1) := by decide +kernel
theorem dX9_writeLengths_44 : decode cX9_writeLengths 44 = .ok (.getfield 7, 3) := by decide +kernel
theorem dX9_writeLengths_47 : decode cX9_writeLengths 47 = .ok (.aload_n 0, 1) := by decide +kernel
theorem dX9_writeLengths_48 : decode cX9_writeLengths 48 = .ok (.getfield 135, 3) := by decide +kernel
theorem dX9_writeLengths_51 : decode cX9_writeLengths 51 = .ok (.iaload, 1) := by decide +kernel
theorem dX9_writeLengths_52 : decode cX9_writeLengths 52 = .ok (.if_icmp .ge 19, 3) := by decide +kernel
theorem dX9_writeLengths_55 : decode cX9_writeLengths 55 = .ok (.aload_n 0, 1) := by decide +kernel
theorem dX9_writeLengths_56 : decode cX9_writeLengths 56 = .ok (.aload_n 0, 1) := by decide +kernel
theorem dX9_writeLengths_57 : decode cX9_writeLengths 57 = .ok (.getfield 19, 3) := by decide +kernel
theorem dX9_writeLengths_60 : decode cX9_writeLengths 60 = .ok (.iload_n 1, 1) := by decide +kernel
theorem dX9_writeLengths_61 : decode cX9_writeLengths 61 = .ok (.iaload, 1) := by decide +kernel
theorem dX9_writeLengths_62 : decode cX9_writeLengths 62 = .ok (.invokevirtual 66, 3) := by decide +kernel
theorem dX9_writeLengths_65 : decode cX9_writeLengths 65 = .ok (.iinc 1 1, 3) := by decide +kernel
theorem dX9_writeLengths_68 : decode cX9_writeLengths 68 = .ok (.goto (-26), 3) := by decide +kernel
theorem dX9_writeLengths_71 : decode cX9_writeLengths 71 = .ok (.return_, 1) := by decide +kernel
theorem dX9_inCommon_0 : decode cX9_inCommon 0 = .ok (.iconst 0, 1) := by decide +kernel
theorem dX9_inCommon_1 : decode cX9_inCommon 1 = .ok (.istore_n 2, 1) := by decide +kernel
theorem dX9_inCommon_2 : decode cX9_inCommon 2 = .ok (.iload_n 1, 1) := by decide +kernel
theorem dX9_inCommon_3 : decode cX9_inCommon 3 = .ok (.ifCond .le 60, 3) := by decide +kernel
theorem dX9_inCommon_6 : decode cX9_inCommon 6 = .ok (.iload_n 2, 1) := by decide +kernel
theorem dX9_inCommon_7 : decode cX9_inCommon 7 = .ok (.aload_n 0, 1) := by decide +kernel
theorem dX9_inCommon_8 : decode cX9_inCommon 8 = .ok (.iload_n 1, 1) := by decide +kernel
theorem dX9_inCommon_9 : decode cX9_inCommon 9 = .ok (.invokevirtual 138, 3) := by decide +kernel
theorem dX9_inCommon_12 : decode cX9_inCommon 12 = .ok (.if_icmp .ge 51, 3) := by decide +kernel
theorem dX9_inCommon_15 : decode cX9_inCommon 15 = .ok (.iload_n 2, 1) := by decide +kernel
theorem dX9_inCommon_16 : decode cX9_inCommon 16 = .ok (.aload_n 0, 1) := by decide +kernel
theorem dX9_inCommon_17 : decode cX9_inCommon 17 = .ok (.iload_n 1, 1) := by decide +kernel
theorem dX9_inCommon_18 : decode cX9_inCommon 18 = .ok (.iconst 1, 1) := by decide +kernel
theorem dX9_inCommon_19 : decode cX9_inCommon 19 = .ok (.isub, 1) := by decide +kernel
theorem dX9_inCommon_20 : decode cX9_inCommon 20 = .ok (.invokevirtual 138, 3) := by decide +kernel
theorem dX9_inCommon_23 : decode cX9_inCommon 23 = .ok (.if_icmp .ge 40, 3) := by decide +kernel
theorem dX9_inCommon_26 : decode cX9_inCommon 26 = .ok (.aload_n 0, 1) := by decide +kernel
theorem dX9_inCommon_27 : decode cX9_inCommon 27 = .ok (.getfield 19, 3) := by decide +kernel
theorem dX9_inCommon_30 : decode cX9_inCommon 30 = .ok (.aload_n 0, 1) := by decide +kernel
theorem dX9_inCommon_31 : decode cX9_inCommon 31 = .ok (.getfield 7, 3) := by decide +kernel
theorem dX9_inCommon_34 : decode cX9_inCommon 34 = .ok (.iload_n 1, 1) := by decide +kernel
theorem dX9_inCommon_35 : decode cX9_inCommon 35 = .ok (.iaload, 1) := by decide +kernel
theorem dX9_inCommon_36 : decode cX9_inCommon 36 = .ok (.iload_n 2, 1) := by decide +kernel
theorem dX9_inCommon_37 : decode cX9_inCommon 37 = .ok (.iadd, 1) := by decide +kernel
theorem dX9_inCommon_38 : decode cX9_inCommon 38 = .ok (.iaload, 1) := by decide +kernel
theorem dX9_inCommon_39 : decode cX9_inCommon 39 = .ok (.aload_n 0, 1) := by decide +kernel
theorem dX9_inCommon_40 : decode cX9_inCommon 40 = .ok (.getfield 19, 3) := by decide +kernel
theorem dX9_inCommon_43 : decode cX9_inCommon 43 = .ok (.aload_n 0, 1) := by decide +kernel
theorem dX9_inCommon_44 : decode cX9_inCommon 44 = .ok (.getfield 7, 3) := by decide +kernel
theorem dX9_inCommon_47 : decode cX9_inCommon 47 = .ok (.iload_n 1, 1) := by decide +kernel
theorem dX9_inCommon_48 : decode cX9_inCommon 48 = .ok (.iconst 1, 1) := by decide +kernel
theorem dX9_inCommon_49 : decode cX9_inCommon 49 = .ok (.isub, 1) := by decide +kernel
theorem dX9_inCommon_50 : decode cX9_inCommon 50 = .ok (.iaload, 1) := by decide +kernel
theorem dX9_inCommon_51 : decode cX9_inCommon 51 = .ok (.iload_n 2, 1) := by decide +kernel
theorem dX9_inCommon_52 : decode cX9_inCommon 52 = .ok (.iadd, 1) := by decide +kernel
theorem dX9_inCommon_53 : decode cX9_inCommon 53 = .ok (.iaload, 1) := by decide +kernel
theorem dX9_inCommon_54 : decode cX9_inCommon 54 = .ok (.if_icmp .ne 9, 3) := by decide +kernel
theorem dX9_inCommon_57 : decode cX9_inCommon 57 = .ok (.iinc 2 1, 3) := by decide +kernel
theorem dX9_inCommon_60 : decode cX9_inCommon 60 = .ok (.goto (-58), 3) := by decide +kernel
theorem dX9_inCommon_63 : decode cX9_inCommon 63 = .ok (.iload_n 2, 1) := by decide +kernel
theorem dX9_inCommon_64 : decode cX9_inCommon 64 = .ok (.ireturn, 1) := by decide +kernel
theorem dX9_writeFront_0 : decode cX9_writeFront 0 = .ok (.aload_n 0, 1) := by decide +kernel
theorem dX9_writeFront_1 : decode cX9_writeFront 1 = .ok (.aload_n 0, 1) := by decide +kernel
theorem dX9_writeFront_2 : decode cX9_writeFront 2 = .ok (.getfield 135, 3) := by decide +kernel
theorem dX9_writeFront_5 : decode cX9_writeFront 5 = .ok (.putfield 102, 3) := by decide +kernel
theorem dX9_writeFront_8 : decode cX9_writeFront 8 = .ok (.iconst 0, 1) := by decide +kernel
theorem dX9_writeFront_9 : decode cX9_writeFront 9 = .ok (.istore_n 1, 1) := by decide +kernel
theorem dX9_writeFront_10 : decode cX9_writeFront 10 = .ok (.iload_n 1, 1) := by decide +kernel
theorem dX9_writeFront_11 : decode cX9_writeFront 11 = .ok (.aload_n 0, 1) := by decide +kernel
theorem dX9_writeFront_12 : decode cX9_writeFront 12 = .ok (.getfield 135, 3) := by decide +kernel
theorem dX9_writeFront_15 : decode cX9_writeFront 15 = .ok (.if_icmp .ge 21, 3) := by decide +kernel
theorem dX9_writeFront_18 : decode cX9_writeFront 18 = .ok (.aload_n 0, 1) := by decide +kernel
theorem dX9_writeFront_19 : decode cX9_writeFront 19 = .ok (.getfield 38, 3) := by decide +kernel
theorem dX9_writeFront_22 : decode cX9_writeFront 22 = .ok (.iload_n 1, 1) := by decide +kernel
theorem dX9_writeFront_23 : decode cX9_writeFront 23 = .ok (.aload_n 0, 1) := by decide +kernel
theorem dX9_writeFront_24 : decode cX9_writeFront 24 = .ok (.iload_n 1, 1) := by decide +kernel
theorem dX9_writeFront_25 : decode cX9_writeFront 25 = .ok (.invokevirtual 149, 3) := by decide +kernel
theorem dX9_writeFront_28 : decode cX9_writeFront 28 = .ok (.i2l, 1) := by decide +kernel
theorem dX9_writeFront_29 : decode cX9_writeFront 29 = .ok (.lastore, 1) := by decide +kernel
theorem dX9_writeFront_30 : decode cX9_writeFront 30 = .ok (.iinc 1 1, 3) := by decide +kernel
theorem dX9_writeFront_33 : decode cX9_writeFront 33 = .ok (.goto (-23), 3) := by decide +kernel
theorem dX9_writeFront_36 : decode cX9_writeFront 36 = .ok (.aload_n 0, 1) := by decide +kernel
theorem dX9_writeFront_37 : decode cX9_writeFront 37 = .ok (.invokevirtual 146, 3) := by decide +kernel
theorem dX9_writeFront_40 : decode cX9_writeFront 40 = .ok (.iconst 0, 1) := by decide +kernel
theorem dX9_writeFront_41 : decode cX9_writeFront 41 = .ok (.istore_n 1, 1) := by decide +kernel
theorem dX9_writeFront_42 : decode cX9_writeFront 42 = .ok (.iload_n 1, 1) := by decide +kernel
theorem dX9_writeFront_43 : decode cX9_writeFront 43 = .ok (.aload_n 0, 1) := by decide +kernel
theorem dX9_writeFront_44 : decode cX9_writeFront 44 = .ok (.getfield 135, 3) := by decide +kernel
theorem dX9_writeFront_47 : decode cX9_writeFront 47 = .ok (.if_icmp .ge 27, 3) := by decide +kernel
theorem dX9_writeFront_50 : decode cX9_writeFront 50 = .ok (.aload_n 0, 1) := by decide +kernel
theorem dX9_writeFront_51 : decode cX9_writeFront 51 = .ok (.getfield 38, 3) := by decide +kernel
theorem dX9_writeFront_54 : decode cX9_writeFront 54 = .ok (.iload_n 1, 1) := by decide +kernel
theorem dX9_writeFront_55 : decode cX9_writeFront 55 = .ok (.aload_n 0, 1) := by decide +kernel
theorem dX9_writeFront_56 : decode cX9_writeFront 56 = .ok (.iload_n 1, 1) := by decide +kernel
theorem dX9_writeFront_57 : decode cX9_writeFront 57 = .ok (.invokevirtual 138, 3) := by decide +kernel
theorem dX9_writeFront_60 : decode cX9_writeFront 60 = .ok (.aload_n 0, 1) := by decide +kernel
theorem dX9_writeFront_61 : decode cX9_writeFront 61 = .ok (.iload_n 1, 1) := by decide +kernel
theorem dX9_writeFront_62 : decode cX9_writeFront 62 = .ok (.invokevirtual 149, 3) := by decide +kernel
theorem dX9_writeFront_65 : decode cX9_writeFront 65 = .ok (.isub, 1) := by decide +kernel
theorem dX9_writeFront_66 : decode cX9_writeFront 66 = .ok (.i2l, 1) := by decide +kernel
theorem dX9_writeFront_67 : decode cX9_writeFront 67 = .ok (.lastore, 1) := by decide +kernel
theorem dX9_writeFront_68 : decode cX9_writeFront 68 = .ok (.iinc 1 1, 3) := by decide +kernel
theorem dX9_writeFront_71 : decode cX9_writeFront 71 = .ok (.goto (-29), 3) := by decide +kernel
theorem dX9_writeFront_74 : decode cX9_writeFront 74 = .ok (.aload_n 0, 1) := by decide +kernel
theorem dX9_writeFront_75 : decode cX9_writeFront 75 = .ok (.invokevirtual 146, 3) := by decide +kernel
theorem dX9_writeFront_78 : decode cX9_writeFront 78 = .ok (.iconst 0, 1) := by decide +kernel
theorem dX9_writeFront_79 : decode cX9_writeFront 79 = .ok (.istore_n 1, 1) := by decide +kernel
theorem dX9_writeFront_80 : decode cX9_writeFront 80 = .ok (.iload_n 1, 1) := by decide +kernel
theorem dX9_writeFront_81 : decode cX9_writeFront 81 = .ok (.aload_n 0, 1) := by decide +kernel
theorem dX9_writeFront_82 : decode cX9_writeFront 82 = .ok (.getfield 135, 3) := by decide +kernel
theorem dX9_writeFront_85 : decode cX9_writeFront 85 = .ok (.if_icmp .ge 50, 3) := by decide +kernel
theorem dX9_writeFront_88 : decode cX9_writeFront 88 = .ok (.aload_n 0, 1) := by decide +kernel
theorem dX9_writeFront_89 : decode cX9_writeFront 89 = .ok (.getfield 7, 3) := by decide +kernel
theorem dX9_writeFront_92 : decode cX9_writeFront 92 = .ok (.iload_n 1, 1) := by decide +kernel
theorem dX9_writeFront_93 : decode cX9_writeFront 93 = .ok (.iaload, 1) := by decide +kernel
theorem dX9_writeFront_94 : decode cX9_writeFront 94 = .ok (.aload_n 0, 1) := by decide +kernel
theorem dX9_writeFront_95 : decode cX9_writeFront 95 = .ok (.iload_n 1, 1) := by decide +kernel
theorem dX9_writeFront_96 : decode cX9_writeFront 96 = .ok (.invokevirtual 149, 3) := by decide +kernel
theorem dX9_writeFront_99 : decode cX9_writeFront 99 = .ok (.iadd, 1) := by decide +kernel
theorem dX9_writeFront_100 : decode cX9_writeFront 100 = .ok (.istore_n 2, 1) := by decide +kernel
theorem dX9_writeFront_101 : decode cX9_writeFront 101 = .ok (.iload_n 2, 1) := by decide +kernel
theorem dX9_writeFront_102 : decode cX9_writeFront 102 = .ok (.aload_n 0, 1) := by decide +kernel
theorem dX9_writeFront_103 : decode cX9_writeFront 103 = .ok (.getfield 7, 3) := by decide +kernel
theorem dX9_writeFront_106 : decode cX9_writeFront 106 = .ok (.iload_n 1, 1) := by decide +kernel
theorem dX9_writeFront_107 : decode cX9_writeFront 107 = .ok (.iconst 1, 1) := by decide +kernel
theorem dX9_writeFront_108 : decode cX9_writeFront 108 = .ok (.iadd, 1) := by decide +kernel
theorem dX9_writeFront_109 : decode cX9_writeFront 109 = .ok (.iaload, 1) := by decide +kernel
theorem dX9_writeFront_110 : decode cX9_writeFront 110 = .ok (.if_icmp .ge 19, 3) := by decide +kernel
theorem dX9_writeFront_113 : decode cX9_writeFront 113 = .ok (.aload_n 0, 1) := by decide +kernel
theorem dX9_writeFront_114 : decode cX9_writeFront 114 = .ok (.aload_n 0, 1) := by decide +kernel
theorem dX9_writeFront_115 : decode cX9_writeFront 115 = .ok (.getfield 19, 3) := by decide +kernel
theorem dX9_writeFront_118 : decode cX9_writeFront 118 = .ok (.iload_n 2, 1) := by decide +kernel
theorem dX9_writeFront_119 : decode cX9_writeFront 119 = .ok (.iaload, 1) := by decide +kernel
theorem dX9_writeFront_120 : decode cX9_writeFront 120 = .ok (.invokevirtual 66, 3) := by decide +kernel
theorem dX9_writeFront_123 : decode cX9_writeFront 123 = .ok (.iinc 2 1, 3) := by decide +kernel
theorem dX9_writeFront_126 : decode cX9_writeFront 126 = .ok (.goto (-25), 3) := by decide +kernel
theorem dX9_writeFront_129 : decode cX9_writeFront 129 = .ok (.iinc 1 1, 3) := by decide +kernel
theorem dX9_writeFront_132 : decode cX9_writeFront 132 = .ok (.goto (-52), 3) := by decide +kernel
theorem dX9_writeFront_135 : decode cX9_writeFront 135 = .ok (.return_, 1) := by decide +kernel
theorem dX9_writeDictionary_0 : decode cX9_writeDictionary 0 = .ok (.iconst 0, 1) := by decide +kernel
theorem dX9_writeDictionary_1 : decode cX9_writeDictionary 1 = .ok (.istore_n 1, 1) := by decide +kernel
theorem dX9_writeDictionary_2 : decode cX9_writeDictionary 2 = .ok (.iconst 0, 1) := by decide +kernel
theorem dX9_writeDictionary_3 : decode cX9_writeDictionary 3 = .ok (.istore_n 2, 1) := by decide +kernel
theorem dX9_writeDictionary_4 : decode cX9_writeDictionary 4 = .ok (.iload_n 2, 1) := by decide +kernel
theorem dX9_writeDictionary_5 : decode cX9_writeDictionary 5 = .ok (.aload_n 0, 1) := by decide +kernel
theorem dX9_writeDictionary_6 : decode cX9_writeDictionary 6 = .ok (.getfield 135, 3) := by decide +kernel
theorem dX9_writeDictionary_9 : decode cX9_writeDictionary 9 = .ok (.if_icmp .ge 49, 3) := by decide +kernel
theorem dX9_writeDictionary_12 : decode cX9_writeDictionary 12 = .ok (.aload_n 0, 1) := by decide +kernel
theorem dX9_writeDictionary_13 : decode cX9_writeDictionary 13 = .ok (.iload_n 2, 1) := by decide +kernel
theorem dX9_writeDictionary_14 : decode cX9_writeDictionary 14 = .ok (.invokevirtual 152, 3) := by decide +kernel
theorem dX9_writeDictionary_17 : decode cX9_writeDictionary 17 = .ok (.istore_n 3, 1) := by decide +kernel
theorem dX9_writeDictionary_18 : decode cX9_writeDictionary 18 = .ok (.aload_n 0, 1) := by decide +kernel
theorem dX9_writeDictionary_19 : decode cX9_writeDictionary 19 = .ok (.getfield 42, 3) := by decide +kernel
theorem dX9_writeDictionary_22 : decode cX9_writeDictionary 22 = .ok (.iload_n 2, 1) := by decide +kernel
theorem dX9_writeDictionary_23 : decode cX9_writeDictionary 23 = .ok (.iload_n 3, 1) := by decide +kernel
theorem dX9_writeDictionary_24 : decode cX9_writeDictionary 24 = .ok (.iload_n 2, 1) := by decide +kernel
theorem dX9_writeDictionary_25 : decode cX9_writeDictionary 25 = .ok (.if_icmp .ne 7, 3) := by decide +kernel
theorem dX9_writeDictionary_28 : decode cX9_writeDictionary 28 = .ok (.iload_n 1, 1) := by decide +kernel
theorem dX9_writeDictionary_29 : decode cX9_writeDictionary 29 = .ok (.goto 9, 3) := by decide +kernel
theorem dX9_writeDictionary_32 : decode cX9_writeDictionary 32 = .ok (.aload_n 0, 1) := by decide +kernel
theorem dX9_writeDictionary_33 : decode cX9_writeDictionary 33 = .ok (.getfield 42, 3) := by decide +kernel
theorem dX9_writeDictionary_36 : decode cX9_writeDictionary 36 = .ok (.iload_n 3, 1) := by decide +kernel
theorem dX9_writeDictionary_37 : decode cX9_writeDictionary 37 = .ok (.iaload, 1) := by decide +kernel
theorem dX9_writeDictionary_38 : decode cX9_writeDictionary 38 = .ok (.iastore, 1) := by decide +kernel
theorem dX9_writeDictionary_39 : decode cX9_writeDictionary 39 = .ok (.iload_n 1, 1) := by decide +kernel
theorem dX9_writeDictionary_40 : decode cX9_writeDictionary 40 = .ok (.iload_n 3, 1) := by decide +kernel
theorem dX9_writeDictionary_41 : decode cX9_writeDictionary 41 = .ok (.iload_n 2, 1) := by decide +kernel
theorem dX9_writeDictionary_42 : decode cX9_writeDictionary 42 = .ok (.if_icmp .ne 7, 3) := by decide +kernel
theorem dX9_writeDictionary_45 : decode cX9_writeDictionary 45 = .ok (.iconst 1, 1) := by decide +kernel
theorem dX9_writeDictionary_46 : decode cX9_writeDictionary 46 = .ok (.goto 4, 3) := by decide +kernel
theorem dX9_writeDictionary_49 : decode cX9_writeDictionary 49 = .ok (.iconst 0, 1) := by decide +kernel
theorem dX9_writeDictionary_50 : decode cX9_writeDictionary 50 = .ok (.iadd, 1) := by decide +kernel
theorem dX9_writeDictionary_51 : decode cX9_writeDictionary 51 = .ok (.istore_n 1, 1) := by decide +kernel
theorem dX9_writeDictionary_52 : decode cX9_writeDictionary 52 = .ok (.iinc 2 1, 3) := by decide +kernel
theorem dX9_writeDictionary_55 : decode cX9_writeDictionary 55 = .ok (.goto (-51), 3) := by decide +kernel
theorem dX9_writeDictionary_58 : decode cX9_writeDictionary 58 = .ok (.aload_n 0, 1) := by decide +kernel
theorem dX9_writeDictionary_59 : decode cX9_writeDictionary 59 = .ok (.iload_n 1, 1) := by decide +kernel
theorem dX9_writeDictionary_60 : decode cX9_writeDictionary 60 = .ok (.i2l, 1) := by decide +kernel
theorem dX9_writeDictionary_61 : decode cX9_writeDictionary 61 = .ok (.invokevirtual 76, 3) := by decide +kernel
theorem dX9_writeDictionary_64 : decode cX9_writeDictionary 64 = .ok (.iconst 0, 1) := by decide +kernel
theorem dX9_writeDictionary_65 : decode cX9_writeDictionary 65 = .ok (.istore_n 2, 1) := by decide +kernel
theorem dX9_writeDictionary_66 : decode cX9_writeDictionary 66 = .ok (.iload_n 2, 1) := by decide +kernel
theorem dX9_writeDictionary_67 : decode cX9_writeDictionary 67 = .ok (.aload_n 0, 1) := by decide +kernel
theorem dX9_writeDictionary_68 : decode cX9_writeDictionary 68 = .ok (.getfield 135, 3) := by decide +kernel
theorem dX9_writeDictionary_71 : decode cX9_writeDictionary 71 = .ok (.if_icmp .ge 23, 3) := by decide +kernel
theorem dX9_writeDictionary_74 : decode cX9_writeDictionary 74 = .ok (.aload_n 0, 1) := by decide +kernel
theorem dX9_writeDictionary_75 : decode cX9_writeDictionary 75 = .ok (.iload_n 2, 1) := by decide +kernel
theorem dX9_writeDictionary_76 : decode cX9_writeDictionary 76 = .ok (.invokevirtual 152, 3) := by decide +kernel
theorem dX9_writeDictionary_79 : decode cX9_writeDictionary 79 = .ok (.iload_n 2, 1) := by decide +kernel
theorem dX9_writeDictionary_80 : decode cX9_writeDictionary 80 = .ok (.if_icmp .ne 8, 3) := by decide +kernel
theorem dX9_writeDictionary_83 : decode cX9_writeDictionary 83 = .ok (.aload_n 0, 1) := by decide +kernel
theorem dX9_writeDictionary_84 : decode cX9_writeDictionary 84 = .ok (.iload_n 2, 1) := by decide +kernel
theorem dX9_writeDictionary_85 : decode cX9_writeDictionary 85 = .ok (.invokevirtual 155, 3) := by decide +kernel
theorem dX9_writeDictionary_88 : decode cX9_writeDictionary 88 = .ok (.iinc 2 1, 3) := by decide +kernel
theorem dX9_writeDictionary_91 : decode cX9_writeDictionary 91 = .ok (.goto (-25), 3) := by decide +kernel
theorem dX9_writeDictionary_94 : decode cX9_writeDictionary 94 = .ok (.iconst 0, 1) := by decide +kernel
theorem dX9_writeDictionary_95 : decode cX9_writeDictionary 95 = .ok (.istore_n 2, 1) := by decide +kernel
theorem dX9_writeDictionary_96 : decode cX9_writeDictionary 96 = .ok (.iload_n 1, 1) := by decide +kernel
theorem dX9_writeDictionary_97 : decode cX9_writeDictionary 97 = .ok (.iconst 1, 1) := by decide +kernel
theorem dX9_writeDictionary_98 : decode cX9_writeDictionary 98 = .ok (.isub, 1) := by decide +kernel
theorem dX9_writeDictionary_99 : decode cX9_writeDictionary 99 = .ok (.iload_n 2, 1) := by decide +kernel
theorem dX9_writeDictionary_100 : decode cX9_writeDictionary 100 = .ok (.ishr, 1) := by decide +kernel
theorem dX9_writeDictionary_101 : decode cX9_writeDictionary 101 = .ok (.ifCond .le 9, 3) := by decide +kernel
theorem dX9_writeDictionary_104 : decode cX9_writeDictionary 104 = .ok (.iinc 2 1, 3) := by decide +kernel
theorem dX9_writeDictionary_107 : decode cX9_writeDictionary 107 = .ok (.goto (-11), 3) := by decide +kernel
theorem dX9_writeDictionary_110 : decode cX9_writeDictionary 110 = .ok (.aload_n 0, 1) := by decide +kernel
theorem dX9_writeDictionary_111 : decode cX9_writeDictionary 111 = .ok (.iload_n 2, 1) := by decide +kernel
theorem dX9_writeDictionary_112 : decode cX9_writeDictionary 112 = .ok (.invokevirtual 66, 3) := by decide +kernel
theorem dX9_writeDictionary_115 : decode cX9_writeDictionary 115 = .ok (.aload_n 0, 1) := by decide +kernel
theorem dX9_writeDictionary_116 : decode cX9_writeDictionary 116 = .ok (.aload_n 0, 1) := by decide +kernel
theorem dX9_writeDictionary_117 : decode cX9_writeDictionary 117 = .ok (.getfield 42, 3) := by decide +kernel
theorem dX9_writeDictionary_120 : decode cX9_writeDictionary 120 = .ok (.aload_n 0, 1) := by decide +kernel
theorem dX9_writeDictionary_121 : decode cX9_writeDictionary 121 = .ok (.getfield 135, 3) := by decide +kernel
theorem dX9_writeDictionary_124 : decode cX9_writeDictionary 124 = .ok (.iload_n 2, 1) := by decide +kernel
theorem dX9_writeDictionary_125 : decode cX9_writeDictionary 125 = .ok (.invokevirtual 158, 3) := by decide +kernel
theorem dX9_writeDictionary_128 : decode cX9_writeDictionary 128 = .ok (.return_, 1) := by decide +kernel
theorem dX9_write_0 : decode cX9_write 0 = .ok (.aload_n 0, 1) := by decide +kernel
theorem dX9_write_1 : decode cX9_write 1 = .ok (.iconst 0, 1) := by decide +kernel
theorem dX9_write_2 : decode cX9_write 2 = .ok (.putfield 51, 3) := by decide +kernel
theorem dX9_write_5 : decode cX9_write 5 = .ok (.aload_n 0, 1) := by decide +kernel
theorem dX9_write_6 : decode cX9_write 6 = .ok (.iconst 0, 1) := by decide +kernel
theorem dX9_write_7 : decode cX9_write 7 = .ok (.putfield 55, 3) := by decide +kernel
theorem dX9_write_10 : decode cX9_write 10 = .ok (.iload_n 1, 1) := by decide +kernel
theorem dX9_write_11 : decode cX9_write 11 = .ok (.ifCond .lt 8, 3) := by decide +kernel
theorem dX9_write_14 : decode cX9_write 14 = .ok (.iload_n 1, 1) := by decide +kernel
theorem dX9_write_15 : decode cX9_write 15 = .ok (.iconst 3, 1) := by decide +kernel
theorem dX9_write_16 : decode cX9_write 16 = .ok (.if_icmp .le 5, 3) := by decide +kernel
theorem dX9_write_19 : decode cX9_write 19 = .ok (.iconst (-1), 1) := by decide +kernel
theorem dX9_write_20 : decode cX9_write 20 = .ok (.ireturn, 1) := by decide +kernel
theorem dX9_write_21 : decode cX9_write 21 = .ok (.iload_n 1, 1) := by decide +kernel
theorem dX9_write_22 : decode cX9_write 22 = .ok (.iconst 1, 1) := by decide +kernel
theorem dX9_write_23 : decode cX9_write 23 = .ok (.if_icmp .ne 10, 3) := by decide +kernel
theorem dX9_write_26 : decode cX9_write 26 = .ok (.aload_n 0, 1) := by decide +kernel
theorem dX9_write_27 : decode cX9_write 27 = .ok (.invokevirtual 162, 3) := by decide +kernel
theorem dX9_write_30 : decode cX9_write 30 = .ok (.goto 24, 3) := by decide +kernel
theorem dX9_write_33 : decode cX9_write 33 = .ok (.iload_n 1, 1) := by decide +kernel
theorem dX9_write_34 : decode cX9_write 34 = .ok (.iconst 2, 1) := by decide +kernel
theorem dX9_write_35 : decode cX9_write 35 = .ok (.if_icmp .ne 10, 3) := by decide +kernel
theorem dX9_write_38 : decode cX9_write 38 = .ok (.aload_n 0, 1) := by decide +kernel
theorem dX9_write_39 : decode cX9_write 39 = .ok (.invokevirtual 165, 3) := by decide +kernel
theorem dX9_write_42 : decode cX9_write 42 = .ok (.goto 12, 3) := by decide +kernel
theorem dX9_write_45 : decode cX9_write 45 = .ok (.iload_n 1, 1) := by decide +kernel
theorem dX9_write_46 : decode cX9_write 46 = .ok (.iconst 3, 1) := by decide +kernel
theorem dX9_write_47 : decode cX9_write 47 = .ok (.if_icmp .ne 7, 3) := by decide +kernel
theorem dX9_write_50 : decode cX9_write 50 = .ok (.aload_n 0, 1) := by decide +kernel
theorem dX9_write_51 : decode cX9_write 51 = .ok (.invokevirtual 168, 3) := by decide +kernel
theorem dX9_write_54 : decode cX9_write 54 = .ok (.iconst 0, 1) := by decide +kernel
theorem dX9_write_55 : decode cX9_write 55 = .ok (.istore_n 2, 1) := by decide +kernel
theorem dX9_write_56 : decode cX9_write 56 = .ok (.iload_n 2, 1) := by decide +kernel
theorem dX9_write_57 : decode cX9_write 57 = .ok (.aload_n 0, 1) := by decide +kernel
theorem dX9_write_58 : decode cX9_write 58 = .ok (.getfield 135, 3) := by decide +kernel
theorem dX9_write_61 : decode cX9_write 61 = .ok (.if_icmp .ge 18, 3) := by decide +kernel
theorem dX9_write_64 : decode cX9_write 64 = .ok (.iload_n 1, 1) := by decide +kernel
theorem dX9_write_65 : decode cX9_write 65 = .ok (.ifCond .ne 14, 3) := by decide +kernel
theorem dX9_write_68 : decode cX9_write 68 = .ok (.aload_n 0, 1) := by decide +kernel
theorem dX9_write_69 : decode cX9_write 69 = .ok (.iload_n 2, 1) := by decide +kernel
theorem dX9_write_70 : decode cX9_write 70 = .ok (.invokevirtual 155, 3) := by decide +kernel
theorem dX9_write_73 : decode cX9_write 73 = .ok (.iinc 2 1, 3) := by decide +kernel
theorem dX9_write_76 : decode cX9_write 76 = .ok (.goto (-20), 3) := by decide +kernel
theorem dX9_write_79 : decode cX9_write 79 = .ok (.aload_n 0, 1) := by decide +kernel
theorem dX9_write_80 : decode cX9_write 80 = .ok (.getfield 55, 3) := by decide +kernel
theorem dX9_write_83 : decode cX9_write 83 = .ok (.ireturn, 1) := by decide +kernel
theorem dX9_take_0 : decode cX9_take 0 = .ok (.aload_n 0, 1) := by decide +kernel
theorem dX9_take_1 : decode cX9_take 1 = .ok (.getfield 120, 3) := by decide +kernel
theorem dX9_take_4 : decode cX9_take 4 = .ok (.aload_n 0, 1) := by decide +kernel
theorem dX9_take_5 : decode cX9_take 5 = .ok (.getfield 61, 3) := by decide +kernel
theorem dX9_take_8 : decode cX9_take 8 = .ok (.isub, 1) := by decide +kernel
theorem dX9_take_9 : decode cX9_take 9 = .ok (.iload_n 1, 1) := by decide +kernel
theorem dX9_take_10 : decode cX9_take 10 = .ok (.if_icmp .ge 11, 3) := by decide +kernel
theorem dX9_take_13 : decode cX9_take 13 = .ok (.aload_n 0, 1) := by decide +kernel
theorem dX9_take_14 : decode cX9_take 14 = .ok (.iconst 1, 1) := by decide +kernel
theorem dX9_take_15 : decode cX9_take 15 = .ok (.putfield 58, 3) := by decide +kernel
theorem dX9_take_18 : decode cX9_take 18 = .ok (.goto 28, 3) := by decide +kernel
theorem dX9_take_21 : decode cX9_take 21 = .ok (.aload_n 0, 1) := by decide +kernel
theorem dX9_take_22 : decode cX9_take 22 = .ok (.getfield 13, 3) := by decide +kernel
theorem dX9_take_25 : decode cX9_take 25 = .ok (.aload_n 0, 1) := by decide +kernel
theorem dX9_take_26 : decode cX9_take 26 = .ok (.getfield 171, 3) := by decide +kernel
theorem dX9_take_29 : decode cX9_take 29 = .ok (.iaload, 1) := by decide +kernel
theorem dX9_take_30 : decode cX9_take 30 = .ok (.iload_n 2, 1) := by decide +kernel
theorem dX9_take_31 : decode cX9_take 31 = .ok (.iadd, 1) := by decide +kernel
theorem dX9_take_32 : decode cX9_take 32 = .ok (.iload_n 1, 1) := by decide +kernel
theorem dX9_take_33 : decode cX9_take 33 = .ok (.iadd, 1) := by decide +kernel
theorem dX9_take_34 : decode cX9_take 34 = .ok (.sipush 20000, 3) := by decide +kernel
theorem dX9_take_37 : decode cX9_take 37 = .ok (.if_icmp .le 9, 3) := by decide +kernel
theorem dX9_take_40 : decode cX9_take 40 = .ok (.aload_n 0, 1) := by decide +kernel
theorem dX9_take_41 : decode cX9_take 41 = .ok (.bipush 7, 2) := by decide +kernel
theorem dX9_take_43 : decode cX9_take 43 = .ok (.putfield 58, 3) := by decide +kernel
theorem dX9_take_46 : decode cX9_take 46 = .ok (.aload_n 0, 1) := by decide +kernel
theorem dX9_take_47 : decode cX9_take 47 = .ok (.getfield 58, 3) := by decide +kernel
theorem dX9_take_50 : decode cX9_take 50 = .ok (.ifCond .eq 4, 3) := by decide +kernel
theorem dX9_take_53 : decode cX9_take 53 = .ok (.return_, 1) := by decide +kernel
theorem dX9_take_54 : decode cX9_take 54 = .ok (.aload_n 0, 1) := by decide +kernel
theorem dX9_take_55 : decode cX9_take 55 = .ok (.getfield 13, 3) := by decide +kernel
theorem dX9_take_58 : decode cX9_take 58 = .ok (.aload_n 0, 1) := by decide +kernel
theorem dX9_take_59 : decode cX9_take 59 = .ok (.getfield 171, 3) := by decide +kernel
theorem dX9_take_62 : decode cX9_take 62 = .ok (.iaload, 1) := by decide +kernel
theorem dX9_take_63 : decode cX9_take 63 = .ok (.istore_n 3, 1) := by decide +kernel
theorem dX9_take_64 : decode cX9_take 64 = .ok (.iconst 0, 1) := by decide +kernel
theorem dX9_take_65 : decode cX9_take 65 = .ok (.istore 4, 2) := by decide +kernel
theorem dX9_take_67 : decode cX9_take 67 = .ok (.iload 4, 2) := by decide +kernel
theorem dX9_take_69 : decode cX9_take 69 = .ok (.iload_n 2, 1) := by decide +kernel
theorem dX9_take_70 : decode cX9_take 70 = .ok (.if_icmp .ge 37, 3) := by decide +kernel
theorem dX9_take_73 : decode cX9_take 73 = .ok (.aload_n 0, 1) := by decide +kernel
theorem dX9_take_74 : decode cX9_take 74 = .ok (.getfield 22, 3) := by decide +kernel
theorem dX9_take_77 : decode cX9_take 77 = .ok (.iload_n 3, 1) := by decide +kernel
theorem dX9_take_78 : decode cX9_take 78 = .ok (.iload 4, 2) := by decide +kernel
theorem dX9_take_80 : decode cX9_take 80 = .ok (.iadd, 1) := by decide +kernel
theorem dX9_take_81 : decode cX9_take 81 = .ok (.aload_n 0, 1) := by decide +kernel
theorem dX9_take_82 : decode cX9_take 82 = .ok (.getfield 22, 3) := by decide +kernel
theorem dX9_take_85 : decode cX9_take 85 = .ok (.aload_n 0, 1) := by decide +kernel
theorem dX9_take_86 : decode cX9_take 86 = .ok (.getfield 13, 3) := by decide +kernel
theorem dX9_take_89 : decode cX9_take 89 = .ok (.aload_n 0, 1) := by decide +kernel
theorem dX9_take_90 : decode cX9_take 90 = .ok (.getfield 171, 3) := by decide +kernel
theorem dX9_take_93 : decode cX9_take 93 = .ok (.iconst 1, 1) := by decide +kernel
theorem dX9_take_94 : decode cX9_take 94 = .ok (.isub, 1) := by decide +kernel
theorem dX9_take_95 : decode cX9_take 95 = .ok (.iaload, 1) := by decide +kernel
theorem dX9_take_96 : decode cX9_take 96 = .ok (.iload 4, 2) := by decide +kernel
theorem dX9_take_98 : decode cX9_take 98 = .ok (.iadd, 1) := by decide +kernel
theorem dX9_take_99 : decode cX9_take 99 = .ok (.iaload, 1) := by decide +kernel
theorem dX9_take_100 : decode cX9_take 100 = .ok (.iastore, 1) := by decide +kernel
theorem dX9_take_101 : decode cX9_take 101 = .ok (.iinc 4 1, 3) := by decide +kernel
theorem dX9_take_104 : decode cX9_take 104 = .ok (.goto (-37), 3) := by decide +kernel
theorem dX9_take_107 : decode cX9_take 107 = .ok (.iconst 0, 1) := by decide +kernel
theorem dX9_take_108 : decode cX9_take 108 = .ok (.istore 4, 2) := by decide +kernel
theorem dX9_take_110 : decode cX9_take 110 = .ok (.iload 4, 2) := by decide +kernel
theorem dX9_take_112 : decode cX9_take 112 = .ok (.iload_n 1, 1) := by decide +kernel
theorem dX9_take_113 : decode cX9_take 113 = .ok (.if_icmp .ge 32, 3) := by decide +kernel
theorem dX9_take_116 : decode cX9_take 116 = .ok (.aload_n 0, 1) := by decide +kernel
theorem dX9_take_117 : decode cX9_take 117 = .ok (.getfield 22, 3) := by decide +kernel
theorem dX9_take_120 : decode cX9_take 120 = .ok (.iload_n 3, 1) := by decide +kernel
theorem dX9_take_121 : decode cX9_take 121 = .ok (.iload_n 2, 1) := by decide +kernel
theorem dX9_take_122 : decode cX9_take 122 = .ok (.iadd, 1) := by decide +kernel
theorem dX9_take_123 : decode cX9_take 123 = .ok (.iload 4, 2) := by decide +kernel
theorem dX9_take_125 : decode cX9_take 125 = .ok (.iadd, 1) := by decide +kernel
theorem dX9_take_126 : decode cX9_take 126 = .ok (.aload_n 0, 1) := by decide +kernel
theorem dX9_take_127 : decode cX9_take 127 = .ok (.getfield 31, 3) := by decide +kernel
theorem dX9_take_130 : decode cX9_take 130 = .ok (.aload_n 0, 1) := by decide +kernel
theorem dX9_take_131 : decode cX9_take 131 = .ok (.getfield 61, 3) := by decide +kernel
theorem dX9_take_134 : decode cX9_take 134 = .ok (.iload 4, 2) := by decide +kernel
theorem dX9_take_136 : decode cX9_take 136 = .ok (.iadd, 1) := by decide +kernel
theorem dX9_take_137 : decode cX9_take 137 = .ok (.iaload, 1) := by decide +kernel
theorem dX9_take_138 : decode cX9_take 138 = .ok (.iastore, 1) := by decide +kernel
theorem dX9_take_139 : decode cX9_take 139 = .ok (.iinc 4 1, 3) := by decide +kernel
theorem dX9_take_142 : decode cX9_take 142 = .ok (.goto (-32), 3) := by decide +kernel
theorem dX9_take_145 : decode cX9_take 145 = .ok (.aload_n 0, 1) := by decide +kernel
theorem dX9_take_146 : decode cX9_take 146 = .ok (.dup, 1) := by decide +kernel
theorem dX9_take_147 : decode cX9_take 147 = .ok (.getfield 61, 3) := by decide +kernel
theorem dX9_take_150 : decode cX9_take 150 = .ok (.iload_n 1, 1) := by decide +kernel
theorem dX9_take_151 : decode cX9_take 151 = .ok (.iadd, 1) := by decide +kernel
theorem dX9_take_152 : decode cX9_take 152 = .ok (.putfield 61, 3) := by decide +kernel
theorem dX9_take_155 : decode cX9_take 155 = .ok (.aload_n 0, 1) := by decide +kernel
theorem dX9_take_156 : decode cX9_take 156 = .ok (.dup, 1) := by decide +kernel
theorem dX9_take_157 : decode cX9_take 157 = .ok (.getfield 171, 3) := by decide +kernel
theorem dX9_take_160 : decode cX9_take 160 = .ok (.iconst 1, 1) := by decide +kernel
theorem dX9_take_161 : decode cX9_take 161 = .ok (.iadd, 1) := by decide +kernel
theorem dX9_take_162 : decode cX9_take 162 = .ok (.putfield 171, 3) := by decide +kernel
theorem dX9_take_165 : decode cX9_take 165 = .ok (.aload_n 0, 1) := by decide +kernel
theorem dX9_take_166 : decode cX9_take 166 = .ok (.getfield 13, 3) := by decide +kernel
theorem dX9_take_169 : decode cX9_take 169 = .ok (.aload_n 0, 1) := by decide +kernel
theorem dX9_take_170 : decode cX9_take 170 = .ok (.getfield 171, 3) := by decide +kernel
theorem dX9_take_173 : decode cX9_take 173 = .ok (.iload_n 3, 1) := by decide +kernel
theorem dX9_take_174 : decode cX9_take 174 = .ok (.iload_n 2, 1) := by decide +kernel
theorem dX9_take_175 : decode cX9_take 175 = .ok (.iadd, 1) := by decide +kernel
theorem dX9_take_176 : decode cX9_take 176 = .ok (.iload_n 1, 1) := by decide +kernel
theorem dX9_take_177 : decode cX9_take 177 = .ok (.iadd, 1) := by decide +kernel
theorem dX9_take_178 : decode cX9_take 178 = .ok (.iastore, 1) := by decide +kernel
theorem dX9_take_179 : decode cX9_take 179 = .ok (.return_, 1) := by decide +kernel
theorem dX9_readPlain_0 : decode cX9_readPlain 0 = .ok (.iconst 0, 1) := by decide +kernel
theorem dX9_readPlain_1 : decode cX9_readPlain 1 = .ok (.istore_n 2, 1) := by decide +kernel
theorem dX9_readPlain_2 : decode cX9_readPlain 2 = .ok (.iload_n 2, 1) := by decide +kernel
theorem dX9_readPlain_3 : decode cX9_readPlain 3 = .ok (.iload_n 1, 1) := by decide +kernel
theorem dX9_readPlain_4 : decode cX9_readPlain 4 = .ok (.if_icmp .ge 66, 3) := by decide +kernel
theorem dX9_readPlain_7 : decode cX9_readPlain 7 = .ok (.aload_n 0, 1) := by decide +kernel
theorem dX9_readPlain_8 : decode cX9_readPlain 8 = .ok (.getfield 58, 3) := by decide +kernel
theorem dX9_readPlain_11 : decode cX9_readPlain 11 = .ok (.ifCond .ne 59, 3) := by decide +kernel
theorem dX9_readPlain_14 : decode cX9_readPlain 14 = .ok (.aload_n 0, 1) := by decide +kernel
theorem dX9_readPlain_15 : decode cX9_readPlain 15 = .ok (.aload_n 0, 1) := by decide +kernel
theorem dX9_readPlain_16 : decode cX9_readPlain 16 = .ok (.getfield 120, 3) := by decide +kernel
theorem dX9_readPlain_19 : decode cX9_readPlain 19 = .ok (.invokevirtual 80, 3) := by decide +kernel
theorem dX9_readPlain_22 : decode cX9_readPlain 22 = .ok (.lstore_n 3, 1) := by decide +kernel
theorem dX9_readPlain_23 : decode cX9_readPlain 23 = .ok (.aload_n 0, 1) := by decide +kernel
theorem dX9_readPlain_24 : decode cX9_readPlain 24 = .ok (.getfield 58, 3) := by decide +kernel
theorem dX9_readPlain_27 : decode cX9_readPlain 27 = .ok (.ifCond .ne 23, 3) := by decide +kernel
theorem dX9_readPlain_30 : decode cX9_readPlain 30 = .ok (.lload_n 3, 1) := by decide +kernel
theorem dX9_readPlain_31 : decode cX9_readPlain 31 = .ok (.lconst 0, 1) := by decide +kernel
theorem dX9_readPlain_32 : decode cX9_readPlain 32 = .ok (.lcmp, 1) := by decide +kernel
theorem dX9_readPlain_33 : decode cX9_readPlain 33 = .ok (.ifCond .lt 11, 3) := by decide +kernel
theorem dX9_readPlain_36 : decode cX9_readPlain 36 = .ok (.lload_n 3, 1) := by decide +kernel
theorem dX9_readPlain_37 : decode cX9_readPlain 37 = .ok (.ldc2_w 174, 3) := by decide +kernel
theorem dX9_readPlain_40 : decode cX9_readPlain 40 = .ok (.lcmp, 1) := by decide +kernel
theorem dX9_readPlain_41 : decode cX9_readPlain 41 = .ok (.ifCond .le 9, 3) := by decide +kernel
theorem dX9_readPlain_44 : decode cX9_readPlain 44 = .ok (.aload_n 0, 1) := by decide +kernel
theorem dX9_readPlain_45 : decode cX9_readPlain 45 = .ok (.bipush 7, 2) := by decide +kernel
theorem dX9_readPlain_47 : decode cX9_readPlain 47 = .ok (.putfield 58, 3) := by decide +kernel
theorem dX9_readPlain_50 : decode cX9_readPlain 50 = .ok (.aload_n 0, 1) := by decide +kernel
theorem dX9_readPlain_51 : decode cX9_readPlain 51 = .ok (.getfield 58, 3) := by decide +kernel
theorem dX9_readPlain_54 : decode cX9_readPlain 54 = .ok (.ifCond .ne 10, 3) := by decide +kernel
theorem dX9_readPlain_57 : decode cX9_readPlain 57 = .ok (.aload_n 0, 1) := by decide +kernel
theorem dX9_readPlain_58 : decode cX9_readPlain 58 = .ok (.lload_n 3, 1) := by decide +kernel
theorem dX9_readPlain_59 : decode cX9_readPlain 59 = .ok (.l2i, 1) := by decide +kernel
theorem dX9_readPlain_60 : decode cX9_readPlain 60 = .ok (.iconst 0, 1) := by decide +kernel
theorem dX9_readPlain_61 : decode cX9_readPlain 61 = .ok (.invokevirtual 176, 3) := by decide +kernel
theorem dX9_readPlain_64 : decode cX9_readPlain 64 = .ok (.iinc 2 1, 3) := by decide +kernel
theorem dX9_readPlain_67 : decode cX9_readPlain 67 = .ok (.goto (-65), 3) := by decide +kernel
theorem dX9_readPlain_70 : decode cX9_readPlain 70 = .ok (.return_, 1) := by decide +kernel
theorem dX9_readLengths_0 : decode cX9_readLengths 0 = .ok (.aload_n 0, 1) := by decide +kernel
theorem dX9_readLengths_1 : decode cX9_readLengths 1 = .ok (.iload_n 1, 1) := by decide +kernel
theorem dX9_readLengths_2 : decode cX9_readLengths 2 = .ok (.invokevirtual 180, 3) := by decide +kernel
theorem dX9_readLengths_5 : decode cX9_readLengths 5 = .ok (.iconst 0, 1) := by decide +kernel
theorem dX9_readLengths_6 : decode cX9_readLengths 6 = .ok (.istore_n 2, 1) := by decide +kernel
theorem dX9_readLengths_7 : decode cX9_readLengths 7 = .ok (.iload_n 2, 1) := by decide +kernel
theorem dX9_readLengths_8 : decode cX9_readLengths 8 = .ok (.iload_n 1, 1) := by decide +kernel
theorem dX9_readLengths_9 : decode cX9_readLengths 9 = .ok (.if_icmp .ge 46, 3) := by decide +kernel
theorem dX9_readLengths_12 : decode cX9_readLengths 12 = .ok (.aload_n 0, 1) := by decide +kernel
theorem dX9_readLengths_13 : decode cX9_readLengths 13 = .ok (.getfield 58, 3) := by decide +kernel
theorem dX9_readLengths_16 : decode cX9_readLengths 16 = .ok (.ifCond .ne 39, 3) := by decide +kernel
theorem dX9_readLengths_19 : decode cX9_readLengths 19 = .ok (.aload_n 0, 1) := by decide +kernel
theorem dX9_readLengths_20 : decode cX9_readLengths 20 = .ok (.getfield 38, 3) := by decide +kernel
theorem dX9_readLengths_23 : decode cX9_readLengths 23 = .ok (.iload_n 2, 1) := by decide +kernel
theorem dX9_readLengths_24 : decode cX9_readLengths 24 = .ok (.laload, 1) := by decide +kernel
theorem dX9_readLengths_25 : decode cX9_readLengths 25 = .ok (.lconst 0, 1) := by decide +kernel
theorem dX9_readLengths_26 : decode cX9_readLengths 26 = .ok (.lcmp, 1) := by decide +kernel
theorem dX9_readLengths_27 : decode cX9_readLengths 27 = .ok (.ifCond .lt 16, 3) := by decide +kernel
theorem dX9_readLengths_30 : decode cX9_readLengths 30 = .ok (.aload_n 0, 1) := by decide +kernel
theorem dX9_readLengths_31 : decode cX9_readLengths 31 = .ok (.getfield 38, 3) := by decide +kernel
theorem dX9_readLengths_34 : decode cX9_readLengths 34 = .ok (.iload_n 2, 1) := by decide +kernel
theorem dX9_readLengths_35 : decode cX9_readLengths 35 = .ok (.laload, 1) := by decide +kernel
theorem dX9_readLengths_36 : decode cX9_readLengths 36 = .ok (.ldc2_w 174, 3) := by decide +kernel
theorem dX9_readLengths_39 : decode cX9_readLengths 39 = .ok (.lcmp, 1) := by decide +kernel
theorem dX9_readLengths_40 : decode cX9_readLengths 40 = .ok (.ifCond .le 9, 3) := by decide +kernel
theorem dX9_readLengths_43 : decode cX9_readLengths 43 = .ok (.aload_n 0, 1) := by decide +kernel
theorem dX9_readLengths_44 : decode cX9_readLengths 44 = .ok (.bipush 7, 2) := by decide +kernel
theorem dX9_readLengths_46 : decode cX9_readLengths 46 = .ok (.putfield 58, 3) := by decide +kernel
theorem dX9_readLengths_49 : decode cX9_readLengths 49 = .ok (.iinc 2 1, 3) := by decide +kernel
theorem dX9_readLengths_52 : decode cX9_readLengths 52 = .ok (.goto (-45), 3) := by decide +kernel
theorem dX9_readLengths_55 : decode cX9_readLengths 55 = .ok (.iconst 0, 1) := by decide +kernel
theorem dX9_readLengths_56 : decode cX9_readLengths 56 = .ok (.istore_n 2, 1) := by decide +kernel
theorem dX9_readLengths_57 : decode cX9_readLengths 57 = .ok (.iload_n 2, 1) := by decide +kernel
theorem dX9_readLengths_58 : decode cX9_readLengths 58 = .ok (.iload_n 1, 1) := by decide +kernel
theorem dX9_readLengths_59 : decode cX9_readLengths 59 = .ok (.if_icmp .ge 28, 3) := by decide +kernel
theorem dX9_readLengths_62 : decode cX9_readLengths 62 = .ok (.aload_n 0, 1) := by decide +kernel
theorem dX9_readLengths_63 : decode cX9_readLengths 63 = .ok (.getfield 58, 3) := by decide +kernel
theorem dX9_readLengths_66 : decode cX9_readLengths 66 = .ok (.ifCond .ne 21, 3) := by decide +kernel
theorem dX9_readLengths_69 : decode cX9_readLengths 69 = .ok (.aload_n 0, 1) := by decide +kernel
theorem dX9_readLengths_70 : decode cX9_readLengths 70 = .ok (.aload_n 0, 1) := by decide +kernel
theorem dX9_readLengths_71 : decode cX9_readLengths 71 = .ok (.getfield 38, 3) := by decide +kernel
theorem dX9_readLengths_74 : decode cX9_readLengths 74 = .ok (.iload_n 2, 1) := by decide +kernel
theorem dX9_readLengths_75 : decode cX9_readLengths 75 = .ok (.laload, 1) := by decide +kernel
theorem dX9_readLengths_76 : decode cX9_readLengths 76 = .ok (.l2i, 1) := by decide +kernel
theorem dX9_readLengths_77 : decode cX9_readLengths 77 = .ok (.iconst 0, 1) := by decide +kernel
theorem dX9_readLengths_78 : decode cX9_readLengths 78 = .ok (.invokevirtual 176, 3) := by decide +kernel
theorem dX9_readLengths_81 : decode cX9_readLengths 81 = .ok (.iinc 2 1, 3) := by decide +kernel
theorem dX9_readLengths_84 : decode cX9_readLengths 84 = .ok (.goto (-27), 3) := by decide +kernel
theorem dX9_readLengths_87 : decode cX9_readLengths 87 = .ok (.return_, 1) := by decide +kernel
theorem dX9_told_0 : decode cX9_told 0 = .ok (.lload_n 0, 1) := by decide +kernel
theorem dX9_told_1 : decode cX9_told 1 = .ok (.lconst 0, 1) := by decide +kernel
theorem dX9_told_2 : decode cX9_told 2 = .ok (.lcmp, 1) := by decide +kernel
theorem dX9_told_3 : decode cX9_told 3 = .ok (.ifCond .ge 7, 3) := by decide +kernel
theorem dX9_told_6 : decode cX9_told 6 = .ok (.iconst (-1), 1) := by decide +kernel
theorem dX9_told_7 : decode cX9_told 7 = .ok (.goto 19, 3) := by decide +kernel
theorem dX9_told_10 : decode cX9_told 10 = .ok (.lload_n 0, 1) := by decide +kernel
theorem dX9_told_11 : decode cX9_told 11 = .ok (.ldc2_w 174, 3) := by decide +kernel
theorem dX9_told_14 : decode cX9_told 14 = .ok (.lcmp, 1) := by decide +kernel
theorem dX9_told_15 : decode cX9_told 15 = .ok (.ifCond .le 9, 3) := by decide +kernel
theorem dX9_told_18 : decode cX9_told 18 = .ok (.sipush 256, 3) := by decide +kernel
theorem dX9_told_21 : decode cX9_told 21 = .ok (.goto 5, 3) := by decide +kernel
theorem dX9_told_24 : decode cX9_told 24 = .ok (.lload_n 0, 1) := by decide +kernel
theorem dX9_told_25 : decode cX9_told 25 = .ok (.l2i, 1) := by decide +kernel
theorem dX9_told_26 : decode cX9_told 26 = .ok (.ireturn, 1) := by decide +kernel
theorem dX9_readFront_0 : decode cX9_readFront 0 = .ok (.aload_n 0, 1) := by decide +kernel
theorem dX9_readFront_1 : decode cX9_readFront 1 = .ok (.iload_n 1, 1) := by decide +kernel
theorem dX9_readFront_2 : decode cX9_readFront 2 = .ok (.invokevirtual 180, 3) := by decide +kernel
theorem dX9_readFront_5 : decode cX9_readFront 5 = .ok (.iconst 0, 1) := by decide +kernel
theorem dX9_readFront_6 : decode cX9_readFront 6 = .ok (.istore_n 2, 1) := by decide +kernel
theorem dX9_readFront_7 : decode cX9_readFront 7 = .ok (.iload_n 2, 1) := by decide +kernel
theorem dX9_readFront_8 : decode cX9_readFront 8 = .ok (.iload_n 1, 1) := by decide +kernel
theorem dX9_readFront_9 : decode cX9_readFront 9 = .ok (.if_icmp .ge 31, 3) := by decide +kernel
theorem dX9_readFront_12 : decode cX9_readFront 12 = .ok (.aload_n 0, 1) := by decide +kernel
theorem dX9_readFront_13 : decode cX9_readFront 13 = .ok (.getfield 58, 3) := by decide +kernel
theorem dX9_readFront_16 : decode cX9_readFront 16 = .ok (.ifCond .ne 24, 3) := by decide +kernel
theorem dX9_readFront_19 : decode cX9_readFront 19 = .ok (.aload_n 0, 1) := by decide +kernel
theorem dX9_readFront_20 : decode cX9_readFront 20 = .ok (.getfield 45, 3) := by decide +kernel
theorem dX9_readFront_23 : decode cX9_readFront 23 = .ok (.iload_n 2, 1) := by decide +kernel
theorem dX9_readFront_24 : decode cX9_readFront 24 = .ok (.aload_n 0, 1) := by decide +kernel
theorem dX9_readFront_25 : decode cX9_readFront 25 = .ok (.getfield 38, 3) := by decide +kernel
theorem dX9_readFront_28 : decode cX9_readFront 28 = .ok (.iload_n 2, 1) := by decide +kernel
theorem dX9_readFront_29 : decode cX9_readFront 29 = .ok (.laload, 1) := by decide +kernel
theorem dX9_readFront_30 : decode cX9_readFront 30 = .ok (.invokestatic 183, 3) := by decide +kernel
theorem dX9_readFront_33 : decode cX9_readFront 33 = .ok (.iastore, 1) := by decide +kernel
theorem dX9_readFront_34 : decode cX9_readFront 34 = .ok (.iinc 2 1, 3) := by decide +kernel
theorem dX9_readFront_37 : decode cX9_readFront 37 = .ok (.goto (-30), 3) := by decide +kernel
theorem dX9_readFront_40 : decode cX9_readFront 40 = .ok (.aload_n 0, 1) := by decide +kernel
theorem dX9_readFront_41 : decode cX9_readFront 41 = .ok (.getfield 58, 3) := by decide +kernel
theorem dX9_readFront_44 : decode cX9_readFront 44 = .ok (.ifCond .ne 8, 3) := by decide +kernel
theorem dX9_readFront_47 : decode cX9_readFront 47 = .ok (.aload_n 0, 1) := by decide +kernel
theorem dX9_readFront_48 : decode cX9_readFront 48 = .ok (.iload_n 1, 1) := by decide +kernel
theorem dX9_readFront_49 : decode cX9_readFront 49 = .ok (.invokevirtual 180, 3) := by decide +kernel
theorem dX9_readFront_52 : decode cX9_readFront 52 = .ok (.iconst 0, 1) := by decide +kernel
theorem dX9_readFront_53 : decode cX9_readFront 53 = .ok (.istore_n 2, 1) := by decide +kernel
theorem dX9_readFront_54 : decode cX9_readFront 54 = .ok (.iload_n 2, 1) := by decide +kernel
theorem dX9_readFront_55 : decode cX9_readFront 55 = .ok (.iload_n 1, 1) := by decide +kernel
theorem dX9_readFront_56 : decode cX9_readFront 56 = .ok (.if_icmp .ge 31, 3) := by decide +kernel
theorem dX9_readFront_59 : decode cX9_readFront 59 = .ok (.aload_n 0, 1) := by decide +kernel
theorem dX9_readFront_60 : decode cX9_readFront 60 = .ok (.getfield 58, 3) := by decide +kernel
theorem dX9_readFront_63 : decode cX9_readFront 63 = .ok (.ifCond .ne 24, 3) := by decide +kernel
theorem dX9_readFront_66 : decode cX9_readFront 66 = .ok (.aload_n 0, 1) := by decide +kernel
theorem dX9_readFront_67 : decode cX9_readFront 67 = .ok (.getfield 48, 3) := by decide +kernel
theorem dX9_readFront_70 : decode cX9_readFront 70 = .ok (.iload_n 2, 1) := by decide +kernel
theorem dX9_readFront_71 : decode cX9_readFront 71 = .ok (.aload_n 0, 1) := by decide +kernel
theorem dX9_readFront_72 : decode cX9_readFront 72 = .ok (.getfield 38, 3) := by decide +kernel
theorem dX9_readFront_75 : decode cX9_readFront 75 = .ok (.iload_n 2, 1) := by decide +kernel
theorem dX9_readFront_76 : decode cX9_readFront 76 = .ok (.laload, 1) := by decide +kernel
theorem dX9_readFront_77 : decode cX9_readFront 77 = .ok (.invokestatic 183, 3) := by decide +kernel
theorem dX9_readFront_80 : decode cX9_readFront 80 = .ok (.iastore, 1) := by decide +kernel
theorem dX9_readFront_81 : decode cX9_readFront 81 = .ok (.iinc 2 1, 3) := by decide +kernel
theorem dX9_readFront_84 : decode cX9_readFront 84 = .ok (.goto (-30), 3) := by decide +kernel
theorem dX9_readFront_87 : decode cX9_readFront 87 = .ok (.iconst 0, 1) := by decide +kernel
theorem dX9_readFront_88 : decode cX9_readFront 88 = .ok (.istore_n 2, 1) := by decide +kernel
theorem dX9_readFront_89 : decode cX9_readFront 89 = .ok (.iload_n 2, 1) := by decide +kernel
theorem dX9_readFront_90 : decode cX9_readFront 90 = .ok (.iload_n 1, 1) := by decide +kernel
theorem dX9_readFront_91 : decode cX9_readFront 91 = .ok (.if_icmp .ge 112, 3) := by decide +kernel
theorem dX9_readFront_94 : decode cX9_readFront 94 = .ok (.aload_n 0, 1) := by decide +kernel
theorem dX9_readFront_95 : decode cX9_readFront 95 = .ok (.getfield 58, 3) := by decide +kernel
theorem dX9_readFront_98 : decode cX9_readFront 98 = .ok (.ifCond .ne 105, 3) := by decide +kernel
theorem dX9_readFront_101 : decode cX9_readFront 101 = .ok (.iload_n 2, 1) := by decide +kernel
theorem dX9_readFront_102 : decode cX9_readFront 102 = .ok (.ifCond .ne 7, 3) := by decide +kernel
theorem dX9_readFront_105 : decode cX9_readFront 105 = .ok (.iconst 0, 1) := by decide +kernel
theorem dX9_readFront_106 : decode cX9_readFront 106 = .ok (.goto 18, 3) := by decide +kernel
theorem dX9_readFront_109 : decode cX9_readFront 109 = .ok (.aload_n 0, 1) := by decide +kernel
theorem dX9_readFront_110 : decode cX9_readFront 110 = .ok (.getfield 13, 3) := by decide +kernel
theorem dX9_readFront_113 : decode cX9_readFront 113 = .ok (.iload_n 2, 1) := by decide +kernel
theorem dX9_readFront_114 : decode cX9_readFront 114 = .ok (.iaload, 1) := by decide +kernel
theorem dX9_readFront_115 : decode cX9_readFront 115 = .ok (.aload_n 0, 1) := by decide +kernel
theorem dX9_readFront_116 : decode cX9_readFront 116 = .ok (.getfield 13, 3) := by decide +kernel
theorem dX9_readFront_119 : decode cX9_readFront 119 = .ok (.iload_n 2, 1) := by decide +kernel
theorem dX9_readFront_120 : decode cX9_readFront 120 = .ok (.iconst 1, 1) := by decide +kernel
theorem dX9_readFront_121 : decode cX9_readFront 121 = .ok (.isub, 1) := by decide +kernel
theorem dX9_readFront_122 : decode cX9_readFront 122 = .ok (.iaload, 1) := by decide +kernel
theorem dX9_readFront_123 : decode cX9_readFront 123 = .ok (.isub, 1) := by decide +kernel
theorem dX9_readFront_124 : decode cX9_readFront 124 = .ok (.istore_n 3, 1) := by decide +kernel
theorem dX9_readFront_125 : decode cX9_readFront 125 = .ok (.aload_n 0, 1) := by decide +kernel
theorem dX9_readFront_126 : decode cX9_readFront 126 = .ok (.getfield 45, 3) := by decide +kernel
theorem dX9_readFront_129 : decode cX9_readFront 129 = .ok (.iload_n 2, 1) := by decide +kernel
theorem dX9_readFront_130 : decode cX9_readFront 130 = .ok (.iaload, 1) := by decide +kernel
theorem dX9_readFront_131 : decode cX9_readFront 131 = .ok (.ifCond .lt 41, 3) := by decide +kernel
theorem dX9_readFront_134 : decode cX9_readFront 134 = .ok (.aload_n 0, 1) := by decide +kernel
theorem dX9_readFront_135 : decode cX9_readFront 135 = .ok (.getfield 48, 3) := by decide +kernel
theorem dX9_readFront_138 : decode cX9_readFront 138 = .ok (.iload_n 2, 1) := by decide +kernel
theorem dX9_readFront_139 : decode cX9_readFront 139 = .ok (.iaload, 1) := by decide +kernel
theorem dX9_readFront_140 : decode cX9_readFront 140 = .ok (.ifCond .lt 32, 3) := by decide +kernel
theorem dX9_readFront_143 : decode cX9_readFront 143 = .ok (.aload_n 0, 1) := by decide +kernel
theorem dX9_readFront_144 : decode cX9_readFront 144 = .ok (.getfield 45, 3) := by decide +kernel
theorem dX9_readFront_147 : decode cX9_readFront 147 = .ok (.iload_n 2, 1) := by decide +kernel
theorem dX9_readFront_148 : decode cX9_readFront 148 = .ok (.iaload, 1) := by decide +kernel
theorem dX9_readFront_149 : decode cX9_readFront 149 = .ok (.aload_n 0, 1) := by decide +kernel
theorem dX9_readFront_150 : decode cX9_readFront 150 = .ok (.getfield 48, 3) := by decide +kernel
theorem dX9_readFront_153 : decode cX9_readFront 153 = .ok (.iload_n 2, 1) := by decide +kernel
theorem dX9_readFront_154 : decode cX9_readFront 154 = .ok (.iaload, 1) := by decide +kernel
theorem dX9_readFront_155 : decode cX9_readFront 155 = .ok (.iadd, 1) := by decide +kernel
theorem dX9_readFront_156 : decode cX9_readFront 156 = .ok (.sipush 255, 3) := by decide +kernel
theorem dX9_readFront_159 : decode cX9_readFront 159 = .ok (.if_icmp .gt 13, 3) := by decide +kernel
theorem dX9_readFront_162 : decode cX9_readFront 162 = .ok (.aload_n 0, 1) := by decide +kernel
theorem dX9_readFront_163 : decode cX9_readFront 163 = .ok (.getfield 45, 3) := by decide +kernel
theorem dX9_readFront_166 : decode cX9_readFront 166 = .ok (.iload_n 2, 1) := by decide +kernel
theorem dX9_readFront_167 : decode cX9_readFront 167 = .ok (.iaload, 1) := by decide +kernel
theorem dX9_readFront_168 : decode cX9_readFront 168 = .ok (.iload_n 3, 1) := by decide +kernel
theorem dX9_readFront_169 : decode cX9_readFront 169 = .ok (.if_icmp .le 12, 3) := by decide +kernel
theorem dX9_readFront_172 : decode cX9_readFront 172 = .ok (.aload_n 0, 1) := by decide +kernel
theorem dX9_readFront_173 : decode cX9_readFront 173 = .ok (.bipush 7, 2) := by decide +kernel
theorem dX9_readFront_175 : decode cX9_readFront 175 = .ok (.putfield 58, 3) := by decide +kernel
theorem dX9_readFront_178 : decode cX9_readFront 178 = .ok (.goto 19, 3) := by decide +kernel
theorem dX9_readFront_181 : decode cX9_readFront 181 = .ok (.aload_n 0, 1) := by decide +kernel
theorem dX9_readFront_182 : decode cX9_readFront 182 = .ok (.aload_n 0, 1) := by decide +kernel
theorem dX9_readFront_183 : decode cX9_readFront 183 = .ok (.getfield 48, 3) := by decide +kernel
theorem dX9_readFront_186 : decode cX9_readFront 186 = .ok (.iload_n 2, 1) := by decide +kernel
theorem dX9_readFront_187 : decode cX9_readFront 187 = .ok (.iaload, 1) := by decide +kernel
theorem dX9_readFront_188 : decode cX9_readFront 188 = .ok (.aload_n 0, 1) := by decide +kernel
theorem dX9_readFront_189 : decode cX9_readFront 189 = .ok (.getfield 45, 3) := by decide +kernel
theorem dX9_readFront_192 : decode cX9_readFront 192 = .ok (.iload_n 2, 1) := by decide +kernel
theorem dX9_readFront_193 : decode cX9_readFront 193 = .ok (.iaload, 1) := by decide +kernel
theorem dX9_readFront_194 : decode cX9_readFront 194 = .ok (.invokevirtual 176, 3) := by decide +kernel
theorem dX9_readFront_197 : decode cX9_readFront 197 = .ok (.iinc 2 1, 3) := by decide +kernel
theorem dX9_readFront_200 : decode cX9_readFront 200 = .ok (.goto (-111), 3) := by decide +kernel
theorem dX9_readFront_203 : decode cX9_readFront 203 = .ok (.return_, 1) := by decide +kernel
theorem dX9_readDictionary_0 : decode cX9_readDictionary 0 = .ok (.aload_n 0, 1) := by decide +kernel
theorem dX9_readDictionary_1 : decode cX9_readDictionary 1 = .ok (.aload_n 0, 1) := by decide +kernel
theorem dX9_readDictionary_2 : decode cX9_readDictionary 2 = .ok (.getfield 120, 3) := by decide +kernel
theorem dX9_readDictionary_5 : decode cX9_readDictionary 5 = .ok (.invokevirtual 80, 3) := by decide +kernel
theorem dX9_readDictionary_8 : decode cX9_readDictionary 8 = .ok (.lstore_n 2, 1) := by decide +kernel
theorem dX9_readDictionary_9 : decode cX9_readDictionary 9 = .ok (.aload_n 0, 1) := by decide +kernel
theorem dX9_readDictionary_10 : decode cX9_readDictionary 10 = .ok (.getfield 58, 3) := by decide +kernel
theorem dX9_readDictionary_13 : decode cX9_readDictionary 13 = .ok (.ifCond .ne 21, 3) := by decide +kernel
theorem dX9_readDictionary_16 : decode cX9_readDictionary 16 = .ok (.lload_n 2, 1) := by decide +kernel
theorem dX9_readDictionary_17 : decode cX9_readDictionary 17 = .ok (.lconst 0, 1) := by decide +kernel
theorem dX9_readDictionary_18 : decode cX9_readDictionary 18 = .ok (.lcmp, 1) := by decide +kernel
theorem dX9_readDictionary_19 : decode cX9_readDictionary 19 = .ok (.ifCond .lt 10, 3) := by decide +kernel
theorem dX9_readDictionary_22 : decode cX9_readDictionary 22 = .ok (.lload_n 2, 1) := by decide +kernel
theorem dX9_readDictionary_23 : decode cX9_readDictionary 23 = .ok (.iload_n 1, 1) := by decide +kernel
theorem dX9_readDictionary_24 : decode cX9_readDictionary 24 = .ok (.i2l, 1) := by decide +kernel
theorem dX9_readDictionary_25 : decode cX9_readDictionary 25 = .ok (.lcmp, 1) := by decide +kernel
theorem dX9_readDictionary_26 : decode cX9_readDictionary 26 = .ok (.ifCond .le 8, 3) := by decide +kernel
theorem dX9_readDictionary_29 : decode cX9_readDictionary 29 = .ok (.aload_n 0, 1) := by decide +kernel
theorem dX9_readDictionary_30 : decode cX9_readDictionary 30 = .ok (.iconst 4, 1) := by decide +kernel
theorem dX9_readDictionary_31 : decode cX9_readDictionary 31 = .ok (.putfield 58, 3) := by decide +kernel
theorem dX9_readDictionary_34 : decode cX9_readDictionary 34 = .ok (.aload_n 0, 1) := by decide +kernel
theorem dX9_readDictionary_35 : decode cX9_readDictionary 35 = .ok (.getfield 58, 3) := by decide +kernel
theorem dX9_readDictionary_38 : decode cX9_readDictionary 38 = .ok (.ifCond .eq 4, 3) := by decide +kernel
theorem dX9_readDictionary_41 : decode cX9_readDictionary 41 = .ok (.return_, 1) := by decide +kernel
theorem dX9_readDictionary_42 : decode cX9_readDictionary 42 = .ok (.aload_n 0, 1) := by decide +kernel
theorem dX9_readDictionary_43 : decode cX9_readDictionary 43 = .ok (.lload_n 2, 1) := by decide +kernel
theorem dX9_readDictionary_44 : decode cX9_readDictionary 44 = .ok (.l2i, 1) := by decide +kernel
theorem dX9_readDictionary_45 : decode cX9_readDictionary 45 = .ok (.invokevirtual 187, 3) := by decide +kernel
theorem dX9_readDictionary_48 : decode cX9_readDictionary 48 = .ok (.aload_n 0, 1) := by decide +kernel
theorem dX9_readDictionary_49 : decode cX9_readDictionary 49 = .ok (.getfield 58, 3) := by decide +kernel
theorem dX9_readDictionary_52 : decode cX9_readDictionary 52 = .ok (.ifCond .eq 4, 3) := by decide +kernel
theorem dX9_readDictionary_55 : decode cX9_readDictionary 55 = .ok (.return_, 1) := by decide +kernel
theorem dX9_readDictionary_56 : decode cX9_readDictionary 56 = .ok (.aload_n 0, 1) := by decide +kernel
theorem dX9_readDictionary_57 : decode cX9_readDictionary 57 = .ok (.aload_n 0, 1) := by decide +kernel
theorem dX9_readDictionary_58 : decode cX9_readDictionary 58 = .ok (.getfield 171, 3) := by decide +kernel
theorem dX9_readDictionary_61 : decode cX9_readDictionary 61 = .ok (.putfield 190, 3) := by decide +kernel
theorem dX9_readDictionary_64 : decode cX9_readDictionary 64 = .ok (.iconst 0, 1) := by decide +kernel
theorem dX9_readDictionary_65 : decode cX9_readDictionary 65 = .ok (.istore 4, 2) := by decide +kernel
theorem dX9_readDictionary_67 : decode cX9_readDictionary 67 = .ok (.iload 4, 2) := by decide +kernel
theorem dX9_readDictionary_69 : decode cX9_readDictionary 69 = .ok (.aload_n 0, 1) := by decide +kernel
theorem dX9_readDictionary_70 : decode cX9_readDictionary 70 = .ok (.getfield 190, 3) := by decide +kernel
theorem dX9_readDictionary_73 : decode cX9_readDictionary 73 = .ok (.if_icmp .gt 23, 3) := by decide +kernel
theorem dX9_readDictionary_76 : decode cX9_readDictionary 76 = .ok (.aload_n 0, 1) := by decide +kernel
theorem dX9_readDictionary_77 : decode cX9_readDictionary 77 = .ok (.getfield 16, 3) := by decide +kernel
theorem dX9_readDictionary_80 : decode cX9_readDictionary 80 = .ok (.iload 4, 2) := by decide +kernel
theorem dX9_readDictionary_82 : decode cX9_readDictionary 82 = .ok (.aload_n 0, 1) := by decide +kernel
theorem dX9_readDictionary_83 : decode cX9_readDictionary 83 = .ok (.getfield 13, 3) := by decide +kernel
theorem dX9_readDictionary_86 : decode cX9_readDictionary 86 = .ok (.iload 4, 2) := by decide +kernel
theorem dX9_readDictionary_88 : decode cX9_readDictionary 88 = .ok (.iaload, 1) := by decide +kernel
theorem dX9_readDictionary_89 : decode cX9_readDictionary 89 = .ok (.iastore, 1) := by decide +kernel
theorem dX9_readDictionary_90 : decode cX9_readDictionary 90 = .ok (.iinc 4 1, 3) := by decide +kernel
theorem dX9_readDictionary_93 : decode cX9_readDictionary 93 = .ok (.goto (-26), 3) := by decide +kernel
theorem dX9_readDictionary_96 : decode cX9_readDictionary 96 = .ok (.iconst 0, 1) := by decide +kernel
theorem dX9_readDictionary_97 : decode cX9_readDictionary 97 = .ok (.istore 4, 2) := by decide +kernel
theorem dX9_readDictionary_99 : decode cX9_readDictionary 99 = .ok (.iload 4, 2) := by decide +kernel
theorem dX9_readDictionary_101 : decode cX9_readDictionary 101 = .ok (.aload_n 0, 1) := by decide +kernel
theorem dX9_readDictionary_102 : decode cX9_readDictionary 102 = .ok (.getfield 16, 3) := by decide +kernel
theorem dX9_readDictionary_105 : decode cX9_readDictionary 105 = .ok (.aload_n 0, 1) := by decide +kernel
theorem dX9_readDictionary_106 : decode cX9_readDictionary 106 = .ok (.getfield 190, 3) := by decide +kernel
theorem dX9_readDictionary_109 : decode cX9_readDictionary 109 = .ok (.iaload, 1) := by decide +kernel
theorem dX9_readDictionary_110 : decode cX9_readDictionary 110 = .ok (.if_icmp .ge 23, 3) := by decide +kernel
theorem dX9_readDictionary_113 : decode cX9_readDictionary 113 = .ok (.aload_n 0, 1) := by decide +kernel
theorem dX9_readDictionary_114 : decode cX9_readDictionary 114 = .ok (.getfield 25, 3) := by decide +kernel
theorem dX9_readDictionary_117 : decode cX9_readDictionary 117 = .ok (.iload 4, 2) := by decide +kernel
theorem dX9_readDictionary_119 : decode cX9_readDictionary 119 = .ok (.aload_n 0, 1) := by decide +kernel
theorem dX9_readDictionary_120 : decode cX9_readDictionary 120 = .ok (.getfield 22, 3) := by decide +kernel
theorem dX9_readDictionary_123 : decode cX9_readDictionary 123 = .ok (.iload 4, 2) := by decide +kernel
theorem dX9_readDictionary_125 : decode cX9_readDictionary 125 = .ok (.iaload, 1) := by decide +kernel
theorem dX9_readDictionary_126 : decode cX9_readDictionary 126 = .ok (.iastore, 1) := by decide +kernel
theorem dX9_readDictionary_127 : decode cX9_readDictionary 127 = .ok (.iinc 4 1, 3) := by decide +kernel
theorem dX9_readDictionary_130 : decode cX9_readDictionary 130 = .ok (.goto (-31), 3) := by decide +kernel
theorem dX9_readDictionary_133 : decode cX9_readDictionary 133 = .ok (.aload_n 0, 1) := by decide +kernel
theorem dX9_readDictionary_134 : decode cX9_readDictionary 134 = .ok (.iconst 0, 1) := by decide +kernel
theorem dX9_readDictionary_135 : decode cX9_readDictionary 135 = .ok (.putfield 171, 3) := by decide +kernel
theorem dX9_readDictionary_138 : decode cX9_readDictionary 138 = .ok (.aload_n 0, 1) := by decide +kernel
theorem dX9_readDictionary_139 : decode cX9_readDictionary 139 = .ok (.getfield 61, 3) := by decide +kernel
theorem dX9_readDictionary_142 : decode cX9_readDictionary 142 = .ok (.aload_n 0, 1) := by decide +kernel
theorem dX9_readDictionary_143 : decode cX9_readDictionary 143 = .ok (.getfield 120, 3) := by decide +kernel
theorem dX9_readDictionary_146 : decode cX9_readDictionary 146 = .ok (.if_icmp .lt 11, 3) := by decide +kernel
theorem dX9_readDictionary_149 : decode cX9_readDictionary 149 = .ok (.aload_n 0, 1) := by decide +kernel
theorem dX9_readDictionary_150 : decode cX9_readDictionary 150 = .ok (.iconst 1, 1) := by decide +kernel
theorem dX9_readDictionary_151 : decode cX9_readDictionary 151 = .ok (.putfield 58, 3) := by decide +kernel
theorem dX9_readDictionary_154 : decode cX9_readDictionary 154 = .ok (.goto 22, 3) := by decide +kernel
theorem dX9_readDictionary_157 : decode cX9_readDictionary 157 = .ok (.aload_n 0, 1) := by decide +kernel
theorem dX9_readDictionary_158 : decode cX9_readDictionary 158 = .ok (.getfield 31, 3) := by decide +kernel
theorem dX9_readDictionary_161 : decode cX9_readDictionary 161 = .ok (.aload_n 0, 1) := by decide +kernel
theorem dX9_readDictionary_162 : decode cX9_readDictionary 162 = .ok (.getfield 61, 3) := by decide +kernel
theorem dX9_readDictionary_165 : decode cX9_readDictionary 165 = .ok (.iaload, 1) := by decide +kernel
theorem dX9_readDictionary_166 : decode cX9_readDictionary 166 = .ok (.bipush 32, 2) := by decide +kernel
theorem dX9_readDictionary_168 : decode cX9_readDictionary 168 = .ok (.if_icmp .le 8, 3) := by decide +kernel
theorem dX9_readDictionary_171 : decode cX9_readDictionary 171 = .ok (.aload_n 0, 1) := by decide +kernel
theorem dX9_readDictionary_172 : decode cX9_readDictionary 172 = .ok (.iconst 5, 1) := by decide +kernel
theorem dX9_readDictionary_173 : decode cX9_readDictionary 173 = .ok (.putfield 58, 3) := by decide +kernel
theorem dX9_readDictionary_176 : decode cX9_readDictionary 176 = .ok (.aload_n 0, 1) := by decide +kernel
theorem dX9_readDictionary_177 : decode cX9_readDictionary 177 = .ok (.getfield 58, 3) := by decide +kernel
theorem dX9_readDictionary_180 : decode cX9_readDictionary 180 = .ok (.ifCond .eq 4, 3) := by decide +kernel
theorem dX9_readDictionary_183 : decode cX9_readDictionary 183 = .ok (.return_, 1) := by decide +kernel
theorem dX9_readDictionary_184 : decode cX9_readDictionary 184 = .ok (.aload_n 0, 1) := by decide +kernel
theorem dX9_readDictionary_185 : decode cX9_readDictionary 185 = .ok (.getfield 31, 3) := by decide +kernel
theorem dX9_readDictionary_188 : decode cX9_readDictionary 188 = .ok (.aload_n 0, 1) := by decide +kernel
theorem dX9_readDictionary_189 : decode cX9_readDictionary 189 = .ok (.getfield 61, 3) := by decide +kernel
theorem dX9_readDictionary_192 : decode cX9_readDictionary 192 = .ok (.iaload, 1) := by decide +kernel
theorem dX9_readDictionary_193 : decode cX9_readDictionary 193 = .ok (.istore 4, 2) := by decide +kernel
theorem dX9_readDictionary_195 : decode cX9_readDictionary 195 = .ok (.aload_n 0, 1) := by decide +kernel
theorem dX9_readDictionary_196 : decode cX9_readDictionary 196 = .ok (.dup, 1) := by decide +kernel
theorem dX9_readDictionary_197 : decode cX9_readDictionary 197 = .ok (.getfield 61, 3) := by decide +kernel
theorem dX9_readDictionary_200 : decode cX9_readDictionary 200 = .ok (.iconst 1, 1) := by decide +kernel
theorem dX9_readDictionary_201 : decode cX9_readDictionary 201 = .ok (.iadd, 1) := by decide +kernel
theorem dX9_readDictionary_202 : decode cX9_readDictionary 202 = .ok (.putfield 61, 3) := by decide +kernel
theorem dX9_readDictionary_205 : decode cX9_readDictionary 205 = .ok (.aload_n 0, 1) := by decide +kernel
theorem dX9_readDictionary_206 : decode cX9_readDictionary 206 = .ok (.aload_n 0, 1) := by decide +kernel
theorem dX9_readDictionary_207 : decode cX9_readDictionary 207 = .ok (.getfield 42, 3) := by decide +kernel
theorem dX9_readDictionary_210 : decode cX9_readDictionary 210 = .ok (.iload_n 1, 1) := by decide +kernel
theorem dX9_readDictionary_211 : decode cX9_readDictionary 211 = .ok (.iload 4, 2) := by decide +kernel
theorem dX9_readDictionary_213 : decode cX9_readDictionary 213 = .ok (.aload_n 0, 1) := by decide +kernel
theorem dX9_readDictionary_214 : decode cX9_readDictionary 214 = .ok (.getfield 120, 3) := by decide +kernel
theorem dX9_readDictionary_217 : decode cX9_readDictionary 217 = .ok (.invokevirtual 193, 3) := by decide +kernel
theorem dX9_readDictionary_220 : decode cX9_readDictionary 220 = .ok (.aload_n 0, 1) := by decide +kernel
theorem dX9_readDictionary_221 : decode cX9_readDictionary 221 = .ok (.getfield 58, 3) := by decide +kernel
theorem dX9_readDictionary_224 : decode cX9_readDictionary 224 = .ok (.ifCond .ne 20, 3) := by decide +kernel
theorem dX9_readDictionary_227 : decode cX9_readDictionary 227 = .ok (.aload_n 0, 1) := by decide +kernel
theorem dX9_readDictionary_228 : decode cX9_readDictionary 228 = .ok (.getfield 61, 3) := by decide +kernel
theorem dX9_readDictionary_231 : decode cX9_readDictionary 231 = .ok (.aload_n 0, 1) := by decide +kernel
theorem dX9_readDictionary_232 : decode cX9_readDictionary 232 = .ok (.getfield 120, 3) := by decide +kernel
theorem dX9_readDictionary_235 : decode cX9_readDictionary 235 = .ok (.if_icmp .ge 9, 3) := by decide +kernel
theorem dX9_readDictionary_238 : decode cX9_readDictionary 238 = .ok (.aload_n 0, 1) := by decide +kernel
theorem dX9_readDictionary_239 : decode cX9_readDictionary 239 = .ok (.bipush 6, 2) := by decide +kernel
theorem dX9_readDictionary_241 : decode cX9_readDictionary 241 = .ok (.putfield 58, 3) := by decide +kernel
theorem dX9_readDictionary_244 : decode cX9_readDictionary 244 = .ok (.iconst 0, 1) := by decide +kernel
theorem dX9_readDictionary_245 : decode cX9_readDictionary 245 = .ok (.istore 5, 2) := by decide +kernel
theorem dX9_readDictionary_247 : decode cX9_readDictionary 247 = .ok (.iload 5, 2) := by decide +kernel
theorem dX9_readDictionary_249 : decode cX9_readDictionary 249 = .ok (.iload_n 1, 1) := by decide +kernel
theorem dX9_readDictionary_250 : decode cX9_readDictionary 250 = .ok (.if_icmp .ge 185, 3) := by decide +kernel
theorem dX9_readDictionary_253 : decode cX9_readDictionary 253 = .ok (.aload_n 0, 1) := by decide +kernel
theorem dX9_readDictionary_254 : decode cX9_readDictionary 254 = .ok (.getfield 58, 3) := by decide +kernel
theorem dX9_readDictionary_257 : decode cX9_readDictionary 257 = .ok (.ifCond .ne 178, 3) := by decide +kernel
theorem dX9_readDictionary_260 : decode cX9_readDictionary 260 = .ok (.aload_n 0, 1) := by decide +kernel
theorem dX9_readDictionary_261 : decode cX9_readDictionary 261 = .ok (.getfield 42, 3) := by decide +kernel
theorem dX9_readDictionary_264 : decode cX9_readDictionary 264 = .ok (.iload 5, 2) := by decide +kernel
theorem dX9_readDictionary_266 : decode cX9_readDictionary 266 = .ok (.iaload, 1) := by decide +kernel
theorem dX9_readDictionary_267 : decode cX9_readDictionary 267 = .ok (.istore 6, 2) := by decide +kernel
theorem dX9_readDictionary_269 : decode cX9_readDictionary 269 = .ok (.iload 6, 2) := by decide +kernel
theorem dX9_readDictionary_271 : decode cX9_readDictionary 271 = .ok (.ifCond .lt 16, 3) := by decide +kernel
theorem dX9_readDictionary_274 : decode cX9_readDictionary 274 = .ok (.iload 6, 2) := by decide +kernel
theorem dX9_readDictionary_276 : decode cX9_readDictionary 276 = .ok (.aload_n 0, 1) := by decide +kernel
theorem dX9_readDictionary_277 : decode cX9_readDictionary 277 = .ok (.getfield 190, 3) := by decide +kernel
theorem dX9_readDictionary_280 : decode cX9_readDictionary 280 = .ok (.if_icmp .ge 7, 3) := by decide +kernel
theorem dX9_readDictionary_283 : decode cX9_readDictionary 283 = .ok (.iconst 1, 1) := by decide +kernel
theorem dX9_readDictionary_284 : decode cX9_readDictionary 284 = .ok (.goto 4, 3) := by decide +kernel
theorem dX9_readDictionary_287 : decode cX9_readDictionary 287 = .ok (.iconst 0, 1) := by decide +kernel
theorem dX9_readDictionary_288 : decode cX9_readDictionary 288 = .ok (.istore 7, 2) := by decide +kernel
theorem dX9_readDictionary_290 : decode cX9_readDictionary 290 = .ok (.iload 7, 2) := by decide +kernel
theorem dX9_readDictionary_292 : decode cX9_readDictionary 292 = .ok (.ifCond .eq 23, 3) := by decide +kernel
theorem dX9_readDictionary_295 : decode cX9_readDictionary 295 = .ok (.aload_n 0, 1) := by decide +kernel
theorem dX9_readDictionary_296 : decode cX9_readDictionary 296 = .ok (.getfield 16, 3) := by decide +kernel
theorem dX9_readDictionary_299 : decode cX9_readDictionary 299 = .ok (.iload 6, 2) := by decide +kernel
theorem dX9_readDictionary_301 : decode cX9_readDictionary 301 = .ok (.iconst 1, 1) := by decide +kernel
theorem dX9_readDictionary_302 : decode cX9_readDictionary 302 = .ok (.iadd, 1) := by decide +kernel
theorem dX9_readDictionary_303 : decode cX9_readDictionary 303 = .ok (.iaload, 1) := by decide +kernel
theorem dX9_readDictionary_304 : decode cX9_readDictionary 304 = .ok (.aload_n 0, 1) := by decide +kernel
theorem dX9_readDictionary_305 : decode cX9_readDictionary 305 = .ok (.getfield 16, 3) := by decide +kernel
theorem dX9_readDictionary_308 : decode cX9_readDictionary 308 = .ok (.iload 6, 2) := by decide +kernel
theorem dX9_readDictionary_310 : decode cX9_readDictionary 310 = .ok (.iaload, 1) := by decide +kernel
theorem dX9_readDictionary_311 : decode cX9_readDictionary 311 = .ok (.isub, 1) := by decide +kernel
theorem dX9_readDictionary_312 : decode cX9_readDictionary 312 = .ok (.goto 4, 3) := by decide +kernel
theorem dX9_readDictionary_315 : decode cX9_readDictionary 315 = .ok (.iconst 0, 1) := by decide +kernel
theorem dX9_readDictionary_316 : decode cX9_readDictionary 316 = .ok (.istore 8, 2) := by decide +kernel
theorem dX9_readDictionary_318 : decode cX9_readDictionary 318 = .ok (.iload 7, 2) := by decide +kernel
theorem dX9_readDictionary_320 : decode cX9_readDictionary 320 = .ok (.ifCond .eq 21, 3) := by decide +kernel
theorem dX9_readDictionary_323 : decode cX9_readDictionary 323 = .ok (.aload_n 0, 1) := by decide +kernel
theorem dX9_readDictionary_324 : decode cX9_readDictionary 324 = .ok (.getfield 13, 3) := by decide +kernel
theorem dX9_readDictionary_327 : decode cX9_readDictionary 327 = .ok (.aload_n 0, 1) := by decide +kernel
theorem dX9_readDictionary_328 : decode cX9_readDictionary 328 = .ok (.getfield 171, 3) := by decide +kernel
theorem dX9_readDictionary_331 : decode cX9_readDictionary 331 = .ok (.iaload, 1) := by decide +kernel
theorem dX9_readDictionary_332 : decode cX9_readDictionary 332 = .ok (.iload 8, 2) := by decide +kernel
theorem dX9_readDictionary_334 : decode cX9_readDictionary 334 = .ok (.iadd, 1) := by decide +kernel
theorem dX9_readDictionary_335 : decode cX9_readDictionary 335 = .ok (.sipush 20000, 3) := by decide +kernel
theorem dX9_readDictionary_338 : decode cX9_readDictionary 338 = .ok (.if_icmp .le 10, 3) := by decide +kernel
theorem dX9_readDictionary_341 : decode cX9_readDictionary 341 = .ok (.aload_n 0, 1) := by decide +kernel
theorem dX9_readDictionary_342 : decode cX9_readDictionary 342 = .ok (.bipush 7, 2) := by decide +kernel
theorem dX9_readDictionary_344 : decode cX9_readDictionary 344 = .ok (.putfield 58, 3) := by decide +kernel
theorem dX9_readDictionary_347 : decode cX9_readDictionary 347 = .ok (.return_, 1) := by decide +kernel
theorem dX9_readDictionary_348 : decode cX9_readDictionary 348 = .ok (.iconst 0, 1) := by decide +kernel
theorem dX9_readDictionary_349 : decode cX9_readDictionary 349 = .ok (.istore 9, 2) := by decide +kernel
theorem dX9_readDictionary_351 : decode cX9_readDictionary 351 = .ok (.iload 9, 2) := by decide +kernel
theorem dX9_readDictionary_353 : decode cX9_readDictionary 353 = .ok (.iload 8, 2) := by decide +kernel
theorem dX9_readDictionary_355 : decode cX9_readDictionary 355 = .ok (.if_icmp .ge 41, 3) := by decide +kernel
theorem dX9_readDictionary_358 : decode cX9_readDictionary 358 = .ok (.aload_n 0, 1) := by decide +kernel
theorem dX9_readDictionary_359 : decode cX9_readDictionary 359 = .ok (.getfield 22, 3) := by decide +kernel
theorem dX9_readDictionary_362 : decode cX9_readDictionary 362 = .ok (.aload_n 0, 1) := by decide +kernel
theorem dX9_readDictionary_363 : decode cX9_readDictionary 363 = .ok (.getfield 13, 3) := by decide +kernel
theorem dX9_readDictionary_366 : decode cX9_readDictionary 366 = .ok (.aload_n 0, 1) := by decide +kernel
theorem dX9_readDictionary_367 : decode cX9_readDictionary 367 = .ok (.getfield 171, 3) := by decide +kernel
theorem dX9_readDictionary_370 : decode cX9_readDictionary 370 = .ok (.iaload, 1) := by decide +kernel
theorem dX9_readDictionary_371 : decode cX9_readDictionary 371 = .ok (.iload 9, 2) := by decide +kernel
theorem dX9_readDictionary_373 : decode cX9_readDictionary 373 = .ok (.iadd, 1) := by decide +kernel
theorem dX9_readDictionary_374 : decode cX9_readDictionary 374 = .ok (.aload_n 0, 1) := by decide +kernel
theorem dX9_readDictionary_375 : decode cX9_readDictionary 375 = .ok (.getfield 25, 3) := by decide +kernel
theorem dX9_readDictionary_378 : decode cX9_readDictionary 378 = .ok (.aload_n 0, 1) := by decide +kernel
theorem dX9_readDictionary_379 : decode cX9_readDictionary 379 = .ok (.getfield 16, 3) := by decide +kernel
theorem dX9_readDictionary_382 : decode cX9_readDictionary 382 = .ok (.iload 6, 2) := by decide +kernel
theorem dX9_readDictionary_384 : decode cX9_readDictionary 384 = .ok (.iaload, 1) := by decide +kernel
theorem dX9_readDictionary_385 : decode cX9_readDictionary 385 = .ok (.iload 9, 2) := by decide +kernel
theorem dX9_readDictionary_387 : decode cX9_readDictionary 387 = .ok (.iadd, 1) := by decide +kernel
theorem dX9_readDictionary_388 : decode cX9_readDictionary 388 = .ok (.iaload, 1) := by decide +kernel
theorem dX9_readDictionary_389 : decode cX9_readDictionary 389 = .ok (.iastore, 1) := by decide +kernel
theorem dX9_readDictionary_390 : decode cX9_readDictionary 390 = .ok (.iinc 9 1, 3) := by decide +kernel
theorem dX9_readDictionary_393 : decode cX9_readDictionary 393 = .ok (.goto (-42), 3) := by decide +kernel
theorem dX9_readDictionary_396 : decode cX9_readDictionary 396 = .ok (.aload_n 0, 1) := by decide +kernel
theorem dX9_readDictionary_397 : decode cX9_readDictionary 397 = .ok (.dup, 1) := by decide +kernel
theorem dX9_readDictionary_398 : decode cX9_readDictionary 398 = .ok (.getfield 171, 3) := by decide +kernel
theorem dX9_readDictionary_401 : decode cX9_readDictionary 401 = .ok (.iconst 1, 1) := by decide +kernel
theorem dX9_readDictionary_402 : decode cX9_readDictionary 402 = .ok (.iadd, 1) := by decide +kernel
theorem dX9_readDictionary_403 : decode cX9_readDictionary 403 = .ok (.putfield 171, 3) := by decide +kernel
theorem dX9_readDictionary_406 : decode cX9_readDictionary 406 = .ok (.aload_n 0, 1) := by decide +kernel
theorem dX9_readDictionary_407 : decode cX9_readDictionary 407 = .ok (.getfield 13, 3) := by decide +kernel
theorem dX9_readDictionary_410 : decode cX9_readDictionary 410 = .ok (.aload_n 0, 1) := by decide +kernel
theorem dX9_readDictionary_411 : decode cX9_readDictionary 411 = .ok (.getfield 171, 3) := by decide +kernel
theorem dX9_readDictionary_414 : decode cX9_readDictionary 414 = .ok (.aload_n 0, 1) := by decide +kernel
theorem dX9_readDictionary_415 : decode cX9_readDictionary 415 = .ok (.getfield 13, 3) := by decide +kernel
theorem dX9_readDictionary_418 : decode cX9_readDictionary 418 = .ok (.aload_n 0, 1) := by decide +kernel
theorem dX9_readDictionary_419 : decode cX9_readDictionary 419 = .ok (.getfield 171, 3) := by decide +kernel
theorem dX9_readDictionary_422 : decode cX9_readDictionary 422 = .ok (.iconst 1, 1) := by decide +kernel
theorem dX9_readDictionary_423 : decode cX9_readDictionary 423 = .ok (.isub, 1) := by decide +kernel
theorem dX9_readDictionary_424 : decode cX9_readDictionary 424 = .ok (.iaload, 1) := by decide +kernel
theorem dX9_readDictionary_425 : decode cX9_readDictionary 425 = .ok (.iload 8, 2) := by decide +kernel
theorem dX9_readDictionary_427 : decode cX9_readDictionary 427 = .ok (.iadd, 1) := by decide +kernel
theorem dX9_readDictionary_428 : decode cX9_readDictionary 428 = .ok (.iastore, 1) := by decide +kernel
theorem dX9_readDictionary_429 : decode cX9_readDictionary 429 = .ok (.iinc 5 1, 3) := by decide +kernel
theorem dX9_readDictionary_432 : decode cX9_readDictionary 432 = .ok (.goto (-185), 3) := by decide +kernel
theorem dX9_readDictionary_435 : decode cX9_readDictionary 435 = .ok (.return_, 1) := by decide +kernel
