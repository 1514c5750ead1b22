theorem dX9_put_0 : decode cX9_put 0 = .ok (.aload_n 0, 1) := by decide +kernel
theorem dX9_put_1 : decode cX9_put 1 = .ok (.getfield 35, 3) := by decide +kernel
theorem dX9_put_4 : decode cX9_put 4 = .ok (.aload_n 0, 1) := by decide +kernel
theorem dX9_put_5 : decode cX9_put 5 = .ok (.getfield 55, 3) := by decide +kernel
theorem dX9_put_8 : decode cX9_put 8 = .ok (.iload_n 1, 1) := by decide +kernel
theorem dX9_put_9 : decode cX9_put 9 = .ok (.sipush 255, 3) := by decide +kernel
theorem dX9_put_12 : decode cX9_put 12 = .ok (.iand, 1) := by decide +kernel
theorem dX9_put_13 : decode cX9_put 13 = .ok (.iastore, 1) := by decide +kernel
theorem dX9_put_14 : decode cX9_put 14 = .ok (.aload_n 0, 1) := by decide +kernel
theorem dX9_put_15 : decode cX9_put 15 = .ok (.dup, 1) := by decide +kernel
theorem dX9_put_16 : decode cX9_put 16 = .ok (.getfield 55, 3) := by decide +kernel
theorem dX9_put_19 : decode cX9_put 19 = .ok (.iconst 1, 1) := by decide +kernel
theorem dX9_put_20 : decode cX9_put 20 = .ok (.iadd, 1) := by decide +kernel
theorem dX9_put_21 : decode cX9_put 21 = .ok (.putfield 55, 3) := by decide +kernel
theorem dX9_put_24 : decode cX9_put 24 = .ok (.return_, 1) := by decide +kernel
theorem dX9_varint_0 : decode cX9_varint 0 = .ok (.lconst 0, 1) := by decide +kernel
theorem dX9_varint_1 : decode cX9_varint 1 = .ok (.lstore_n 2, 1) := by decide +kernel
theorem dX9_varint_2 : decode cX9_varint 2 = .ok (.iconst 0, 1) := by decide +kernel
theorem dX9_varint_3 : decode cX9_varint 3 = .ok (.istore 4, 2) := by decide +kernel
theorem dX9_varint_5 : decode cX9_varint 5 = .ok (.aload_n 0, 1) := by decide +kernel
theorem dX9_varint_6 : decode cX9_varint 6 = .ok (.getfield 58, 3) := by decide +kernel
theorem dX9_varint_9 : decode cX9_varint 9 = .ok (.ifCond .ne 102, 3) := by decide +kernel
theorem dX9_varint_12 : decode cX9_varint 12 = .ok (.aload_n 0, 1) := by decide +kernel
theorem dX9_varint_13 : decode cX9_varint 13 = .ok (.getfield 61, 3) := by decide +kernel
theorem dX9_varint_16 : decode cX9_varint 16 = .ok (.iload_n 1, 1) := by decide +kernel
theorem dX9_varint_17 : decode cX9_varint 17 = .ok (.if_icmp .lt 11, 3) := by decide +kernel
theorem dX9_varint_20 : decode cX9_varint 20 = .ok (.aload_n 0, 1) := by decide +kernel
theorem dX9_varint_21 : decode cX9_varint 21 = .ok (.iconst 1, 1) := by decide +kernel
theorem dX9_varint_22 : decode cX9_varint 22 = .ok (.putfield 58, 3) := by decide +kernel
theorem dX9_varint_25 : decode cX9_varint 25 = .ok (.goto (-20), 3) := by decide +kernel
theorem dX9_varint_28 : decode cX9_varint 28 = .ok (.aload_n 0, 1) := by decide +kernel
theorem dX9_varint_29 : decode cX9_varint 29 = .ok (.getfield 31, 3) := by decide +kernel
theorem dX9_varint_32 : decode cX9_varint 32 = .ok (.aload_n 0, 1) := by decide +kernel
theorem dX9_varint_33 : decode cX9_varint 33 = .ok (.getfield 61, 3) := by decide +kernel
theorem dX9_varint_36 : decode cX9_varint 36 = .ok (.iaload, 1) := by decide +kernel
theorem dX9_varint_37 : decode cX9_varint 37 = .ok (.istore 5, 2) := by decide +kernel
theorem dX9_varint_39 : decode cX9_varint 39 = .ok (.aload_n 0, 1) := by decide +kernel
theorem dX9_varint_40 : decode cX9_varint 40 = .ok (.dup, 1) := by decide +kernel
theorem dX9_varint_41 : decode cX9_varint 41 = .ok (.getfield 61, 3) := by decide +kernel
theorem dX9_varint_44 : decode cX9_varint 44 = .ok (.iconst 1, 1) := by decide +kernel
theorem dX9_varint_45 : decode cX9_varint 45 = .ok (.iadd, 1) := by decide +kernel
theorem dX9_varint_46 : decode cX9_varint 46 = .ok (.putfield 61, 3) := by decide +kernel
theorem dX9_varint_49 : decode cX9_varint 49 = .ok (.iload 4, 2) := by decide +kernel
theorem dX9_varint_51 : decode cX9_varint 51 = .ok (.bipush 9, 2) := by decide +kernel
theorem dX9_varint_53 : decode cX9_varint 53 = .ok (.if_icmp .ne 9, 3) := by decide +kernel
theorem dX9_varint_56 : decode cX9_varint 56 = .ok (.iload 5, 2) := by decide +kernel
theorem dX9_varint_58 : decode cX9_varint 58 = .ok (.iconst 1, 1) := by decide +kernel
theorem dX9_varint_59 : decode cX9_varint 59 = .ok (.if_icmp .gt 13, 3) := by decide +kernel
theorem dX9_varint_62 : decode cX9_varint 62 = .ok (.iload 4, 2) := by decide +kernel
theorem dX9_varint_64 : decode cX9_varint 64 = .ok (.ifCond .le 16, 3) := by decide +kernel
theorem dX9_varint_67 : decode cX9_varint 67 = .ok (.iload 5, 2) := by decide +kernel
theorem dX9_varint_69 : decode cX9_varint 69 = .ok (.ifCond .ne 11, 3) := by decide +kernel
theorem dX9_varint_72 : decode cX9_varint 72 = .ok (.aload_n 0, 1) := by decide +kernel
theorem dX9_varint_73 : decode cX9_varint 73 = .ok (.iconst 2, 1) := by decide +kernel
theorem dX9_varint_74 : decode cX9_varint 74 = .ok (.putfield 58, 3) := by decide +kernel
theorem dX9_varint_77 : decode cX9_varint 77 = .ok (.goto 31, 3) := by decide +kernel
theorem dX9_varint_80 : decode cX9_varint 80 = .ok (.lload_n 2, 1) := by decide +kernel
theorem dX9_varint_81 : decode cX9_varint 81 = .ok (.iload 5, 2) := by decide +kernel
theorem dX9_varint_83 : decode cX9_varint 83 = .ok (.bipush 127, 2) := by decide +kernel
theorem dX9_varint_85 : decode cX9_varint 85 = .ok (.iand, 1) := by decide +kernel
theorem dX9_varint_86 : decode cX9_varint 86 = .ok (.i2l, 1) := by decide +kernel
theorem dX9_varint_87 : decode cX9_varint 87 = .ok (.bipush 7, 2) := by decide +kernel
theorem dX9_varint_89 : decode cX9_varint 89 = .ok (.iload 4, 2) := by decide +kernel
theorem dX9_varint_91 : decode cX9_varint 91 = .ok (.imul, 1) := by decide +kernel
theorem dX9_varint_92 : decode cX9_varint 92 = .ok (.lshl, 1) := by decide +kernel
theorem dX9_varint_93 : decode cX9_varint 93 = .ok (.lor, 1) := by decide +kernel
theorem dX9_varint_94 : decode cX9_varint 94 = .ok (.lstore_n 2, 1) := by decide +kernel
theorem dX9_varint_95 : decode cX9_varint 95 = .ok (.iload 5, 2) := by decide +kernel
theorem dX9_varint_97 : decode cX9_varint 97 = .ok (.sipush 128, 3) := by decide +kernel
theorem dX9_varint_100 : decode cX9_varint 100 = .ok (.if_icmp .ge 5, 3) := by decide +kernel
theorem dX9_varint_103 : decode cX9_varint 103 = .ok (.lload_n 2, 1) := by decide +kernel
theorem dX9_varint_104 : decode cX9_varint 104 = .ok (.lreturn, 1) := by decide +kernel
theorem dX9_varint_105 : decode cX9_varint 105 = .ok (.iinc 4 1, 3) := by decide +kernel
theorem dX9_varint_108 : decode cX9_varint 108 = .ok (.goto (-103), 3) := by decide +kernel
theorem dX9_varint_111 : decode cX9_varint 111 = .ok (.lconst 0, 1) := by decide +kernel
theorem dX9_varint_112 : decode cX9_varint 112 = .ok (.lreturn, 1) := by decide +kernel
theorem dX9_putVarint_0 : decode cX9_putVarint 0 = .ok (.lload_n 1, 1) := by decide +kernel
theorem dX9_putVarint_1 : decode cX9_putVarint 1 = .ok (.lstore_n 3, 1) := by decide +kernel
theorem dX9_putVarint_2 : decode cX9_putVarint 2 = .ok (.lload_n 3, 1) := by decide +kernel
theorem dX9_putVarint_3 : decode cX9_putVarint 3 = .ok (.lconst 0, 1) := by decide +kernel
theorem dX9_putVarint_4 : decode cX9_putVarint 4 = .ok (.lcmp, 1) := by decide +kernel
theorem dX9_putVarint_5 : decode cX9_putVarint 5 = .ok (.ifCond .lt 11, 3) := by decide +kernel
theorem dX9_putVarint_8 : decode cX9_putVarint 8 = .ok (.lload_n 3, 1) := by decide +kernel
theorem dX9_putVarint_9 : decode cX9_putVarint 9 = .ok (.ldc2_w 64, 3) := by decide +kernel
theorem dX9_putVarint_12 : decode cX9_putVarint 12 = .ok (.lcmp, 1) := by decide +kernel
theorem dX9_putVarint_13 : decode cX9_putVarint 13 = .ok (.ifCond .le 25, 3) := by decide +kernel
theorem dX9_putVarint_16 : decode cX9_putVarint 16 = .ok (.aload_n 0, 1) := by decide +kernel
theorem dX9_putVarint_17 : decode cX9_putVarint 17 = .ok (.lload_n 3, 1) := by decide +kernel
theorem dX9_putVarint_18 : decode cX9_putVarint 18 = .ok (.ldc2_w 64, 3) := by decide +kernel
theorem dX9_putVarint_21 : decode cX9_putVarint 21 = .ok (.land, 1) := by decide +kernel
theorem dX9_putVarint_22 : decode cX9_putVarint 22 = .ok (.l2i, 1) := by decide +kernel
theorem dX9_putVarint_23 : decode cX9_putVarint 23 = .ok (.sipush 128, 3) := by decide +kernel
theorem dX9_putVarint_26 : decode cX9_putVarint 26 = .ok (.iadd, 1) := by decide +kernel
theorem dX9_putVarint_27 : decode cX9_putVarint 27 = .ok (.invokevirtual 66, 3) := by decide +kernel
theorem dX9_putVarint_30 : decode cX9_putVarint 30 = .ok (.lload_n 3, 1) := by decide +kernel
theorem dX9_putVarint_31 : decode cX9_putVarint 31 = .ok (.bipush 7, 2) := by decide +kernel
theorem dX9_putVarint_33 : decode cX9_putVarint 33 = .ok (.lushr, 1) := by decide +kernel
theorem dX9_putVarint_34 : decode cX9_putVarint 34 = .ok (.lstore_n 3, 1) := by decide +kernel
theorem dX9_putVarint_35 : decode cX9_putVarint 35 = .ok (.goto (-33), 3) := by decide +kernel
theorem dX9_putVarint_38 : decode cX9_putVarint 38 = .ok (.aload_n 0, 1) := by decide +kernel
theorem dX9_putVarint_39 : decode cX9_putVarint 39 = .ok (.lload_n 3, 1) := by decide +kernel
theorem dX9_putVarint_40 : decode cX9_putVarint 40 = .ok (.l2i, 1) := by decide +kernel
theorem dX9_putVarint_41 : decode cX9_putVarint 41 = .ok (.invokevirtual 66, 3) := by decide +kernel
theorem dX9_putVarint_44 : decode cX9_putVarint 44 = .ok (.return_, 1) := by decide +kernel
theorem dX9_alike_0 : decode cX9_alike 0 = .ok (.iload_n 1, 1) := by decide +kernel
theorem dX9_alike_1 : decode cX9_alike 1 = .ok (.istore_n 3, 1) := by decide +kernel
theorem dX9_alike_2 : decode cX9_alike 2 = .ok (.iload_n 3, 1) := by decide +kernel
theorem dX9_alike_3 : decode cX9_alike 3 = .ok (.iload_n 2, 1) := by decide +kernel
theorem dX9_alike_4 : decode cX9_alike 4 = .ok (.if_icmp .ge 18, 3) := by decide +kernel
theorem dX9_alike_7 : decode cX9_alike 7 = .ok (.aload_n 0, 1) := by decide +kernel
theorem dX9_alike_8 : decode cX9_alike 8 = .ok (.iload_n 3, 1) := by decide +kernel
theorem dX9_alike_9 : decode cX9_alike 9 = .ok (.iaload, 1) := by decide +kernel
theorem dX9_alike_10 : decode cX9_alike 10 = .ok (.aload_n 0, 1) := by decide +kernel
theorem dX9_alike_11 : decode cX9_alike 11 = .ok (.iload_n 1, 1) := by decide +kernel
theorem dX9_alike_12 : decode cX9_alike 12 = .ok (.iaload, 1) := by decide +kernel
theorem dX9_alike_13 : decode cX9_alike 13 = .ok (.if_icmp .ne 9, 3) := by decide +kernel
theorem dX9_alike_16 : decode cX9_alike 16 = .ok (.iinc 3 1, 3) := by decide +kernel
theorem dX9_alike_19 : decode cX9_alike 19 = .ok (.goto (-17), 3) := by decide +kernel
theorem dX9_alike_22 : decode cX9_alike 22 = .ok (.iload_n 3, 1) := by decide +kernel
theorem dX9_alike_23 : decode cX9_alike 23 = .ok (.iload_n 1, 1) := by decide +kernel
theorem dX9_alike_24 : decode cX9_alike 24 = .ok (.isub, 1) := by decide +kernel
theorem dX9_alike_25 : decode cX9_alike 25 = .ok (.ireturn, 1) := by decide +kernel
theorem dX9_writeRuns_0 : decode cX9_writeRuns 0 = .ok (.iconst 0, 1) := by decide +kernel
theorem dX9_writeRuns_1 : decode cX9_writeRuns 1 = .ok (.istore 4, 2) := by decide +kernel
theorem dX9_writeRuns_3 : decode cX9_writeRuns 3 = .ok (.iload 4, 2) := by decide +kernel
theorem dX9_writeRuns_5 : decode cX9_writeRuns 5 = .ok (.iload_n 2, 1) := by decide +kernel
theorem dX9_writeRuns_6 : decode cX9_writeRuns 6 = .ok (.if_icmp .ge 217, 3) := by decide +kernel
theorem dX9_writeRuns_9 : decode cX9_writeRuns 9 = .ok (.aload_n 1, 1) := by decide +kernel
theorem dX9_writeRuns_10 : decode cX9_writeRuns 10 = .ok (.iload 4, 2) := by decide +kernel
theorem dX9_writeRuns_12 : decode cX9_writeRuns 12 = .ok (.iload_n 2, 1) := by decide +kernel
theorem dX9_writeRuns_13 : decode cX9_writeRuns 13 = .ok (.invokestatic 70, 3) := by decide +kernel
theorem dX9_writeRuns_16 : decode cX9_writeRuns 16 = .ok (.istore 5, 2) := by decide +kernel
theorem dX9_writeRuns_18 : decode cX9_writeRuns 18 = .ok (.iload 5, 2) := by decide +kernel
theorem dX9_writeRuns_20 : decode cX9_writeRuns 20 = .ok (.bipush 8, 2) := by decide +kernel
theorem dX9_writeRuns_22 : decode cX9_writeRuns 22 = .ok (.if_icmp .lt 50, 3) := by decide +kernel
theorem dX9_writeRuns_25 : decode cX9_writeRuns 25 = .ok (.aload_n 0, 1) := by decide +kernel
theorem dX9_writeRuns_26 : decode cX9_writeRuns 26 = .ok (.ldc2_w 74, 3) := by decide +kernel
theorem dX9_writeRuns_29 : decode cX9_writeRuns 29 = .ok (.iload 5, 2) := by decide +kernel
theorem dX9_writeRuns_31 : decode cX9_writeRuns 31 = .ok (.i2l, 1) := by decide +kernel
theorem dX9_writeRuns_32 : decode cX9_writeRuns 32 = .ok (.lmul, 1) := by decide +kernel
theorem dX9_writeRuns_33 : decode cX9_writeRuns 33 = .ok (.invokevirtual 76, 3) := by decide +kernel
theorem dX9_writeRuns_36 : decode cX9_writeRuns 36 = .ok (.iconst 0, 1) := by decide +kernel
theorem dX9_writeRuns_37 : decode cX9_writeRuns 37 = .ok (.istore 6, 2) := by decide +kernel
theorem dX9_writeRuns_39 : decode cX9_writeRuns 39 = .ok (.iload 6, 2) := by decide +kernel
theorem dX9_writeRuns_41 : decode cX9_writeRuns 41 = .ok (.iload_n 3, 1) := by decide +kernel
theorem dX9_writeRuns_42 : decode cX9_writeRuns 42 = .ok (.if_icmp .ge 20, 3) := by decide +kernel
theorem dX9_writeRuns_45 : decode cX9_writeRuns 45 = .ok (.aload_n 0, 1) := by decide +kernel
theorem dX9_writeRuns_46 : decode cX9_writeRuns 46 = .ok (.aload_n 1, 1) := by decide +kernel
theorem dX9_writeRuns_47 : decode cX9_writeRuns 47 = .ok (.iload 4, 2) := by decide +kernel
theorem dX9_writeRuns_49 : decode cX9_writeRuns 49 = .ok (.iaload, 1) := by decide +kernel
theorem dX9_writeRuns_50 : decode cX9_writeRuns 50 = .ok (.iload 6, 2) := by decide +kernel
theorem dX9_writeRuns_52 : decode cX9_writeRuns 52 = .ok (.ishr, 1) := by decide +kernel
theorem dX9_writeRuns_53 : decode cX9_writeRuns 53 = .ok (.invokevirtual 66, 3) := by decide +kernel
theorem dX9_writeRuns_56 : decode cX9_writeRuns 56 = .ok (.iinc 6 8, 3) := by decide +kernel
theorem dX9_writeRuns_59 : decode cX9_writeRuns 59 = .ok (.goto (-20), 3) := by decide +kernel
theorem dX9_writeRuns_62 : decode cX9_writeRuns 62 = .ok (.iload 4, 2) := by decide +kernel
theorem dX9_writeRuns_64 : decode cX9_writeRuns 64 = .ok (.iload 5, 2) := by decide +kernel
theorem dX9_writeRuns_66 : decode cX9_writeRuns 66 = .ok (.iadd, 1) := by decide +kernel
theorem dX9_writeRuns_67 : decode cX9_writeRuns 67 = .ok (.istore 4, 2) := by decide +kernel
theorem dX9_writeRuns_69 : decode cX9_writeRuns 69 = .ok (.goto (-66), 3) := by decide +kernel
theorem dX9_writeRuns_72 : decode cX9_writeRuns 72 = .ok (.iconst 1, 1) := by decide +kernel
theorem dX9_writeRuns_73 : decode cX9_writeRuns 73 = .ok (.istore 6, 2) := by decide +kernel
theorem dX9_writeRuns_75 : decode cX9_writeRuns 75 = .ok (.iload 4, 2) := by decide +kernel
theorem dX9_writeRuns_77 : decode cX9_writeRuns 77 = .ok (.bipush 8, 2) := by decide +kernel
theorem dX9_writeRuns_79 : decode cX9_writeRuns 79 = .ok (.iload 6, 2) := by decide +kernel
theorem dX9_writeRuns_81 : decode cX9_writeRuns 81 = .ok (.imul, 1) := by decide +kernel
theorem dX9_writeRuns_82 : decode cX9_writeRuns 82 = .ok (.iadd, 1) := by decide +kernel
theorem dX9_writeRuns_83 : decode cX9_writeRuns 83 = .ok (.iload_n 2, 1) := by decide +kernel
theorem dX9_writeRuns_84 : decode cX9_writeRuns 84 = .ok (.if_icmp .ge 27, 3) := by decide +kernel
theorem dX9_writeRuns_87 : decode cX9_writeRuns 87 = .ok (.aload_n 1, 1) := by decide +kernel
theorem dX9_writeRuns_88 : decode cX9_writeRuns 88 = .ok (.iload 4, 2) := by decide +kernel
theorem dX9_writeRuns_90 : decode cX9_writeRuns 90 = .ok (.bipush 8, 2) := by decide +kernel
theorem dX9_writeRuns_92 : decode cX9_writeRuns 92 = .ok (.iload 6, 2) := by decide +kernel
theorem dX9_writeRuns_94 : decode cX9_writeRuns 94 = .ok (.imul, 1) := by decide +kernel
theorem dX9_writeRuns_95 : decode cX9_writeRuns 95 = .ok (.iadd, 1) := by decide +kernel
theorem dX9_writeRuns_96 : decode cX9_writeRuns 96 = .ok (.iload_n 2, 1) := by decide +kernel
theorem dX9_writeRuns_97 : decode cX9_writeRuns 97 = .ok (.invokestatic 70, 3) := by decide +kernel
theorem dX9_writeRuns_100 : decode cX9_writeRuns 100 = .ok (.bipush 8, 2) := by decide +kernel
theorem dX9_writeRuns_102 : decode cX9_writeRuns 102 = .ok (.if_icmp .ge 9, 3) := by decide +kernel
theorem dX9_writeRuns_105 : decode cX9_writeRuns 105 = .ok (.iinc 6 1, 3) := by decide +kernel
theorem dX9_writeRuns_108 : decode cX9_writeRuns 108 = .ok (.goto (-33), 3) := by decide +kernel
theorem dX9_writeRuns_111 : decode cX9_writeRuns 111 = .ok (.aload_n 0, 1) := by decide +kernel
theorem dX9_writeRuns_112 : decode cX9_writeRuns 112 = .ok (.ldc2_w 74, 3) := by decide +kernel
theorem dX9_writeRuns_115 : decode cX9_writeRuns 115 = .ok (.iload 6, 2) := by decide +kernel
theorem dX9_writeRuns_117 : decode cX9_writeRuns 117 = .ok (.i2l, 1) := by decide +kernel
theorem dX9_writeRuns_118 : decode cX9_writeRuns 118 = .ok (.lmul, 1) := by decide +kernel
theorem dX9_writeRuns_119 : decode cX9_writeRuns 119 = .ok (.lconst 1, 1) := by decide +kernel
theorem dX9_writeRuns_120 : decode cX9_writeRuns 120 = .ok (.ladd, 1) := by decide +kernel
theorem dX9_writeRuns_121 : decode cX9_writeRuns 121 = .ok (.invokevirtual 76, 3) := by decide +kernel
theorem dX9_writeRuns_124 : decode cX9_writeRuns 124 = .ok (.iconst 0, 1) := by decide +kernel
theorem dX9_writeRuns_125 : decode cX9_writeRuns 125 = .ok (.istore 7, 2) := by decide +kernel
theorem dX9_writeRuns_127 : decode cX9_writeRuns 127 = .ok (.iload 7, 2) := by decide +kernel
theorem dX9_writeRuns_129 : decode cX9_writeRuns 129 = .ok (.bipush 8, 2) := by decide +kernel
theorem dX9_writeRuns_131 : decode cX9_writeRuns 131 = .ok (.iload_n 3, 1) := by decide +kernel
theorem dX9_writeRuns_132 : decode cX9_writeRuns 132 = .ok (.imul, 1) := by decide +kernel
theorem dX9_writeRuns_133 : decode cX9_writeRuns 133 = .ok (.iload 6, 2) := by decide +kernel
theorem dX9_writeRuns_135 : decode cX9_writeRuns 135 = .ok (.imul, 1) := by decide +kernel
theorem dX9_writeRuns_136 : decode cX9_writeRuns 136 = .ok (.if_icmp .ge 74, 3) := by decide +kernel
theorem dX9_writeRuns_139 : decode cX9_writeRuns 139 = .ok (.iconst 0, 1) := by decide +kernel
theorem dX9_writeRuns_140 : decode cX9_writeRuns 140 = .ok (.istore 8, 2) := by decide +kernel
theorem dX9_writeRuns_142 : decode cX9_writeRuns 142 = .ok (.iconst 0, 1) := by decide +kernel
theorem dX9_writeRuns_143 : decode cX9_writeRuns 143 = .ok (.istore 9, 2) := by decide +kernel
theorem dX9_writeRuns_145 : decode cX9_writeRuns 145 = .ok (.iload 9, 2) := by decide +kernel
theorem dX9_writeRuns_147 : decode cX9_writeRuns 147 = .ok (.bipush 8, 2) := by decide +kernel
theorem dX9_writeRuns_149 : decode cX9_writeRuns 149 = .ok (.if_icmp .ge 49, 3) := by decide +kernel
theorem dX9_writeRuns_152 : decode cX9_writeRuns 152 = .ok (.iload 4, 2) := by decide +kernel
theorem dX9_writeRuns_154 : decode cX9_writeRuns 154 = .ok (.iload 7, 2) := by decide +kernel
theorem dX9_writeRuns_156 : decode cX9_writeRuns 156 = .ok (.iload 9, 2) := by decide +kernel
theorem dX9_writeRuns_158 : decode cX9_writeRuns 158 = .ok (.iadd, 1) := by decide +kernel
theorem dX9_writeRuns_159 : decode cX9_writeRuns 159 = .ok (.iload_n 3, 1) := by decide +kernel
theorem dX9_writeRuns_160 : decode cX9_writeRuns 160 = .ok (.idiv, 1) := by decide +kernel
theorem dX9_writeRuns_161 : decode cX9_writeRuns 161 = .ok (.iadd, 1) := by decide +kernel
theorem dX9_writeRuns_162 : decode cX9_writeRuns 162 = .ok (.istore 10, 2) := by decide +kernel
theorem dX9_writeRuns_164 : decode cX9_writeRuns 164 = .ok (.iload 10, 2) := by decide +kernel
theorem dX9_writeRuns_166 : decode cX9_writeRuns 166 = .ok (.iload_n 2, 1) := by decide +kernel
theorem dX9_writeRuns_167 : decode cX9_writeRuns 167 = .ok (.if_icmp .ge 25, 3) := by decide +kernel
theorem dX9_writeRuns_170 : decode cX9_writeRuns 170 = .ok (.iload 8, 2) := by decide +kernel
theorem dX9_writeRuns_172 : decode cX9_writeRuns 172 = .ok (.aload_n 1, 1) := by decide +kernel
theorem dX9_writeRuns_173 : decode cX9_writeRuns 173 = .ok (.iload 10, 2) := by decide +kernel
theorem dX9_writeRuns_175 : decode cX9_writeRuns 175 = .ok (.iaload, 1) := by decide +kernel
theorem dX9_writeRuns_176 : decode cX9_writeRuns 176 = .ok (.iload 7, 2) := by decide +kernel
theorem dX9_writeRuns_178 : decode cX9_writeRuns 178 = .ok (.iload 9, 2) := by decide +kernel
theorem dX9_writeRuns_180 : decode cX9_writeRuns 180 = .ok (.iadd, 1) := by decide +kernel
theorem dX9_writeRuns_181 : decode cX9_writeRuns 181 = .ok (.iload_n 3, 1) := by decide +kernel
theorem dX9_writeRuns_182 : decode cX9_writeRuns 182 = .ok (.irem, 1) := by decide +kernel
theorem dX9_writeRuns_183 : decode cX9_writeRuns 183 = .ok (.iushr, 1) := by decide +kernel
theorem dX9_writeRuns_184 : decode cX9_writeRuns 184 = .ok (.iconst 1, 1) := by decide +kernel
theorem dX9_writeRuns_185 : decode cX9_writeRuns 185 = .ok (.iand, 1) := by decide +kernel
theorem dX9_writeRuns_186 : decode cX9_writeRuns 186 = .ok (.iload 9, 2) := by decide +kernel
theorem dX9_writeRuns_188 : decode cX9_writeRuns 188 = .ok (.ishl, 1) := by decide +kernel
theorem dX9_writeRuns_189 : decode cX9_writeRuns 189 = .ok (.ior, 1) := by decide +kernel
theorem dX9_writeRuns_190 : decode cX9_writeRuns 190 = .ok (.istore 8, 2) := by decide +kernel
theorem dX9_writeRuns_192 : decode cX9_writeRuns 192 = .ok (.iinc 9 1, 3) := by decide +kernel
theorem dX9_writeRuns_195 : decode cX9_writeRuns 195 = .ok (.goto (-50), 3) := by decide +kernel
theorem dX9_writeRuns_198 : decode cX9_writeRuns 198 = .ok (.aload_n 0, 1) := by decide +kernel
theorem dX9_writeRuns_199 : decode cX9_writeRuns 199 = .ok (.iload 8, 2) := by decide +kernel
theorem dX9_writeRuns_201 : decode cX9_writeRuns 201 = .ok (.invokevirtual 66, 3) := by decide +kernel
theorem dX9_writeRuns_204 : decode cX9_writeRuns 204 = .ok (.iinc 7 8, 3) := by decide +kernel
theorem dX9_writeRuns_207 : decode cX9_writeRuns 207 = .ok (.goto (-80), 3) := by decide +kernel
theorem dX9_writeRuns_210 : decode cX9_writeRuns 210 = .ok (.iload 4, 2) := by decide +kernel
theorem dX9_writeRuns_212 : decode cX9_writeRuns 212 = .ok (.bipush 8, 2) := by decide +kernel
theorem dX9_writeRuns_214 : decode cX9_writeRuns 214 = .ok (.iload 6, 2) := by decide +kernel
theorem dX9_writeRuns_216 : decode cX9_writeRuns 216 = .ok (.imul, 1) := by decide +kernel
theorem dX9_writeRuns_217 : decode cX9_writeRuns 217 = .ok (.iadd, 1) := by decide +kernel
theorem dX9_writeRuns_218 : decode cX9_writeRuns 218 = .ok (.istore 4, 2) := by decide +kernel
theorem dX9_writeRuns_220 : decode cX9_writeRuns 220 = .ok (.goto (-217), 3) := by decide +kernel
theorem dX9_writeRuns_223 : decode cX9_writeRuns 223 = .ok (.return_, 1) := by decide +kernel
theorem dX9_bitsAt_0 : decode cX9_bitsAt 0 = .ok (.iconst 0, 1) := by decide +kernel
theorem dX9_bitsAt_1 : decode cX9_bitsAt 1 = .ok (.istore 4, 2) := by decide +kernel
theorem dX9_bitsAt_3 : decode cX9_bitsAt 3 = .ok (.iconst 0, 1) := by decide +kernel
theorem dX9_bitsAt_4 : decode cX9_bitsAt 4 = .ok (.istore 5, 2) := by decide +kernel
theorem dX9_bitsAt_6 : decode cX9_bitsAt 6 = .ok (.iload 5, 2) := by decide +kernel
theorem dX9_bitsAt_8 : decode cX9_bitsAt 8 = .ok (.iload_n 3, 1) := by decide +kernel
theorem dX9_bitsAt_9 : decode cX9_bitsAt 9 = .ok (.if_icmp .ge 41, 3) := by decide +kernel
theorem dX9_bitsAt_12 : decode cX9_bitsAt 12 = .ok (.iload 4, 2) := by decide +kernel
theorem dX9_bitsAt_14 : decode cX9_bitsAt 14 = .ok (.aload_n 0, 1) := by decide +kernel
theorem dX9_bitsAt_15 : decode cX9_bitsAt 15 = .ok (.getfield 31, 3) := by decide +kernel
theorem dX9_bitsAt_18 : decode cX9_bitsAt 18 = .ok (.iload_n 1, 1) := by decide +kernel
theorem dX9_bitsAt_19 : decode cX9_bitsAt 19 = .ok (.iload_n 2, 1) := by decide +kernel
theorem dX9_bitsAt_20 : decode cX9_bitsAt 20 = .ok (.iload 5, 2) := by decide +kernel
theorem dX9_bitsAt_22 : decode cX9_bitsAt 22 = .ok (.iadd, 1) := by decide +kernel
theorem dX9_bitsAt_23 : decode cX9_bitsAt 23 = .ok (.bipush 8, 2) := by decide +kernel
theorem dX9_bitsAt_25 : decode cX9_bitsAt 25 = .ok (.idiv, 1) := by decide +kernel
theorem dX9_bitsAt_26 : decode cX9_bitsAt 26 = .ok (.iadd, 1) := by decide +kernel
theorem dX9_bitsAt_27 : decode cX9_bitsAt 27 = .ok (.iaload, 1) := by decide +kernel
theorem dX9_bitsAt_28 : decode cX9_bitsAt 28 = .ok (.iload_n 2, 1) := by decide +kernel
theorem dX9_bitsAt_29 : decode cX9_bitsAt 29 = .ok (.iload 5, 2) := by decide +kernel
theorem dX9_bitsAt_31 : decode cX9_bitsAt 31 = .ok (.iadd, 1) := by decide +kernel
theorem dX9_bitsAt_32 : decode cX9_bitsAt 32 = .ok (.bipush 8, 2) := by decide +kernel
theorem dX9_bitsAt_34 : decode cX9_bitsAt 34 = .ok (.irem, 1) := by decide +kernel
theorem dX9_bitsAt_35 : decode cX9_bitsAt 35 = .ok (.ishr, 1) := by decide +kernel
theorem dX9_bitsAt_36 : decode cX9_bitsAt 36 = .ok (.iconst 1, 1) := by decide +kernel
theorem dX9_bitsAt_37 : decode cX9_bitsAt 37 = .ok (.iand, 1) := by decide +kernel
theorem dX9_bitsAt_38 : decode cX9_bitsAt 38 = .ok (.iload 5, 2) := by decide +kernel
theorem dX9_bitsAt_40 : decode cX9_bitsAt 40 = .ok (.ishl, 1) := by decide +kernel
theorem dX9_bitsAt_41 : decode cX9_bitsAt 41 = .ok (.ior, 1) := by decide +kernel
theorem dX9_bitsAt_42 : decode cX9_bitsAt 42 = .ok (.istore 4, 2) := by decide +kernel
theorem dX9_bitsAt_44 : decode cX9_bitsAt 44 = .ok (.iinc 5 1, 3) := by decide +kernel
theorem dX9_bitsAt_47 : decode cX9_bitsAt 47 = .ok (.goto (-41), 3) := by decide +kernel
theorem dX9_bitsAt_50 : decode cX9_bitsAt 50 = .ok (.iload 4, 2) := by decide +kernel
theorem dX9_bitsAt_52 : decode cX9_bitsAt 52 = .ok (.ireturn, 1) := by decide +kernel
theorem dX9_readRuns_0 : decode cX9_readRuns 0 = .ok (.iconst 0, 1) := by decide +kernel
theorem dX9_readRuns_1 : decode cX9_readRuns 1 = .ok (.istore 5, 2) := by decide +kernel
theorem dX9_readRuns_3 : decode cX9_readRuns 3 = .ok (.iload 5, 2) := by decide +kernel
theorem dX9_readRuns_5 : decode cX9_readRuns 5 = .ok (.iload_n 2, 1) := by decide +kernel
theorem dX9_readRuns_6 : decode cX9_readRuns 6 = .ok (.if_icmp .ge 92, 3) := by decide +kernel
theorem dX9_readRuns_9 : decode cX9_readRuns 9 = .ok (.aload_n 0, 1) := by decide +kernel
theorem dX9_readRuns_10 : decode cX9_readRuns 10 = .ok (.getfield 58, 3) := by decide +kernel
theorem dX9_readRuns_13 : decode cX9_readRuns 13 = .ok (.ifCond .ne 85, 3) := by decide +kernel
theorem dX9_readRuns_16 : decode cX9_readRuns 16 = .ok (.aload_n 0, 1) := by decide +kernel
theorem dX9_readRuns_17 : decode cX9_readRuns 17 = .ok (.iload 4, 2) := by decide +kernel
theorem dX9_readRuns_19 : decode cX9_readRuns 19 = .ok (.invokevirtual 80, 3) := by decide +kernel
theorem dX9_readRuns_22 : decode cX9_readRuns 22 = .ok (.lstore 6, 2) := by decide +kernel
theorem dX9_readRuns_24 : decode cX9_readRuns 24 = .ok (.aload_n 0, 1) := by decide +kernel
theorem dX9_readRuns_25 : decode cX9_readRuns 25 = .ok (.getfield 58, 3) := by decide +kernel
theorem dX9_readRuns_28 : decode cX9_readRuns 28 = .ok (.ifCond .eq 4, 3) := by decide +kernel
theorem dX9_readRuns_31 : decode cX9_readRuns 31 = .ok (.return_, 1) := by decide +kernel
theorem dX9_readRuns_32 : decode cX9_readRuns 32 = .ok (.lload 6, 2) := by decide +kernel
theorem dX9_readRuns_34 : decode cX9_readRuns 34 = .ok (.iconst 1, 1) := by decide +kernel
theorem dX9_readRuns_35 : decode cX9_readRuns 35 = .ok (.lushr, 1) := by decide +kernel
theorem dX9_readRuns_36 : decode cX9_readRuns 36 = .ok (.lstore 8, 2) := by decide +kernel
theorem dX9_readRuns_38 : decode cX9_readRuns 38 = .ok (.lload 8, 2) := by decide +kernel
theorem dX9_readRuns_40 : decode cX9_readRuns 40 = .ok (.lconst 0, 1) := by decide +kernel
theorem dX9_readRuns_41 : decode cX9_readRuns 41 = .ok (.lcmp, 1) := by decide +kernel
theorem dX9_readRuns_42 : decode cX9_readRuns 42 = .ok (.ifCond .ne 11, 3) := by decide +kernel
theorem dX9_readRuns_45 : decode cX9_readRuns 45 = .ok (.aload_n 0, 1) := by decide +kernel
theorem dX9_readRuns_46 : decode cX9_readRuns 46 = .ok (.iconst 3, 1) := by decide +kernel
theorem dX9_readRuns_47 : decode cX9_readRuns 47 = .ok (.putfield 58, 3) := by decide +kernel
theorem dX9_readRuns_50 : decode cX9_readRuns 50 = .ok (.goto 45, 3) := by decide +kernel
theorem dX9_readRuns_53 : decode cX9_readRuns 53 = .ok (.lload 6, 2) := by decide +kernel
theorem dX9_readRuns_55 : decode cX9_readRuns 55 = .ok (.lconst 1, 1) := by decide +kernel
theorem dX9_readRuns_56 : decode cX9_readRuns 56 = .ok (.land, 1) := by decide +kernel
theorem dX9_readRuns_57 : decode cX9_readRuns 57 = .ok (.lconst 0, 1) := by decide +kernel
theorem dX9_readRuns_58 : decode cX9_readRuns 58 = .ok (.lcmp, 1) := by decide +kernel
theorem dX9_readRuns_59 : decode cX9_readRuns 59 = .ok (.ifCond .ne 21, 3) := by decide +kernel
theorem dX9_readRuns_62 : decode cX9_readRuns 62 = .ok (.aload_n 0, 1) := by decide +kernel
theorem dX9_readRuns_63 : decode cX9_readRuns 63 = .ok (.aload_n 1, 1) := by decide +kernel
theorem dX9_readRuns_64 : decode cX9_readRuns 64 = .ok (.iload 5, 2) := by decide +kernel
theorem dX9_readRuns_66 : decode cX9_readRuns 66 = .ok (.iload_n 2, 1) := by decide +kernel
theorem dX9_readRuns_67 : decode cX9_readRuns 67 = .ok (.iload_n 3, 1) := by decide +kernel
theorem dX9_readRuns_68 : decode cX9_readRuns 68 = .ok (.iload 4, 2) := by decide +kernel
theorem dX9_readRuns_70 : decode cX9_readRuns 70 = .ok (.lload 8, 2) := by decide +kernel
theorem dX9_readRuns_72 : decode cX9_readRuns 72 = .ok (.invokevirtual 84, 3) := by decide +kernel
theorem dX9_readRuns_75 : decode cX9_readRuns 75 = .ok (.istore 5, 2) := by decide +kernel
theorem dX9_readRuns_77 : decode cX9_readRuns 77 = .ok (.goto 18, 3) := by decide +kernel
theorem dX9_readRuns_80 : decode cX9_readRuns 80 = .ok (.aload_n 0, 1) := by decide +kernel
theorem dX9_readRuns_81 : decode cX9_readRuns 81 = .ok (.aload_n 1, 1) := by decide +kernel
theorem dX9_readRuns_82 : decode cX9_readRuns 82 = .ok (.iload 5, 2) := by decide +kernel
theorem dX9_readRuns_84 : decode cX9_readRuns 84 = .ok (.iload_n 2, 1) := by decide +kernel
theorem dX9_readRuns_85 : decode cX9_readRuns 85 = .ok (.iload_n 3, 1) := by decide +kernel
theorem dX9_readRuns_86 : decode cX9_readRuns 86 = .ok (.iload 4, 2) := by decide +kernel
theorem dX9_readRuns_88 : decode cX9_readRuns 88 = .ok (.lload 8, 2) := by decide +kernel
theorem dX9_readRuns_90 : decode cX9_readRuns 90 = .ok (.invokevirtual 88, 3) := by decide +kernel
theorem dX9_readRuns_93 : decode cX9_readRuns 93 = .ok (.istore 5, 2) := by decide +kernel
theorem dX9_readRuns_95 : decode cX9_readRuns 95 = .ok (.goto (-92), 3) := by decide +kernel
theorem dX9_readRuns_98 : decode cX9_readRuns 98 = .ok (.return_, 1) := by decide +kernel
theorem dX9_readOne_0 : decode cX9_readOne 0 = .ok (.iload 4, 2) := by decide +kernel
theorem dX9_readOne_2 : decode cX9_readOne 2 = .ok (.bipush 7, 2) := by decide +kernel
theorem dX9_readOne_4 : decode cX9_readOne 4 = .ok (.iadd, 1) := by decide +kernel
theorem dX9_readOne_5 : decode cX9_readOne 5 = .ok (.bipush 8, 2) := by decide +kernel
theorem dX9_readOne_7 : decode cX9_readOne 7 = .ok (.idiv, 1) := by decide +kernel
theorem dX9_readOne_8 : decode cX9_readOne 8 = .ok (.istore 8, 2) := by decide +kernel
theorem dX9_readOne_10 : decode cX9_readOne 10 = .ok (.lload 6, 2) := by decide +kernel
theorem dX9_readOne_12 : decode cX9_readOne 12 = .ok (.iload_n 3, 1) := by decide +kernel
theorem dX9_readOne_13 : decode cX9_readOne 13 = .ok (.iload_n 2, 1) := by decide +kernel
theorem dX9_readOne_14 : decode cX9_readOne 14 = .ok (.isub, 1) := by decide +kernel
theorem dX9_readOne_15 : decode cX9_readOne 15 = .ok (.i2l, 1) := by decide +kernel
theorem dX9_readOne_16 : decode cX9_readOne 16 = .ok (.lcmp, 1) := by decide +kernel
theorem dX9_readOne_17 : decode cX9_readOne 17 = .ok (.ifCond .le 11, 3) := by decide +kernel
theorem dX9_readOne_20 : decode cX9_readOne 20 = .ok (.aload_n 0, 1) := by decide +kernel
theorem dX9_readOne_21 : decode cX9_readOne 21 = .ok (.iconst 4, 1) := by decide +kernel
theorem dX9_readOne_22 : decode cX9_readOne 22 = .ok (.putfield 58, 3) := by decide +kernel
theorem dX9_readOne_25 : decode cX9_readOne 25 = .ok (.goto 20, 3) := by decide +kernel
theorem dX9_readOne_28 : decode cX9_readOne 28 = .ok (.iload 5, 2) := by decide +kernel
theorem dX9_readOne_30 : decode cX9_readOne 30 = .ok (.aload_n 0, 1) := by decide +kernel
theorem dX9_readOne_31 : decode cX9_readOne 31 = .ok (.getfield 61, 3) := by decide +kernel
theorem dX9_readOne_34 : decode cX9_readOne 34 = .ok (.isub, 1) := by decide +kernel
theorem dX9_readOne_35 : decode cX9_readOne 35 = .ok (.iload 8, 2) := by decide +kernel
theorem dX9_readOne_37 : decode cX9_readOne 37 = .ok (.if_icmp .ge 8, 3) := by decide +kernel
theorem dX9_readOne_40 : decode cX9_readOne 40 = .ok (.aload_n 0, 1) := by decide +kernel
theorem dX9_readOne_41 : decode cX9_readOne 41 = .ok (.iconst 1, 1) := by decide +kernel
theorem dX9_readOne_42 : decode cX9_readOne 42 = .ok (.putfield 58, 3) := by decide +kernel
theorem dX9_readOne_45 : decode cX9_readOne 45 = .ok (.aload_n 0, 1) := by decide +kernel
theorem dX9_readOne_46 : decode cX9_readOne 46 = .ok (.getfield 58, 3) := by decide +kernel
theorem dX9_readOne_49 : decode cX9_readOne 49 = .ok (.ifCond .eq 5, 3) := by decide +kernel
theorem dX9_readOne_52 : decode cX9_readOne 52 = .ok (.iload_n 2, 1) := by decide +kernel
theorem dX9_readOne_53 : decode cX9_readOne 53 = .ok (.ireturn, 1) := by decide +kernel
theorem dX9_readOne_54 : decode cX9_readOne 54 = .ok (.aload_n 0, 1) := by decide +kernel
theorem dX9_readOne_55 : decode cX9_readOne 55 = .ok (.aload_n 0, 1) := by decide +kernel
theorem dX9_readOne_56 : decode cX9_readOne 56 = .ok (.getfield 61, 3) := by decide +kernel
theorem dX9_readOne_59 : decode cX9_readOne 59 = .ok (.iconst 0, 1) := by decide +kernel
theorem dX9_readOne_60 : decode cX9_readOne 60 = .ok (.iload 4, 2) := by decide +kernel
theorem dX9_readOne_62 : decode cX9_readOne 62 = .ok (.invokevirtual 91, 3) := by decide +kernel
theorem dX9_readOne_65 : decode cX9_readOne 65 = .ok (.istore 9, 2) := by decide +kernel
theorem dX9_readOne_67 : decode cX9_readOne 67 = .ok (.iload 4, 2) := by decide +kernel
theorem dX9_readOne_69 : decode cX9_readOne 69 = .ok (.istore 10, 2) := by decide +kernel
theorem dX9_readOne_71 : decode cX9_readOne 71 = .ok (.iload 10, 2) := by decide +kernel
theorem dX9_readOne_73 : decode cX9_readOne 73 = .ok (.bipush 8, 2) := by decide +kernel
theorem dX9_readOne_75 : decode cX9_readOne 75 = .ok (.iload 8, 2) := by decide +kernel
theorem dX9_readOne_77 : decode cX9_readOne 77 = .ok (.imul, 1) := by decide +kernel
theorem dX9_readOne_78 : decode cX9_readOne 78 = .ok (.if_icmp .ge 41, 3) := by decide +kernel
theorem dX9_readOne_81 : decode cX9_readOne 81 = .ok (.aload_n 0, 1) := by decide +kernel
theorem dX9_readOne_82 : decode cX9_readOne 82 = .ok (.getfield 31, 3) := by decide +kernel
theorem dX9_readOne_85 : decode cX9_readOne 85 = .ok (.aload_n 0, 1) := by decide +kernel
theorem dX9_readOne_86 : decode cX9_readOne 86 = .ok (.getfield 61, 3) := by decide +kernel
theorem dX9_readOne_89 : decode cX9_readOne 89 = .ok (.iload 10, 2) := by decide +kernel
theorem dX9_readOne_91 : decode cX9_readOne 91 = .ok (.bipush 8, 2) := by decide +kernel
theorem dX9_readOne_93 : decode cX9_readOne 93 = .ok (.idiv, 1) := by decide +kernel
theorem dX9_readOne_94 : decode cX9_readOne 94 = .ok (.iadd, 1) := by decide +kernel
theorem dX9_readOne_95 : decode cX9_readOne 95 = .ok (.iaload, 1) := by decide +kernel
theorem dX9_readOne_96 : decode cX9_readOne 96 = .ok (.iload 10, 2) := by decide +kernel
theorem dX9_readOne_98 : decode cX9_readOne 98 = .ok (.bipush 8, 2) := by decide +kernel
theorem dX9_readOne_100 : decode cX9_readOne 100 = .ok (.irem, 1) := by decide +kernel
theorem dX9_readOne_101 : decode cX9_readOne 101 = .ok (.ishr, 1) := by decide +kernel
theorem dX9_readOne_102 : decode cX9_readOne 102 = .ok (.iconst 1, 1) := by decide +kernel
theorem dX9_readOne_103 : decode cX9_readOne 103 = .ok (.iand, 1) := by decide +kernel
theorem dX9_readOne_104 : decode cX9_readOne 104 = .ok (.iconst 1, 1) := by decide +kernel
theorem dX9_readOne_105 : decode cX9_readOne 105 = .ok (.if_icmp .ne 8, 3) := by decide +kernel
theorem dX9_readOne_108 : decode cX9_readOne 108 = .ok (.aload_n 0, 1) := by decide +kernel
theorem dX9_readOne_109 : decode cX9_readOne 109 = .ok (.iconst 5, 1) := by decide +kernel
theorem dX9_readOne_110 : decode cX9_readOne 110 = .ok (.putfield 58, 3) := by decide +kernel
theorem dX9_readOne_113 : decode cX9_readOne 113 = .ok (.iinc 10 1, 3) := by decide +kernel
theorem dX9_readOne_116 : decode cX9_readOne 116 = .ok (.goto (-45), 3) := by decide +kernel
theorem dX9_readOne_119 : decode cX9_readOne 119 = .ok (.aload_n 0, 1) := by decide +kernel
theorem dX9_readOne_120 : decode cX9_readOne 120 = .ok (.dup, 1) := by decide +kernel
theorem dX9_readOne_121 : decode cX9_readOne 121 = .ok (.getfield 61, 3) := by decide +kernel
theorem dX9_readOne_124 : decode cX9_readOne 124 = .ok (.iload 8, 2) := by decide +kernel
theorem dX9_readOne_126 : decode cX9_readOne 126 = .ok (.iadd, 1) := by decide +kernel
theorem dX9_readOne_127 : decode cX9_readOne 127 = .ok (.putfield 61, 3) := by decide +kernel
theorem dX9_readOne_130 : decode cX9_readOne 130 = .ok (.iconst 0, 1) := by decide +kernel
theorem dX9_readOne_131 : decode cX9_readOne 131 = .ok (.istore 10, 2) := by decide +kernel
theorem dX9_readOne_133 : decode cX9_readOne 133 = .ok (.iload 10, 2) := by decide +kernel
theorem dX9_readOne_135 : decode cX9_readOne 135 = .ok (.i2l, 1) := by decide +kernel
theorem dX9_readOne_136 : decode cX9_readOne 136 = .ok (.lload 6, 2) := by decide +kernel
theorem dX9_readOne_138 : decode cX9_readOne 138 = .ok (.lcmp, 1) := by decide +kernel
theorem dX9_readOne_139 : decode cX9_readOne 139 = .ok (.ifCond .ge 17, 3) := by decide +kernel
theorem dX9_readOne_142 : decode cX9_readOne 142 = .ok (.aload_n 1, 1) := by decide +kernel
theorem dX9_readOne_143 : decode cX9_readOne 143 = .ok (.iload_n 2, 1) := by decide +kernel
theorem dX9_readOne_144 : decode cX9_readOne 144 = .ok (.iload 10, 2) := by decide +kernel
theorem dX9_readOne_146 : decode cX9_readOne 146 = .ok (.iadd, 1) := by decide +kernel
theorem dX9_readOne_147 : decode cX9_readOne 147 = .ok (.iload 9, 2) := by decide +kernel
theorem dX9_readOne_149 : decode cX9_readOne 149 = .ok (.iastore, 1) := by decide +kernel
theorem dX9_readOne_150 : decode cX9_readOne 150 = .ok (.iinc 10 1, 3) := by decide +kernel
theorem dX9_readOne_153 : decode cX9_readOne 153 = .ok (.goto (-20), 3) := by decide +kernel
theorem dX9_readOne_156 : decode cX9_readOne 156 = .ok (.iload_n 2, 1) := by decide +kernel
theorem dX9_readOne_157 : decode cX9_readOne 157 = .ok (.lload 6, 2) := by decide +kernel
theorem dX9_readOne_159 : decode cX9_readOne 159 = .ok (.l2i, 1) := by decide +kernel
theorem dX9_readOne_160 : decode cX9_readOne 160 = .ok (.iadd, 1) := by decide +kernel
theorem dX9_readOne_161 : decode cX9_readOne 161 = .ok (.ireturn, 1) := by decide +kernel
theorem dX9_readGroups_0 : decode cX9_readGroups 0 = .ok (.lload 6, 2) := by decide +kernel
theorem dX9_readGroups_2 : decode cX9_readGroups 2 = .ok (.iload_n 3, 1) := by decide +kernel
theorem dX9_readGroups_3 : decode cX9_readGroups 3 = .ok (.iload_n 2, 1) := by decide +kernel
theorem dX9_readGroups_4 : decode cX9_readGroups 4 = .ok (.isub, 1) := by decide +kernel
theorem dX9_readGroups_5 : decode cX9_readGroups 5 = .ok (.bipush 7, 2) := by decide +kernel
theorem dX9_readGroups_7 : decode cX9_readGroups 7 = .ok (.iadd, 1) := by decide +kernel
theorem dX9_readGroups_8 : decode cX9_readGroups 8 = .ok (.bipush 8, 2) := by decide +kernel
theorem dX9_readGroups_10 : decode cX9_readGroups 10 = .ok (.idiv, 1) := by decide +kernel
theorem dX9_readGroups_11 : decode cX9_readGroups 11 = .ok (.i2l, 1) := by decide +kernel
theorem dX9_readGroups_12 : decode cX9_readGroups 12 = .ok (.lcmp, 1) := by decide +kernel
theorem dX9_readGroups_13 : decode cX9_readGroups 13 = .ok (.ifCond .le 11, 3) := by decide +kernel
theorem dX9_readGroups_16 : decode cX9_readGroups 16 = .ok (.aload_n 0, 1) := by decide +kernel
theorem dX9_readGroups_17 : decode cX9_readGroups 17 = .ok (.iconst 4, 1) := by decide +kernel
theorem dX9_readGroups_18 : decode cX9_readGroups 18 = .ok (.putfield 58, 3) := by decide +kernel
theorem dX9_readGroups_21 : decode cX9_readGroups 21 = .ok (.goto 26, 3) := by decide +kernel
theorem dX9_readGroups_24 : decode cX9_readGroups 24 = .ok (.iload 5, 2) := by decide +kernel
theorem dX9_readGroups_26 : decode cX9_readGroups 26 = .ok (.aload_n 0, 1) := by decide +kernel
theorem dX9_readGroups_27 : decode cX9_readGroups 27 = .ok (.getfield 61, 3) := by decide +kernel
theorem dX9_readGroups_30 : decode cX9_readGroups 30 = .ok (.isub, 1) := by decide +kernel
theorem dX9_readGroups_31 : decode cX9_readGroups 31 = .ok (.i2l, 1) := by decide +kernel
theorem dX9_readGroups_32 : decode cX9_readGroups 32 = .ok (.lload 6, 2) := by decide +kernel
theorem dX9_readGroups_34 : decode cX9_readGroups 34 = .ok (.iload 4, 2) := by decide +kernel
theorem dX9_readGroups_36 : decode cX9_readGroups 36 = .ok (.i2l, 1) := by decide +kernel
theorem dX9_readGroups_37 : decode cX9_readGroups 37 = .ok (.lmul, 1) := by decide +kernel
theorem dX9_readGroups_38 : decode cX9_readGroups 38 = .ok (.lcmp, 1) := by decide +kernel
theorem dX9_readGroups_39 : decode cX9_readGroups 39 = .ok (.ifCond .ge 8, 3) := by decide +kernel
theorem dX9_readGroups_42 : decode cX9_readGroups 42 = .ok (.aload_n 0, 1) := by decide +kernel
theorem dX9_readGroups_43 : decode cX9_readGroups 43 = .ok (.iconst 1, 1) := by decide +kernel
theorem dX9_readGroups_44 : decode cX9_readGroups 44 = .ok (.putfield 58, 3) := by decide +kernel
theorem dX9_readGroups_47 : decode cX9_readGroups 47 = .ok (.aload_n 0, 1) := by decide +kernel
theorem dX9_readGroups_48 : decode cX9_readGroups 48 = .ok (.getfield 58, 3) := by decide +kernel
theorem dX9_readGroups_51 : decode cX9_readGroups 51 = .ok (.ifCond .eq 5, 3) := by decide +kernel
theorem dX9_readGroups_54 : decode cX9_readGroups 54 = .ok (.iload_n 2, 1) := by decide +kernel
theorem dX9_readGroups_55 : decode cX9_readGroups 55 = .ok (.ireturn, 1) := by decide +kernel
theorem dX9_readGroups_56 : decode cX9_readGroups 56 = .ok (.iconst 0, 1) := by decide +kernel
theorem dX9_readGroups_57 : decode cX9_readGroups 57 = .ok (.istore 8, 2) := by decide +kernel
theorem dX9_readGroups_59 : decode cX9_readGroups 59 = .ok (.iload 8, 2) := by decide +kernel
theorem dX9_readGroups_61 : decode cX9_readGroups 61 = .ok (.i2l, 1) := by decide +kernel
theorem dX9_readGroups_62 : decode cX9_readGroups 62 = .ok (.ldc2_w 95, 3) := by decide +kernel
theorem dX9_readGroups_65 : decode cX9_readGroups 65 = .ok (.lload 6, 2) := by decide +kernel
theorem dX9_readGroups_67 : decode cX9_readGroups 67 = .ok (.lmul, 1) := by decide +kernel
theorem dX9_readGroups_68 : decode cX9_readGroups 68 = .ok (.lcmp, 1) := by decide +kernel
theorem dX9_readGroups_69 : decode cX9_readGroups 69 = .ok (.ifCond .ge 55, 3) := by decide +kernel
theorem dX9_readGroups_72 : decode cX9_readGroups 72 = .ok (.aload_n 0, 1) := by decide +kernel
theorem dX9_readGroups_73 : decode cX9_readGroups 73 = .ok (.aload_n 0, 1) := by decide +kernel
theorem dX9_readGroups_74 : decode cX9_readGroups 74 = .ok (.getfield 61, 3) := by decide +kernel
theorem dX9_readGroups_77 : decode cX9_readGroups 77 = .ok (.iload 4, 2) := by decide +kernel
theorem dX9_readGroups_79 : decode cX9_readGroups 79 = .ok (.iload 8, 2) := by decide +kernel
theorem dX9_readGroups_81 : decode cX9_readGroups 81 = .ok (.imul, 1) := by decide +kernel
theorem dX9_readGroups_82 : decode cX9_readGroups 82 = .ok (.iload 4, 2) := by decide +kernel
theorem dX9_readGroups_84 : decode cX9_readGroups 84 = .ok (.invokevirtual 91, 3) := by decide +kernel
theorem dX9_readGroups_87 : decode cX9_readGroups 87 = .ok (.istore 9, 2) := by decide +kernel
theorem dX9_readGroups_89 : decode cX9_readGroups 89 = .ok (.iload_n 2, 1) := by decide +kernel
theorem dX9_readGroups_90 : decode cX9_readGroups 90 = .ok (.iload 8, 2) := by decide +kernel
theorem dX9_readGroups_92 : decode cX9_readGroups 92 = .ok (.iadd, 1) := by decide +kernel
theorem dX9_readGroups_93 : decode cX9_readGroups 93 = .ok (.iload_n 3, 1) := by decide +kernel
theorem dX9_readGroups_94 : decode cX9_readGroups 94 = .ok (.if_icmp .ge 14, 3) := by decide +kernel
theorem dX9_readGroups_97 : decode cX9_readGroups 97 = .ok (.aload_n 1, 1) := by decide +kernel
theorem dX9_readGroups_98 : decode cX9_readGroups 98 = .ok (.iload_n 2, 1) := by decide +kernel
theorem dX9_readGroups_99 : decode cX9_readGroups 99 = .ok (.iload 8, 2) := by decide +kernel
theorem dX9_readGroups_101 : decode cX9_readGroups 101 = .ok (.iadd, 1) := by decide +kernel
theorem dX9_readGroups_102 : decode cX9_readGroups 102 = .ok (.iload 9, 2) := by decide +kernel
theorem dX9_readGroups_104 : decode cX9_readGroups 104 = .ok (.iastore, 1) := by decide +kernel
theorem dX9_readGroups_105 : decode cX9_readGroups 105 = .ok (.goto 13, 3) := by decide +kernel
theorem dX9_readGroups_108 : decode cX9_readGroups 108 = .ok (.iload 9, 2) := by decide +kernel
theorem dX9_readGroups_110 : decode cX9_readGroups 110 = .ok (.ifCond .eq 8, 3) := by decide +kernel
theorem dX9_readGroups_113 : decode cX9_readGroups 113 = .ok (.aload_n 0, 1) := by decide +kernel
theorem dX9_readGroups_114 : decode cX9_readGroups 114 = .ok (.iconst 5, 1) := by decide +kernel
theorem dX9_readGroups_115 : decode cX9_readGroups 115 = .ok (.putfield 58, 3) := by decide +kernel
theorem dX9_readGroups_118 : decode cX9_readGroups 118 = .ok (.iinc 8 1, 3) := by decide +kernel
theorem dX9_readGroups_121 : decode cX9_readGroups 121 = .ok (.goto (-62), 3) := by decide +kernel
theorem dX9_readGroups_124 : decode cX9_readGroups 124 = .ok (.aload_n 0, 1) := by decide +kernel
theorem dX9_readGroups_125 : decode cX9_readGroups 125 = .ok (.dup, 1) := by decide +kernel
theorem dX9_readGroups_126 : decode cX9_readGroups 126 = .ok (.getfield 61, 3) := by decide +kernel
theorem dX9_readGroups_129 : decode cX9_readGroups 129 = .ok (.lload 6, 2) := by decide +kernel
theorem dX9_readGroups_131 : decode cX9_readGroups 131 = .ok (.l2i, 1) := by decide +kernel
theorem dX9_readGroups_132 : decode cX9_readGroups 132 = .ok (.iload 4, 2) := by decide +kernel
theorem dX9_readGroups_134 : decode cX9_readGroups 134 = .ok (.imul, 1) := by decide +kernel
theorem dX9_readGroups_135 : decode cX9_readGroups 135 = .ok (.iadd, 1) := by decide +kernel
theorem dX9_readGroups_136 : decode cX9_readGroups 136 = .ok (.putfield 61, 3) := by decide +kernel
theorem dX9_readGroups_139 : decode cX9_readGroups 139 = .ok (.iload_n 2, 1) := by decide +kernel
theorem dX9_readGroups_140 : decode cX9_readGroups 140 = .ok (.bipush 8, 2) := by decide +kernel
theorem dX9_readGroups_142 : decode cX9_readGroups 142 = .ok (.lload 6, 2) := by decide +kernel
theorem dX9_readGroups_144 : decode cX9_readGroups 144 = .ok (.l2i, 1) := by decide +kernel
theorem dX9_readGroups_145 : decode cX9_readGroups 145 = .ok (.imul, 1) := by decide +kernel
theorem dX9_readGroups_146 : decode cX9_readGroups 146 = .ok (.iadd, 1) := by decide +kernel
theorem dX9_readGroups_147 : decode cX9_readGroups 147 = .ok (.ireturn, 1) := by decide +kernel
theorem dX9_zigzag_0 : decode cX9_zigzag 0 = .ok (.lload_n 0, 1) := by decide +kernel
theorem dX9_zigzag_1 : decode cX9_zigzag 1 = .ok (.lconst 0, 1) := by decide +kernel
theorem dX9_zigzag_2 : decode cX9_zigzag 2 = .ok (.lcmp, 1) := by decide +kernel
theorem dX9_zigzag_3 : decode cX9_zigzag 3 = .ok (.ifCond .ge 13, 3) := by decide +kernel
theorem dX9_zigzag_6 : decode cX9_zigzag 6 = .ok (.ldc2_w 97, 3) := by decide +kernel
theorem dX9_zigzag_9 : decode cX9_zigzag 9 = .ok (.lload_n 0, 1) := by decide +kernel
theorem dX9_zigzag_10 : decode cX9_zigzag 10 = .ok (.lmul, 1) := by decide +kernel
theorem dX9_zigzag_11 : decode cX9_zigzag 11 = .ok (.lconst 1, 1) := by decide +kernel
theorem dX9_zigzag_12 : decode cX9_zigzag 12 = .ok (.lsub, 1) := by decide +kernel
theorem dX9_zigzag_13 : decode cX9_zigzag 13 = .ok (.goto 8, 3) := by decide +kernel
theorem dX9_zigzag_16 : decode cX9_zigzag 16 = .ok (.ldc2_w 74, 3) := by decide +kernel
theorem dX9_zigzag_19 : decode cX9_zigzag 19 = .ok (.lload_n 0, 1) := by decide +kernel
theorem dX9_zigzag_20 : decode cX9_zigzag 20 = .ok (.lmul, 1) := by decide +kernel
theorem dX9_zigzag_21 : decode cX9_zigzag 21 = .ok (.lreturn, 1) := by decide +kernel
theorem dX9_unzigzag_0 : decode cX9_unzigzag 0 = .ok (.lload_n 0, 1) := by decide +kernel
theorem dX9_unzigzag_1 : decode cX9_unzigzag 1 = .ok (.lconst 1, 1) := by decide +kernel
theorem dX9_unzigzag_2 : decode cX9_unzigzag 2 = .ok (.land, 1) := by decide +kernel
theorem dX9_unzigzag_3 : decode cX9_unzigzag 3 = .ok (.lconst 0, 1) := by decide +kernel
theorem dX9_unzigzag_4 : decode cX9_unzigzag 4 = .ok (.lcmp, 1) := by decide +kernel
theorem dX9_unzigzag_5 : decode cX9_unzigzag 5 = .ok (.ifCond .ne 9, 3) := by decide +kernel
theorem dX9_unzigzag_8 : decode cX9_unzigzag 8 = .ok (.lload_n 0, 1) := by decide +kernel
theorem dX9_unzigzag_9 : decode cX9_unzigzag 9 = .ok (.iconst 1, 1) := by decide +kernel
theorem dX9_unzigzag_10 : decode cX9_unzigzag 10 = .ok (.lushr, 1) := by decide +kernel
theorem dX9_unzigzag_11 : decode cX9_unzigzag 11 = .ok (.goto 9, 3) := by decide +kernel
theorem dX9_unzigzag_14 : decode cX9_unzigzag 14 = .ok (.lload_n 0, 1) := by decide +kernel
theorem dX9_unzigzag_15 : decode cX9_unzigzag 15 = .ok (.iconst 1, 1) := by decide +kernel
theorem dX9_unzigzag_16 : decode cX9_unzigzag 16 = .ok (.lushr, 1) := by decide +kernel
theorem dX9_unzigzag_17 : decode cX9_unzigzag 17 = .ok (.lneg, 1) := by decide +kernel
theorem dX9_unzigzag_18 : decode cX9_unzigzag 18 = .ok (.lconst 1, 1) := by decide +kernel
theorem dX9_unzigzag_19 : decode cX9_unzigzag 19 = .ok (.lsub, 1) := by decide +kernel
theorem dX9_unzigzag_20 : decode cX9_unzigzag 20 = .ok (.lreturn, 1) := by decide +kernel
theorem dX9_writeCode_0 : decode cX9_writeCode 0 = .ok (.aload_n 0, 1) := by decide +kernel
theorem dX9_writeCode_1 : decode cX9_writeCode 1 = .ok (.getfield 55, 3) := by decide +kernel
theorem dX9_writeCode_4 : decode cX9_writeCode 4 = .ok (.istore_n 1, 1) := by decide +kernel
theorem dX9_writeCode_5 : decode cX9_writeCode 5 = .ok (.aload_n 0, 1) := by decide +kernel
theorem dX9_writeCode_6 : decode cX9_writeCode 6 = .ok (.invokevirtual 99, 3) := by decide +kernel
theorem dX9_writeCode_9 : decode cX9_writeCode 9 = .ok (.aload_n 0, 1) := by decide +kernel
theorem dX9_writeCode_10 : decode cX9_writeCode 10 = .ok (.getfield 55, 3) := by decide +kernel
theorem dX9_writeCode_13 : decode cX9_writeCode 13 = .ok (.iload_n 1, 1) := by decide +kernel
theorem dX9_writeCode_14 : decode cX9_writeCode 14 = .ok (.isub, 1) := by decide +kernel
theorem dX9_writeCode_15 : decode cX9_writeCode 15 = .ok (.istore_n 2, 1) := by decide +kernel
theorem dX9_writeCode_16 : decode cX9_writeCode 16 = .ok (.aload_n 0, 1) := by decide +kernel
theorem dX9_writeCode_17 : decode cX9_writeCode 17 = .ok (.iload_n 1, 1) := by decide +kernel
theorem dX9_writeCode_18 : decode cX9_writeCode 18 = .ok (.putfield 55, 3) := by decide +kernel
theorem dX9_writeCode_21 : decode cX9_writeCode 21 = .ok (.aload_n 0, 1) := by decide +kernel
theorem dX9_writeCode_22 : decode cX9_writeCode 22 = .ok (.iload_n 2, 1) := by decide +kernel
theorem dX9_writeCode_23 : decode cX9_writeCode 23 = .ok (.i2l, 1) := by decide +kernel
theorem dX9_writeCode_24 : decode cX9_writeCode 24 = .ok (.invokevirtual 76, 3) := by decide +kernel
theorem dX9_writeCode_27 : decode cX9_writeCode 27 = .ok (.aload_n 0, 1) := by decide +kernel
theorem dX9_writeCode_28 : decode cX9_writeCode 28 = .ok (.invokevirtual 99, 3) := by decide +kernel
theorem dX9_writeCode_31 : decode cX9_writeCode 31 = .ok (.return_, 1) := by decide +kernel
theorem dX9_difference_0 : decode cX9_difference 0 = .ok (.aload_n 0, 1) := by decide +kernel
theorem dX9_difference_1 : decode cX9_difference 1 = .ok (.getfield 38, 3) := by decide +kernel
theorem dX9_difference_4 : decode cX9_difference 4 = .ok (.iload_n 1, 1) := by decide +kernel
theorem dX9_difference_5 : decode cX9_difference 5 = .ok (.iconst 1, 1) := by decide +kernel
theorem dX9_difference_6 : decode cX9_difference 6 = .ok (.iadd, 1) := by decide +kernel
theorem dX9_difference_7 : decode cX9_difference 7 = .ok (.laload, 1) := by decide +kernel
theorem dX9_difference_8 : decode cX9_difference 8 = .ok (.aload_n 0, 1) := by decide +kernel
theorem dX9_difference_9 : decode cX9_difference 9 = .ok (.getfield 38, 3) := by decide +kernel
theorem dX9_difference_12 : decode cX9_difference 12 = .ok (.iload_n 1, 1) := by decide +kernel
theorem dX9_difference_13 : decode cX9_difference 13 = .ok (.laload, 1) := by decide +kernel
theorem dX9_difference_14 : decode cX9_difference 14 = .ok (.lsub, 1) := by decide +kernel
theorem dX9_difference_15 : decode cX9_difference 15 = .ok (.lreturn, 1) := by decide +kernel
theorem dX9_writeLongs_0 : decode cX9_writeLongs 0 = .ok (.aload_n 0, 1) := by decide +kernel
theorem dX9_writeLongs_1 : decode cX9_writeLongs 1 = .ok (.aload_n 0, 1) := by decide +kernel
theorem dX9_writeLongs_2 : decode cX9_writeLongs 2 = .ok (.getfield 102, 3) := by decide +kernel
theorem dX9_writeLongs_5 : decode cX9_writeLongs 5 = .ok (.i2l, 1) := by decide +kernel
theorem dX9_writeLongs_6 : decode cX9_writeLongs 6 = .ok (.invokevirtual 76, 3) := by decide +kernel
theorem dX9_writeLongs_9 : decode cX9_writeLongs 9 = .ok (.aload_n 0, 1) := by decide +kernel
theorem dX9_writeLongs_10 : decode cX9_writeLongs 10 = .ok (.getfield 102, 3) := by decide +kernel
theorem dX9_writeLongs_13 : decode cX9_writeLongs 13 = .ok (.ifCond .le 16, 3) := by decide +kernel
theorem dX9_writeLongs_16 : decode cX9_writeLongs 16 = .ok (.aload_n 0, 1) := by decide +kernel
theorem dX9_writeLongs_17 : decode cX9_writeLongs 17 = .ok (.aload_n 0, 1) := by decide +kernel
theorem dX9_writeLongs_18 : decode cX9_writeLongs 18 = .ok (.getfield 38, 3) := by decide +kernel
theorem dX9_writeLongs_21 : decode cX9_writeLongs 21 = .ok (.iconst 0, 1) := by decide +kernel
theorem dX9_writeLongs_22 : decode cX9_writeLongs 22 = .ok (.laload, 1) := by decide +kernel
theorem dX9_writeLongs_23 : decode cX9_writeLongs 23 = .ok (.invokestatic 105, 3) := by decide +kernel
theorem dX9_writeLongs_26 : decode cX9_writeLongs 26 = .ok (.invokevirtual 76, 3) := by decide +kernel
theorem dX9_writeLongs_29 : decode cX9_writeLongs 29 = .ok (.iconst 0, 1) := by decide +kernel
theorem dX9_writeLongs_30 : decode cX9_writeLongs 30 = .ok (.istore_n 1, 1) := by decide +kernel
theorem dX9_writeLongs_31 : decode cX9_writeLongs 31 = .ok (.iload_n 1, 1) := by decide +kernel
theorem dX9_writeLongs_32 : decode cX9_writeLongs 32 = .ok (.aload_n 0, 1) := by decide +kernel
theorem dX9_writeLongs_33 : decode cX9_writeLongs 33 = .ok (.getfield 102, 3) := by decide +kernel
theorem dX9_writeLongs_36 : decode cX9_writeLongs 36 = .ok (.iconst 1, 1) := by decide +kernel
theorem dX9_writeLongs_37 : decode cX9_writeLongs 37 = .ok (.isub, 1) := by decide +kernel
theorem dX9_writeLongs_38 : decode cX9_writeLongs 38 = .ok (.if_icmp .ge 148, 3) := by decide +kernel
theorem dX9_writeLongs_41 : decode cX9_writeLongs 41 = .ok (.iload_n 1, 1) := by decide +kernel
theorem dX9_writeLongs_42 : decode cX9_writeLongs 42 = .ok (.bipush 64, 2) := by decide +kernel
theorem dX9_writeLongs_44 : decode cX9_writeLongs 44 = .ok (.iadd, 1) := by decide +kernel
theorem dX9_writeLongs_45 : decode cX9_writeLongs 45 = .ok (.aload_n 0, 1) := by decide +kernel
theorem dX9_writeLongs_46 : decode cX9_writeLongs 46 = .ok (.getfield 102, 3) := by decide +kernel
theorem dX9_writeLongs_49 : decode cX9_writeLongs 49 = .ok (.iconst 1, 1) := by decide +kernel
theorem dX9_writeLongs_50 : decode cX9_writeLongs 50 = .ok (.isub, 1) := by decide +kernel
theorem dX9_writeLongs_51 : decode cX9_writeLongs 51 = .ok (.if_icmp .ge 10, 3) := by decide +kernel
theorem dX9_writeLongs_54 : decode cX9_writeLongs 54 = .ok (.iload_n 1, 1) := by decide +kernel
theorem dX9_writeLongs_55 : decode cX9_writeLongs 55 = .ok (.bipush 64, 2) := by decide +kernel
theorem dX9_writeLongs_57 : decode cX9_writeLongs 57 = .ok (.iadd, 1) := by decide +kernel
theorem dX9_writeLongs_58 : decode cX9_writeLongs 58 = .ok (.goto 9, 3) := by decide +kernel
theorem dX9_writeLongs_61 : decode cX9_writeLongs 61 = .ok (.aload_n 0, 1) := by decide +kernel
theorem dX9_writeLongs_62 : decode cX9_writeLongs 62 = .ok (.getfield 102, 3) := by decide +kernel
theorem dX9_writeLongs_65 : decode cX9_writeLongs 65 = .ok (.iconst 1, 1) := by decide +kernel
theorem dX9_writeLongs_66 : decode cX9_writeLongs 66 = .ok (.isub, 1) := by decide +kernel
theorem dX9_writeLongs_67 : decode cX9_writeLongs 67 = .ok (.istore_n 2, 1) := by decide +kernel
theorem dX9_writeLongs_68 : decode cX9_writeLongs 68 = .ok (.aload_n 0, 1) := by decide +kernel
theorem dX9_writeLongs_69 : decode cX9_writeLongs 69 = .ok (.iload_n 1, 1) := by decide +kernel
theorem dX9_writeLongs_70 : decode cX9_writeLongs 70 = .ok (.invokevirtual 109, 3) := by decide +kernel
theorem dX9_writeLongs_73 : decode cX9_writeLongs 73 = .ok (.lstore_n 3, 1) := by decide +kernel
theorem dX9_writeLongs_74 : decode cX9_writeLongs 74 = .ok (.iload_n 1, 1) := by decide +kernel
theorem dX9_writeLongs_75 : decode cX9_writeLongs 75 = .ok (.istore 5, 2) := by decide +kernel
theorem dX9_writeLongs_77 : decode cX9_writeLongs 77 = .ok (.iload 5, 2) := by decide +kernel
theorem dX9_writeLongs_79 : decode cX9_writeLongs 79 = .ok (.iload_n 2, 1) := by decide +kernel
theorem dX9_writeLongs_80 : decode cX9_writeLongs 80 = .ok (.if_icmp .ge 31, 3) := by decide +kernel
theorem dX9_writeLongs_83 : decode cX9_writeLongs 83 = .ok (.aload_n 0, 1) := by decide +kernel
theorem dX9_writeLongs_84 : decode cX9_writeLongs 84 = .ok (.iload 5, 2) := by decide +kernel
theorem dX9_writeLongs_86 : decode cX9_writeLongs 86 = .ok (.invokevirtual 109, 3) := by decide +kernel
theorem dX9_writeLongs_89 : decode cX9_writeLongs 89 = .ok (.lload_n 3, 1) := by decide +kernel
theorem dX9_writeLongs_90 : decode cX9_writeLongs 90 = .ok (.lcmp, 1) := by decide +kernel
theorem dX9_writeLongs_91 : decode cX9_writeLongs 91 = .ok (.ifCond .ge 12, 3) := by decide +kernel
theorem dX9_writeLongs_94 : decode cX9_writeLongs 94 = .ok (.aload_n 0, 1) := by decide +kernel
theorem dX9_writeLongs_95 : decode cX9_writeLongs 95 = .ok (.iload 5, 2) := by decide +kernel
theorem dX9_writeLongs_97 : decode cX9_writeLongs 97 = .ok (.invokevirtual 109, 3) := by decide +kernel
theorem dX9_writeLongs_100 : decode cX9_writeLongs 100 = .ok (.goto 4, 3) := by decide +kernel
theorem dX9_writeLongs_103 : decode cX9_writeLongs 103 = .ok (.lload_n 3, 1) := by decide +kernel
theorem dX9_writeLongs_104 : decode cX9_writeLongs 104 = .ok (.lstore_n 3, 1) := by decide +kernel
theorem dX9_writeLongs_105 : decode cX9_writeLongs 105 = .ok (.iinc 5 1, 3) := by decide +kernel
theorem dX9_writeLongs_108 : decode cX9_writeLongs 108 = .ok (.goto (-31), 3) := by decide +kernel
theorem dX9_writeLongs_111 : decode cX9_writeLongs 111 = .ok (.aload_n 0, 1) := by decide +kernel
theorem dX9_writeLongs_112 : decode cX9_writeLongs 112 = .ok (.lload_n 3, 1) := by decide +kernel
theorem dX9_writeLongs_113 : decode cX9_writeLongs 113 = .ok (.invokestatic 105, 3) := by decide +kernel
theorem dX9_writeLongs_116 : decode cX9_writeLongs 116 = .ok (.invokevirtual 76, 3) := by decide +kernel
theorem dX9_writeLongs_119 : decode cX9_writeLongs 119 = .ok (.iload_n 1, 1) := by decide +kernel
theorem dX9_writeLongs_120 : decode cX9_writeLongs 120 = .ok (.istore 5, 2) := by decide +kernel
theorem dX9_writeLongs_122 : decode cX9_writeLongs 122 = .ok (.iload 5, 2) := by decide +kernel
theorem dX9_writeLongs_124 : decode cX9_writeLongs 124 = .ok (.iload_n 1, 1) := by decide +kernel
theorem dX9_writeLongs_125 : decode cX9_writeLongs 125 = .ok (.bipush 64, 2) := by decide +kernel
theorem dX9_writeLongs_127 : decode cX9_writeLongs 127 = .ok (.iadd, 1) := by decide +kernel
theorem dX9_writeLongs_128 : decode cX9_writeLongs 128 = .ok (.if_icmp .ge 21, 3) := by decide +kernel
theorem dX9_writeLongs_131 : decode cX9_writeLongs 131 = .ok (.aload_n 0, 1) := by decide +kernel
theorem dX9_writeLongs_132 : decode cX9_writeLongs 132 = .ok (.aload_n 0, 1) := by decide +kernel
theorem dX9_writeLongs_133 : decode cX9_writeLongs 133 = .ok (.iload 5, 2) := by decide +kernel
theorem dX9_writeLongs_135 : decode cX9_writeLongs 135 = .ok (.iload_n 2, 1) := by decide +kernel
theorem dX9_writeLongs_136 : decode cX9_writeLongs 136 = .ok (.lload_n 3, 1) := by decide +kernel
theorem dX9_writeLongs_137 : decode cX9_writeLongs 137 = .ok (.invokevirtual 112, 3) := by decide +kernel
theorem dX9_writeLongs_140 : decode cX9_writeLongs 140 = .ok (.invokevirtual 66, 3) := by decide +kernel
theorem dX9_writeLongs_143 : decode cX9_writeLongs 143 = .ok (.iinc 5 16, 3) := by decide +kernel
theorem dX9_writeLongs_146 : decode cX9_writeLongs 146 = .ok (.goto (-24), 3) := by decide +kernel
theorem dX9_writeLongs_149 : decode cX9_writeLongs 149 = .ok (.iload_n 1, 1) := by decide +kernel
theorem dX9_writeLongs_150 : decode cX9_writeLongs 150 = .ok (.istore 5, 2) := by decide +kernel
theorem dX9_writeLongs_152 : decode cX9_writeLongs 152 = .ok (.iload 5, 2) := by decide +kernel
theorem dX9_writeLongs_154 : decode cX9_writeLongs 154 = .ok (.iload_n 2, 1) := by decide +kernel
theorem dX9_writeLongs_155 : decode cX9_writeLongs 155 = .ok (.if_icmp .ge 25, 3) := by decide +kernel
theorem dX9_writeLongs_158 : decode cX9_writeLongs 158 = .ok (.aload_n 0, 1) := by decide +kernel
theorem dX9_writeLongs_159 : decode cX9_writeLongs 159 = .ok (.iload 5, 2) := by decide +kernel
theorem dX9_writeLongs_161 : decode cX9_writeLongs 161 = .ok (.iload_n 2, 1) := by decide +kernel
theorem dX9_writeLongs_162 : decode cX9_writeLongs 162 = .ok (.lload_n 3, 1) := by decide +kernel
theorem dX9_writeLongs_163 : decode cX9_writeLongs 163 = .ok (.aload_n 0, 1) := by decide +kernel
theorem dX9_writeLongs_164 : decode cX9_writeLongs 164 = .ok (.iload 5, 2) := by decide +kernel
theorem dX9_writeLongs_166 : decode cX9_writeLongs 166 = .ok (.iload_n 2, 1) := by decide +kernel
theorem dX9_writeLongs_167 : decode cX9_writeLongs 167 = .ok (.lload_n 3, 1) := by decide +kernel
theorem dX9_writeLongs_168 : decode cX9_writeLongs 168 = .ok (.invokevirtual 112, 3) := by decide +kernel
theorem dX9_writeLongs_171 : decode cX9_writeLongs 171 = .ok (.invokevirtual 116, 3) := by decide +kernel
theorem dX9_writeLongs_174 : decode cX9_writeLongs 174 = .ok (.iinc 5 16, 3) := by decide +kernel
theorem dX9_writeLongs_177 : decode cX9_writeLongs 177 = .ok (.goto (-25), 3) := by decide +kernel
theorem dX9_writeLongs_180 : decode cX9_writeLongs 180 = .ok (.iinc 1 64, 3) := by decide +kernel
theorem dX9_writeLongs_183 : decode cX9_writeLongs 183 = .ok (.goto (-152), 3) := by decide +kernel
theorem dX9_writeLongs_186 : decode cX9_writeLongs 186 = .ok (.return_, 1) := by decide +kernel
theorem dX9_widthOf_0 : decode cX9_widthOf 0 = .ok (.iconst 0, 1) := by decide +kernel
theorem dX9_widthOf_1 : decode cX9_widthOf 1 = .ok (.istore 5, 2) := by decide +kernel
theorem dX9_widthOf_3 : decode cX9_widthOf 3 = .ok (.iload_n 1, 1) := by decide +kernel
theorem dX9_widthOf_4 : decode cX9_widthOf 4 = .ok (.istore 6, 2) := by decide +kernel
theorem dX9_widthOf_6 : decode cX9_widthOf 6 = .ok (.iload 6, 2) := by decide +kernel
theorem dX9_widthOf_8 : decode cX9_widthOf 8 = .ok (.iload_n 1, 1) := by decide +kernel
theorem dX9_widthOf_9 : decode cX9_widthOf 9 = .ok (.bipush 16, 2) := by decide +kernel
theorem dX9_widthOf_11 : decode cX9_widthOf 11 = .ok (.iadd, 1) := by decide +kernel
theorem dX9_widthOf_12 : decode cX9_widthOf 12 = .ok (.if_icmp .ge 44, 3) := by decide +kernel
theorem dX9_widthOf_15 : decode cX9_widthOf 15 = .ok (.iload 6, 2) := by decide +kernel
theorem dX9_widthOf_17 : decode cX9_widthOf 17 = .ok (.iload_n 2, 1) := by decide +kernel
theorem dX9_widthOf_18 : decode cX9_widthOf 18 = .ok (.if_icmp .ge 38, 3) := by decide +kernel
theorem dX9_widthOf_21 : decode cX9_widthOf 21 = .ok (.iload 5, 2) := by decide +kernel
theorem dX9_widthOf_23 : decode cX9_widthOf 23 = .ok (.bipush 64, 2) := by decide +kernel
theorem dX9_widthOf_25 : decode cX9_widthOf 25 = .ok (.if_icmp .ge 25, 3) := by decide +kernel
theorem dX9_widthOf_28 : decode cX9_widthOf 28 = .ok (.aload_n 0, 1) := by decide +kernel
theorem dX9_widthOf_29 : decode cX9_widthOf 29 = .ok (.iload 6, 2) := by decide +kernel
theorem dX9_widthOf_31 : decode cX9_widthOf 31 = .ok (.invokevirtual 109, 3) := by decide +kernel
theorem dX9_widthOf_34 : decode cX9_widthOf 34 = .ok (.lload_n 3, 1) := by decide +kernel
theorem dX9_widthOf_35 : decode cX9_widthOf 35 = .ok (.lsub, 1) := by decide +kernel
theorem dX9_widthOf_36 : decode cX9_widthOf 36 = .ok (.iload 5, 2) := by decide +kernel
theorem dX9_widthOf_38 : decode cX9_widthOf 38 = .ok (.lushr, 1) := by decide +kernel
theorem dX9_widthOf_39 : decode cX9_widthOf 39 = .ok (.lconst 0, 1) := by decide +kernel
theorem dX9_widthOf_40 : decode cX9_widthOf 40 = .ok (.lcmp, 1) := by decide +kernel
theorem dX9_widthOf_41 : decode cX9_widthOf 41 = .ok (.ifCond .eq 9, 3) := by decide +kernel
theorem dX9_widthOf_44 : decode cX9_widthOf 44 = .ok (.iinc 5 1, 3) := by decide +kernel
theorem dX9_widthOf_47 : decode cX9_widthOf 47 = .ok (.goto (-26), 3) := by decide +kernel
theorem dX9_widthOf_50 : decode cX9_widthOf 50 = .ok (.iinc 6 1, 3) := by decide +kernel
theorem dX9_widthOf_53 : decode cX9_widthOf 53 = .ok (.goto (-47), 3) := by decide +kernel
theorem dX9_widthOf_56 : decode cX9_widthOf 56 = .ok (.iload 5, 2) := by decide +kernel
theorem dX9_widthOf_58 : decode cX9_widthOf 58 = .ok (.ireturn, 1) := by decide +kernel
theorem dX9_writePart_0 : decode cX9_writePart 0 = .ok (.iconst 0, 1) := by decide +kernel
theorem dX9_writePart_1 : decode cX9_writePart 1 = .ok (.istore 6, 2) := by decide +kernel
theorem dX9_writePart_3 : decode cX9_writePart 3 = .ok (.iload 6, 2) := by decide +kernel
theorem dX9_writePart_5 : decode cX9_writePart 5 = .ok (.bipush 16, 2) := by decide +kernel
theorem dX9_writePart_7 : decode cX9_writePart 7 = .ok (.iload 5, 2) := by decide +kernel
theorem dX9_writePart_9 : decode cX9_writePart 9 = .ok (.imul, 1) := by decide +kernel
theorem dX9_writePart_10 : decode cX9_writePart 10 = .ok (.if_icmp .ge 80, 3) := by decide +kernel
theorem dX9_writePart_13 : decode cX9_writePart 13 = .ok (.iconst 0, 1) := by decide +kernel
theorem dX9_writePart_14 : decode cX9_writePart 14 = .ok (.istore 7, 2) := by decide +kernel
theorem dX9_writePart_16 : decode cX9_writePart 16 = .ok (.iconst 0, 1) := by decide +kernel
theorem dX9_writePart_17 : decode cX9_writePart 17 = .ok (.istore 8, 2) := by decide +kernel
theorem dX9_writePart_19 : decode cX9_writePart 19 = .ok (.iload 8, 2) := by decide +kernel
theorem dX9_writePart_21 : decode cX9_writePart 21 = .ok (.bipush 8, 2) := by decide +kernel
theorem dX9_writePart_23 : decode cX9_writePart 23 = .ok (.if_icmp .ge 55, 3) := by decide +kernel
theorem dX9_writePart_26 : decode cX9_writePart 26 = .ok (.iload_n 1, 1) := by decide +kernel
theorem dX9_writePart_27 : decode cX9_writePart 27 = .ok (.iload 6, 2) := by decide +kernel
theorem dX9_writePart_29 : decode cX9_writePart 29 = .ok (.iload 8, 2) := by decide +kernel
theorem dX9_writePart_31 : decode cX9_writePart 31 = .ok (.iadd, 1) := by decide +kernel
theorem dX9_writePart_32 : decode cX9_writePart 32 = .ok (.iload 5, 2) := by decide +kernel
theorem dX9_writePart_34 : decode cX9_writePart 34 = .ok (.idiv, 1) := by decide +kernel
theorem dX9_writePart_35 : decode cX9_writePart 35 = .ok (.iadd, 1) := by decide +kernel
theorem dX9_writePart_36 : decode cX9_writePart 36 = .ok (.istore 9, 2) := by decide +kernel
theorem dX9_writePart_38 : decode cX9_writePart 38 = .ok (.iload 9, 2) := by decide +kernel
theorem dX9_writePart_40 : decode cX9_writePart 40 = .ok (.iload_n 2, 1) := by decide +kernel
theorem dX9_writePart_41 : decode cX9_writePart 41 = .ok (.if_icmp .ge 31, 3) := by decide +kernel
theorem dX9_writePart_44 : decode cX9_writePart 44 = .ok (.iload 7, 2) := by decide +kernel
theorem dX9_writePart_46 : decode cX9_writePart 46 = .ok (.aload_n 0, 1) := by decide +kernel
theorem dX9_writePart_47 : decode cX9_writePart 47 = .ok (.iload 9, 2) := by decide +kernel
theorem dX9_writePart_49 : decode cX9_writePart 49 = .ok (.invokevirtual 109, 3) := by decide +kernel
theorem dX9_writePart_52 : decode cX9_writePart 52 = .ok (.lload_n 3, 1) := by decide +kernel
theorem dX9_writePart_53 : decode cX9_writePart 53 = .ok (.lsub, 1) := by decide +kernel
theorem dX9_writePart_54 : decode cX9_writePart 54 = .ok (.iload 6, 2) := by decide +kernel
theorem dX9_writePart_56 : decode cX9_writePart 56 = .ok (.iload 8, 2) := by decide +kernel
theorem dX9_writePart_58 : decode cX9_writePart 58 = .ok (.iadd, 1) := by decide +kernel
theorem dX9_writePart_59 : decode cX9_writePart 59 = .ok (.iload 5, 2) := by decide +kernel
theorem dX9_writePart_61 : decode cX9_writePart 61 = .ok (.irem, 1) := by decide +kernel
theorem dX9_writePart_62 : decode cX9_writePart 62 = .ok (.lushr, 1) := by decide +kernel
theorem dX9_writePart_63 : decode cX9_writePart 63 = .ok (.lconst 1, 1) := by decide +kernel
theorem dX9_writePart_64 : decode cX9_writePart 64 = .ok (.land, 1) := by decide +kernel
theorem dX9_writePart_65 : decode cX9_writePart 65 = .ok (.l2i, 1) := by decide +kernel
theorem dX9_writePart_66 : decode cX9_writePart 66 = .ok (.iload 8, 2) := by decide +kernel
theorem dX9_writePart_68 : decode cX9_writePart 68 = .ok (.ishl, 1) := by decide +kernel
theorem dX9_writePart_69 : decode cX9_writePart 69 = .ok (.ior, 1) := by decide +kernel
theorem dX9_writePart_70 : decode cX9_writePart 70 = .ok (.istore 7, 2) := by decide +kernel
theorem dX9_writePart_72 : decode cX9_writePart 72 = .ok (.iinc 8 1, 3) := by decide +kernel
theorem dX9_writePart_75 : decode cX9_writePart 75 = .ok (.goto (-56), 3) := by decide +kernel
theorem dX9_writePart_78 : decode cX9_writePart 78 = .ok (.aload_n 0, 1) := by decide +kernel
theorem dX9_writePart_79 : decode cX9_writePart 79 = .ok (.iload 7, 2) := by decide +kernel
theorem dX9_writePart_81 : decode cX9_writePart 81 = .ok (.invokevirtual 66, 3) := by decide +kernel
theorem dX9_writePart_84 : decode cX9_writePart 84 = .ok (.iinc 6 8, 3) := by decide +kernel
theorem dX9_writePart_87 : decode cX9_writePart 87 = .ok (.goto (-84), 3) := by decide +kernel
theorem dX9_writePart_90 : decode cX9_writePart 90 = .ok (.return_, 1) := by decide +kernel
theorem dX9_readCode_0 : decode cX9_readCode 0 = .ok (.aload_n 0, 1) := by decide +kernel
theorem dX9_readCode_1 : decode cX9_readCode 1 = .ok (.aload_n 0, 1) := by decide +kernel
theorem dX9_readCode_2 : decode cX9_readCode 2 = .ok (.getfield 120, 3) := by decide +kernel
theorem dX9_readCode_5 : decode cX9_readCode 5 = .ok (.invokevirtual 80, 3) := by decide +kernel
theorem dX9_readCode_8 : decode cX9_readCode 8 = .ok (.lstore_n 2, 1) := by decide +kernel
theorem dX9_readCode_9 : decode cX9_readCode 9 = .ok (.aload_n 0, 1) := by decide +kernel
theorem dX9_readCode_10 : decode cX9_readCode 10 = .ok (.getfield 58, 3) := by decide +kernel
theorem dX9_readCode_13 : decode cX9_readCode 13 = .ok (.ifCond .ne 29, 3) := by decide +kernel
theorem dX9_readCode_16 : decode cX9_readCode 16 = .ok (.lload_n 2, 1) := by decide +kernel
theorem dX9_readCode_17 : decode cX9_readCode 17 = .ok (.lconst 0, 1) := by decide +kernel
theorem dX9_readCode_18 : decode cX9_readCode 18 = .ok (.lcmp, 1) := by decide +kernel
theorem dX9_readCode_19 : decode cX9_readCode 19 = .ok (.ifCond .lt 18, 3) := by decide +kernel
theorem dX9_readCode_22 : decode cX9_readCode 22 = .ok (.lload_n 2, 1) := by decide +kernel
theorem dX9_readCode_23 : decode cX9_readCode 23 = .ok (.aload_n 0, 1) := by decide +kernel
theorem dX9_readCode_24 : decode cX9_readCode 24 = .ok (.getfield 120, 3) := by decide +kernel
theorem dX9_readCode_27 : decode cX9_readCode 27 = .ok (.aload_n 0, 1) := by decide +kernel
theorem dX9_readCode_28 : decode cX9_readCode 28 = .ok (.getfield 61, 3) := by decide +kernel
theorem dX9_readCode_31 : decode cX9_readCode 31 = .ok (.isub, 1) := by decide +kernel
theorem dX9_readCode_32 : decode cX9_readCode 32 = .ok (.i2l, 1) := by decide +kernel
theorem dX9_readCode_33 : decode cX9_readCode 33 = .ok (.lcmp, 1) := by decide +kernel
theorem dX9_readCode_34 : decode cX9_readCode 34 = .ok (.ifCond .le 8, 3) := by decide +kernel
theorem dX9_readCode_37 : decode cX9_readCode 37 = .ok (.aload_n 0, 1) := by decide +kernel
theorem dX9_readCode_38 : decode cX9_readCode 38 = .ok (.iconst 1, 1) := by decide +kernel
theorem dX9_readCode_39 : decode cX9_readCode 39 = .ok (.putfield 58, 3) := by decide +kernel
theorem dX9_readCode_42 : decode cX9_readCode 42 = .ok (.aload_n 0, 1) := by decide +kernel
theorem dX9_readCode_43 : decode cX9_readCode 43 = .ok (.getfield 58, 3) := by decide +kernel
theorem dX9_readCode_46 : decode cX9_readCode 46 = .ok (.ifCond .eq 4, 3) := by decide +kernel
theorem dX9_readCode_49 : decode cX9_readCode 49 = .ok (.return_, 1) := by decide +kernel
theorem dX9_readCode_50 : decode cX9_readCode 50 = .ok (.aload_n 0, 1) := by decide +kernel
theorem dX9_readCode_51 : decode cX9_readCode 51 = .ok (.getfield 61, 3) := by decide +kernel
theorem dX9_readCode_54 : decode cX9_readCode 54 = .ok (.lload_n 2, 1) := by decide +kernel
theorem dX9_readCode_55 : decode cX9_readCode 55 = .ok (.l2i, 1) := by decide +kernel
theorem dX9_readCode_56 : decode cX9_readCode 56 = .ok (.iadd, 1) := by decide +kernel
theorem dX9_readCode_57 : decode cX9_readCode 57 = .ok (.istore 4, 2) := by decide +kernel
theorem dX9_readCode_59 : decode cX9_readCode 59 = .ok (.aload_n 0, 1) := by decide +kernel
theorem dX9_readCode_60 : decode cX9_readCode 60 = .ok (.iload 4, 2) := by decide +kernel
theorem dX9_readCode_62 : decode cX9_readCode 62 = .ok (.invokevirtual 80, 3) := by decide +kernel
theorem dX9_readCode_65 : decode cX9_readCode 65 = .ok (.lstore 5, 2) := by decide +kernel
theorem dX9_readCode_67 : decode cX9_readCode 67 = .ok (.aload_n 0, 1) := by decide +kernel
theorem dX9_readCode_68 : decode cX9_readCode 68 = .ok (.getfield 58, 3) := by decide +kernel
theorem dX9_readCode_71 : decode cX9_readCode 71 = .ok (.ifCond .ne 24, 3) := by decide +kernel
theorem dX9_readCode_74 : decode cX9_readCode 74 = .ok (.lload 5, 2) := by decide +kernel
theorem dX9_readCode_76 : decode cX9_readCode 76 = .ok (.lconst 0, 1) := by decide +kernel
theorem dX9_readCode_77 : decode cX9_readCode 77 = .ok (.lcmp, 1) := by decide +kernel
theorem dX9_readCode_78 : decode cX9_readCode 78 = .ok (.ifCond .lt 12, 3) := by decide +kernel
theorem dX9_readCode_81 : decode cX9_readCode 81 = .ok (.lload 5, 2) := by decide +kernel
theorem dX9_readCode_83 : decode cX9_readCode 83 = .ok (.ldc2_w 123, 3) := by decide +kernel
theorem dX9_readCode_86 : decode cX9_readCode 86 = .ok (.lcmp, 1) := by decide +kernel
theorem dX9_readCode_87 : decode cX9_readCode 87 = .ok (.ifCond .le 8, 3) := by decide +kernel
theorem dX9_readCode_90 : decode cX9_readCode 90 = .ok (.aload_n 0, 1) := by decide +kernel
theorem dX9_readCode_91 : decode cX9_readCode 91 = .ok (.iconst 4, 1) := by decide +kernel
theorem dX9_readCode_92 : decode cX9_readCode 92 = .ok (.putfield 58, 3) := by decide +kernel
theorem dX9_readCode_95 : decode cX9_readCode 95 = .ok (.aload_n 0, 1) := by decide +kernel
theorem dX9_readCode_96 : decode cX9_readCode 96 = .ok (.getfield 58, 3) := by decide +kernel
theorem dX9_readCode_99 : decode cX9_readCode 99 = .ok (.ifCond .eq 4, 3) := by decide +kernel
theorem dX9_readCode_102 : decode cX9_readCode 102 = .ok (.return_, 1) := by decide +kernel
theorem dX9_readCode_103 : decode cX9_readCode 103 = .ok (.aload_n 0, 1) := by decide +kernel
theorem dX9_readCode_104 : decode cX9_readCode 104 = .ok (.lload 5, 2) := by decide +kernel
theorem dX9_readCode_106 : decode cX9_readCode 106 = .ok (.l2i, 1) := by decide +kernel
theorem dX9_readCode_107 : decode cX9_readCode 107 = .ok (.putfield 102, 3) := by decide +kernel
theorem dX9_readCode_110 : decode cX9_readCode 110 = .ok (.aload_n 0, 1) := by decide +kernel
theorem dX9_readCode_111 : decode cX9_readCode 111 = .ok (.getfield 102, 3) := by decide +kernel
theorem dX9_readCode_114 : decode cX9_readCode 114 = .ok (.ifCond .le 18, 3) := by decide +kernel
theorem dX9_readCode_117 : decode cX9_readCode 117 = .ok (.aload_n 0, 1) := by decide +kernel
theorem dX9_readCode_118 : decode cX9_readCode 118 = .ok (.getfield 38, 3) := by decide +kernel
theorem dX9_readCode_121 : decode cX9_readCode 121 = .ok (.iconst 0, 1) := by decide +kernel
theorem dX9_readCode_122 : decode cX9_readCode 122 = .ok (.aload_n 0, 1) := by decide +kernel
theorem dX9_readCode_123 : decode cX9_readCode 123 = .ok (.iload 4, 2) := by decide +kernel
theorem dX9_readCode_125 : decode cX9_readCode 125 = .ok (.invokevirtual 80, 3) := by decide +kernel
theorem dX9_readCode_128 : decode cX9_readCode 128 = .ok (.invokestatic 125, 3) := by decide +kernel
theorem dX9_readCode_131 : decode cX9_readCode 131 = .ok (.lastore, 1) := by decide +kernel
theorem dX9_readCode_132 : decode cX9_readCode 132 = .ok (.iconst 0, 1) := by decide +kernel
theorem dX9_readCode_133 : decode cX9_readCode 133 = .ok (.istore 7, 2) := by decide +kernel
theorem dX9_readCode_135 : decode cX9_readCode 135 = .ok (.iload 7, 2) := by decide +kernel
theorem dX9_readCode_137 : decode cX9_readCode 137 = .ok (.aload_n 0, 1) := by decide +kernel
theorem dX9_readCode_138 : decode cX9_readCode 138 = .ok (.getfield 102, 3) := by decide +kernel
theorem dX9_readCode_141 : decode cX9_readCode 141 = .ok (.iconst 1, 1) := by decide +kernel
theorem dX9_readCode_142 : decode cX9_readCode 142 = .ok (.isub, 1) := by decide +kernel
theorem dX9_readCode_143 : decode cX9_readCode 143 = .ok (.if_icmp .ge 52, 3) := by decide +kernel
theorem dX9_readCode_146 : decode cX9_readCode 146 = .ok (.aload_n 0, 1) := by decide +kernel
theorem dX9_readCode_147 : decode cX9_readCode 147 = .ok (.getfield 58, 3) := by decide +kernel
theorem dX9_readCode_150 : decode cX9_readCode 150 = .ok (.ifCond .ne 45, 3) := by decide +kernel
theorem dX9_readCode_153 : decode cX9_readCode 153 = .ok (.aload_n 0, 1) := by decide +kernel
theorem dX9_readCode_154 : decode cX9_readCode 154 = .ok (.iload 7, 2) := by decide +kernel
theorem dX9_readCode_156 : decode cX9_readCode 156 = .ok (.iload 7, 2) := by decide +kernel
theorem dX9_readCode_158 : decode cX9_readCode 158 = .ok (.bipush 64, 2) := by decide +kernel
theorem dX9_readCode_160 : decode cX9_readCode 160 = .ok (.iadd, 1) := by decide +kernel
theorem dX9_readCode_161 : decode cX9_readCode 161 = .ok (.aload_n 0, 1) := by decide +kernel
theorem dX9_readCode_162 : decode cX9_readCode 162 = .ok (.getfield 102, 3) := by decide +kernel
theorem dX9_readCode_165 : decode cX9_readCode 165 = .ok (.iconst 1, 1) := by decide +kernel
theorem dX9_readCode_166 : decode cX9_readCode 166 = .ok (.isub, 1) := by decide +kernel
theorem dX9_readCode_167 : decode cX9_readCode 167 = .ok (.if_icmp .ge 11, 3) := by decide +kernel
theorem dX9_readCode_170 : decode cX9_readCode 170 = .ok (.iload 7, 2) := by decide +kernel
theorem dX9_readCode_172 : decode cX9_readCode 172 = .ok (.bipush 64, 2) := by decide +kernel
theorem dX9_readCode_174 : decode cX9_readCode 174 = .ok (.iadd, 1) := by decide +kernel
theorem dX9_readCode_175 : decode cX9_readCode 175 = .ok (.goto 9, 3) := by decide +kernel
theorem dX9_readCode_178 : decode cX9_readCode 178 = .ok (.aload_n 0, 1) := by decide +kernel
theorem dX9_readCode_179 : decode cX9_readCode 179 = .ok (.getfield 102, 3) := by decide +kernel
theorem dX9_readCode_182 : decode cX9_readCode 182 = .ok (.iconst 1, 1) := by decide +kernel
theorem dX9_readCode_183 : decode cX9_readCode 183 = .ok (.isub, 1) := by decide +kernel
theorem dX9_readCode_184 : decode cX9_readCode 184 = .ok (.iload 4, 2) := by decide +kernel
theorem dX9_readCode_186 : decode cX9_readCode 186 = .ok (.invokevirtual 128, 3) := by decide +kernel
theorem dX9_readCode_189 : decode cX9_readCode 189 = .ok (.iinc 7 64, 3) := by decide +kernel
theorem dX9_readCode_192 : decode cX9_readCode 192 = .ok (.goto (-57), 3) := by decide +kernel
theorem dX9_readCode_195 : decode cX9_readCode 195 = .ok (.aload_n 0, 1) := by decide +kernel
theorem dX9_readCode_196 : decode cX9_readCode 196 = .ok (.getfield 58, 3) := by decide +kernel
theorem dX9_readCode_199 : decode cX9_readCode 199 = .ok (.ifCond .ne 18, 3) := by decide +kernel
theorem dX9_readCode_202 : decode cX9_readCode 202 = .ok (.aload_n 0, 1) := by decide +kernel
theorem dX9_readCode_203 : decode cX9_readCode 203 = .ok (.getfield 61, 3) := by decide +kernel
theorem dX9_readCode_206 : decode cX9_readCode 206 = .ok (.iload 4, 2) := by decide +kernel
theorem dX9_readCode_208 : decode cX9_readCode 208 = .ok (.if_icmp .ge 9, 3) := by decide +kernel
theorem dX9_readCode_211 : decode cX9_readCode 211 = .ok (.aload_n 0, 1) := by decide +kernel
theorem dX9_readCode_212 : decode cX9_readCode 212 = .ok (.bipush 6, 2) := by decide +kernel
theorem dX9_readCode_214 : decode cX9_readCode 214 = .ok (.putfield 58, 3) := by decide +kernel
theorem dX9_readCode_217 : decode cX9_readCode 217 = .ok (.aload_n 0, 1) := by decide +kernel
theorem dX9_readCode_218 : decode cX9_readCode 218 = .ok (.getfield 58, 3) := by decide +kernel
theorem dX9_readCode_221 : decode cX9_readCode 221 = .ok (.ifCond .ne 16, 3) := by decide +kernel
theorem dX9_readCode_224 : decode cX9_readCode 224 = .ok (.aload_n 0, 1) := by decide +kernel
theorem dX9_readCode_225 : decode cX9_readCode 225 = .ok (.getfield 102, 3) := by decide +kernel
theorem dX9_readCode_228 : decode cX9_readCode 228 = .ok (.iload_n 1, 1) := by decide +kernel
theorem dX9_readCode_229 : decode cX9_readCode 229 = .ok (.if_icmp .eq 8, 3) := by decide +kernel
theorem dX9_readCode_232 : decode cX9_readCode 232 = .ok (.aload_n 0, 1) := by decide +kernel
theorem dX9_readCode_233 : decode cX9_readCode 233 = .ok (.iconst 4, 1) := by decide +kernel
theorem dX9_readCode_234 : decode cX9_readCode 234 = .ok (.putfield 58, 3) := by decide +kernel
theorem dX9_readCode_237 : decode cX9_readCode 237 = .ok (.return_, 1) := by decide +kernel
theorem dX9_readBlock_0 : decode cX9_readBlock 0 = .ok (.aload_n 0, 1) := by decide +kernel
theorem dX9_readBlock_1 : decode cX9_readBlock 1 = .ok (.iload_n 3, 1) := by decide +kernel
theorem dX9_readBlock_2 : decode cX9_readBlock 2 = .ok (.invokevirtual 80, 3) := by decide +kernel
theorem dX9_readBlock_5 : decode cX9_readBlock 5 = .ok (.invokestatic 125, 3) := by decide +kernel
theorem dX9_readBlock_8 : decode cX9_readBlock 8 = .ok (.lstore 4, 2) := by decide +kernel
theorem dX9_readBlock_10 : decode cX9_readBlock 10 = .ok (.aload_n 0, 1) := by decide +kernel
theorem dX9_readBlock_11 : decode cX9_readBlock 11 = .ok (.getfield 61, 3) := by decide +kernel
theorem dX9_readBlock_14 : decode cX9_readBlock 14 = .ok (.istore 6, 2) := by decide +kernel
theorem dX9_readBlock_16 : decode cX9_readBlock 16 = .ok (.iconst 0, 1) := by decide +kernel
theorem dX9_readBlock_17 : decode cX9_readBlock 17 = .ok (.istore 7, 2) := by decide +kernel
theorem dX9_readBlock_19 : decode cX9_readBlock 19 = .ok (.iload 7, 2) := by decide +kernel
theorem dX9_readBlock_21 : decode cX9_readBlock 21 = .ok (.iconst 4, 1) := by decide +kernel
theorem dX9_readBlock_22 : decode cX9_readBlock 22 = .ok (.if_icmp .ge 84, 3) := by decide +kernel
theorem dX9_readBlock_25 : decode cX9_readBlock 25 = .ok (.aload_n 0, 1) := by decide +kernel
theorem dX9_readBlock_26 : decode cX9_readBlock 26 = .ok (.getfield 58, 3) := by decide +kernel
theorem dX9_readBlock_29 : decode cX9_readBlock 29 = .ok (.ifCond .ne 77, 3) := by decide +kernel
theorem dX9_readBlock_32 : decode cX9_readBlock 32 = .ok (.aload_n 0, 1) := by decide +kernel
theorem dX9_readBlock_33 : decode cX9_readBlock 33 = .ok (.getfield 61, 3) := by decide +kernel
theorem dX9_readBlock_36 : decode cX9_readBlock 36 = .ok (.iload_n 3, 1) := by decide +kernel
theorem dX9_readBlock_37 : decode cX9_readBlock 37 = .ok (.if_icmp .lt 11, 3) := by decide +kernel
theorem dX9_readBlock_40 : decode cX9_readBlock 40 = .ok (.aload_n 0, 1) := by decide +kernel
theorem dX9_readBlock_41 : decode cX9_readBlock 41 = .ok (.iconst 1, 1) := by decide +kernel
theorem dX9_readBlock_42 : decode cX9_readBlock 42 = .ok (.putfield 58, 3) := by decide +kernel
theorem dX9_readBlock_45 : decode cX9_readBlock 45 = .ok (.goto 45, 3) := by decide +kernel
theorem dX9_readBlock_48 : decode cX9_readBlock 48 = .ok (.aload_n 0, 1) := by decide +kernel
theorem dX9_readBlock_49 : decode cX9_readBlock 49 = .ok (.getfield 31, 3) := by decide +kernel
theorem dX9_readBlock_52 : decode cX9_readBlock 52 = .ok (.aload_n 0, 1) := by decide +kernel
theorem dX9_readBlock_53 : decode cX9_readBlock 53 = .ok (.getfield 61, 3) := by decide +kernel
theorem dX9_readBlock_56 : decode cX9_readBlock 56 = .ok (.iaload, 1) := by decide +kernel
theorem dX9_readBlock_57 : decode cX9_readBlock 57 = .ok (.bipush 64, 2) := by decide +kernel
theorem dX9_readBlock_59 : decode cX9_readBlock 59 = .ok (.if_icmp .gt 26, 3) := by decide +kernel
theorem dX9_readBlock_62 : decode cX9_readBlock 62 = .ok (.aload_n 0, 1) := by decide +kernel
theorem dX9_readBlock_63 : decode cX9_readBlock 63 = .ok (.getfield 31, 3) := by decide +kernel
theorem dX9_readBlock_66 : decode cX9_readBlock 66 = .ok (.aload_n 0, 1) := by decide +kernel
theorem dX9_readBlock_67 : decode cX9_readBlock 67 = .ok (.getfield 61, 3) := by decide +kernel
theorem dX9_readBlock_70 : decode cX9_readBlock 70 = .ok (.iaload, 1) := by decide +kernel
theorem dX9_readBlock_71 : decode cX9_readBlock 71 = .ok (.ifCond .le 19, 3) := by decide +kernel
theorem dX9_readBlock_74 : decode cX9_readBlock 74 = .ok (.iload_n 1, 1) := by decide +kernel
theorem dX9_readBlock_75 : decode cX9_readBlock 75 = .ok (.bipush 16, 2) := by decide +kernel
theorem dX9_readBlock_77 : decode cX9_readBlock 77 = .ok (.iload 7, 2) := by decide +kernel
theorem dX9_readBlock_79 : decode cX9_readBlock 79 = .ok (.imul, 1) := by decide +kernel
theorem dX9_readBlock_80 : decode cX9_readBlock 80 = .ok (.iadd, 1) := by decide +kernel
theorem dX9_readBlock_81 : decode cX9_readBlock 81 = .ok (.iload_n 2, 1) := by decide +kernel
theorem dX9_readBlock_82 : decode cX9_readBlock 82 = .ok (.if_icmp .lt 8, 3) := by decide +kernel
theorem dX9_readBlock_85 : decode cX9_readBlock 85 = .ok (.aload_n 0, 1) := by decide +kernel
theorem dX9_readBlock_86 : decode cX9_readBlock 86 = .ok (.iconst 5, 1) := by decide +kernel
theorem dX9_readBlock_87 : decode cX9_readBlock 87 = .ok (.putfield 58, 3) := by decide +kernel
theorem dX9_readBlock_90 : decode cX9_readBlock 90 = .ok (.aload_n 0, 1) := by decide +kernel
theorem dX9_readBlock_91 : decode cX9_readBlock 91 = .ok (.dup, 1) := by decide +kernel
theorem dX9_readBlock_92 : decode cX9_readBlock 92 = .ok (.getfield 61, 3) := by decide +kernel
theorem dX9_readBlock_95 : decode cX9_readBlock 95 = .ok (.iconst 1, 1) := by decide +kernel
theorem dX9_readBlock_96 : decode cX9_readBlock 96 = .ok (.iadd, 1) := by decide +kernel
theorem dX9_readBlock_97 : decode cX9_readBlock 97 = .ok (.putfield 61, 3) := by decide +kernel
theorem dX9_readBlock_100 : decode cX9_readBlock 100 = .ok (.iinc 7 1, 3) := by decide +kernel
theorem dX9_readBlock_103 : decode cX9_readBlock 103 = .ok (.goto (-84), 3) := by decide +kernel
theorem dX9_readBlock_106 : decode cX9_readBlock 106 = .ok (.iconst 0, 1) := by decide +kernel
theorem dX9_readBlock_107 : decode cX9_readBlock 107 = .ok (.istore 7, 2) := by decide +kernel
theorem dX9_readBlock_109 : decode cX9_readBlock 109 = .ok (.iload 7, 2) := by decide +kernel
theorem dX9_readBlock_111 : decode cX9_readBlock 111 = .ok (.iconst 4, 1) := by decide +kernel
theorem dX9_readBlock_112 : decode cX9_readBlock 112 = .ok (.if_icmp .ge 212, 3) := by decide +kernel
theorem dX9_readBlock_115 : decode cX9_readBlock 115 = .ok (.aload_n 0, 1) := by decide +kernel
theorem dX9_readBlock_116 : decode cX9_readBlock 116 = .ok (.getfield 58, 3) := by decide +kernel
theorem dX9_readBlock_119 : decode cX9_readBlock 119 = .ok (.ifCond .ne 205, 3) := by decide +kernel
theorem dX9_readBlock_122 : decode cX9_readBlock 122 = .ok (.iload_n 1, 1) := by decide +kernel
theorem dX9_readBlock_123 : decode cX9_readBlock 123 = .ok (.bipush 16, 2) := by decide +kernel
theorem dX9_readBlock_125 : decode cX9_readBlock 125 = .ok (.iload 7, 2) := by decide +kernel
theorem dX9_readBlock_127 : decode cX9_readBlock 127 = .ok (.imul, 1) := by decide +kernel
theorem dX9_readBlock_128 : decode cX9_readBlock 128 = .ok (.iadd, 1) := by decide +kernel
theorem dX9_readBlock_129 : decode cX9_readBlock 129 = .ok (.iload_n 2, 1) := by decide +kernel
theorem dX9_readBlock_130 : decode cX9_readBlock 130 = .ok (.if_icmp .ge 194, 3) := by decide +kernel
theorem dX9_readBlock_133 : decode cX9_readBlock 133 = .ok (.aload_n 0, 1) := by decide +kernel
theorem dX9_readBlock_134 : decode cX9_readBlock 134 = .ok (.getfield 31, 3) := by decide +kernel
theorem dX9_readBlock_137 : decode cX9_readBlock 137 = .ok (.iload 6, 2) := by decide +kernel
theorem dX9_readBlock_139 : decode cX9_readBlock 139 = .ok (.iload 7, 2) := by decide +kernel
theorem dX9_readBlock_141 : decode cX9_readBlock 141 = .ok (.iadd, 1) := by decide +kernel
theorem dX9_readBlock_142 : decode cX9_readBlock 142 = .ok (.iaload, 1) := by decide +kernel
theorem dX9_readBlock_143 : decode cX9_readBlock 143 = .ok (.istore 8, 2) := by decide +kernel
theorem dX9_readBlock_145 : decode cX9_readBlock 145 = .ok (.iload_n 3, 1) := by decide +kernel
theorem dX9_readBlock_146 : decode cX9_readBlock 146 = .ok (.aload_n 0, 1) := by decide +kernel
theorem dX9_readBlock_147 : decode cX9_readBlock 147 = .ok (.getfield 61, 3) := by decide +kernel
theorem dX9_readBlock_150 : decode cX9_readBlock 150 = .ok (.isub, 1) := by decide +kernel
theorem dX9_readBlock_151 : decode cX9_readBlock 151 = .ok (.iconst 2, 1) := by decide +kernel
theorem dX9_readBlock_152 : decode cX9_readBlock 152 = .ok (.iload 8, 2) := by decide +kernel
theorem dX9_readBlock_154 : decode cX9_readBlock 154 = .ok (.imul, 1) := by decide +kernel
theorem dX9_readBlock_155 : decode cX9_readBlock 155 = .ok (.if_icmp .ge 8, 3) := by decide +kernel
theorem dX9_readBlock_158 : decode cX9_readBlock 158 = .ok (.aload_n 0, 1) := by decide +kernel
theorem dX9_readBlock_159 : decode cX9_readBlock 159 = .ok (.iconst 1, 1) := by decide +kernel
theorem dX9_readBlock_160 : decode cX9_readBlock 160 = .ok (.putfield 58, 3) := by decide +kernel
theorem dX9_readBlock_163 : decode cX9_readBlock 163 = .ok (.iconst 0, 1) := by decide +kernel
theorem dX9_readBlock_164 : decode cX9_readBlock 164 = .ok (.istore 9, 2) := by decide +kernel
theorem dX9_readBlock_166 : decode cX9_readBlock 166 = .ok (.iload 9, 2) := by decide +kernel
theorem dX9_readBlock_168 : decode cX9_readBlock 168 = .ok (.bipush 16, 2) := by decide +kernel
theorem dX9_readBlock_170 : decode cX9_readBlock 170 = .ok (.if_icmp .ge 135, 3) := by decide +kernel
theorem dX9_readBlock_173 : decode cX9_readBlock 173 = .ok (.aload_n 0, 1) := by decide +kernel
theorem dX9_readBlock_174 : decode cX9_readBlock 174 = .ok (.getfield 58, 3) := by decide +kernel
theorem dX9_readBlock_177 : decode cX9_readBlock 177 = .ok (.iconst 1, 1) := by decide +kernel
theorem dX9_readBlock_178 : decode cX9_readBlock 178 = .ok (.if_icmp .eq 127, 3) := by decide +kernel
theorem dX9_readBlock_181 : decode cX9_readBlock 181 = .ok (.lconst 0, 1) := by decide +kernel
theorem dX9_readBlock_182 : decode cX9_readBlock 182 = .ok (.lstore 10, 2) := by decide +kernel
theorem dX9_readBlock_184 : decode cX9_readBlock 184 = .ok (.iconst 0, 1) := by decide +kernel
theorem dX9_readBlock_185 : decode cX9_readBlock 185 = .ok (.istore 12, 2) := by decide +kernel
theorem dX9_readBlock_187 : decode cX9_readBlock 187 = .ok (.iload 12, 2) := by decide +kernel
theorem dX9_readBlock_189 : decode cX9_readBlock 189 = .ok (.iload 8, 2) := by decide +kernel
theorem dX9_readBlock_191 : decode cX9_readBlock 191 = .ok (.if_icmp .ge 53, 3) := by decide +kernel
theorem dX9_readBlock_194 : decode cX9_readBlock 194 = .ok (.lload 10, 2) := by decide +kernel
theorem dX9_readBlock_196 : decode cX9_readBlock 196 = .ok (.aload_n 0, 1) := by decide +kernel
theorem dX9_readBlock_197 : decode cX9_readBlock 197 = .ok (.getfield 31, 3) := by decide +kernel
theorem dX9_readBlock_200 : decode cX9_readBlock 200 = .ok (.aload_n 0, 1) := by decide +kernel
theorem dX9_readBlock_201 : decode cX9_readBlock 201 = .ok (.getfield 61, 3) := by decide +kernel
theorem dX9_readBlock_204 : decode cX9_readBlock 204 = .ok (.iload 8, 2) := by decide +kernel
theorem dX9_readBlock_206 : decode cX9_readBlock 206 = .ok (.iload 9, 2) := by decide +kernel
theorem dX9_readBlock_208 : decode cX9_readBlock 208 = .ok (.imul, 1) := by decide +kernel
theorem dX9_readBlock_209 : decode cX9_readBlock 209 = .ok (.iload 12, 2) := by decide +kernel
theorem dX9_readBlock_211 : decode cX9_readBlock 211 = .ok (.iadd, 1) := by decide +kernel
theorem dX9_readBlock_212 : decode cX9_readBlock 212 = .ok (.bipush 8, 2) := by decide +kernel
theorem dX9_readBlock_214 : decode cX9_readBlock 214 = .ok (.idiv, 1) := by decide +kernel
theorem dX9_readBlock_215 : decode cX9_readBlock 215 = .ok (.iadd, 1) := by decide +kernel
theorem dX9_readBlock_216 : decode cX9_readBlock 216 = .ok (.iaload, 1) := by decide +kernel
theorem dX9_readBlock_217 : decode cX9_readBlock 217 = .ok (.iload 8, 2) := by decide +kernel
theorem dX9_readBlock_219 : decode cX9_readBlock 219 = .ok (.iload 9, 2) := by decide +kernel
theorem dX9_readBlock_221 : decode cX9_readBlock 221 = .ok (.imul, 1) := by decide +kernel
theorem dX9_readBlock_222 : decode cX9_readBlock 222 = .ok (.iload 12, 2) := by decide +kernel
theorem dX9_readBlock_224 : decode cX9_readBlock 224 = .ok (.iadd, 1) := by decide +kernel
theorem dX9_readBlock_225 : decode cX9_readBlock 225 = .ok (.bipush 8, 2) := by decide +kernel
theorem dX9_readBlock_227 : decode cX9_readBlock 227 = .ok (.irem, 1) := by decide +kernel
theorem dX9_readBlock_228 : decode cX9_readBlock 228 = .ok (.ishr, 1) := by decide +kernel
theorem dX9_readBlock_229 : decode cX9_readBlock 229 = .ok (.iconst 1, 1) := by decide +kernel
theorem dX9_readBlock_230 : decode cX9_readBlock 230 = .ok (.iand, 1) := by decide +kernel
theorem dX9_readBlock_231 : decode cX9_readBlock 231 = .ok (.i2l, 1) := by decide +kernel
theorem dX9_readBlock_232 : decode cX9_readBlock 232 = .ok (.iload 12, 2) := by decide +kernel
theorem dX9_readBlock_234 : decode cX9_readBlock 234 = .ok (.lshl, 1) := by decide +kernel
theorem dX9_readBlock_235 : decode cX9_readBlock 235 = .ok (.lor, 1) := by decide +kernel
theorem dX9_readBlock_236 : decode cX9_readBlock 236 = .ok (.lstore 10, 2) := by decide +kernel
theorem dX9_readBlock_238 : decode cX9_readBlock 238 = .ok (.iinc 12 1, 3) := by decide +kernel
theorem dX9_readBlock_241 : decode cX9_readBlock 241 = .ok (.goto (-54), 3) := by decide +kernel
theorem dX9_readBlock_244 : decode cX9_readBlock 244 = .ok (.iload_n 1, 1) := by decide +kernel
theorem dX9_readBlock_245 : decode cX9_readBlock 245 = .ok (.bipush 16, 2) := by decide +kernel
theorem dX9_readBlock_247 : decode cX9_readBlock 247 = .ok (.iload 7, 2) := by decide +kernel
theorem dX9_readBlock_249 : decode cX9_readBlock 249 = .ok (.imul, 1) := by decide +kernel
theorem dX9_readBlock_250 : decode cX9_readBlock 250 = .ok (.iadd, 1) := by decide +kernel
theorem dX9_readBlock_251 : decode cX9_readBlock 251 = .ok (.iload 9, 2) := by decide +kernel
theorem dX9_readBlock_253 : decode cX9_readBlock 253 = .ok (.iadd, 1) := by decide +kernel
theorem dX9_readBlock_254 : decode cX9_readBlock 254 = .ok (.istore 12, 2) := by decide +kernel
theorem dX9_readBlock_256 : decode cX9_readBlock 256 = .ok (.iload 12, 2) := by decide +kernel
theorem dX9_readBlock_258 : decode cX9_readBlock 258 = .ok (.iload_n 2, 1) := by decide +kernel
theorem dX9_readBlock_259 : decode cX9_readBlock 259 = .ok (.if_icmp .ge 28, 3) := by decide +kernel
theorem dX9_readBlock_262 : decode cX9_readBlock 262 = .ok (.aload_n 0, 1) := by decide +kernel
theorem dX9_readBlock_263 : decode cX9_readBlock 263 = .ok (.getfield 38, 3) := by decide +kernel
theorem dX9_readBlock_266 : decode cX9_readBlock 266 = .ok (.iload 12, 2) := by decide +kernel
theorem dX9_readBlock_268 : decode cX9_readBlock 268 = .ok (.iconst 1, 1) := by decide +kernel
theorem dX9_readBlock_269 : decode cX9_readBlock 269 = .ok (.iadd, 1) := by decide +kernel
theorem dX9_readBlock_270 : decode cX9_readBlock 270 = .ok (.aload_n 0, 1) := by decide +kernel
theorem dX9_readBlock_271 : decode cX9_readBlock 271 = .ok (.getfield 38, 3) := by decide +kernel
theorem dX9_readBlock_274 : decode cX9_readBlock 274 = .ok (.iload 12, 2) := by decide +kernel
theorem dX9_readBlock_276 : decode cX9_readBlock 276 = .ok (.laload, 1) := by decide +kernel
theorem dX9_readBlock_277 : decode cX9_readBlock 277 = .ok (.lload 4, 2) := by decide +kernel
theorem dX9_readBlock_279 : decode cX9_readBlock 279 = .ok (.ladd, 1) := by decide +kernel
theorem dX9_readBlock_280 : decode cX9_readBlock 280 = .ok (.lload 10, 2) := by decide +kernel
theorem dX9_readBlock_282 : decode cX9_readBlock 282 = .ok (.ladd, 1) := by decide +kernel
theorem dX9_readBlock_283 : decode cX9_readBlock 283 = .ok (.lastore, 1) := by decide +kernel
theorem dX9_readBlock_284 : decode cX9_readBlock 284 = .ok (.goto 15, 3) := by decide +kernel
theorem dX9_readBlock_287 : decode cX9_readBlock 287 = .ok (.lload 10, 2) := by decide +kernel
theorem dX9_readBlock_289 : decode cX9_readBlock 289 = .ok (.lconst 0, 1) := by decide +kernel
theorem dX9_readBlock_290 : decode cX9_readBlock 290 = .ok (.lcmp, 1) := by decide +kernel
theorem dX9_readBlock_291 : decode cX9_readBlock 291 = .ok (.ifCond .eq 8, 3) := by decide +kernel
theorem dX9_readBlock_294 : decode cX9_readBlock 294 = .ok (.aload_n 0, 1) := by decide +kernel
theorem dX9_readBlock_295 : decode cX9_readBlock 295 = .ok (.iconst 5, 1) := by decide +kernel
theorem dX9_readBlock_296 : decode cX9_readBlock 296 = .ok (.putfield 58, 3) := by decide +kernel
theorem dX9_readBlock_299 : decode cX9_readBlock 299 = .ok (.iinc 9 1, 3) := by decide +kernel
theorem dX9_readBlock_302 : decode cX9_readBlock 302 = .ok (.goto (-136), 3) := by decide +kernel
theorem dX9_readBlock_305 : decode cX9_readBlock 305 = .ok (.aload_n 0, 1) := by decide +kernel
theorem dX9_readBlock_306 : decode cX9_readBlock 306 = .ok (.dup, 1) := by decide +kernel
theorem dX9_readBlock_307 : decode cX9_readBlock 307 = .ok (.getfield 61, 3) := by decide +kernel
theorem dX9_readBlock_310 : decode cX9_readBlock 310 = .ok (.iconst 2, 1) := by decide +kernel
theorem dX9_readBlock_311 : decode cX9_readBlock 311 = .ok (.iload 8, 2) := by decide +kernel
theorem dX9_readBlock_313 : decode cX9_readBlock 313 = .ok (.imul, 1) := by decide +kernel
theorem dX9_readBlock_314 : decode cX9_readBlock 314 = .ok (.iadd, 1) := by decide +kernel
theorem dX9_readBlock_315 : decode cX9_readBlock 315 = .ok (.putfield 61, 3) := by decide +kernel
theorem dX9_readBlock_318 : decode cX9_readBlock 318 = .ok (.iinc 7 1, 3) := by decide +kernel
theorem dX9_readBlock_321 : decode cX9_readBlock 321 = .ok (.goto (-212), 3) := by decide +kernel
theorem dX9_readBlock_324 : decode cX9_readBlock 324 = .ok (.return_, 1) := by decide +kernel
