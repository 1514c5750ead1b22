theorem dX6_writeGroups_0 : decode cX6_writeGroups 0 = .ok (.aload_n 1, 1) := by decide +kernel
theorem dX6_writeGroups_1 : decode cX6_writeGroups 1 = .ok (.ldc2_w 33, 3) := by decide +kernel
theorem dX6_writeGroups_4 : decode cX6_writeGroups 4 = .ok (.iload_n 3, 1) := by decide +kernel
theorem dX6_writeGroups_5 : decode cX6_writeGroups 5 = .ok (.i2l, 1) := by decide +kernel
theorem dX6_writeGroups_6 : decode cX6_writeGroups 6 = .ok (.lmul, 1) := by decide +kernel
theorem dX6_writeGroups_7 : decode cX6_writeGroups 7 = .ok (.lconst 1, 1) := by decide +kernel
theorem dX6_writeGroups_8 : decode cX6_writeGroups 8 = .ok (.ladd, 1) := by decide +kernel
theorem dX6_writeGroups_9 : decode cX6_writeGroups 9 = .ok (.invokevirtual 35, 3) := by decide +kernel
theorem dX6_writeGroups_12 : decode cX6_writeGroups 12 = .ok (.aload_n 1, 1) := by decide +kernel
theorem dX6_writeGroups_13 : decode cX6_writeGroups 13 = .ok (.getfield 41, 3) := by decide +kernel
theorem dX6_writeGroups_16 : decode cX6_writeGroups 16 = .ok (.istore 5, 2) := by decide +kernel
theorem dX6_writeGroups_18 : decode cX6_writeGroups 18 = .ok (.aload_n 1, 1) := by decide +kernel
theorem dX6_writeGroups_19 : decode cX6_writeGroups 19 = .ok (.iload_n 3, 1) := by decide +kernel
theorem dX6_writeGroups_20 : decode cX6_writeGroups 20 = .ok (.iload 4, 2) := by decide +kernel
theorem dX6_writeGroups_22 : decode cX6_writeGroups 22 = .ok (.imul, 1) := by decide +kernel
theorem dX6_writeGroups_23 : decode cX6_writeGroups 23 = .ok (.invokevirtual 44, 3) := by decide +kernel
theorem dX6_writeGroups_26 : decode cX6_writeGroups 26 = .ok (.aload_n 0, 1) := by decide +kernel
theorem dX6_writeGroups_27 : decode cX6_writeGroups 27 = .ok (.getfield 15, 3) := by decide +kernel
theorem dX6_writeGroups_30 : decode cX6_writeGroups 30 = .ok (.iload_n 2, 1) := by decide +kernel
theorem dX6_writeGroups_31 : decode cX6_writeGroups 31 = .ok (.iload_n 3, 1) := by decide +kernel
theorem dX6_writeGroups_32 : decode cX6_writeGroups 32 = .ok (.bipush 8, 2) := by decide +kernel
theorem dX6_writeGroups_34 : decode cX6_writeGroups 34 = .ok (.imul, 1) := by decide +kernel
theorem dX6_writeGroups_35 : decode cX6_writeGroups 35 = .ok (.iadd, 1) := by decide +kernel
theorem dX6_writeGroups_36 : decode cX6_writeGroups 36 = .ok (.invokestatic 52, 3) := by decide +kernel
theorem dX6_writeGroups_39 : decode cX6_writeGroups 39 = .ok (.istore 6, 2) := by decide +kernel
theorem dX6_writeGroups_41 : decode cX6_writeGroups 41 = .ok (.iload_n 2, 1) := by decide +kernel
theorem dX6_writeGroups_42 : decode cX6_writeGroups 42 = .ok (.istore 7, 2) := by decide +kernel
theorem dX6_writeGroups_44 : decode cX6_writeGroups 44 = .ok (.iload 7, 2) := by decide +kernel
theorem dX6_writeGroups_46 : decode cX6_writeGroups 46 = .ok (.iload 6, 2) := by decide +kernel
theorem dX6_writeGroups_48 : decode cX6_writeGroups 48 = .ok (.if_icmp .ge 31, 3) := by decide +kernel
theorem dX6_writeGroups_51 : decode cX6_writeGroups 51 = .ok (.aload_n 1, 1) := by decide +kernel
theorem dX6_writeGroups_52 : decode cX6_writeGroups 52 = .ok (.iload 5, 2) := by decide +kernel
theorem dX6_writeGroups_54 : decode cX6_writeGroups 54 = .ok (.iload 7, 2) := by decide +kernel
theorem dX6_writeGroups_56 : decode cX6_writeGroups 56 = .ok (.iload_n 2, 1) := by decide +kernel
theorem dX6_writeGroups_57 : decode cX6_writeGroups 57 = .ok (.isub, 1) := by decide +kernel
theorem dX6_writeGroups_58 : decode cX6_writeGroups 58 = .ok (.iload 4, 2) := by decide +kernel
theorem dX6_writeGroups_60 : decode cX6_writeGroups 60 = .ok (.imul, 1) := by decide +kernel
theorem dX6_writeGroups_61 : decode cX6_writeGroups 61 = .ok (.iload 4, 2) := by decide +kernel
theorem dX6_writeGroups_63 : decode cX6_writeGroups 63 = .ok (.aload_n 0, 1) := by decide +kernel
theorem dX6_writeGroups_64 : decode cX6_writeGroups 64 = .ok (.getfield 9, 3) := by decide +kernel
theorem dX6_writeGroups_67 : decode cX6_writeGroups 67 = .ok (.iload 7, 2) := by decide +kernel
theorem dX6_writeGroups_69 : decode cX6_writeGroups 69 = .ok (.laload, 1) := by decide +kernel
theorem dX6_writeGroups_70 : decode cX6_writeGroups 70 = .ok (.invokevirtual 48, 3) := by decide +kernel
theorem dX6_writeGroups_73 : decode cX6_writeGroups 73 = .ok (.iinc 7 1, 3) := by decide +kernel
theorem dX6_writeGroups_76 : decode cX6_writeGroups 76 = .ok (.goto (-32), 3) := by decide +kernel
theorem dX6_writeGroups_79 : decode cX6_writeGroups 79 = .ok (.return_, 1) := by decide +kernel
theorem dX6_readFrom_0 : decode cX6_readFrom 0 = .ok (.aload_n 0, 1) := by decide +kernel
theorem dX6_readFrom_1 : decode cX6_readFrom 1 = .ok (.iconst 0, 1) := by decide +kernel
theorem dX6_readFrom_2 : decode cX6_readFrom 2 = .ok (.putfield 15, 3) := by decide +kernel
theorem dX6_readFrom_5 : decode cX6_readFrom 5 = .ok (.iconst 0, 1) := by decide +kernel
theorem dX6_readFrom_6 : decode cX6_readFrom 6 = .ok (.istore 4, 2) := by decide +kernel
theorem dX6_readFrom_8 : decode cX6_readFrom 8 = .ok (.iload 4, 2) := by decide +kernel
theorem dX6_readFrom_10 : decode cX6_readFrom 10 = .ok (.iload_n 2, 1) := by decide +kernel
theorem dX6_readFrom_11 : decode cX6_readFrom 11 = .ok (.if_icmp .ge 31, 3) := by decide +kernel
theorem dX6_readFrom_14 : decode cX6_readFrom 14 = .ok (.aload_n 0, 1) := by decide +kernel
theorem dX6_readFrom_15 : decode cX6_readFrom 15 = .ok (.getfield 15, 3) := by decide +kernel
theorem dX6_readFrom_18 : decode cX6_readFrom 18 = .ok (.iload_n 2, 1) := by decide +kernel
theorem dX6_readFrom_19 : decode cX6_readFrom 19 = .ok (.if_icmp .ge 23, 3) := by decide +kernel
theorem dX6_readFrom_22 : decode cX6_readFrom 22 = .ok (.aload_n 1, 1) := by decide +kernel
theorem dX6_readFrom_23 : decode cX6_readFrom 23 = .ok (.invokevirtual 58, 3) := by decide +kernel
theorem dX6_readFrom_26 : decode cX6_readFrom 26 = .ok (.ifCond .ne 16, 3) := by decide +kernel
theorem dX6_readFrom_29 : decode cX6_readFrom 29 = .ok (.aload_n 0, 1) := by decide +kernel
theorem dX6_readFrom_30 : decode cX6_readFrom 30 = .ok (.aload_n 1, 1) := by decide +kernel
theorem dX6_readFrom_31 : decode cX6_readFrom 31 = .ok (.iload_n 2, 1) := by decide +kernel
theorem dX6_readFrom_32 : decode cX6_readFrom 32 = .ok (.iload_n 3, 1) := by decide +kernel
theorem dX6_readFrom_33 : decode cX6_readFrom 33 = .ok (.invokevirtual 64, 3) := by decide +kernel
theorem dX6_readFrom_36 : decode cX6_readFrom 36 = .ok (.iinc 4 1, 3) := by decide +kernel
theorem dX6_readFrom_39 : decode cX6_readFrom 39 = .ok (.goto (-31), 3) := by decide +kernel
theorem dX6_readFrom_42 : decode cX6_readFrom 42 = .ok (.return_, 1) := by decide +kernel
theorem dX6_readRun_0 : decode cX6_readRun 0 = .ok (.aload_n 1, 1) := by decide +kernel
theorem dX6_readRun_1 : decode cX6_readRun 1 = .ok (.invokevirtual 68, 3) := by decide +kernel
theorem dX6_readRun_4 : decode cX6_readRun 4 = .ok (.lstore 4, 2) := by decide +kernel
theorem dX6_readRun_6 : decode cX6_readRun 6 = .ok (.lload 4, 2) := by decide +kernel
theorem dX6_readRun_8 : decode cX6_readRun 8 = .ok (.iconst 1, 1) := by decide +kernel
theorem dX6_readRun_9 : decode cX6_readRun 9 = .ok (.lushr, 1) := by decide +kernel
theorem dX6_readRun_10 : decode cX6_readRun 10 = .ok (.lstore 6, 2) := by decide +kernel
theorem dX6_readRun_12 : decode cX6_readRun 12 = .ok (.iload_n 2, 1) := by decide +kernel
theorem dX6_readRun_13 : decode cX6_readRun 13 = .ok (.sipush 1000, 3) := by decide +kernel
theorem dX6_readRun_16 : decode cX6_readRun 16 = .ok (.invokestatic 52, 3) := by decide +kernel
theorem dX6_readRun_19 : decode cX6_readRun 19 = .ok (.aload_n 0, 1) := by decide +kernel
theorem dX6_readRun_20 : decode cX6_readRun 20 = .ok (.getfield 15, 3) := by decide +kernel
theorem dX6_readRun_23 : decode cX6_readRun 23 = .ok (.isub, 1) := by decide +kernel
theorem dX6_readRun_24 : decode cX6_readRun 24 = .ok (.istore 8, 2) := by decide +kernel
theorem dX6_readRun_26 : decode cX6_readRun 26 = .ok (.lload 4, 2) := by decide +kernel
theorem dX6_readRun_28 : decode cX6_readRun 28 = .ok (.lconst 1, 1) := by decide +kernel
theorem dX6_readRun_29 : decode cX6_readRun 29 = .ok (.land, 1) := by decide +kernel
theorem dX6_readRun_30 : decode cX6_readRun 30 = .ok (.lconst 0, 1) := by decide +kernel
theorem dX6_readRun_31 : decode cX6_readRun 31 = .ok (.lcmp, 1) := by decide +kernel
theorem dX6_readRun_32 : decode cX6_readRun 32 = .ok (.ifCond .ne 7, 3) := by decide +kernel
theorem dX6_readRun_35 : decode cX6_readRun 35 = .ok (.iconst 1, 1) := by decide +kernel
theorem dX6_readRun_36 : decode cX6_readRun 36 = .ok (.goto 4, 3) := by decide +kernel
theorem dX6_readRun_39 : decode cX6_readRun 39 = .ok (.iconst 0, 1) := by decide +kernel
theorem dX6_readRun_40 : decode cX6_readRun 40 = .ok (.istore 9, 2) := by decide +kernel
theorem dX6_readRun_42 : decode cX6_readRun 42 = .ok (.iload 9, 2) := by decide +kernel
theorem dX6_readRun_44 : decode cX6_readRun 44 = .ok (.ifCond .eq 8, 3) := by decide +kernel
theorem dX6_readRun_47 : decode cX6_readRun 47 = .ok (.iload 8, 2) := by decide +kernel
theorem dX6_readRun_49 : decode cX6_readRun 49 = .ok (.goto 13, 3) := by decide +kernel
theorem dX6_readRun_52 : decode cX6_readRun 52 = .ok (.iload 8, 2) := by decide +kernel
theorem dX6_readRun_54 : decode cX6_readRun 54 = .ok (.bipush 8, 2) := by decide +kernel
theorem dX6_readRun_56 : decode cX6_readRun 56 = .ok (.iadd, 1) := by decide +kernel
theorem dX6_readRun_57 : decode cX6_readRun 57 = .ok (.iconst 1, 1) := by decide +kernel
theorem dX6_readRun_58 : decode cX6_readRun 58 = .ok (.isub, 1) := by decide +kernel
theorem dX6_readRun_59 : decode cX6_readRun 59 = .ok (.bipush 8, 2) := by decide +kernel
theorem dX6_readRun_61 : decode cX6_readRun 61 = .ok (.idiv, 1) := by decide +kernel
theorem dX6_readRun_62 : decode cX6_readRun 62 = .ok (.istore 10, 2) := by decide +kernel
theorem dX6_readRun_64 : decode cX6_readRun 64 = .ok (.lload 6, 2) := by decide +kernel
theorem dX6_readRun_66 : decode cX6_readRun 66 = .ok (.lconst 0, 1) := by decide +kernel
theorem dX6_readRun_67 : decode cX6_readRun 67 = .ok (.lcmp, 1) := by decide +kernel
theorem dX6_readRun_68 : decode cX6_readRun 68 = .ok (.ifCond .ne 11, 3) := by decide +kernel
theorem dX6_readRun_71 : decode cX6_readRun 71 = .ok (.aload_n 1, 1) := by decide +kernel
theorem dX6_readRun_72 : decode cX6_readRun 72 = .ok (.iconst 3, 1) := by decide +kernel
theorem dX6_readRun_73 : decode cX6_readRun 73 = .ok (.invokevirtual 72, 3) := by decide +kernel
theorem dX6_readRun_76 : decode cX6_readRun 76 = .ok (.goto 17, 3) := by decide +kernel
theorem dX6_readRun_79 : decode cX6_readRun 79 = .ok (.lload 6, 2) := by decide +kernel
theorem dX6_readRun_81 : decode cX6_readRun 81 = .ok (.iload 10, 2) := by decide +kernel
theorem dX6_readRun_83 : decode cX6_readRun 83 = .ok (.i2l, 1) := by decide +kernel
theorem dX6_readRun_84 : decode cX6_readRun 84 = .ok (.lcmp, 1) := by decide +kernel
theorem dX6_readRun_85 : decode cX6_readRun 85 = .ok (.ifCond .le 8, 3) := by decide +kernel
theorem dX6_readRun_88 : decode cX6_readRun 88 = .ok (.aload_n 1, 1) := by decide +kernel
theorem dX6_readRun_89 : decode cX6_readRun 89 = .ok (.iconst 4, 1) := by decide +kernel
theorem dX6_readRun_90 : decode cX6_readRun 90 = .ok (.invokevirtual 72, 3) := by decide +kernel
theorem dX6_readRun_93 : decode cX6_readRun 93 = .ok (.aload_n 1, 1) := by decide +kernel
theorem dX6_readRun_94 : decode cX6_readRun 94 = .ok (.invokevirtual 58, 3) := by decide +kernel
theorem dX6_readRun_97 : decode cX6_readRun 97 = .ok (.ifCond .eq 4, 3) := by decide +kernel
theorem dX6_readRun_100 : decode cX6_readRun 100 = .ok (.return_, 1) := by decide +kernel
theorem dX6_readRun_101 : decode cX6_readRun 101 = .ok (.iload 9, 2) := by decide +kernel
theorem dX6_readRun_103 : decode cX6_readRun 103 = .ok (.ifCond .eq 15, 3) := by decide +kernel
theorem dX6_readRun_106 : decode cX6_readRun 106 = .ok (.aload_n 0, 1) := by decide +kernel
theorem dX6_readRun_107 : decode cX6_readRun 107 = .ok (.aload_n 1, 1) := by decide +kernel
theorem dX6_readRun_108 : decode cX6_readRun 108 = .ok (.lload 6, 2) := by decide +kernel
theorem dX6_readRun_110 : decode cX6_readRun 110 = .ok (.l2i, 1) := by decide +kernel
theorem dX6_readRun_111 : decode cX6_readRun 111 = .ok (.iload_n 3, 1) := by decide +kernel
theorem dX6_readRun_112 : decode cX6_readRun 112 = .ok (.invokevirtual 75, 3) := by decide +kernel
theorem dX6_readRun_115 : decode cX6_readRun 115 = .ok (.goto 14, 3) := by decide +kernel
theorem dX6_readRun_118 : decode cX6_readRun 118 = .ok (.aload_n 0, 1) := by decide +kernel
theorem dX6_readRun_119 : decode cX6_readRun 119 = .ok (.aload_n 1, 1) := by decide +kernel
theorem dX6_readRun_120 : decode cX6_readRun 120 = .ok (.lload 6, 2) := by decide +kernel
theorem dX6_readRun_122 : decode cX6_readRun 122 = .ok (.l2i, 1) := by decide +kernel
theorem dX6_readRun_123 : decode cX6_readRun 123 = .ok (.iload 8, 2) := by decide +kernel
theorem dX6_readRun_125 : decode cX6_readRun 125 = .ok (.iload_n 3, 1) := by decide +kernel
theorem dX6_readRun_126 : decode cX6_readRun 126 = .ok (.invokevirtual 78, 3) := by decide +kernel
theorem dX6_readRun_129 : decode cX6_readRun 129 = .ok (.return_, 1) := by decide +kernel
theorem dX6_readOne_0 : decode cX6_readOne 0 = .ok (.iload_n 3, 1) := by decide +kernel
theorem dX6_readOne_1 : decode cX6_readOne 1 = .ok (.bipush 7, 2) := by decide +kernel
theorem dX6_readOne_3 : decode cX6_readOne 3 = .ok (.iadd, 1) := by decide +kernel
theorem dX6_readOne_4 : decode cX6_readOne 4 = .ok (.bipush 8, 2) := by decide +kernel
theorem dX6_readOne_6 : decode cX6_readOne 6 = .ok (.idiv, 1) := by decide +kernel
theorem dX6_readOne_7 : decode cX6_readOne 7 = .ok (.istore 4, 2) := by decide +kernel
theorem dX6_readOne_9 : decode cX6_readOne 9 = .ok (.aload_n 1, 1) := by decide +kernel
theorem dX6_readOne_10 : decode cX6_readOne 10 = .ok (.iload 4, 2) := by decide +kernel
theorem dX6_readOne_12 : decode cX6_readOne 12 = .ok (.i2l, 1) := by decide +kernel
theorem dX6_readOne_13 : decode cX6_readOne 13 = .ok (.invokevirtual 82, 3) := by decide +kernel
theorem dX6_readOne_16 : decode cX6_readOne 16 = .ok (.ifCond .ne 4, 3) := by decide +kernel
theorem dX6_readOne_19 : decode cX6_readOne 19 = .ok (.return_, 1) := by decide +kernel
theorem dX6_readOne_20 : decode cX6_readOne 20 = .ok (.aload_n 1, 1) := by decide +kernel
theorem dX6_readOne_21 : decode cX6_readOne 21 = .ok (.iload_n 3, 1) := by decide +kernel
theorem dX6_readOne_22 : decode cX6_readOne 22 = .ok (.iload 4, 2) := by decide +kernel
theorem dX6_readOne_24 : decode cX6_readOne 24 = .ok (.bipush 8, 2) := by decide +kernel
theorem dX6_readOne_26 : decode cX6_readOne 26 = .ok (.imul, 1) := by decide +kernel
theorem dX6_readOne_27 : decode cX6_readOne 27 = .ok (.iload_n 3, 1) := by decide +kernel
theorem dX6_readOne_28 : decode cX6_readOne 28 = .ok (.isub, 1) := by decide +kernel
theorem dX6_readOne_29 : decode cX6_readOne 29 = .ok (.invokevirtual 86, 3) := by decide +kernel
theorem dX6_readOne_32 : decode cX6_readOne 32 = .ok (.lconst 0, 1) := by decide +kernel
theorem dX6_readOne_33 : decode cX6_readOne 33 = .ok (.lcmp, 1) := by decide +kernel
theorem dX6_readOne_34 : decode cX6_readOne 34 = .ok (.ifCond .eq 8, 3) := by decide +kernel
theorem dX6_readOne_37 : decode cX6_readOne 37 = .ok (.aload_n 1, 1) := by decide +kernel
theorem dX6_readOne_38 : decode cX6_readOne 38 = .ok (.iconst 5, 1) := by decide +kernel
theorem dX6_readOne_39 : decode cX6_readOne 39 = .ok (.invokevirtual 72, 3) := by decide +kernel
theorem dX6_readOne_42 : decode cX6_readOne 42 = .ok (.aload_n 1, 1) := by decide +kernel
theorem dX6_readOne_43 : decode cX6_readOne 43 = .ok (.iconst 0, 1) := by decide +kernel
theorem dX6_readOne_44 : decode cX6_readOne 44 = .ok (.iload_n 3, 1) := by decide +kernel
theorem dX6_readOne_45 : decode cX6_readOne 45 = .ok (.invokevirtual 86, 3) := by decide +kernel
theorem dX6_readOne_48 : decode cX6_readOne 48 = .ok (.lstore 5, 2) := by decide +kernel
theorem dX6_readOne_50 : decode cX6_readOne 50 = .ok (.iconst 0, 1) := by decide +kernel
theorem dX6_readOne_51 : decode cX6_readOne 51 = .ok (.istore 7, 2) := by decide +kernel
theorem dX6_readOne_53 : decode cX6_readOne 53 = .ok (.iload 7, 2) := by decide +kernel
theorem dX6_readOne_55 : decode cX6_readOne 55 = .ok (.iload_n 2, 1) := by decide +kernel
theorem dX6_readOne_56 : decode cX6_readOne 56 = .ok (.if_icmp .ge 30, 3) := by decide +kernel
theorem dX6_readOne_59 : decode cX6_readOne 59 = .ok (.aload_n 0, 1) := by decide +kernel
theorem dX6_readOne_60 : decode cX6_readOne 60 = .ok (.getfield 9, 3) := by decide +kernel
theorem dX6_readOne_63 : decode cX6_readOne 63 = .ok (.aload_n 0, 1) := by decide +kernel
theorem dX6_readOne_64 : decode cX6_readOne 64 = .ok (.getfield 15, 3) := by decide +kernel
theorem dX6_readOne_67 : decode cX6_readOne 67 = .ok (.lload 5, 2) := by decide +kernel
theorem dX6_readOne_69 : decode cX6_readOne 69 = .ok (.lastore, 1) := by decide +kernel
theorem dX6_readOne_70 : decode cX6_readOne 70 = .ok (.aload_n 0, 1) := by decide +kernel
theorem dX6_readOne_71 : decode cX6_readOne 71 = .ok (.dup, 1) := by decide +kernel
theorem dX6_readOne_72 : decode cX6_readOne 72 = .ok (.getfield 15, 3) := by decide +kernel
theorem dX6_readOne_75 : decode cX6_readOne 75 = .ok (.iconst 1, 1) := by decide +kernel
theorem dX6_readOne_76 : decode cX6_readOne 76 = .ok (.iadd, 1) := by decide +kernel
theorem dX6_readOne_77 : decode cX6_readOne 77 = .ok (.putfield 15, 3) := by decide +kernel
theorem dX6_readOne_80 : decode cX6_readOne 80 = .ok (.iinc 7 1, 3) := by decide +kernel
theorem dX6_readOne_83 : decode cX6_readOne 83 = .ok (.goto (-30), 3) := by decide +kernel
theorem dX6_readOne_86 : decode cX6_readOne 86 = .ok (.aload_n 1, 1) := by decide +kernel
theorem dX6_readOne_87 : decode cX6_readOne 87 = .ok (.dup, 1) := by decide +kernel
theorem dX6_readOne_88 : decode cX6_readOne 88 = .ok (.getfield 90, 3) := by decide +kernel
theorem dX6_readOne_91 : decode cX6_readOne 91 = .ok (.iload 4, 2) := by decide +kernel
theorem dX6_readOne_93 : decode cX6_readOne 93 = .ok (.iadd, 1) := by decide +kernel
theorem dX6_readOne_94 : decode cX6_readOne 94 = .ok (.putfield 90, 3) := by decide +kernel
theorem dX6_readOne_97 : decode cX6_readOne 97 = .ok (.return_, 1) := by decide +kernel
theorem dX6_readGroups_0 : decode cX6_readGroups 0 = .ok (.aload_n 1, 1) := by decide +kernel
theorem dX6_readGroups_1 : decode cX6_readGroups 1 = .ok (.iload_n 2, 1) := by decide +kernel
theorem dX6_readGroups_2 : decode cX6_readGroups 2 = .ok (.iload 4, 2) := by decide +kernel
theorem dX6_readGroups_4 : decode cX6_readGroups 4 = .ok (.imul, 1) := by decide +kernel
theorem dX6_readGroups_5 : decode cX6_readGroups 5 = .ok (.i2l, 1) := by decide +kernel
theorem dX6_readGroups_6 : decode cX6_readGroups 6 = .ok (.invokevirtual 82, 3) := by decide +kernel
theorem dX6_readGroups_9 : decode cX6_readGroups 9 = .ok (.ifCond .ne 4, 3) := by decide +kernel
theorem dX6_readGroups_12 : decode cX6_readGroups 12 = .ok (.return_, 1) := by decide +kernel
theorem dX6_readGroups_13 : decode cX6_readGroups 13 = .ok (.iconst 0, 1) := by decide +kernel
theorem dX6_readGroups_14 : decode cX6_readGroups 14 = .ok (.istore 5, 2) := by decide +kernel
theorem dX6_readGroups_16 : decode cX6_readGroups 16 = .ok (.iload 5, 2) := by decide +kernel
theorem dX6_readGroups_18 : decode cX6_readGroups 18 = .ok (.iload_n 2, 1) := by decide +kernel
theorem dX6_readGroups_19 : decode cX6_readGroups 19 = .ok (.bipush 8, 2) := by decide +kernel
theorem dX6_readGroups_21 : decode cX6_readGroups 21 = .ok (.imul, 1) := by decide +kernel
theorem dX6_readGroups_22 : decode cX6_readGroups 22 = .ok (.if_icmp .ge 64, 3) := by decide +kernel
theorem dX6_readGroups_25 : decode cX6_readGroups 25 = .ok (.aload_n 1, 1) := by decide +kernel
theorem dX6_readGroups_26 : decode cX6_readGroups 26 = .ok (.iload 5, 2) := by decide +kernel
theorem dX6_readGroups_28 : decode cX6_readGroups 28 = .ok (.iload 4, 2) := by decide +kernel
theorem dX6_readGroups_30 : decode cX6_readGroups 30 = .ok (.imul, 1) := by decide +kernel
theorem dX6_readGroups_31 : decode cX6_readGroups 31 = .ok (.iload 4, 2) := by decide +kernel
theorem dX6_readGroups_33 : decode cX6_readGroups 33 = .ok (.invokevirtual 86, 3) := by decide +kernel
theorem dX6_readGroups_36 : decode cX6_readGroups 36 = .ok (.lstore 6, 2) := by decide +kernel
theorem dX6_readGroups_38 : decode cX6_readGroups 38 = .ok (.iload 5, 2) := by decide +kernel
theorem dX6_readGroups_40 : decode cX6_readGroups 40 = .ok (.iload_n 3, 1) := by decide +kernel
theorem dX6_readGroups_41 : decode cX6_readGroups 41 = .ok (.if_icmp .ge 27, 3) := by decide +kernel
theorem dX6_readGroups_44 : decode cX6_readGroups 44 = .ok (.aload_n 0, 1) := by decide +kernel
theorem dX6_readGroups_45 : decode cX6_readGroups 45 = .ok (.getfield 9, 3) := by decide +kernel
theorem dX6_readGroups_48 : decode cX6_readGroups 48 = .ok (.aload_n 0, 1) := by decide +kernel
theorem dX6_readGroups_49 : decode cX6_readGroups 49 = .ok (.getfield 15, 3) := by decide +kernel
theorem dX6_readGroups_52 : decode cX6_readGroups 52 = .ok (.lload 6, 2) := by decide +kernel
theorem dX6_readGroups_54 : decode cX6_readGroups 54 = .ok (.lastore, 1) := by decide +kernel
theorem dX6_readGroups_55 : decode cX6_readGroups 55 = .ok (.aload_n 0, 1) := by decide +kernel
theorem dX6_readGroups_56 : decode cX6_readGroups 56 = .ok (.dup, 1) := by decide +kernel
theorem dX6_readGroups_57 : decode cX6_readGroups 57 = .ok (.getfield 15, 3) := by decide +kernel
theorem dX6_readGroups_60 : decode cX6_readGroups 60 = .ok (.iconst 1, 1) := by decide +kernel
theorem dX6_readGroups_61 : decode cX6_readGroups 61 = .ok (.iadd, 1) := by decide +kernel
theorem dX6_readGroups_62 : decode cX6_readGroups 62 = .ok (.putfield 15, 3) := by decide +kernel
theorem dX6_readGroups_65 : decode cX6_readGroups 65 = .ok (.goto 15, 3) := by decide +kernel
theorem dX6_readGroups_68 : decode cX6_readGroups 68 = .ok (.lload 6, 2) := by decide +kernel
theorem dX6_readGroups_70 : decode cX6_readGroups 70 = .ok (.lconst 0, 1) := by decide +kernel
theorem dX6_readGroups_71 : decode cX6_readGroups 71 = .ok (.lcmp, 1) := by decide +kernel
theorem dX6_readGroups_72 : decode cX6_readGroups 72 = .ok (.ifCond .eq 8, 3) := by decide +kernel
theorem dX6_readGroups_75 : decode cX6_readGroups 75 = .ok (.aload_n 1, 1) := by decide +kernel
theorem dX6_readGroups_76 : decode cX6_readGroups 76 = .ok (.iconst 5, 1) := by decide +kernel
theorem dX6_readGroups_77 : decode cX6_readGroups 77 = .ok (.invokevirtual 72, 3) := by decide +kernel
theorem dX6_readGroups_80 : decode cX6_readGroups 80 = .ok (.iinc 5 1, 3) := by decide +kernel
theorem dX6_readGroups_83 : decode cX6_readGroups 83 = .ok (.goto (-67), 3) := by decide +kernel
theorem dX6_readGroups_86 : decode cX6_readGroups 86 = .ok (.aload_n 1, 1) := by decide +kernel
theorem dX6_readGroups_87 : decode cX6_readGroups 87 = .ok (.dup, 1) := by decide +kernel
theorem dX6_readGroups_88 : decode cX6_readGroups 88 = .ok (.getfield 90, 3) := by decide +kernel
theorem dX6_readGroups_91 : decode cX6_readGroups 91 = .ok (.iload_n 2, 1) := by decide +kernel
theorem dX6_readGroups_92 : decode cX6_readGroups 92 = .ok (.iload 4, 2) := by decide +kernel
theorem dX6_readGroups_94 : decode cX6_readGroups 94 = .ok (.imul, 1) := by decide +kernel
theorem dX6_readGroups_95 : decode cX6_readGroups 95 = .ok (.iadd, 1) := by decide +kernel
theorem dX6_readGroups_96 : decode cX6_readGroups 96 = .ok (.putfield 90, 3) := by decide +kernel
theorem dX6_readGroups_99 : decode cX6_readGroups 99 = .ok (.return_, 1) := by decide +kernel
theorem dX7_init_0 : decode cX7_init 0 = .ok (.aload_n 0, 1) := by decide +kernel
theorem dX7_init_1 : decode cX7_init 1 = .ok (.invokespecial 3, 3) := by decide +kernel
theorem dX7_init_4 : decode cX7_init 4 = .ok (.aload_n 0, 1) := by decide +kernel
theorem dX7_init_5 : decode cX7_init 5 = .ok (.iconst 0, 1) := by decide +kernel
theorem dX7_init_6 : decode cX7_init 6 = .ok (.newarray .byte, 2) := by decide +kernel
theorem dX7_init_8 : decode cX7_init 8 = .ok (.putfield 9, 3) := by decide +kernel
theorem dX7_init_11 : decode cX7_init 11 = .ok (.return_, 1) := by decide +kernel
theorem dX7_open_0 : decode cX7_open 0 = .ok (.aload_n 0, 1) := by decide +kernel
theorem dX7_open_1 : decode cX7_open 1 = .ok (.aload_n 1, 1) := by decide +kernel
theorem dX7_open_2 : decode cX7_open 2 = .ok (.getfield 15, 3) := by decide +kernel
theorem dX7_open_5 : decode cX7_open 5 = .ok (.putfield 9, 3) := by decide +kernel
theorem dX7_open_8 : decode cX7_open 8 = .ok (.aload_n 0, 1) := by decide +kernel
theorem dX7_open_9 : decode cX7_open 9 = .ok (.iconst 0, 1) := by decide +kernel
theorem dX7_open_10 : decode cX7_open 10 = .ok (.putfield 18, 3) := by decide +kernel
theorem dX7_open_13 : decode cX7_open 13 = .ok (.aload_n 0, 1) := by decide +kernel
theorem dX7_open_14 : decode cX7_open 14 = .ok (.aload_n 1, 1) := by decide +kernel
theorem dX7_open_15 : decode cX7_open 15 = .ok (.getfield 22, 3) := by decide +kernel
theorem dX7_open_18 : decode cX7_open 18 = .ok (.putfield 25, 3) := by decide +kernel
theorem dX7_open_21 : decode cX7_open 21 = .ok (.aload_n 0, 1) := by decide +kernel
theorem dX7_open_22 : decode cX7_open 22 = .ok (.iconst 0, 1) := by decide +kernel
theorem dX7_open_23 : decode cX7_open 23 = .ok (.putfield 28, 3) := by decide +kernel
theorem dX7_open_26 : decode cX7_open 26 = .ok (.return_, 1) := by decide +kernel
theorem dX7_failed_0 : decode cX7_failed 0 = .ok (.aload_n 0, 1) := by decide +kernel
theorem dX7_failed_1 : decode cX7_failed 1 = .ok (.getfield 28, 3) := by decide +kernel
theorem dX7_failed_4 : decode cX7_failed 4 = .ok (.ifCond .eq 7, 3) := by decide +kernel
theorem dX7_failed_7 : decode cX7_failed 7 = .ok (.iconst 1, 1) := by decide +kernel
theorem dX7_failed_8 : decode cX7_failed 8 = .ok (.goto 4, 3) := by decide +kernel
theorem dX7_failed_11 : decode cX7_failed 11 = .ok (.iconst 0, 1) := by decide +kernel
theorem dX7_failed_12 : decode cX7_failed 12 = .ok (.ireturn, 1) := by decide +kernel
theorem dX7_fail_0 : decode cX7_fail 0 = .ok (.aload_n 0, 1) := by decide +kernel
theorem dX7_fail_1 : decode cX7_fail 1 = .ok (.getfield 28, 3) := by decide +kernel
theorem dX7_fail_4 : decode cX7_fail 4 = .ok (.ifCond .ne 8, 3) := by decide +kernel
theorem dX7_fail_7 : decode cX7_fail 7 = .ok (.aload_n 0, 1) := by decide +kernel
theorem dX7_fail_8 : decode cX7_fail 8 = .ok (.iload_n 1, 1) := by decide +kernel
theorem dX7_fail_9 : decode cX7_fail 9 = .ok (.putfield 28, 3) := by decide +kernel
theorem dX7_fail_12 : decode cX7_fail 12 = .ok (.return_, 1) := by decide +kernel
theorem dX7_holds_0 : decode cX7_holds 0 = .ok (.aload_n 0, 1) := by decide +kernel
theorem dX7_holds_1 : decode cX7_holds 1 = .ok (.getfield 28, 3) := by decide +kernel
theorem dX7_holds_4 : decode cX7_holds 4 = .ok (.ifCond .ne 29, 3) := by decide +kernel
theorem dX7_holds_7 : decode cX7_holds 7 = .ok (.lload_n 1, 1) := by decide +kernel
theorem dX7_holds_8 : decode cX7_holds 8 = .ok (.lconst 0, 1) := by decide +kernel
theorem dX7_holds_9 : decode cX7_holds 9 = .ok (.lcmp, 1) := by decide +kernel
theorem dX7_holds_10 : decode cX7_holds 10 = .ok (.ifCond .lt 18, 3) := by decide +kernel
theorem dX7_holds_13 : decode cX7_holds 13 = .ok (.lload_n 1, 1) := by decide +kernel
theorem dX7_holds_14 : decode cX7_holds 14 = .ok (.aload_n 0, 1) := by decide +kernel
theorem dX7_holds_15 : decode cX7_holds 15 = .ok (.getfield 25, 3) := by decide +kernel
theorem dX7_holds_18 : decode cX7_holds 18 = .ok (.aload_n 0, 1) := by decide +kernel
theorem dX7_holds_19 : decode cX7_holds 19 = .ok (.getfield 18, 3) := by decide +kernel
theorem dX7_holds_22 : decode cX7_holds 22 = .ok (.isub, 1) := by decide +kernel
theorem dX7_holds_23 : decode cX7_holds 23 = .ok (.i2l, 1) := by decide +kernel
theorem dX7_holds_24 : decode cX7_holds 24 = .ok (.lcmp, 1) := by decide +kernel
theorem dX7_holds_25 : decode cX7_holds 25 = .ok (.ifCond .le 8, 3) := by decide +kernel
theorem dX7_holds_28 : decode cX7_holds 28 = .ok (.aload_n 0, 1) := by decide +kernel
theorem dX7_holds_29 : decode cX7_holds 29 = .ok (.iconst 1, 1) := by decide +kernel
theorem dX7_holds_30 : decode cX7_holds 30 = .ok (.putfield 28, 3) := by decide +kernel
theorem dX7_holds_33 : decode cX7_holds 33 = .ok (.aload_n 0, 1) := by decide +kernel
theorem dX7_holds_34 : decode cX7_holds 34 = .ok (.getfield 28, 3) := by decide +kernel
theorem dX7_holds_37 : decode cX7_holds 37 = .ok (.ifCond .ne 7, 3) := by decide +kernel
theorem dX7_holds_40 : decode cX7_holds 40 = .ok (.iconst 1, 1) := by decide +kernel
theorem dX7_holds_41 : decode cX7_holds 41 = .ok (.goto 4, 3) := by decide +kernel
theorem dX7_holds_44 : decode cX7_holds 44 = .ok (.iconst 0, 1) := by decide +kernel
theorem dX7_holds_45 : decode cX7_holds 45 = .ok (.ireturn, 1) := by decide +kernel
theorem dX7_nextByte_0 : decode cX7_nextByte 0 = .ok (.aload_n 0, 1) := by decide +kernel
theorem dX7_nextByte_1 : decode cX7_nextByte 1 = .ok (.getfield 18, 3) := by decide +kernel
theorem dX7_nextByte_4 : decode cX7_nextByte 4 = .ok (.ifCond .lt 26, 3) := by decide +kernel
theorem dX7_nextByte_7 : decode cX7_nextByte 7 = .ok (.aload_n 0, 1) := by decide +kernel
theorem dX7_nextByte_8 : decode cX7_nextByte 8 = .ok (.getfield 18, 3) := by decide +kernel
theorem dX7_nextByte_11 : decode cX7_nextByte 11 = .ok (.aload_n 0, 1) := by decide +kernel
theorem dX7_nextByte_12 : decode cX7_nextByte 12 = .ok (.getfield 25, 3) := by decide +kernel
theorem dX7_nextByte_15 : decode cX7_nextByte 15 = .ok (.if_icmp .ge 15, 3) := by decide +kernel
theorem dX7_nextByte_18 : decode cX7_nextByte 18 = .ok (.aload_n 0, 1) := by decide +kernel
theorem dX7_nextByte_19 : decode cX7_nextByte 19 = .ok (.getfield 18, 3) := by decide +kernel
theorem dX7_nextByte_22 : decode cX7_nextByte 22 = .ok (.aload_n 0, 1) := by decide +kernel
theorem dX7_nextByte_23 : decode cX7_nextByte 23 = .ok (.getfield 9, 3) := by decide +kernel
theorem dX7_nextByte_26 : decode cX7_nextByte 26 = .ok (.arraylength, 1) := by decide +kernel
theorem dX7_nextByte_27 : decode cX7_nextByte 27 = .ok (.if_icmp .lt 10, 3) := by decide +kernel
theorem dX7_nextByte_30 : decode cX7_nextByte 30 = .ok (.aload_n 0, 1) := by decide +kernel
theorem dX7_nextByte_31 : decode cX7_nextByte 31 = .ok (.iconst 1, 1) := by decide +kernel
theorem dX7_nextByte_32 : decode cX7_nextByte 32 = .ok (.invokevirtual 31, 3) := by decide +kernel
theorem dX7_nextByte_35 : decode cX7_nextByte 35 = .ok (.iconst 0, 1) := by decide +kernel
theorem dX7_nextByte_36 : decode cX7_nextByte 36 = .ok (.ireturn, 1) := by decide +kernel
theorem dX7_nextByte_37 : decode cX7_nextByte 37 = .ok (.aload_n 0, 1) := by decide +kernel
theorem dX7_nextByte_38 : decode cX7_nextByte 38 = .ok (.getfield 9, 3) := by decide +kernel
theorem dX7_nextByte_41 : decode cX7_nextByte 41 = .ok (.aload_n 0, 1) := by decide +kernel
theorem dX7_nextByte_42 : decode cX7_nextByte 42 = .ok (.getfield 18, 3) := by decide +kernel
theorem dX7_nextByte_45 : decode cX7_nextByte 45 = .ok (.baload, 1) := by decide +kernel
theorem dX7_nextByte_46 : decode cX7_nextByte 46 = .ok (.sipush 255, 3) := by decide +kernel
theorem dX7_nextByte_49 : decode cX7_nextByte 49 = .ok (.iand, 1) := by decide +kernel
theorem dX7_nextByte_50 : decode cX7_nextByte 50 = .ok (.istore_n 1, 1) := by decide +kernel
theorem dX7_nextByte_51 : decode cX7_nextByte 51 = .ok (.aload_n 0, 1) := by decide +kernel
theorem dX7_nextByte_52 : decode cX7_nextByte 52 = .ok (.dup, 1) := by decide +kernel
theorem dX7_nextByte_53 : decode cX7_nextByte 53 = .ok (.getfield 18, 3) := by decide +kernel
theorem dX7_nextByte_56 : decode cX7_nextByte 56 = .ok (.iconst 1, 1) := by decide +kernel
theorem dX7_nextByte_57 : decode cX7_nextByte 57 = .ok (.iadd, 1) := by decide +kernel
theorem dX7_nextByte_58 : decode cX7_nextByte 58 = .ok (.putfield 18, 3) := by decide +kernel
theorem dX7_nextByte_61 : decode cX7_nextByte 61 = .ok (.iload_n 1, 1) := by decide +kernel
theorem dX7_nextByte_62 : decode cX7_nextByte 62 = .ok (.ireturn, 1) := by decide +kernel
theorem dX7_varint_0 : decode cX7_varint 0 = .ok (.lconst 0, 1) := by decide +kernel
theorem dX7_varint_1 : decode cX7_varint 1 = .ok (.lstore_n 1, 1) := by decide +kernel
theorem dX7_varint_2 : decode cX7_varint 2 = .ok (.iconst 0, 1) := by decide +kernel
theorem dX7_varint_3 : decode cX7_varint 3 = .ok (.istore_n 3, 1) := by decide +kernel
theorem dX7_varint_4 : decode cX7_varint 4 = .ok (.iload_n 3, 1) := by decide +kernel
theorem dX7_varint_5 : decode cX7_varint 5 = .ok (.bipush 10, 2) := by decide +kernel
theorem dX7_varint_7 : decode cX7_varint 7 = .ok (.if_icmp .ge 96, 3) := by decide +kernel
theorem dX7_varint_10 : decode cX7_varint 10 = .ok (.aload_n 0, 1) := by decide +kernel
theorem dX7_varint_11 : decode cX7_varint 11 = .ok (.invokevirtual 35, 3) := by decide +kernel
theorem dX7_varint_14 : decode cX7_varint 14 = .ok (.ifCond .ne 89, 3) := by decide +kernel
theorem dX7_varint_17 : decode cX7_varint 17 = .ok (.aload_n 0, 1) := by decide +kernel
theorem dX7_varint_18 : decode cX7_varint 18 = .ok (.invokevirtual 39, 3) := by decide +kernel
theorem dX7_varint_21 : decode cX7_varint 21 = .ok (.istore 4, 2) := by decide +kernel
theorem dX7_varint_23 : decode cX7_varint 23 = .ok (.lload_n 1, 1) := by decide +kernel
theorem dX7_varint_24 : decode cX7_varint 24 = .ok (.iload 4, 2) := by decide +kernel
theorem dX7_varint_26 : decode cX7_varint 26 = .ok (.bipush 127, 2) := by decide +kernel
theorem dX7_varint_28 : decode cX7_varint 28 = .ok (.iand, 1) := by decide +kernel
theorem dX7_varint_29 : decode cX7_varint 29 = .ok (.i2l, 1) := by decide +kernel
theorem dX7_varint_30 : decode cX7_varint 30 = .ok (.bipush 7, 2) := by decide +kernel
theorem dX7_varint_32 : decode cX7_varint 32 = .ok (.iload_n 3, 1) := by decide +kernel
theorem dX7_varint_33 : decode cX7_varint 33 = .ok (.imul, 1) := by decide +kernel
theorem dX7_varint_34 : decode cX7_varint 34 = .ok (.lshl, 1) := by decide +kernel
theorem dX7_varint_35 : decode cX7_varint 35 = .ok (.lor, 1) := by decide +kernel
theorem dX7_varint_36 : decode cX7_varint 36 = .ok (.lstore_n 1, 1) := by decide +kernel
theorem dX7_varint_37 : decode cX7_varint 37 = .ok (.iload_n 3, 1) := by decide +kernel
theorem dX7_varint_38 : decode cX7_varint 38 = .ok (.bipush 9, 2) := by decide +kernel
theorem dX7_varint_40 : decode cX7_varint 40 = .ok (.if_icmp .ne 13, 3) := by decide +kernel
theorem dX7_varint_43 : decode cX7_varint 43 = .ok (.iload 4, 2) := by decide +kernel
theorem dX7_varint_45 : decode cX7_varint 45 = .ok (.iconst 1, 1) := by decide +kernel
theorem dX7_varint_46 : decode cX7_varint 46 = .ok (.if_icmp .le 7, 3) := by decide +kernel
theorem dX7_varint_49 : decode cX7_varint 49 = .ok (.iconst 1, 1) := by decide +kernel
theorem dX7_varint_50 : decode cX7_varint 50 = .ok (.goto 4, 3) := by decide +kernel
theorem dX7_varint_53 : decode cX7_varint 53 = .ok (.iconst 0, 1) := by decide +kernel
theorem dX7_varint_54 : decode cX7_varint 54 = .ok (.istore 5, 2) := by decide +kernel
theorem dX7_varint_56 : decode cX7_varint 56 = .ok (.iload_n 3, 1) := by decide +kernel
theorem dX7_varint_57 : decode cX7_varint 57 = .ok (.ifCond .le 12, 3) := by decide +kernel
theorem dX7_varint_60 : decode cX7_varint 60 = .ok (.iload 4, 2) := by decide +kernel
theorem dX7_varint_62 : decode cX7_varint 62 = .ok (.ifCond .ne 7, 3) := by decide +kernel
theorem dX7_varint_65 : decode cX7_varint 65 = .ok (.iconst 1, 1) := by decide +kernel
theorem dX7_varint_66 : decode cX7_varint 66 = .ok (.goto 4, 3) := by decide +kernel
theorem dX7_varint_69 : decode cX7_varint 69 = .ok (.iconst 0, 1) := by decide +kernel
theorem dX7_varint_70 : decode cX7_varint 70 = .ok (.istore 6, 2) := by decide +kernel
theorem dX7_varint_72 : decode cX7_varint 72 = .ok (.iload 5, 2) := by decide +kernel
theorem dX7_varint_74 : decode cX7_varint 74 = .ok (.ifCond .ne 8, 3) := by decide +kernel
theorem dX7_varint_77 : decode cX7_varint 77 = .ok (.iload 6, 2) := by decide +kernel
theorem dX7_varint_79 : decode cX7_varint 79 = .ok (.ifCond .eq 8, 3) := by decide +kernel
theorem dX7_varint_82 : decode cX7_varint 82 = .ok (.aload_n 0, 1) := by decide +kernel
theorem dX7_varint_83 : decode cX7_varint 83 = .ok (.iconst 2, 1) := by decide +kernel
theorem dX7_varint_84 : decode cX7_varint 84 = .ok (.invokevirtual 31, 3) := by decide +kernel
theorem dX7_varint_87 : decode cX7_varint 87 = .ok (.iload 4, 2) := by decide +kernel
theorem dX7_varint_89 : decode cX7_varint 89 = .ok (.sipush 128, 3) := by decide +kernel
theorem dX7_varint_92 : decode cX7_varint 92 = .ok (.if_icmp .ge 5, 3) := by decide +kernel
theorem dX7_varint_95 : decode cX7_varint 95 = .ok (.lload_n 1, 1) := by decide +kernel
theorem dX7_varint_96 : decode cX7_varint 96 = .ok (.lreturn, 1) := by decide +kernel
theorem dX7_varint_97 : decode cX7_varint 97 = .ok (.iinc 3 1, 3) := by decide +kernel
theorem dX7_varint_100 : decode cX7_varint 100 = .ok (.goto (-96), 3) := by decide +kernel
theorem dX7_varint_103 : decode cX7_varint 103 = .ok (.lload_n 1, 1) := by decide +kernel
theorem dX7_varint_104 : decode cX7_varint 104 = .ok (.lreturn, 1) := by decide +kernel
theorem dX7_bitsAt_0 : decode cX7_bitsAt 0 = .ok (.lconst 0, 1) := by decide +kernel
theorem dX7_bitsAt_1 : decode cX7_bitsAt 1 = .ok (.lstore_n 3, 1) := by decide +kernel
theorem dX7_bitsAt_2 : decode cX7_bitsAt 2 = .ok (.iload_n 1, 1) := by decide +kernel
theorem dX7_bitsAt_3 : decode cX7_bitsAt 3 = .ok (.iconst 3, 1) := by decide +kernel
theorem dX7_bitsAt_4 : decode cX7_bitsAt 4 = .ok (.ishr, 1) := by decide +kernel
theorem dX7_bitsAt_5 : decode cX7_bitsAt 5 = .ok (.istore 5, 2) := by decide +kernel
theorem dX7_bitsAt_7 : decode cX7_bitsAt 7 = .ok (.bipush 8, 2) := by decide +kernel
theorem dX7_bitsAt_9 : decode cX7_bitsAt 9 = .ok (.iload 5, 2) := by decide +kernel
theorem dX7_bitsAt_11 : decode cX7_bitsAt 11 = .ok (.imul, 1) := by decide +kernel
theorem dX7_bitsAt_12 : decode cX7_bitsAt 12 = .ok (.iload_n 1, 1) := by decide +kernel
theorem dX7_bitsAt_13 : decode cX7_bitsAt 13 = .ok (.iload_n 2, 1) := by decide +kernel
theorem dX7_bitsAt_14 : decode cX7_bitsAt 14 = .ok (.iadd, 1) := by decide +kernel
theorem dX7_bitsAt_15 : decode cX7_bitsAt 15 = .ok (.if_icmp .ge 80, 3) := by decide +kernel
theorem dX7_bitsAt_18 : decode cX7_bitsAt 18 = .ok (.aload_n 0, 1) := by decide +kernel
theorem dX7_bitsAt_19 : decode cX7_bitsAt 19 = .ok (.getfield 18, 3) := by decide +kernel
theorem dX7_bitsAt_22 : decode cX7_bitsAt 22 = .ok (.iload 5, 2) := by decide +kernel
theorem dX7_bitsAt_24 : decode cX7_bitsAt 24 = .ok (.iadd, 1) := by decide +kernel
theorem dX7_bitsAt_25 : decode cX7_bitsAt 25 = .ok (.istore 6, 2) := by decide +kernel
theorem dX7_bitsAt_27 : decode cX7_bitsAt 27 = .ok (.iload 6, 2) := by decide +kernel
theorem dX7_bitsAt_29 : decode cX7_bitsAt 29 = .ok (.ifCond .lt 13, 3) := by decide +kernel
theorem dX7_bitsAt_32 : decode cX7_bitsAt 32 = .ok (.iload 6, 2) := by decide +kernel
theorem dX7_bitsAt_34 : decode cX7_bitsAt 34 = .ok (.aload_n 0, 1) := by decide +kernel
theorem dX7_bitsAt_35 : decode cX7_bitsAt 35 = .ok (.getfield 9, 3) := by decide +kernel
theorem dX7_bitsAt_38 : decode cX7_bitsAt 38 = .ok (.arraylength, 1) := by decide +kernel
theorem dX7_bitsAt_39 : decode cX7_bitsAt 39 = .ok (.if_icmp .lt 5, 3) := by decide +kernel
theorem dX7_bitsAt_42 : decode cX7_bitsAt 42 = .ok (.lconst 0, 1) := by decide +kernel
theorem dX7_bitsAt_43 : decode cX7_bitsAt 43 = .ok (.lreturn, 1) := by decide +kernel
theorem dX7_bitsAt_44 : decode cX7_bitsAt 44 = .ok (.bipush 8, 2) := by decide +kernel
theorem dX7_bitsAt_46 : decode cX7_bitsAt 46 = .ok (.iload 5, 2) := by decide +kernel
theorem dX7_bitsAt_48 : decode cX7_bitsAt 48 = .ok (.imul, 1) := by decide +kernel
theorem dX7_bitsAt_49 : decode cX7_bitsAt 49 = .ok (.iload_n 1, 1) := by decide +kernel
theorem dX7_bitsAt_50 : decode cX7_bitsAt 50 = .ok (.isub, 1) := by decide +kernel
theorem dX7_bitsAt_51 : decode cX7_bitsAt 51 = .ok (.istore 7, 2) := by decide +kernel
theorem dX7_bitsAt_53 : decode cX7_bitsAt 53 = .ok (.aload_n 0, 1) := by decide +kernel
theorem dX7_bitsAt_54 : decode cX7_bitsAt 54 = .ok (.getfield 9, 3) := by decide +kernel
theorem dX7_bitsAt_57 : decode cX7_bitsAt 57 = .ok (.iload 6, 2) := by decide +kernel
theorem dX7_bitsAt_59 : decode cX7_bitsAt 59 = .ok (.baload, 1) := by decide +kernel
theorem dX7_bitsAt_60 : decode cX7_bitsAt 60 = .ok (.sipush 255, 3) := by decide +kernel
theorem dX7_bitsAt_63 : decode cX7_bitsAt 63 = .ok (.iand, 1) := by decide +kernel
theorem dX7_bitsAt_64 : decode cX7_bitsAt 64 = .ok (.i2l, 1) := by decide +kernel
theorem dX7_bitsAt_65 : decode cX7_bitsAt 65 = .ok (.lstore 8, 2) := by decide +kernel
theorem dX7_bitsAt_67 : decode cX7_bitsAt 67 = .ok (.lload_n 3, 1) := by decide +kernel
theorem dX7_bitsAt_68 : decode cX7_bitsAt 68 = .ok (.iload 7, 2) := by decide +kernel
theorem dX7_bitsAt_70 : decode cX7_bitsAt 70 = .ok (.ifCond .ge 12, 3) := by decide +kernel
theorem dX7_bitsAt_73 : decode cX7_bitsAt 73 = .ok (.lload 8, 2) := by decide +kernel
theorem dX7_bitsAt_75 : decode cX7_bitsAt 75 = .ok (.iload 7, 2) := by decide +kernel
theorem dX7_bitsAt_77 : decode cX7_bitsAt 77 = .ok (.ineg, 1) := by decide +kernel
theorem dX7_bitsAt_78 : decode cX7_bitsAt 78 = .ok (.lushr, 1) := by decide +kernel
theorem dX7_bitsAt_79 : decode cX7_bitsAt 79 = .ok (.goto 8, 3) := by decide +kernel
theorem dX7_bitsAt_82 : decode cX7_bitsAt 82 = .ok (.lload 8, 2) := by decide +kernel
theorem dX7_bitsAt_84 : decode cX7_bitsAt 84 = .ok (.iload 7, 2) := by decide +kernel
theorem dX7_bitsAt_86 : decode cX7_bitsAt 86 = .ok (.lshl, 1) := by decide +kernel
theorem dX7_bitsAt_87 : decode cX7_bitsAt 87 = .ok (.lor, 1) := by decide +kernel
theorem dX7_bitsAt_88 : decode cX7_bitsAt 88 = .ok (.lstore_n 3, 1) := by decide +kernel
theorem dX7_bitsAt_89 : decode cX7_bitsAt 89 = .ok (.iinc 5 1, 3) := by decide +kernel
theorem dX7_bitsAt_92 : decode cX7_bitsAt 92 = .ok (.goto (-85), 3) := by decide +kernel
theorem dX7_bitsAt_95 : decode cX7_bitsAt 95 = .ok (.iload_n 2, 1) := by decide +kernel
theorem dX7_bitsAt_96 : decode cX7_bitsAt 96 = .ok (.bipush 64, 2) := by decide +kernel
theorem dX7_bitsAt_98 : decode cX7_bitsAt 98 = .ok (.if_icmp .ge 13, 3) := by decide +kernel
theorem dX7_bitsAt_101 : decode cX7_bitsAt 101 = .ok (.lload_n 3, 1) := by decide +kernel
theorem dX7_bitsAt_102 : decode cX7_bitsAt 102 = .ok (.lconst 1, 1) := by decide +kernel
theorem dX7_bitsAt_103 : decode cX7_bitsAt 103 = .ok (.iload_n 2, 1) := by decide +kernel
theorem dX7_bitsAt_104 : decode cX7_bitsAt 104 = .ok (.lshl, 1) := by decide +kernel
theorem dX7_bitsAt_105 : decode cX7_bitsAt 105 = .ok (.lconst 1, 1) := by decide +kernel
theorem dX7_bitsAt_106 : decode cX7_bitsAt 106 = .ok (.lsub, 1) := by decide +kernel
theorem dX7_bitsAt_107 : decode cX7_bitsAt 107 = .ok (.land, 1) := by decide +kernel
theorem dX7_bitsAt_108 : decode cX7_bitsAt 108 = .ok (.goto 4, 3) := by decide +kernel
theorem dX7_bitsAt_111 : decode cX7_bitsAt 111 = .ok (.lload_n 3, 1) := by decide +kernel
theorem dX7_bitsAt_112 : decode cX7_bitsAt 112 = .ok (.lreturn, 1) := by decide +kernel
theorem dX7_expectEnd_0 : decode cX7_expectEnd 0 = .ok (.aload_n 0, 1) := by decide +kernel
theorem dX7_expectEnd_1 : decode cX7_expectEnd 1 = .ok (.getfield 18, 3) := by decide +kernel
theorem dX7_expectEnd_4 : decode cX7_expectEnd 4 = .ok (.aload_n 0, 1) := by decide +kernel
theorem dX7_expectEnd_5 : decode cX7_expectEnd 5 = .ok (.getfield 25, 3) := by decide +kernel
theorem dX7_expectEnd_8 : decode cX7_expectEnd 8 = .ok (.if_icmp .ge 9, 3) := by decide +kernel
theorem dX7_expectEnd_11 : decode cX7_expectEnd 11 = .ok (.aload_n 0, 1) := by decide +kernel
theorem dX7_expectEnd_12 : decode cX7_expectEnd 12 = .ok (.bipush 6, 2) := by decide +kernel
theorem dX7_expectEnd_14 : decode cX7_expectEnd 14 = .ok (.invokevirtual 31, 3) := by decide +kernel
theorem dX7_expectEnd_17 : decode cX7_expectEnd 17 = .ok (.return_, 1) := by decide +kernel
theorem dX8_init_0 : decode cX8_init 0 = .ok (.aload_n 0, 1) := by decide +kernel
theorem dX8_init_1 : decode cX8_init 1 = .ok (.invokespecial 1, 3) := by decide +kernel
theorem dX8_init_4 : decode cX8_init 4 = .ok (.aload_n 0, 1) := by decide +kernel
theorem dX8_init_5 : decode cX8_init 5 = .ok (.new 7, 3) := by decide +kernel
theorem dX8_init_8 : decode cX8_init 8 = .ok (.dup, 1) := by decide +kernel
theorem dX8_init_9 : decode cX8_init 9 = .ok (.sipush 24000, 3) := by decide +kernel
theorem dX8_init_12 : decode cX8_init 12 = .ok (.invokespecial 11, 3) := by decide +kernel
theorem dX8_init_15 : decode cX8_init 15 = .ok (.putfield 14, 3) := by decide +kernel
theorem dX8_init_18 : decode cX8_init 18 = .ok (.aload_n 0, 1) := by decide +kernel
theorem dX8_init_19 : decode cX8_init 19 = .ok (.new 7, 3) := by decide +kernel
theorem dX8_init_22 : decode cX8_init 22 = .ok (.dup, 1) := by decide +kernel
theorem dX8_init_23 : decode cX8_init 23 = .ok (.sipush 24000, 3) := by decide +kernel
theorem dX8_init_26 : decode cX8_init 26 = .ok (.invokespecial 11, 3) := by decide +kernel
theorem dX8_init_29 : decode cX8_init 29 = .ok (.putfield 18, 3) := by decide +kernel
theorem dX8_init_32 : decode cX8_init 32 = .ok (.aload_n 0, 1) := by decide +kernel
theorem dX8_init_33 : decode cX8_init 33 = .ok (.new 7, 3) := by decide +kernel
theorem dX8_init_36 : decode cX8_init 36 = .ok (.dup, 1) := by decide +kernel
theorem dX8_init_37 : decode cX8_init 37 = .ok (.sipush 24000, 3) := by decide +kernel
theorem dX8_init_40 : decode cX8_init 40 = .ok (.invokespecial 11, 3) := by decide +kernel
theorem dX8_init_43 : decode cX8_init 43 = .ok (.putfield 21, 3) := by decide +kernel
theorem dX8_init_46 : decode cX8_init 46 = .ok (.aload_n 0, 1) := by decide +kernel
theorem dX8_init_47 : decode cX8_init 47 = .ok (.new 24, 3) := by decide +kernel
theorem dX8_init_50 : decode cX8_init 50 = .ok (.dup, 1) := by decide +kernel
theorem dX8_init_51 : decode cX8_init 51 = .ok (.invokespecial 26, 3) := by decide +kernel
theorem dX8_init_54 : decode cX8_init 54 = .ok (.putfield 27, 3) := by decide +kernel
theorem dX8_init_57 : decode cX8_init 57 = .ok (.aload_n 0, 1) := by decide +kernel
theorem dX8_init_58 : decode cX8_init 58 = .ok (.new 24, 3) := by decide +kernel
theorem dX8_init_61 : decode cX8_init 61 = .ok (.dup, 1) := by decide +kernel
theorem dX8_init_62 : decode cX8_init 62 = .ok (.invokespecial 26, 3) := by decide +kernel
theorem dX8_init_65 : decode cX8_init 65 = .ok (.putfield 31, 3) := by decide +kernel
theorem dX8_init_68 : decode cX8_init 68 = .ok (.new 34, 3) := by decide +kernel
theorem dX8_init_71 : decode cX8_init 71 = .ok (.dup, 1) := by decide +kernel
theorem dX8_init_72 : decode cX8_init 72 = .ok (.invokespecial 36, 3) := by decide +kernel
theorem dX8_init_75 : decode cX8_init 75 = .ok (.astore_n 1, 1) := by decide +kernel
theorem dX8_init_76 : decode cX8_init 76 = .ok (.new 34, 3) := by decide +kernel
theorem dX8_init_79 : decode cX8_init 79 = .ok (.dup, 1) := by decide +kernel
theorem dX8_init_80 : decode cX8_init 80 = .ok (.invokespecial 36, 3) := by decide +kernel
theorem dX8_init_83 : decode cX8_init 83 = .ok (.astore_n 2, 1) := by decide +kernel
theorem dX8_init_84 : decode cX8_init 84 = .ok (.new 37, 3) := by decide +kernel
theorem dX8_init_87 : decode cX8_init 87 = .ok (.dup, 1) := by decide +kernel
theorem dX8_init_88 : decode cX8_init 88 = .ok (.invokespecial 39, 3) := by decide +kernel
theorem dX8_init_91 : decode cX8_init 91 = .ok (.astore_n 3, 1) := by decide +kernel
theorem dX8_init_92 : decode cX8_init 92 = .ok (.aload_n 0, 1) := by decide +kernel
theorem dX8_init_93 : decode cX8_init 93 = .ok (.new 40, 3) := by decide +kernel
theorem dX8_init_96 : decode cX8_init 96 = .ok (.dup, 1) := by decide +kernel
theorem dX8_init_97 : decode cX8_init 97 = .ok (.aload_n 1, 1) := by decide +kernel
theorem dX8_init_98 : decode cX8_init 98 = .ok (.aload_n 2, 1) := by decide +kernel
theorem dX8_init_99 : decode cX8_init 99 = .ok (.aload_n 3, 1) := by decide +kernel
theorem dX8_init_100 : decode cX8_init 100 = .ok (.invokespecial 42, 3) := by decide +kernel
theorem dX8_init_103 : decode cX8_init 103 = .ok (.putfield 45, 3) := by decide +kernel
theorem dX8_init_106 : decode cX8_init 106 = .ok (.aload_n 0, 1) := by decide +kernel
theorem dX8_init_107 : decode cX8_init 107 = .ok (.new 49, 3) := by decide +kernel
theorem dX8_init_110 : decode cX8_init 110 = .ok (.dup, 1) := by decide +kernel
theorem dX8_init_111 : decode cX8_init 111 = .ok (.aload_n 1, 1) := by decide +kernel
theorem dX8_init_112 : decode cX8_init 112 = .ok (.aload_n 2, 1) := by decide +kernel
theorem dX8_init_113 : decode cX8_init 113 = .ok (.aload_n 3, 1) := by decide +kernel
theorem dX8_init_114 : decode cX8_init 114 = .ok (.invokespecial 51, 3) := by decide +kernel
theorem dX8_init_117 : decode cX8_init 117 = .ok (.putfield 52, 3) := by decide +kernel
theorem dX8_init_120 : decode cX8_init 120 = .ok (.return_, 1) := by decide +kernel
theorem dX8_feed_0 : decode cX8_feed 0 = .ok (.bipush 20, 2) := by decide +kernel
theorem dX8_feed_2 : decode cX8_feed 2 = .ok (.sipush 24000, 3) := by decide +kernel
theorem dX8_feed_5 : decode cX8_feed 5 = .ok (.aload_n 0, 1) := by decide +kernel
theorem dX8_feed_6 : decode cX8_feed 6 = .ok (.getfield 18, 3) := by decide +kernel
theorem dX8_feed_9 : decode cX8_feed 9 = .ok (.getfield 56, 3) := by decide +kernel
theorem dX8_feed_12 : decode cX8_feed 12 = .ok (.isub, 1) := by decide +kernel
theorem dX8_feed_13 : decode cX8_feed 13 = .ok (.if_icmp .le 5, 3) := by decide +kernel
theorem dX8_feed_16 : decode cX8_feed 16 = .ok (.iconst 0, 1) := by decide +kernel
theorem dX8_feed_17 : decode cX8_feed 17 = .ok (.ireturn, 1) := by decide +kernel
theorem dX8_feed_18 : decode cX8_feed 18 = .ok (.aload_n 0, 1) := by decide +kernel
theorem dX8_feed_19 : decode cX8_feed 19 = .ok (.getfield 18, 3) := by decide +kernel
theorem dX8_feed_22 : decode cX8_feed 22 = .ok (.iload_n 1, 1) := by decide +kernel
theorem dX8_feed_23 : decode cX8_feed 23 = .ok (.invokevirtual 60, 3) := by decide +kernel
theorem dX8_feed_26 : decode cX8_feed 26 = .ok (.aload_n 0, 1) := by decide +kernel
theorem dX8_feed_27 : decode cX8_feed 27 = .ok (.getfield 18, 3) := by decide +kernel
theorem dX8_feed_30 : decode cX8_feed 30 = .ok (.iload_n 2, 1) := by decide +kernel
theorem dX8_feed_31 : decode cX8_feed 31 = .ok (.invokevirtual 60, 3) := by decide +kernel
theorem dX8_feed_34 : decode cX8_feed 34 = .ok (.aload_n 0, 1) := by decide +kernel
theorem dX8_feed_35 : decode cX8_feed 35 = .ok (.getfield 18, 3) := by decide +kernel
theorem dX8_feed_38 : decode cX8_feed 38 = .ok (.iload_n 3, 1) := by decide +kernel
theorem dX8_feed_39 : decode cX8_feed 39 = .ok (.invokevirtual 60, 3) := by decide +kernel
theorem dX8_feed_42 : decode cX8_feed 42 = .ok (.aload_n 0, 1) := by decide +kernel
theorem dX8_feed_43 : decode cX8_feed 43 = .ok (.getfield 18, 3) := by decide +kernel
theorem dX8_feed_46 : decode cX8_feed 46 = .ok (.iload 4, 2) := by decide +kernel
theorem dX8_feed_48 : decode cX8_feed 48 = .ok (.invokevirtual 60, 3) := by decide +kernel
theorem dX8_feed_51 : decode cX8_feed 51 = .ok (.aload_n 0, 1) := by decide +kernel
theorem dX8_feed_52 : decode cX8_feed 52 = .ok (.getfield 18, 3) := by decide +kernel
theorem dX8_feed_55 : decode cX8_feed 55 = .ok (.iload 5, 2) := by decide +kernel
theorem dX8_feed_57 : decode cX8_feed 57 = .ok (.invokevirtual 60, 3) := by decide +kernel
theorem dX8_feed_60 : decode cX8_feed 60 = .ok (.iconst 1, 1) := by decide +kernel
theorem dX8_feed_61 : decode cX8_feed 61 = .ok (.ireturn, 1) := by decide +kernel
theorem dX8_end_0 : decode cX8_end 0 = .ok (.iload_n 1, 1) := by decide +kernel
theorem dX8_end_1 : decode cX8_end 1 = .ok (.ifCond .lt 14, 3) := by decide +kernel
theorem dX8_end_4 : decode cX8_end 4 = .ok (.iload_n 1, 1) := by decide +kernel
theorem dX8_end_5 : decode cX8_end 5 = .ok (.aload_n 0, 1) := by decide +kernel
theorem dX8_end_6 : decode cX8_end 6 = .ok (.getfield 18, 3) := by decide +kernel
theorem dX8_end_9 : decode cX8_end 9 = .ok (.getfield 56, 3) := by decide +kernel
theorem dX8_end_12 : decode cX8_end 12 = .ok (.if_icmp .le 5, 3) := by decide +kernel
theorem dX8_end_15 : decode cX8_end 15 = .ok (.iconst 0, 1) := by decide +kernel
theorem dX8_end_16 : decode cX8_end 16 = .ok (.ireturn, 1) := by decide +kernel
theorem dX8_end_17 : decode cX8_end 17 = .ok (.aload_n 0, 1) := by decide +kernel
theorem dX8_end_18 : decode cX8_end 18 = .ok (.getfield 18, 3) := by decide +kernel
theorem dX8_end_21 : decode cX8_end 21 = .ok (.astore_n 2, 1) := by decide +kernel
theorem dX8_end_22 : decode cX8_end 22 = .ok (.aload_n 0, 1) := by decide +kernel
theorem dX8_end_23 : decode cX8_end 23 = .ok (.aload_n 0, 1) := by decide +kernel
theorem dX8_end_24 : decode cX8_end 24 = .ok (.getfield 21, 3) := by decide +kernel
theorem dX8_end_27 : decode cX8_end 27 = .ok (.putfield 18, 3) := by decide +kernel
theorem dX8_end_30 : decode cX8_end 30 = .ok (.aload_n 0, 1) := by decide +kernel
theorem dX8_end_31 : decode cX8_end 31 = .ok (.aload_n 2, 1) := by decide +kernel
theorem dX8_end_32 : decode cX8_end 32 = .ok (.putfield 21, 3) := by decide +kernel
theorem dX8_end_35 : decode cX8_end 35 = .ok (.aload_n 0, 1) := by decide +kernel
theorem dX8_end_36 : decode cX8_end 36 = .ok (.getfield 21, 3) := by decide +kernel
theorem dX8_end_39 : decode cX8_end 39 = .ok (.iload_n 1, 1) := by decide +kernel
theorem dX8_end_40 : decode cX8_end 40 = .ok (.putfield 56, 3) := by decide +kernel
theorem dX8_end_43 : decode cX8_end 43 = .ok (.aload_n 0, 1) := by decide +kernel
theorem dX8_end_44 : decode cX8_end 44 = .ok (.getfield 18, 3) := by decide +kernel
theorem dX8_end_47 : decode cX8_end 47 = .ok (.iconst 0, 1) := by decide +kernel
theorem dX8_end_48 : decode cX8_end 48 = .ok (.putfield 56, 3) := by decide +kernel
theorem dX8_end_51 : decode cX8_end 51 = .ok (.iconst 1, 1) := by decide +kernel
theorem dX8_end_52 : decode cX8_end 52 = .ok (.ireturn, 1) := by decide +kernel
theorem dX8_add_0 : decode cX8_add 0 = .ok (.iload_n 1, 1) := by decide +kernel
theorem dX8_add_1 : decode cX8_add 1 = .ok (.iconst 1, 1) := by decide +kernel
theorem dX8_add_2 : decode cX8_add 2 = .ok (.if_icmp .lt 31, 3) := by decide +kernel
theorem dX8_add_5 : decode cX8_add 5 = .ok (.iload_n 1, 1) := by decide +kernel
theorem dX8_add_6 : decode cX8_add 6 = .ok (.sipush 1000, 3) := by decide +kernel
theorem dX8_add_9 : decode cX8_add 9 = .ok (.aload_n 0, 1) := by decide +kernel
theorem dX8_add_10 : decode cX8_add 10 = .ok (.getfield 27, 3) := by decide +kernel
theorem dX8_add_13 : decode cX8_add 13 = .ok (.getfield 63, 3) := by decide +kernel
theorem dX8_add_16 : decode cX8_add 16 = .ok (.isub, 1) := by decide +kernel
theorem dX8_add_17 : decode cX8_add 17 = .ok (.if_icmp .gt 16, 3) := by decide +kernel
theorem dX8_add_20 : decode cX8_add 20 = .ok (.aload_n 0, 1) := by decide +kernel
theorem dX8_add_21 : decode cX8_add 21 = .ok (.getfield 21, 3) := by decide +kernel
theorem dX8_add_24 : decode cX8_add 24 = .ok (.getfield 56, 3) := by decide +kernel
theorem dX8_add_27 : decode cX8_add 27 = .ok (.sipush 255, 3) := by decide +kernel
theorem dX8_add_30 : decode cX8_add 30 = .ok (.if_icmp .le 5, 3) := by decide +kernel
theorem dX8_add_33 : decode cX8_add 33 = .ok (.iconst 0, 1) := by decide +kernel
theorem dX8_add_34 : decode cX8_add 34 = .ok (.ireturn, 1) := by decide +kernel
theorem dX8_add_35 : decode cX8_add 35 = .ok (.iload_n 1, 1) := by decide +kernel
theorem dX8_add_36 : decode cX8_add 36 = .ok (.aload_n 0, 1) := by decide +kernel
theorem dX8_add_37 : decode cX8_add 37 = .ok (.getfield 21, 3) := by decide +kernel
theorem dX8_add_40 : decode cX8_add 40 = .ok (.getfield 56, 3) := by decide +kernel
theorem dX8_add_43 : decode cX8_add 43 = .ok (.imul, 1) := by decide +kernel
theorem dX8_add_44 : decode cX8_add 44 = .ok (.sipush 20000, 3) := by decide +kernel
theorem dX8_add_47 : decode cX8_add 47 = .ok (.aload_n 0, 1) := by decide +kernel
theorem dX8_add_48 : decode cX8_add 48 = .ok (.getfield 27, 3) := by decide +kernel
theorem dX8_add_51 : decode cX8_add 51 = .ok (.invokevirtual 66, 3) := by decide +kernel
theorem dX8_add_54 : decode cX8_add 54 = .ok (.isub, 1) := by decide +kernel
theorem dX8_add_55 : decode cX8_add 55 = .ok (.if_icmp .le 5, 3) := by decide +kernel
theorem dX8_add_58 : decode cX8_add 58 = .ok (.iconst 0, 1) := by decide +kernel
theorem dX8_add_59 : decode cX8_add 59 = .ok (.ireturn, 1) := by decide +kernel
theorem dX8_add_60 : decode cX8_add 60 = .ok (.iconst 0, 1) := by decide +kernel
theorem dX8_add_61 : decode cX8_add 61 = .ok (.istore_n 2, 1) := by decide +kernel
theorem dX8_add_62 : decode cX8_add 62 = .ok (.iload_n 2, 1) := by decide +kernel
theorem dX8_add_63 : decode cX8_add 63 = .ok (.iload_n 1, 1) := by decide +kernel
theorem dX8_add_64 : decode cX8_add 64 = .ok (.if_icmp .ge 32, 3) := by decide +kernel
theorem dX8_add_67 : decode cX8_add 67 = .ok (.aload_n 0, 1) := by decide +kernel
theorem dX8_add_68 : decode cX8_add 68 = .ok (.getfield 27, 3) := by decide +kernel
theorem dX8_add_71 : decode cX8_add 71 = .ok (.iconst 0, 1) := by decide +kernel
theorem dX8_add_72 : decode cX8_add 72 = .ok (.aload_n 0, 1) := by decide +kernel
theorem dX8_add_73 : decode cX8_add 73 = .ok (.getfield 21, 3) := by decide +kernel
theorem dX8_add_76 : decode cX8_add 76 = .ok (.getfield 70, 3) := by decide +kernel
theorem dX8_add_79 : decode cX8_add 79 = .ok (.iconst 0, 1) := by decide +kernel
theorem dX8_add_80 : decode cX8_add 80 = .ok (.aload_n 0, 1) := by decide +kernel
theorem dX8_add_81 : decode cX8_add 81 = .ok (.getfield 21, 3) := by decide +kernel
theorem dX8_add_84 : decode cX8_add 84 = .ok (.getfield 56, 3) := by decide +kernel
theorem dX8_add_87 : decode cX8_add 87 = .ok (.invokevirtual 74, 3) := by decide +kernel
theorem dX8_add_90 : decode cX8_add 90 = .ok (.iinc 2 1, 3) := by decide +kernel
theorem dX8_add_93 : decode cX8_add 93 = .ok (.goto (-31), 3) := by decide +kernel
theorem dX8_add_96 : decode cX8_add 96 = .ok (.iconst 1, 1) := by decide +kernel
theorem dX8_add_97 : decode cX8_add 97 = .ok (.ireturn, 1) := by decide +kernel
theorem dX8_clear_0 : decode cX8_clear 0 = .ok (.aload_n 0, 1) := by decide +kernel
theorem dX8_clear_1 : decode cX8_clear 1 = .ok (.getfield 27, 3) := by decide +kernel
theorem dX8_clear_4 : decode cX8_clear 4 = .ok (.iconst 0, 1) := by decide +kernel
theorem dX8_clear_5 : decode cX8_clear 5 = .ok (.putfield 63, 3) := by decide +kernel
theorem dX8_clear_8 : decode cX8_clear 8 = .ok (.return_, 1) := by decide +kernel
theorem dX8_write_0 : decode cX8_write 0 = .ok (.aload_n 0, 1) := by decide +kernel
theorem dX8_write_1 : decode cX8_write 1 = .ok (.getfield 14, 3) := by decide +kernel
theorem dX8_write_4 : decode cX8_write 4 = .ok (.iconst 0, 1) := by decide +kernel
theorem dX8_write_5 : decode cX8_write 5 = .ok (.putfield 56, 3) := by decide +kernel
theorem dX8_write_8 : decode cX8_write 8 = .ok (.iload_n 1, 1) := by decide +kernel
theorem dX8_write_9 : decode cX8_write 9 = .ok (.tableswitch 103 0 3 #[31, 49, 67, 85], 31) := by decide +kernel
theorem dX8_write_40 : decode cX8_write 40 = .ok (.aload_n 0, 1) := by decide +kernel
theorem dX8_write_41 : decode cX8_write 41 = .ok (.getfield 45, 3) := by decide +kernel
theorem dX8_write_44 : decode cX8_write 44 = .ok (.aload_n 0, 1) := by decide +kernel
theorem dX8_write_45 : decode cX8_write 45 = .ok (.getfield 27, 3) := by decide +kernel
theorem dX8_write_48 : decode cX8_write 48 = .ok (.aload_n 0, 1) := by decide +kernel
theorem dX8_write_49 : decode cX8_write 49 = .ok (.getfield 14, 3) := by decide +kernel
theorem dX8_write_52 : decode cX8_write 52 = .ok (.invokevirtual 78, 3) := by decide +kernel
theorem dX8_write_55 : decode cX8_write 55 = .ok (.goto 59, 3) := by decide +kernel
theorem dX8_write_58 : decode cX8_write 58 = .ok (.aload_n 0, 1) := by decide +kernel
theorem dX8_write_59 : decode cX8_write 59 = .ok (.getfield 45, 3) := by decide +kernel
theorem dX8_write_62 : decode cX8_write 62 = .ok (.aload_n 0, 1) := by decide +kernel
theorem dX8_write_63 : decode cX8_write 63 = .ok (.getfield 27, 3) := by decide +kernel
theorem dX8_write_66 : decode cX8_write 66 = .ok (.aload_n 0, 1) := by decide +kernel
theorem dX8_write_67 : decode cX8_write 67 = .ok (.getfield 14, 3) := by decide +kernel
theorem dX8_write_70 : decode cX8_write 70 = .ok (.invokevirtual 82, 3) := by decide +kernel
theorem dX8_write_73 : decode cX8_write 73 = .ok (.goto 41, 3) := by decide +kernel
theorem dX8_write_76 : decode cX8_write 76 = .ok (.aload_n 0, 1) := by decide +kernel
theorem dX8_write_77 : decode cX8_write 77 = .ok (.getfield 45, 3) := by decide +kernel
theorem dX8_write_80 : decode cX8_write 80 = .ok (.aload_n 0, 1) := by decide +kernel
theorem dX8_write_81 : decode cX8_write 81 = .ok (.getfield 27, 3) := by decide +kernel
theorem dX8_write_84 : decode cX8_write 84 = .ok (.aload_n 0, 1) := by decide +kernel
theorem dX8_write_85 : decode cX8_write 85 = .ok (.getfield 14, 3) := by decide +kernel
theorem dX8_write_88 : decode cX8_write 88 = .ok (.invokevirtual 85, 3) := by decide +kernel
theorem dX8_write_91 : decode cX8_write 91 = .ok (.goto 23, 3) := by decide +kernel
theorem dX8_write_94 : decode cX8_write 94 = .ok (.aload_n 0, 1) := by decide +kernel
theorem dX8_write_95 : decode cX8_write 95 = .ok (.getfield 45, 3) := by decide +kernel
theorem dX8_write_98 : decode cX8_write 98 = .ok (.aload_n 0, 1) := by decide +kernel
theorem dX8_write_99 : decode cX8_write 99 = .ok (.getfield 27, 3) := by decide +kernel
theorem dX8_write_102 : decode cX8_write 102 = .ok (.aload_n 0, 1) := by decide +kernel
theorem dX8_write_103 : decode cX8_write 103 = .ok (.getfield 14, 3) := by decide +kernel
theorem dX8_write_106 : decode cX8_write 106 = .ok (.invokevirtual 88, 3) := by decide +kernel
theorem dX8_write_109 : decode cX8_write 109 = .ok (.goto 5, 3) := by decide +kernel
theorem dX8_write_112 : decode cX8_write 112 = .ok (.iconst (-1), 1) := by decide +kernel
theorem dX8_write_113 : decode cX8_write 113 = .ok (.ireturn, 1) := by decide +kernel
theorem dX8_write_114 : decode cX8_write 114 = .ok (.aload_n 0, 1) := by decide +kernel
theorem dX8_write_115 : decode cX8_write 115 = .ok (.getfield 14, 3) := by decide +kernel
theorem dX8_write_118 : decode cX8_write 118 = .ok (.getfield 56, 3) := by decide +kernel
theorem dX8_write_121 : decode cX8_write 121 = .ok (.ireturn, 1) := by decide +kernel
theorem dX8_read_0 : decode cX8_read 0 = .ok (.iload_n 2, 1) := by decide +kernel
theorem dX8_read_1 : decode cX8_read 1 = .ok (.ifCond .lt 10, 3) := by decide +kernel
theorem dX8_read_4 : decode cX8_read 4 = .ok (.iload_n 2, 1) := by decide +kernel
theorem dX8_read_5 : decode cX8_read 5 = .ok (.sipush 1000, 3) := by decide +kernel
theorem dX8_read_8 : decode cX8_read 8 = .ok (.if_icmp .le 5, 3) := by decide +kernel
theorem dX8_read_11 : decode cX8_read 11 = .ok (.iconst (-1), 1) := by decide +kernel
theorem dX8_read_12 : decode cX8_read 12 = .ok (.ireturn, 1) := by decide +kernel
theorem dX8_read_13 : decode cX8_read 13 = .ok (.aload_n 0, 1) := by decide +kernel
theorem dX8_read_14 : decode cX8_read 14 = .ok (.getfield 31, 3) := by decide +kernel
theorem dX8_read_17 : decode cX8_read 17 = .ok (.iconst 0, 1) := by decide +kernel
theorem dX8_read_18 : decode cX8_read 18 = .ok (.putfield 63, 3) := by decide +kernel
theorem dX8_read_21 : decode cX8_read 21 = .ok (.aload_n 0, 1) := by decide +kernel
theorem dX8_read_22 : decode cX8_read 22 = .ok (.getfield 52, 3) := by decide +kernel
theorem dX8_read_25 : decode cX8_read 25 = .ok (.aload_n 0, 1) := by decide +kernel
theorem dX8_read_26 : decode cX8_read 26 = .ok (.getfield 21, 3) := by decide +kernel
theorem dX8_read_29 : decode cX8_read 29 = .ok (.invokevirtual 91, 3) := by decide +kernel
theorem dX8_read_32 : decode cX8_read 32 = .ok (.iload_n 1, 1) := by decide +kernel
theorem dX8_read_33 : decode cX8_read 33 = .ok (.tableswitch 91 0 3 #[31, 46, 61, 76], 31) := by decide +kernel
theorem dX8_read_64 : decode cX8_read 64 = .ok (.aload_n 0, 1) := by decide +kernel
theorem dX8_read_65 : decode cX8_read 65 = .ok (.getfield 52, 3) := by decide +kernel
theorem dX8_read_68 : decode cX8_read 68 = .ok (.aload_n 0, 1) := by decide +kernel
theorem dX8_read_69 : decode cX8_read 69 = .ok (.getfield 31, 3) := by decide +kernel
theorem dX8_read_72 : decode cX8_read 72 = .ok (.iload_n 2, 1) := by decide +kernel
theorem dX8_read_73 : decode cX8_read 73 = .ok (.invokevirtual 95, 3) := by decide +kernel
theorem dX8_read_76 : decode cX8_read 76 = .ok (.goto 50, 3) := by decide +kernel
theorem dX8_read_79 : decode cX8_read 79 = .ok (.aload_n 0, 1) := by decide +kernel
theorem dX8_read_80 : decode cX8_read 80 = .ok (.getfield 52, 3) := by decide +kernel
theorem dX8_read_83 : decode cX8_read 83 = .ok (.aload_n 0, 1) := by decide +kernel
theorem dX8_read_84 : decode cX8_read 84 = .ok (.getfield 31, 3) := by decide +kernel
theorem dX8_read_87 : decode cX8_read 87 = .ok (.iload_n 2, 1) := by decide +kernel
theorem dX8_read_88 : decode cX8_read 88 = .ok (.invokevirtual 98, 3) := by decide +kernel
theorem dX8_read_91 : decode cX8_read 91 = .ok (.goto 35, 3) := by decide +kernel
theorem dX8_read_94 : decode cX8_read 94 = .ok (.aload_n 0, 1) := by decide +kernel
theorem dX8_read_95 : decode cX8_read 95 = .ok (.getfield 52, 3) := by decide +kernel
theorem dX8_read_98 : decode cX8_read 98 = .ok (.aload_n 0, 1) := by decide +kernel
theorem dX8_read_99 : decode cX8_read 99 = .ok (.getfield 31, 3) := by decide +kernel
theorem dX8_read_102 : decode cX8_read 102 = .ok (.iload_n 2, 1) := by decide +kernel
theorem dX8_read_103 : decode cX8_read 103 = .ok (.invokevirtual 100, 3) := by decide +kernel
theorem dX8_read_106 : decode cX8_read 106 = .ok (.goto 20, 3) := by decide +kernel
theorem dX8_read_109 : decode cX8_read 109 = .ok (.aload_n 0, 1) := by decide +kernel
theorem dX8_read_110 : decode cX8_read 110 = .ok (.getfield 52, 3) := by decide +kernel
theorem dX8_read_113 : decode cX8_read 113 = .ok (.aload_n 0, 1) := by decide +kernel
theorem dX8_read_114 : decode cX8_read 114 = .ok (.getfield 31, 3) := by decide +kernel
theorem dX8_read_117 : decode cX8_read 117 = .ok (.iload_n 2, 1) := by decide +kernel
theorem dX8_read_118 : decode cX8_read 118 = .ok (.invokevirtual 102, 3) := by decide +kernel
theorem dX8_read_121 : decode cX8_read 121 = .ok (.goto 5, 3) := by decide +kernel
theorem dX8_read_124 : decode cX8_read 124 = .ok (.iconst (-1), 1) := by decide +kernel
theorem dX8_read_125 : decode cX8_read 125 = .ok (.ireturn, 1) := by decide +kernel
theorem dX8_read_126 : decode cX8_read 126 = .ok (.aload_n 0, 1) := by decide +kernel
theorem dX8_read_127 : decode cX8_read 127 = .ok (.getfield 52, 3) := by decide +kernel
theorem dX8_read_130 : decode cX8_read 130 = .ok (.invokevirtual 104, 3) := by decide +kernel
theorem dX8_read_133 : decode cX8_read 133 = .ok (.ifCond .ne 21, 3) := by decide +kernel
theorem dX8_read_136 : decode cX8_read 136 = .ok (.aload_n 0, 1) := by decide +kernel
theorem dX8_read_137 : decode cX8_read 137 = .ok (.getfield 31, 3) := by decide +kernel
theorem dX8_read_140 : decode cX8_read 140 = .ok (.astore_n 3, 1) := by decide +kernel
theorem dX8_read_141 : decode cX8_read 141 = .ok (.aload_n 0, 1) := by decide +kernel
theorem dX8_read_142 : decode cX8_read 142 = .ok (.aload_n 0, 1) := by decide +kernel
theorem dX8_read_143 : decode cX8_read 143 = .ok (.getfield 27, 3) := by decide +kernel
theorem dX8_read_146 : decode cX8_read 146 = .ok (.putfield 31, 3) := by decide +kernel
theorem dX8_read_149 : decode cX8_read 149 = .ok (.aload_n 0, 1) := by decide +kernel
theorem dX8_read_150 : decode cX8_read 150 = .ok (.aload_n 3, 1) := by decide +kernel
theorem dX8_read_151 : decode cX8_read 151 = .ok (.putfield 27, 3) := by decide +kernel
theorem dX8_read_154 : decode cX8_read 154 = .ok (.aload_n 0, 1) := by decide +kernel
theorem dX8_read_155 : decode cX8_read 155 = .ok (.getfield 52, 3) := by decide +kernel
theorem dX8_read_158 : decode cX8_read 158 = .ok (.invokevirtual 104, 3) := by decide +kernel
theorem dX8_read_161 : decode cX8_read 161 = .ok (.ireturn, 1) := by decide +kernel
theorem dX8_turn_0 : decode cX8_turn 0 = .ok (.aload_n 0, 1) := by decide +kernel
theorem dX8_turn_1 : decode cX8_turn 1 = .ok (.getfield 14, 3) := by decide +kernel
theorem dX8_turn_4 : decode cX8_turn 4 = .ok (.getfield 56, 3) := by decide +kernel
theorem dX8_turn_7 : decode cX8_turn 7 = .ok (.sipush 24000, 3) := by decide +kernel
theorem dX8_turn_10 : decode cX8_turn 10 = .ok (.if_icmp .le 5, 3) := by decide +kernel
theorem dX8_turn_13 : decode cX8_turn 13 = .ok (.iconst 0, 1) := by decide +kernel
theorem dX8_turn_14 : decode cX8_turn 14 = .ok (.ireturn, 1) := by decide +kernel
theorem dX8_turn_15 : decode cX8_turn 15 = .ok (.aload_n 0, 1) := by decide +kernel
theorem dX8_turn_16 : decode cX8_turn 16 = .ok (.getfield 21, 3) := by decide +kernel
theorem dX8_turn_19 : decode cX8_turn 19 = .ok (.iconst 0, 1) := by decide +kernel
theorem dX8_turn_20 : decode cX8_turn 20 = .ok (.putfield 56, 3) := by decide +kernel
theorem dX8_turn_23 : decode cX8_turn 23 = .ok (.aload_n 0, 1) := by decide +kernel
theorem dX8_turn_24 : decode cX8_turn 24 = .ok (.getfield 21, 3) := by decide +kernel
theorem dX8_turn_27 : decode cX8_turn 27 = .ok (.aload_n 0, 1) := by decide +kernel
theorem dX8_turn_28 : decode cX8_turn 28 = .ok (.getfield 14, 3) := by decide +kernel
theorem dX8_turn_31 : decode cX8_turn 31 = .ok (.getfield 70, 3) := by decide +kernel
theorem dX8_turn_34 : decode cX8_turn 34 = .ok (.iconst 0, 1) := by decide +kernel
theorem dX8_turn_35 : decode cX8_turn 35 = .ok (.aload_n 0, 1) := by decide +kernel
theorem dX8_turn_36 : decode cX8_turn 36 = .ok (.getfield 14, 3) := by decide +kernel
theorem dX8_turn_39 : decode cX8_turn 39 = .ok (.getfield 56, 3) := by decide +kernel
theorem dX8_turn_42 : decode cX8_turn 42 = .ok (.invokevirtual 107, 3) := by decide +kernel
theorem dX8_turn_45 : decode cX8_turn 45 = .ok (.iconst 1, 1) := by decide +kernel
theorem dX8_turn_46 : decode cX8_turn 46 = .ok (.ireturn, 1) := by decide +kernel
theorem dX8_size_0 : decode cX8_size 0 = .ok (.aload_n 0, 1) := by decide +kernel
theorem dX8_size_1 : decode cX8_size 1 = .ok (.getfield 27, 3) := by decide +kernel
theorem dX8_size_4 : decode cX8_size 4 = .ok (.getfield 63, 3) := by decide +kernel
theorem dX8_size_7 : decode cX8_size 7 = .ok (.ireturn, 1) := by decide +kernel
theorem dX8_length_0 : decode cX8_length 0 = .ok (.aload_n 0, 1) := by decide +kernel
theorem dX8_length_1 : decode cX8_length 1 = .ok (.getfield 27, 3) := by decide +kernel
theorem dX8_length_4 : decode cX8_length 4 = .ok (.iload_n 1, 1) := by decide +kernel
theorem dX8_length_5 : decode cX8_length 5 = .ok (.invokevirtual 111, 3) := by decide +kernel
theorem dX8_length_8 : decode cX8_length 8 = .ok (.ifCond .eq 14, 3) := by decide +kernel
theorem dX8_length_11 : decode cX8_length 11 = .ok (.aload_n 0, 1) := by decide +kernel
theorem dX8_length_12 : decode cX8_length 12 = .ok (.getfield 27, 3) := by decide +kernel
theorem dX8_length_15 : decode cX8_length 15 = .ok (.iload_n 1, 1) := by decide +kernel
theorem dX8_length_16 : decode cX8_length 16 = .ok (.invokevirtual 115, 3) := by decide +kernel
theorem dX8_length_19 : decode cX8_length 19 = .ok (.goto 4, 3) := by decide +kernel
theorem dX8_length_22 : decode cX8_length 22 = .ok (.iconst (-1), 1) := by decide +kernel
theorem dX8_length_23 : decode cX8_length 23 = .ok (.ireturn, 1) := by decide +kernel
theorem dX8_byteOf_0 : decode cX8_byteOf 0 = .ok (.aload_n 0, 1) := by decide +kernel
theorem dX8_byteOf_1 : decode cX8_byteOf 1 = .ok (.getfield 27, 3) := by decide +kernel
theorem dX8_byteOf_4 : decode cX8_byteOf 4 = .ok (.iload_n 1, 1) := by decide +kernel
theorem dX8_byteOf_5 : decode cX8_byteOf 5 = .ok (.invokevirtual 111, 3) := by decide +kernel
theorem dX8_byteOf_8 : decode cX8_byteOf 8 = .ok (.ifCond .eq 19, 3) := by decide +kernel
theorem dX8_byteOf_11 : decode cX8_byteOf 11 = .ok (.iload_n 2, 1) := by decide +kernel
theorem dX8_byteOf_12 : decode cX8_byteOf 12 = .ok (.ifCond .lt 15, 3) := by decide +kernel
theorem dX8_byteOf_15 : decode cX8_byteOf 15 = .ok (.iload_n 2, 1) := by decide +kernel
theorem dX8_byteOf_16 : decode cX8_byteOf 16 = .ok (.aload_n 0, 1) := by decide +kernel
theorem dX8_byteOf_17 : decode cX8_byteOf 17 = .ok (.getfield 27, 3) := by decide +kernel
theorem dX8_byteOf_20 : decode cX8_byteOf 20 = .ok (.iload_n 1, 1) := by decide +kernel
theorem dX8_byteOf_21 : decode cX8_byteOf 21 = .ok (.invokevirtual 115, 3) := by decide +kernel
theorem dX8_byteOf_24 : decode cX8_byteOf 24 = .ok (.if_icmp .lt 5, 3) := by decide +kernel
theorem dX8_byteOf_27 : decode cX8_byteOf 27 = .ok (.iconst (-1), 1) := by decide +kernel
theorem dX8_byteOf_28 : decode cX8_byteOf 28 = .ok (.ireturn, 1) := by decide +kernel
theorem dX8_byteOf_29 : decode cX8_byteOf 29 = .ok (.aload_n 0, 1) := by decide +kernel
theorem dX8_byteOf_30 : decode cX8_byteOf 30 = .ok (.getfield 27, 3) := by decide +kernel
theorem dX8_byteOf_33 : decode cX8_byteOf 33 = .ok (.getfield 119, 3) := by decide +kernel
theorem dX8_byteOf_36 : decode cX8_byteOf 36 = .ok (.aload_n 0, 1) := by decide +kernel
theorem dX8_byteOf_37 : decode cX8_byteOf 37 = .ok (.getfield 27, 3) := by decide +kernel
theorem dX8_byteOf_40 : decode cX8_byteOf 40 = .ok (.getfield 120, 3) := by decide +kernel
theorem dX8_byteOf_43 : decode cX8_byteOf 43 = .ok (.iload_n 1, 1) := by decide +kernel
theorem dX8_byteOf_44 : decode cX8_byteOf 44 = .ok (.iaload, 1) := by decide +kernel
theorem dX8_byteOf_45 : decode cX8_byteOf 45 = .ok (.iload_n 2, 1) := by decide +kernel
theorem dX8_byteOf_46 : decode cX8_byteOf 46 = .ok (.iadd, 1) := by decide +kernel
theorem dX8_byteOf_47 : decode cX8_byteOf 47 = .ok (.baload, 1) := by decide +kernel
theorem dX8_byteOf_48 : decode cX8_byteOf 48 = .ok (.sipush 255, 3) := by decide +kernel
theorem dX8_byteOf_51 : decode cX8_byteOf 51 = .ok (.iand, 1) := by decide +kernel
theorem dX8_byteOf_52 : decode cX8_byteOf 52 = .ok (.ireturn, 1) := by decide +kernel
theorem dX8_output_0 : decode cX8_output 0 = .ok (.iload_n 1, 1) := by decide +kernel
theorem dX8_output_1 : decode cX8_output 1 = .ok (.ifCond .lt 14, 3) := by decide +kernel
theorem dX8_output_4 : decode cX8_output 4 = .ok (.iload_n 1, 1) := by decide +kernel
theorem dX8_output_5 : decode cX8_output 5 = .ok (.aload_n 0, 1) := by decide +kernel
theorem dX8_output_6 : decode cX8_output 6 = .ok (.getfield 14, 3) := by decide +kernel
theorem dX8_output_9 : decode cX8_output 9 = .ok (.getfield 56, 3) := by decide +kernel
theorem dX8_output_12 : decode cX8_output 12 = .ok (.if_icmp .lt 5, 3) := by decide +kernel
theorem dX8_output_15 : decode cX8_output 15 = .ok (.iconst (-1), 1) := by decide +kernel
theorem dX8_output_16 : decode cX8_output 16 = .ok (.ireturn, 1) := by decide +kernel
theorem dX8_output_17 : decode cX8_output 17 = .ok (.aload_n 0, 1) := by decide +kernel
theorem dX8_output_18 : decode cX8_output 18 = .ok (.getfield 14, 3) := by decide +kernel
theorem dX8_output_21 : decode cX8_output 21 = .ok (.getfield 70, 3) := by decide +kernel
theorem dX8_output_24 : decode cX8_output 24 = .ok (.iload_n 1, 1) := by decide +kernel
theorem dX8_output_25 : decode cX8_output 25 = .ok (.baload, 1) := by decide +kernel
theorem dX8_output_26 : decode cX8_output 26 = .ok (.sipush 255, 3) := by decide +kernel
theorem dX8_output_29 : decode cX8_output 29 = .ok (.iand, 1) := by decide +kernel
theorem dX8_output_30 : decode cX8_output 30 = .ok (.ireturn, 1) := by decide +kernel
theorem dX8_bitsOf_0 : decode cX8_bitsOf 0 = .ok (.iconst 0, 1) := by decide +kernel
theorem dX8_bitsOf_1 : decode cX8_bitsOf 1 = .ok (.istore_n 2, 1) := by decide +kernel
theorem dX8_bitsOf_2 : decode cX8_bitsOf 2 = .ok (.iload_n 2, 1) := by decide +kernel
theorem dX8_bitsOf_3 : decode cX8_bitsOf 3 = .ok (.bipush 64, 2) := by decide +kernel
theorem dX8_bitsOf_5 : decode cX8_bitsOf 5 = .ok (.if_icmp .ge 17, 3) := by decide +kernel
theorem dX8_bitsOf_8 : decode cX8_bitsOf 8 = .ok (.lload_n 0, 1) := by decide +kernel
theorem dX8_bitsOf_9 : decode cX8_bitsOf 9 = .ok (.iload_n 2, 1) := by decide +kernel
theorem dX8_bitsOf_10 : decode cX8_bitsOf 10 = .ok (.lushr, 1) := by decide +kernel
theorem dX8_bitsOf_11 : decode cX8_bitsOf 11 = .ok (.lconst 0, 1) := by decide +kernel
theorem dX8_bitsOf_12 : decode cX8_bitsOf 12 = .ok (.lcmp, 1) := by decide +kernel
theorem dX8_bitsOf_13 : decode cX8_bitsOf 13 = .ok (.ifCond .eq 9, 3) := by decide +kernel
theorem dX8_bitsOf_16 : decode cX8_bitsOf 16 = .ok (.iinc 2 1, 3) := by decide +kernel
theorem dX8_bitsOf_19 : decode cX8_bitsOf 19 = .ok (.goto (-17), 3) := by decide +kernel
theorem dX8_bitsOf_22 : decode cX8_bitsOf 22 = .ok (.iload_n 2, 1) := by decide +kernel
theorem dX8_bitsOf_23 : decode cX8_bitsOf 23 = .ok (.ireturn, 1) := by decide +kernel
theorem dX9_init_0 : decode cX9_init 0 = .ok (.aload_n 0, 1) := by decide +kernel
theorem dX9_init_1 : decode cX9_init 1 = .ok (.invokespecial 1, 3) := by decide +kernel
theorem dX9_init_4 : decode cX9_init 4 = .ok (.aload_n 0, 1) := by decide +kernel
theorem dX9_init_5 : decode cX9_init 5 = .ok (.sipush 1001, 3) := by decide +kernel
theorem dX9_init_8 : decode cX9_init 8 = .ok (.newarray .int, 2) := by decide +kernel
theorem dX9_init_10 : decode cX9_init 10 = .ok (.putfield 7, 3) := by decide +kernel
theorem dX9_init_13 : decode cX9_init 13 = .ok (.aload_n 0, 1) := by decide +kernel
theorem dX9_init_14 : decode cX9_init 14 = .ok (.sipush 1001, 3) := by decide +kernel
theorem dX9_init_17 : decode cX9_init 17 = .ok (.newarray .int, 2) := by decide +kernel
theorem dX9_init_19 : decode cX9_init 19 = .ok (.putfield 13, 3) := by decide +kernel
theorem dX9_init_22 : decode cX9_init 22 = .ok (.aload_n 0, 1) := by decide +kernel
theorem dX9_init_23 : decode cX9_init 23 = .ok (.sipush 1001, 3) := by decide +kernel
theorem dX9_init_26 : decode cX9_init 26 = .ok (.newarray .int, 2) := by decide +kernel
theorem dX9_init_28 : decode cX9_init 28 = .ok (.putfield 16, 3) := by decide +kernel
theorem dX9_init_31 : decode cX9_init 31 = .ok (.aload_n 0, 1) := by decide +kernel
theorem dX9_init_32 : decode cX9_init 32 = .ok (.sipush 20000, 3) := by decide +kernel
theorem dX9_init_35 : decode cX9_init 35 = .ok (.newarray .int, 2) := by decide +kernel
theorem dX9_init_37 : decode cX9_init 37 = .ok (.putfield 19, 3) := by decide +kernel
theorem dX9_init_40 : decode cX9_init 40 = .ok (.aload_n 0, 1) := by decide +kernel
theorem dX9_init_41 : decode cX9_init 41 = .ok (.sipush 20000, 3) := by decide +kernel
theorem dX9_init_44 : decode cX9_init 44 = .ok (.newarray .int, 2) := by decide +kernel
theorem dX9_init_46 : decode cX9_init 46 = .ok (.putfield 22, 3) := by decide +kernel
theorem dX9_init_49 : decode cX9_init 49 = .ok (.aload_n 0, 1) := by decide +kernel
theorem dX9_init_50 : decode cX9_init 50 = .ok (.sipush 20000, 3) := by decide +kernel
theorem dX9_init_53 : decode cX9_init 53 = .ok (.newarray .int, 2) := by decide +kernel
theorem dX9_init_55 : decode cX9_init 55 = .ok (.putfield 25, 3) := by decide +kernel
theorem dX9_init_58 : decode cX9_init 58 = .ok (.aload_n 0, 1) := by decide +kernel
theorem dX9_init_59 : decode cX9_init 59 = .ok (.sipush 24000, 3) := by decide +kernel
theorem dX9_init_62 : decode cX9_init 62 = .ok (.newarray .int, 2) := by decide +kernel
theorem dX9_init_64 : decode cX9_init 64 = .ok (.putfield 28, 3) := by decide +kernel
theorem dX9_init_67 : decode cX9_init 67 = .ok (.aload_n 0, 1) := by decide +kernel
theorem dX9_init_68 : decode cX9_init 68 = .ok (.sipush 24000, 3) := by decide +kernel
theorem dX9_init_71 : decode cX9_init 71 = .ok (.newarray .int, 2) := by decide +kernel
theorem dX9_init_73 : decode cX9_init 73 = .ok (.putfield 31, 3) := by decide +kernel
theorem dX9_init_76 : decode cX9_init 76 = .ok (.aload_n 0, 1) := by decide +kernel
theorem dX9_init_77 : decode cX9_init 77 = .ok (.ldc 34, 2) := by decide +kernel
theorem dX9_init_79 : decode cX9_init 79 = .ok (.newarray .int, 2) := by decide +kernel
theorem dX9_init_81 : decode cX9_init 81 = .ok (.putfield 35, 3) := by decide +kernel
theorem dX9_init_84 : decode cX9_init 84 = .ok (.aload_n 0, 1) := by decide +kernel
theorem dX9_init_85 : decode cX9_init 85 = .ok (.sipush 2000, 3) := by decide +kernel
theorem dX9_init_88 : decode cX9_init 88 = .ok (.newarray .long, 2) := by decide +kernel
theorem dX9_init_90 : decode cX9_init 90 = .ok (.putfield 38, 3) := by decide +kernel
theorem dX9_init_93 : decode cX9_init 93 = .ok (.aload_n 0, 1) := by decide +kernel
theorem dX9_init_94 : decode cX9_init 94 = .ok (.sipush 1008, 3) := by decide +kernel
theorem dX9_init_97 : decode cX9_init 97 = .ok (.newarray .int, 2) := by decide +kernel
theorem dX9_init_99 : decode cX9_init 99 = .ok (.putfield 42, 3) := by decide +kernel
theorem dX9_init_102 : decode cX9_init 102 = .ok (.aload_n 0, 1) := by decide +kernel
theorem dX9_init_103 : decode cX9_init 103 = .ok (.sipush 1000, 3) := by decide +kernel
theorem dX9_init_106 : decode cX9_init 106 = .ok (.newarray .int, 2) := by decide +kernel
theorem dX9_init_108 : decode cX9_init 108 = .ok (.putfield 45, 3) := by decide +kernel
theorem dX9_init_111 : decode cX9_init 111 = .ok (.aload_n 0, 1) := by decide +kernel
theorem dX9_init_112 : decode cX9_init 112 = .ok (.sipush 1000, 3) := by decide +kernel
theorem dX9_init_115 : decode cX9_init 115 = .ok (.newarray .int, 2) := by decide +kernel
theorem dX9_init_117 : decode cX9_init 117 = .ok (.putfield 48, 3) := by decide +kernel
theorem dX9_init_120 : decode cX9_init 120 = .ok (.return_, 1) := by decide +kernel
