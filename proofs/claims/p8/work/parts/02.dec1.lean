theorem dX2_takeCode_0 : decode cX2_takeCode 0 = .ok (.aload_n 0, 1) := by decide +kernel
theorem dX2_takeCode_1 : decode cX2_takeCode 1 = .ok (.getfield 12, 3) := by decide +kernel
theorem dX2_takeCode_4 : decode cX2_takeCode 4 = .ok (.invokevirtual 83, 3) := by decide +kernel
theorem dX2_takeCode_7 : decode cX2_takeCode 7 = .ok (.lstore_n 3, 1) := by decide +kernel
theorem dX2_takeCode_8 : decode cX2_takeCode 8 = .ok (.aload_n 0, 1) := by decide +kernel
theorem dX2_takeCode_9 : decode cX2_takeCode 9 = .ok (.getfield 12, 3) := by decide +kernel
theorem dX2_takeCode_12 : decode cX2_takeCode 12 = .ok (.lload_n 3, 1) := by decide +kernel
theorem dX2_takeCode_13 : decode cX2_takeCode 13 = .ok (.invokevirtual 106, 3) := by decide +kernel
theorem dX2_takeCode_16 : decode cX2_takeCode 16 = .ok (.ifCond .ne 4, 3) := by decide +kernel
theorem dX2_takeCode_19 : decode cX2_takeCode 19 = .ok (.return_, 1) := by decide +kernel
theorem dX2_takeCode_20 : decode cX2_takeCode 20 = .ok (.aload_n 0, 1) := by decide +kernel
theorem dX2_takeCode_21 : decode cX2_takeCode 21 = .ok (.getfield 12, 3) := by decide +kernel
theorem dX2_takeCode_24 : decode cX2_takeCode 24 = .ok (.getfield 109, 3) := by decide +kernel
theorem dX2_takeCode_27 : decode cX2_takeCode 27 = .ok (.istore 5, 2) := by decide +kernel
theorem dX2_takeCode_29 : decode cX2_takeCode 29 = .ok (.aload_n 0, 1) := by decide +kernel
theorem dX2_takeCode_30 : decode cX2_takeCode 30 = .ok (.getfield 12, 3) := by decide +kernel
theorem dX2_takeCode_33 : decode cX2_takeCode 33 = .ok (.aload_n 0, 1) := by decide +kernel
theorem dX2_takeCode_34 : decode cX2_takeCode 34 = .ok (.getfield 12, 3) := by decide +kernel
theorem dX2_takeCode_37 : decode cX2_takeCode 37 = .ok (.getfield 112, 3) := by decide +kernel
theorem dX2_takeCode_40 : decode cX2_takeCode 40 = .ok (.lload_n 3, 1) := by decide +kernel
theorem dX2_takeCode_41 : decode cX2_takeCode 41 = .ok (.l2i, 1) := by decide +kernel
theorem dX2_takeCode_42 : decode cX2_takeCode 42 = .ok (.iadd, 1) := by decide +kernel
theorem dX2_takeCode_43 : decode cX2_takeCode 43 = .ok (.putfield 109, 3) := by decide +kernel
theorem dX2_takeCode_46 : decode cX2_takeCode 46 = .ok (.aload_n 1, 1) := by decide +kernel
theorem dX2_takeCode_47 : decode cX2_takeCode 47 = .ok (.aload_n 0, 1) := by decide +kernel
theorem dX2_takeCode_48 : decode cX2_takeCode 48 = .ok (.getfield 12, 3) := by decide +kernel
theorem dX2_takeCode_51 : decode cX2_takeCode 51 = .ok (.invokevirtual 115, 3) := by decide +kernel
theorem dX2_takeCode_54 : decode cX2_takeCode 54 = .ok (.aload_n 0, 1) := by decide +kernel
theorem dX2_takeCode_55 : decode cX2_takeCode 55 = .ok (.getfield 12, 3) := by decide +kernel
theorem dX2_takeCode_58 : decode cX2_takeCode 58 = .ok (.iload 5, 2) := by decide +kernel
theorem dX2_takeCode_60 : decode cX2_takeCode 60 = .ok (.putfield 109, 3) := by decide +kernel
theorem dX2_takeCode_63 : decode cX2_takeCode 63 = .ok (.aload_n 1, 1) := by decide +kernel
theorem dX2_takeCode_64 : decode cX2_takeCode 64 = .ok (.getfield 118, 3) := by decide +kernel
theorem dX2_takeCode_67 : decode cX2_takeCode 67 = .ok (.iload_n 2, 1) := by decide +kernel
theorem dX2_takeCode_68 : decode cX2_takeCode 68 = .ok (.if_icmp .eq 11, 3) := by decide +kernel
theorem dX2_takeCode_71 : decode cX2_takeCode 71 = .ok (.aload_n 0, 1) := by decide +kernel
theorem dX2_takeCode_72 : decode cX2_takeCode 72 = .ok (.getfield 12, 3) := by decide +kernel
theorem dX2_takeCode_75 : decode cX2_takeCode 75 = .ok (.iconst 4, 1) := by decide +kernel
theorem dX2_takeCode_76 : decode cX2_takeCode 76 = .ok (.invokevirtual 73, 3) := by decide +kernel
theorem dX2_takeCode_79 : decode cX2_takeCode 79 = .ok (.return_, 1) := by decide +kernel
theorem dX2_takeText_0 : decode cX2_takeText 0 = .ok (.aload_n 1, 1) := by decide +kernel
theorem dX2_takeText_1 : decode cX2_takeText 1 = .ok (.iload_n 2, 1) := by decide +kernel
theorem dX2_takeText_2 : decode cX2_takeText 2 = .ok (.iload_n 3, 1) := by decide +kernel
theorem dX2_takeText_3 : decode cX2_takeText 3 = .ok (.iadd, 1) := by decide +kernel
theorem dX2_takeText_4 : decode cX2_takeText 4 = .ok (.invokevirtual 121, 3) := by decide +kernel
theorem dX2_takeText_7 : decode cX2_takeText 7 = .ok (.ifCond .ne 12, 3) := by decide +kernel
theorem dX2_takeText_10 : decode cX2_takeText 10 = .ok (.aload_n 0, 1) := by decide +kernel
theorem dX2_takeText_11 : decode cX2_takeText 11 = .ok (.getfield 12, 3) := by decide +kernel
theorem dX2_takeText_14 : decode cX2_takeText 14 = .ok (.bipush 7, 2) := by decide +kernel
theorem dX2_takeText_16 : decode cX2_takeText 16 = .ok (.invokevirtual 73, 3) := by decide +kernel
theorem dX2_takeText_19 : decode cX2_takeText 19 = .ok (.aload_n 0, 1) := by decide +kernel
theorem dX2_takeText_20 : decode cX2_takeText 20 = .ok (.getfield 12, 3) := by decide +kernel
theorem dX2_takeText_23 : decode cX2_takeText 23 = .ok (.iload_n 3, 1) := by decide +kernel
theorem dX2_takeText_24 : decode cX2_takeText 24 = .ok (.i2l, 1) := by decide +kernel
theorem dX2_takeText_25 : decode cX2_takeText 25 = .ok (.invokevirtual 106, 3) := by decide +kernel
theorem dX2_takeText_28 : decode cX2_takeText 28 = .ok (.ifCond .ne 4, 3) := by decide +kernel
theorem dX2_takeText_31 : decode cX2_takeText 31 = .ok (.return_, 1) := by decide +kernel
theorem dX2_takeText_32 : decode cX2_takeText 32 = .ok (.aload_n 1, 1) := by decide +kernel
theorem dX2_takeText_33 : decode cX2_takeText 33 = .ok (.iload_n 2, 1) := by decide +kernel
theorem dX2_takeText_34 : decode cX2_takeText 34 = .ok (.aload_n 0, 1) := by decide +kernel
theorem dX2_takeText_35 : decode cX2_takeText 35 = .ok (.getfield 12, 3) := by decide +kernel
theorem dX2_takeText_38 : decode cX2_takeText 38 = .ok (.getfield 125, 3) := by decide +kernel
theorem dX2_takeText_41 : decode cX2_takeText 41 = .ok (.aload_n 0, 1) := by decide +kernel
theorem dX2_takeText_42 : decode cX2_takeText 42 = .ok (.getfield 12, 3) := by decide +kernel
theorem dX2_takeText_45 : decode cX2_takeText 45 = .ok (.getfield 112, 3) := by decide +kernel
theorem dX2_takeText_48 : decode cX2_takeText 48 = .ok (.iload_n 3, 1) := by decide +kernel
theorem dX2_takeText_49 : decode cX2_takeText 49 = .ok (.invokevirtual 129, 3) := by decide +kernel
theorem dX2_takeText_52 : decode cX2_takeText 52 = .ok (.aload_n 0, 1) := by decide +kernel
theorem dX2_takeText_53 : decode cX2_takeText 53 = .ok (.getfield 12, 3) := by decide +kernel
theorem dX2_takeText_56 : decode cX2_takeText 56 = .ok (.dup, 1) := by decide +kernel
theorem dX2_takeText_57 : decode cX2_takeText 57 = .ok (.getfield 112, 3) := by decide +kernel
theorem dX2_takeText_60 : decode cX2_takeText 60 = .ok (.iload_n 3, 1) := by decide +kernel
theorem dX2_takeText_61 : decode cX2_takeText 61 = .ok (.iadd, 1) := by decide +kernel
theorem dX2_takeText_62 : decode cX2_takeText 62 = .ok (.putfield 112, 3) := by decide +kernel
theorem dX2_takeText_65 : decode cX2_takeText 65 = .ok (.return_, 1) := by decide +kernel
theorem dX2_enterText_0 : decode cX2_enterText 0 = .ok (.aload_n 0, 1) := by decide +kernel
theorem dX2_enterText_1 : decode cX2_enterText 1 = .ok (.invokevirtual 48, 3) := by decide +kernel
theorem dX2_enterText_4 : decode cX2_enterText 4 = .ok (.istore_n 2, 1) := by decide +kernel
theorem dX2_enterText_5 : decode cX2_enterText 5 = .ok (.aload_n 0, 1) := by decide +kernel
theorem dX2_enterText_6 : decode cX2_enterText 6 = .ok (.getfield 12, 3) := by decide +kernel
theorem dX2_enterText_9 : decode cX2_enterText 9 = .ok (.iload_n 2, 1) := by decide +kernel
theorem dX2_enterText_10 : decode cX2_enterText 10 = .ok (.i2l, 1) := by decide +kernel
theorem dX2_enterText_11 : decode cX2_enterText 11 = .ok (.invokevirtual 106, 3) := by decide +kernel
theorem dX2_enterText_14 : decode cX2_enterText 14 = .ok (.ifCond .ne 4, 3) := by decide +kernel
theorem dX2_enterText_17 : decode cX2_enterText 17 = .ok (.return_, 1) := by decide +kernel
theorem dX2_enterText_18 : decode cX2_enterText 18 = .ok (.aload_n 0, 1) := by decide +kernel
theorem dX2_enterText_19 : decode cX2_enterText 19 = .ok (.getfield 18, 3) := by decide +kernel
theorem dX2_enterText_22 : decode cX2_enterText 22 = .ok (.iload_n 1, 1) := by decide +kernel
theorem dX2_enterText_23 : decode cX2_enterText 23 = .ok (.aload_n 0, 1) := by decide +kernel
theorem dX2_enterText_24 : decode cX2_enterText 24 = .ok (.getfield 12, 3) := by decide +kernel
theorem dX2_enterText_27 : decode cX2_enterText 27 = .ok (.getfield 112, 3) := by decide +kernel
theorem dX2_enterText_30 : decode cX2_enterText 30 = .ok (.iastore, 1) := by decide +kernel
theorem dX2_enterText_31 : decode cX2_enterText 31 = .ok (.aload_n 0, 1) := by decide +kernel
theorem dX2_enterText_32 : decode cX2_enterText 32 = .ok (.getfield 22, 3) := by decide +kernel
theorem dX2_enterText_35 : decode cX2_enterText 35 = .ok (.iload_n 1, 1) := by decide +kernel
theorem dX2_enterText_36 : decode cX2_enterText 36 = .ok (.iload_n 2, 1) := by decide +kernel
theorem dX2_enterText_37 : decode cX2_enterText 37 = .ok (.iastore, 1) := by decide +kernel
theorem dX2_enterText_38 : decode cX2_enterText 38 = .ok (.aload_n 0, 1) := by decide +kernel
theorem dX2_enterText_39 : decode cX2_enterText 39 = .ok (.getfield 12, 3) := by decide +kernel
theorem dX2_enterText_42 : decode cX2_enterText 42 = .ok (.dup, 1) := by decide +kernel
theorem dX2_enterText_43 : decode cX2_enterText 43 = .ok (.getfield 112, 3) := by decide +kernel
theorem dX2_enterText_46 : decode cX2_enterText 46 = .ok (.iload_n 2, 1) := by decide +kernel
theorem dX2_enterText_47 : decode cX2_enterText 47 = .ok (.iadd, 1) := by decide +kernel
theorem dX2_enterText_48 : decode cX2_enterText 48 = .ok (.putfield 112, 3) := by decide +kernel
theorem dX2_enterText_51 : decode cX2_enterText 51 = .ok (.return_, 1) := by decide +kernel
theorem dX2_copyText_0 : decode cX2_copyText 0 = .ok (.lload_n 2, 1) := by decide +kernel
theorem dX2_copyText_1 : decode cX2_copyText 1 = .ok (.lconst 0, 1) := by decide +kernel
theorem dX2_copyText_2 : decode cX2_copyText 2 = .ok (.lcmp, 1) := by decide +kernel
theorem dX2_copyText_3 : decode cX2_copyText 3 = .ok (.ifCond .lt 10, 3) := by decide +kernel
theorem dX2_copyText_6 : decode cX2_copyText 6 = .ok (.lload_n 2, 1) := by decide +kernel
theorem dX2_copyText_7 : decode cX2_copyText 7 = .ok (.lload 4, 2) := by decide +kernel
theorem dX2_copyText_9 : decode cX2_copyText 9 = .ok (.lcmp, 1) := by decide +kernel
theorem dX2_copyText_10 : decode cX2_copyText 10 = .ok (.ifCond .lt 13, 3) := by decide +kernel
theorem dX2_copyText_13 : decode cX2_copyText 13 = .ok (.aload_n 0, 1) := by decide +kernel
theorem dX2_copyText_14 : decode cX2_copyText 14 = .ok (.getfield 12, 3) := by decide +kernel
theorem dX2_copyText_17 : decode cX2_copyText 17 = .ok (.bipush 7, 2) := by decide +kernel
theorem dX2_copyText_19 : decode cX2_copyText 19 = .ok (.invokevirtual 73, 3) := by decide +kernel
theorem dX2_copyText_22 : decode cX2_copyText 22 = .ok (.return_, 1) := by decide +kernel
theorem dX2_copyText_23 : decode cX2_copyText 23 = .ok (.lload_n 2, 1) := by decide +kernel
theorem dX2_copyText_24 : decode cX2_copyText 24 = .ok (.l2i, 1) := by decide +kernel
theorem dX2_copyText_25 : decode cX2_copyText 25 = .ok (.istore 6, 2) := by decide +kernel
theorem dX2_copyText_27 : decode cX2_copyText 27 = .ok (.aload_n 1, 1) := by decide +kernel
theorem dX2_copyText_28 : decode cX2_copyText 28 = .ok (.aload_n 0, 1) := by decide +kernel
theorem dX2_copyText_29 : decode cX2_copyText 29 = .ok (.getfield 22, 3) := by decide +kernel
theorem dX2_copyText_32 : decode cX2_copyText 32 = .ok (.iload 6, 2) := by decide +kernel
theorem dX2_copyText_34 : decode cX2_copyText 34 = .ok (.iaload, 1) := by decide +kernel
theorem dX2_copyText_35 : decode cX2_copyText 35 = .ok (.invokevirtual 121, 3) := by decide +kernel
theorem dX2_copyText_38 : decode cX2_copyText 38 = .ok (.ifCond .ne 13, 3) := by decide +kernel
theorem dX2_copyText_41 : decode cX2_copyText 41 = .ok (.aload_n 0, 1) := by decide +kernel
theorem dX2_copyText_42 : decode cX2_copyText 42 = .ok (.getfield 12, 3) := by decide +kernel
theorem dX2_copyText_45 : decode cX2_copyText 45 = .ok (.bipush 7, 2) := by decide +kernel
theorem dX2_copyText_47 : decode cX2_copyText 47 = .ok (.invokevirtual 73, 3) := by decide +kernel
theorem dX2_copyText_50 : decode cX2_copyText 50 = .ok (.return_, 1) := by decide +kernel
theorem dX2_copyText_51 : decode cX2_copyText 51 = .ok (.aload_n 1, 1) := by decide +kernel
theorem dX2_copyText_52 : decode cX2_copyText 52 = .ok (.iconst 0, 1) := by decide +kernel
theorem dX2_copyText_53 : decode cX2_copyText 53 = .ok (.aload_n 0, 1) := by decide +kernel
theorem dX2_copyText_54 : decode cX2_copyText 54 = .ok (.getfield 12, 3) := by decide +kernel
theorem dX2_copyText_57 : decode cX2_copyText 57 = .ok (.getfield 125, 3) := by decide +kernel
theorem dX2_copyText_60 : decode cX2_copyText 60 = .ok (.aload_n 0, 1) := by decide +kernel
theorem dX2_copyText_61 : decode cX2_copyText 61 = .ok (.getfield 18, 3) := by decide +kernel
theorem dX2_copyText_64 : decode cX2_copyText 64 = .ok (.iload 6, 2) := by decide +kernel
theorem dX2_copyText_66 : decode cX2_copyText 66 = .ok (.iaload, 1) := by decide +kernel
theorem dX2_copyText_67 : decode cX2_copyText 67 = .ok (.aload_n 0, 1) := by decide +kernel
theorem dX2_copyText_68 : decode cX2_copyText 68 = .ok (.getfield 22, 3) := by decide +kernel
theorem dX2_copyText_71 : decode cX2_copyText 71 = .ok (.iload 6, 2) := by decide +kernel
theorem dX2_copyText_73 : decode cX2_copyText 73 = .ok (.iaload, 1) := by decide +kernel
theorem dX2_copyText_74 : decode cX2_copyText 74 = .ok (.invokevirtual 129, 3) := by decide +kernel
theorem dX2_copyText_77 : decode cX2_copyText 77 = .ok (.return_, 1) := by decide +kernel
theorem dX3_init_0 : decode cX3_init 0 = .ok (.aload_n 0, 1) := by decide +kernel
theorem dX3_init_1 : decode cX3_init 1 = .ok (.invokespecial 3, 3) := by decide +kernel
theorem dX3_init_4 : decode cX3_init 4 = .ok (.aload_n 0, 1) := by decide +kernel
theorem dX3_init_5 : decode cX3_init 5 = .ok (.new 9, 3) := by decide +kernel
theorem dX3_init_8 : decode cX3_init 8 = .ok (.dup, 1) := by decide +kernel
theorem dX3_init_9 : decode cX3_init 9 = .ok (.invokespecial 11, 3) := by decide +kernel
theorem dX3_init_12 : decode cX3_init 12 = .ok (.putfield 12, 3) := by decide +kernel
theorem dX3_init_15 : decode cX3_init 15 = .ok (.aload_n 0, 1) := by decide +kernel
theorem dX3_init_16 : decode cX3_init 16 = .ok (.new 18, 3) := by decide +kernel
theorem dX3_init_19 : decode cX3_init 19 = .ok (.dup, 1) := by decide +kernel
theorem dX3_init_20 : decode cX3_init 20 = .ok (.sipush 2000, 3) := by decide +kernel
theorem dX3_init_23 : decode cX3_init 23 = .ok (.invokespecial 20, 3) := by decide +kernel
theorem dX3_init_26 : decode cX3_init 26 = .ok (.putfield 23, 3) := by decide +kernel
theorem dX3_init_29 : decode cX3_init 29 = .ok (.aload_n 0, 1) := by decide +kernel
theorem dX3_init_30 : decode cX3_init 30 = .ok (.aload_n 1, 1) := by decide +kernel
theorem dX3_init_31 : decode cX3_init 31 = .ok (.putfield 27, 3) := by decide +kernel
theorem dX3_init_34 : decode cX3_init 34 = .ok (.aload_n 0, 1) := by decide +kernel
theorem dX3_init_35 : decode cX3_init 35 = .ok (.aload_n 2, 1) := by decide +kernel
theorem dX3_init_36 : decode cX3_init 36 = .ok (.putfield 31, 3) := by decide +kernel
theorem dX3_init_39 : decode cX3_init 39 = .ok (.aload_n 0, 1) := by decide +kernel
theorem dX3_init_40 : decode cX3_init 40 = .ok (.aload_n 3, 1) := by decide +kernel
theorem dX3_init_41 : decode cX3_init 41 = .ok (.putfield 34, 3) := by decide +kernel
theorem dX3_init_44 : decode cX3_init 44 = .ok (.return_, 1) := by decide +kernel
theorem dX3_plain_0 : decode cX3_plain 0 = .ok (.iconst 0, 1) := by decide +kernel
theorem dX3_plain_1 : decode cX3_plain 1 = .ok (.istore_n 3, 1) := by decide +kernel
theorem dX3_plain_2 : decode cX3_plain 2 = .ok (.iload_n 3, 1) := by decide +kernel
theorem dX3_plain_3 : decode cX3_plain 3 = .ok (.aload_n 1, 1) := by decide +kernel
theorem dX3_plain_4 : decode cX3_plain 4 = .ok (.getfield 38, 3) := by decide +kernel
theorem dX3_plain_7 : decode cX3_plain 7 = .ok (.if_icmp .ge 16, 3) := by decide +kernel
theorem dX3_plain_10 : decode cX3_plain 10 = .ok (.aload_n 0, 1) := by decide +kernel
theorem dX3_plain_11 : decode cX3_plain 11 = .ok (.aload_n 1, 1) := by decide +kernel
theorem dX3_plain_12 : decode cX3_plain 12 = .ok (.iload_n 3, 1) := by decide +kernel
theorem dX3_plain_13 : decode cX3_plain 13 = .ok (.aload_n 2, 1) := by decide +kernel
theorem dX3_plain_14 : decode cX3_plain 14 = .ok (.invokevirtual 44, 3) := by decide +kernel
theorem dX3_plain_17 : decode cX3_plain 17 = .ok (.iinc 3 1, 3) := by decide +kernel
theorem dX3_plain_20 : decode cX3_plain 20 = .ok (.goto (-18), 3) := by decide +kernel
theorem dX3_plain_23 : decode cX3_plain 23 = .ok (.return_, 1) := by decide +kernel
theorem dX3_lengths_0 : decode cX3_lengths 0 = .ok (.aload_n 0, 1) := by decide +kernel
theorem dX3_lengths_1 : decode cX3_lengths 1 = .ok (.getfield 27, 3) := by decide +kernel
theorem dX3_lengths_4 : decode cX3_lengths 4 = .ok (.aload_n 1, 1) := by decide +kernel
theorem dX3_lengths_5 : decode cX3_lengths 5 = .ok (.getfield 38, 3) := by decide +kernel
theorem dX3_lengths_8 : decode cX3_lengths 8 = .ok (.putfield 48, 3) := by decide +kernel
theorem dX3_lengths_11 : decode cX3_lengths 11 = .ok (.iconst 0, 1) := by decide +kernel
theorem dX3_lengths_12 : decode cX3_lengths 12 = .ok (.istore_n 3, 1) := by decide +kernel
theorem dX3_lengths_13 : decode cX3_lengths 13 = .ok (.iload_n 3, 1) := by decide +kernel
theorem dX3_lengths_14 : decode cX3_lengths 14 = .ok (.aload_n 1, 1) := by decide +kernel
theorem dX3_lengths_15 : decode cX3_lengths 15 = .ok (.getfield 38, 3) := by decide +kernel
theorem dX3_lengths_18 : decode cX3_lengths 18 = .ok (.if_icmp .ge 24, 3) := by decide +kernel
theorem dX3_lengths_21 : decode cX3_lengths 21 = .ok (.aload_n 0, 1) := by decide +kernel
theorem dX3_lengths_22 : decode cX3_lengths 22 = .ok (.getfield 27, 3) := by decide +kernel
theorem dX3_lengths_25 : decode cX3_lengths 25 = .ok (.getfield 51, 3) := by decide +kernel
theorem dX3_lengths_28 : decode cX3_lengths 28 = .ok (.iload_n 3, 1) := by decide +kernel
theorem dX3_lengths_29 : decode cX3_lengths 29 = .ok (.aload_n 1, 1) := by decide +kernel
theorem dX3_lengths_30 : decode cX3_lengths 30 = .ok (.iload_n 3, 1) := by decide +kernel
theorem dX3_lengths_31 : decode cX3_lengths 31 = .ok (.invokevirtual 55, 3) := by decide +kernel
theorem dX3_lengths_34 : decode cX3_lengths 34 = .ok (.i2l, 1) := by decide +kernel
theorem dX3_lengths_35 : decode cX3_lengths 35 = .ok (.lastore, 1) := by decide +kernel
theorem dX3_lengths_36 : decode cX3_lengths 36 = .ok (.iinc 3 1, 3) := by decide +kernel
theorem dX3_lengths_39 : decode cX3_lengths 39 = .ok (.goto (-26), 3) := by decide +kernel
theorem dX3_lengths_42 : decode cX3_lengths 42 = .ok (.aload_n 0, 1) := by decide +kernel
theorem dX3_lengths_43 : decode cX3_lengths 43 = .ok (.aload_n 0, 1) := by decide +kernel
theorem dX3_lengths_44 : decode cX3_lengths 44 = .ok (.getfield 27, 3) := by decide +kernel
theorem dX3_lengths_47 : decode cX3_lengths 47 = .ok (.aload_n 2, 1) := by decide +kernel
theorem dX3_lengths_48 : decode cX3_lengths 48 = .ok (.invokevirtual 59, 3) := by decide +kernel
theorem dX3_lengths_51 : decode cX3_lengths 51 = .ok (.aload_n 2, 1) := by decide +kernel
theorem dX3_lengths_52 : decode cX3_lengths 52 = .ok (.aload_n 1, 1) := by decide +kernel
theorem dX3_lengths_53 : decode cX3_lengths 53 = .ok (.getfield 63, 3) := by decide +kernel
theorem dX3_lengths_56 : decode cX3_lengths 56 = .ok (.iconst 0, 1) := by decide +kernel
theorem dX3_lengths_57 : decode cX3_lengths 57 = .ok (.aload_n 1, 1) := by decide +kernel
theorem dX3_lengths_58 : decode cX3_lengths 58 = .ok (.invokevirtual 67, 3) := by decide +kernel
theorem dX3_lengths_61 : decode cX3_lengths 61 = .ok (.invokevirtual 71, 3) := by decide +kernel
theorem dX3_lengths_64 : decode cX3_lengths 64 = .ok (.return_, 1) := by decide +kernel
theorem dX3_front_0 : decode cX3_front 0 = .ok (.aload_n 0, 1) := by decide +kernel
theorem dX3_front_1 : decode cX3_front 1 = .ok (.getfield 27, 3) := by decide +kernel
theorem dX3_front_4 : decode cX3_front 4 = .ok (.aload_n 1, 1) := by decide +kernel
theorem dX3_front_5 : decode cX3_front 5 = .ok (.getfield 38, 3) := by decide +kernel
theorem dX3_front_8 : decode cX3_front 8 = .ok (.putfield 48, 3) := by decide +kernel
theorem dX3_front_11 : decode cX3_front 11 = .ok (.aload_n 0, 1) := by decide +kernel
theorem dX3_front_12 : decode cX3_front 12 = .ok (.getfield 31, 3) := by decide +kernel
theorem dX3_front_15 : decode cX3_front 15 = .ok (.aload_n 1, 1) := by decide +kernel
theorem dX3_front_16 : decode cX3_front 16 = .ok (.getfield 38, 3) := by decide +kernel
theorem dX3_front_19 : decode cX3_front 19 = .ok (.putfield 48, 3) := by decide +kernel
theorem dX3_front_22 : decode cX3_front 22 = .ok (.iconst 0, 1) := by decide +kernel
theorem dX3_front_23 : decode cX3_front 23 = .ok (.istore_n 3, 1) := by decide +kernel
theorem dX3_front_24 : decode cX3_front 24 = .ok (.iload_n 3, 1) := by decide +kernel
theorem dX3_front_25 : decode cX3_front 25 = .ok (.aload_n 1, 1) := by decide +kernel
theorem dX3_front_26 : decode cX3_front 26 = .ok (.getfield 38, 3) := by decide +kernel
theorem dX3_front_29 : decode cX3_front 29 = .ok (.if_icmp .ge 46, 3) := by decide +kernel
theorem dX3_front_32 : decode cX3_front 32 = .ok (.aload_n 1, 1) := by decide +kernel
theorem dX3_front_33 : decode cX3_front 33 = .ok (.iload_n 3, 1) := by decide +kernel
theorem dX3_front_34 : decode cX3_front 34 = .ok (.invokevirtual 75, 3) := by decide +kernel
theorem dX3_front_37 : decode cX3_front 37 = .ok (.istore 4, 2) := by decide +kernel
theorem dX3_front_39 : decode cX3_front 39 = .ok (.aload_n 0, 1) := by decide +kernel
theorem dX3_front_40 : decode cX3_front 40 = .ok (.getfield 27, 3) := by decide +kernel
theorem dX3_front_43 : decode cX3_front 43 = .ok (.getfield 51, 3) := by decide +kernel
theorem dX3_front_46 : decode cX3_front 46 = .ok (.iload_n 3, 1) := by decide +kernel
theorem dX3_front_47 : decode cX3_front 47 = .ok (.iload 4, 2) := by decide +kernel
theorem dX3_front_49 : decode cX3_front 49 = .ok (.i2l, 1) := by decide +kernel
theorem dX3_front_50 : decode cX3_front 50 = .ok (.lastore, 1) := by decide +kernel
theorem dX3_front_51 : decode cX3_front 51 = .ok (.aload_n 0, 1) := by decide +kernel
theorem dX3_front_52 : decode cX3_front 52 = .ok (.getfield 31, 3) := by decide +kernel
theorem dX3_front_55 : decode cX3_front 55 = .ok (.getfield 51, 3) := by decide +kernel
theorem dX3_front_58 : decode cX3_front 58 = .ok (.iload_n 3, 1) := by decide +kernel
theorem dX3_front_59 : decode cX3_front 59 = .ok (.aload_n 1, 1) := by decide +kernel
theorem dX3_front_60 : decode cX3_front 60 = .ok (.iload_n 3, 1) := by decide +kernel
theorem dX3_front_61 : decode cX3_front 61 = .ok (.invokevirtual 55, 3) := by decide +kernel
theorem dX3_front_64 : decode cX3_front 64 = .ok (.iload 4, 2) := by decide +kernel
theorem dX3_front_66 : decode cX3_front 66 = .ok (.isub, 1) := by decide +kernel
theorem dX3_front_67 : decode cX3_front 67 = .ok (.i2l, 1) := by decide +kernel
theorem dX3_front_68 : decode cX3_front 68 = .ok (.lastore, 1) := by decide +kernel
theorem dX3_front_69 : decode cX3_front 69 = .ok (.iinc 3 1, 3) := by decide +kernel
theorem dX3_front_72 : decode cX3_front 72 = .ok (.goto (-48), 3) := by decide +kernel
theorem dX3_front_75 : decode cX3_front 75 = .ok (.aload_n 0, 1) := by decide +kernel
theorem dX3_front_76 : decode cX3_front 76 = .ok (.aload_n 0, 1) := by decide +kernel
theorem dX3_front_77 : decode cX3_front 77 = .ok (.getfield 27, 3) := by decide +kernel
theorem dX3_front_80 : decode cX3_front 80 = .ok (.aload_n 2, 1) := by decide +kernel
theorem dX3_front_81 : decode cX3_front 81 = .ok (.invokevirtual 59, 3) := by decide +kernel
theorem dX3_front_84 : decode cX3_front 84 = .ok (.aload_n 0, 1) := by decide +kernel
theorem dX3_front_85 : decode cX3_front 85 = .ok (.aload_n 0, 1) := by decide +kernel
theorem dX3_front_86 : decode cX3_front 86 = .ok (.getfield 31, 3) := by decide +kernel
theorem dX3_front_89 : decode cX3_front 89 = .ok (.aload_n 2, 1) := by decide +kernel
theorem dX3_front_90 : decode cX3_front 90 = .ok (.invokevirtual 59, 3) := by decide +kernel
theorem dX3_front_93 : decode cX3_front 93 = .ok (.iconst 0, 1) := by decide +kernel
theorem dX3_front_94 : decode cX3_front 94 = .ok (.istore_n 3, 1) := by decide +kernel
theorem dX3_front_95 : decode cX3_front 95 = .ok (.iload_n 3, 1) := by decide +kernel
theorem dX3_front_96 : decode cX3_front 96 = .ok (.aload_n 1, 1) := by decide +kernel
theorem dX3_front_97 : decode cX3_front 97 = .ok (.getfield 38, 3) := by decide +kernel
theorem dX3_front_100 : decode cX3_front 100 = .ok (.if_icmp .ge 48, 3) := by decide +kernel
theorem dX3_front_103 : decode cX3_front 103 = .ok (.aload_n 0, 1) := by decide +kernel
theorem dX3_front_104 : decode cX3_front 104 = .ok (.getfield 27, 3) := by decide +kernel
theorem dX3_front_107 : decode cX3_front 107 = .ok (.getfield 51, 3) := by decide +kernel
theorem dX3_front_110 : decode cX3_front 110 = .ok (.iload_n 3, 1) := by decide +kernel
theorem dX3_front_111 : decode cX3_front 111 = .ok (.laload, 1) := by decide +kernel
theorem dX3_front_112 : decode cX3_front 112 = .ok (.l2i, 1) := by decide +kernel
theorem dX3_front_113 : decode cX3_front 113 = .ok (.istore 4, 2) := by decide +kernel
theorem dX3_front_115 : decode cX3_front 115 = .ok (.aload_n 2, 1) := by decide +kernel
theorem dX3_front_116 : decode cX3_front 116 = .ok (.aload_n 1, 1) := by decide +kernel
theorem dX3_front_117 : decode cX3_front 117 = .ok (.getfield 63, 3) := by decide +kernel
theorem dX3_front_120 : decode cX3_front 120 = .ok (.aload_n 1, 1) := by decide +kernel
theorem dX3_front_121 : decode cX3_front 121 = .ok (.getfield 78, 3) := by decide +kernel
theorem dX3_front_124 : decode cX3_front 124 = .ok (.iload_n 3, 1) := by decide +kernel
theorem dX3_front_125 : decode cX3_front 125 = .ok (.iaload, 1) := by decide +kernel
theorem dX3_front_126 : decode cX3_front 126 = .ok (.iload 4, 2) := by decide +kernel
theorem dX3_front_128 : decode cX3_front 128 = .ok (.iadd, 1) := by decide +kernel
theorem dX3_front_129 : decode cX3_front 129 = .ok (.aload_n 0, 1) := by decide +kernel
theorem dX3_front_130 : decode cX3_front 130 = .ok (.getfield 31, 3) := by decide +kernel
theorem dX3_front_133 : decode cX3_front 133 = .ok (.getfield 51, 3) := by decide +kernel
theorem dX3_front_136 : decode cX3_front 136 = .ok (.iload_n 3, 1) := by decide +kernel
theorem dX3_front_137 : decode cX3_front 137 = .ok (.laload, 1) := by decide +kernel
theorem dX3_front_138 : decode cX3_front 138 = .ok (.l2i, 1) := by decide +kernel
theorem dX3_front_139 : decode cX3_front 139 = .ok (.invokevirtual 71, 3) := by decide +kernel
theorem dX3_front_142 : decode cX3_front 142 = .ok (.iinc 3 1, 3) := by decide +kernel
theorem dX3_front_145 : decode cX3_front 145 = .ok (.goto (-50), 3) := by decide +kernel
theorem dX3_front_148 : decode cX3_front 148 = .ok (.return_, 1) := by decide +kernel
theorem dX3_dictionary_0 : decode cX3_dictionary 0 = .ok (.aload_n 0, 1) := by decide +kernel
theorem dX3_dictionary_1 : decode cX3_dictionary 1 = .ok (.getfield 12, 3) := by decide +kernel
theorem dX3_dictionary_4 : decode cX3_dictionary 4 = .ok (.invokevirtual 82, 3) := by decide +kernel
theorem dX3_dictionary_7 : decode cX3_dictionary 7 = .ok (.aload_n 0, 1) := by decide +kernel
theorem dX3_dictionary_8 : decode cX3_dictionary 8 = .ok (.getfield 34, 3) := by decide +kernel
theorem dX3_dictionary_11 : decode cX3_dictionary 11 = .ok (.aload_n 1, 1) := by decide +kernel
theorem dX3_dictionary_12 : decode cX3_dictionary 12 = .ok (.getfield 38, 3) := by decide +kernel
theorem dX3_dictionary_15 : decode cX3_dictionary 15 = .ok (.putfield 85, 3) := by decide +kernel
theorem dX3_dictionary_18 : decode cX3_dictionary 18 = .ok (.iconst 0, 1) := by decide +kernel
theorem dX3_dictionary_19 : decode cX3_dictionary 19 = .ok (.istore_n 3, 1) := by decide +kernel
theorem dX3_dictionary_20 : decode cX3_dictionary 20 = .ok (.iload_n 3, 1) := by decide +kernel
theorem dX3_dictionary_21 : decode cX3_dictionary 21 = .ok (.aload_n 1, 1) := by decide +kernel
theorem dX3_dictionary_22 : decode cX3_dictionary 22 = .ok (.getfield 38, 3) := by decide +kernel
theorem dX3_dictionary_25 : decode cX3_dictionary 25 = .ok (.if_icmp .ge 28, 3) := by decide +kernel
theorem dX3_dictionary_28 : decode cX3_dictionary 28 = .ok (.aload_n 0, 1) := by decide +kernel
theorem dX3_dictionary_29 : decode cX3_dictionary 29 = .ok (.getfield 34, 3) := by decide +kernel
theorem dX3_dictionary_32 : decode cX3_dictionary 32 = .ok (.getfield 88, 3) := by decide +kernel
theorem dX3_dictionary_35 : decode cX3_dictionary 35 = .ok (.iload_n 3, 1) := by decide +kernel
theorem dX3_dictionary_36 : decode cX3_dictionary 36 = .ok (.aload_n 0, 1) := by decide +kernel
theorem dX3_dictionary_37 : decode cX3_dictionary 37 = .ok (.getfield 12, 3) := by decide +kernel
theorem dX3_dictionary_40 : decode cX3_dictionary 40 = .ok (.aload_n 1, 1) := by decide +kernel
theorem dX3_dictionary_41 : decode cX3_dictionary 41 = .ok (.iload_n 3, 1) := by decide +kernel
theorem dX3_dictionary_42 : decode cX3_dictionary 42 = .ok (.invokevirtual 89, 3) := by decide +kernel
theorem dX3_dictionary_45 : decode cX3_dictionary 45 = .ok (.i2l, 1) := by decide +kernel
theorem dX3_dictionary_46 : decode cX3_dictionary 46 = .ok (.lastore, 1) := by decide +kernel
theorem dX3_dictionary_47 : decode cX3_dictionary 47 = .ok (.iinc 3 1, 3) := by decide +kernel
theorem dX3_dictionary_50 : decode cX3_dictionary 50 = .ok (.goto (-30), 3) := by decide +kernel
theorem dX3_dictionary_53 : decode cX3_dictionary 53 = .ok (.aload_n 2, 1) := by decide +kernel
theorem dX3_dictionary_54 : decode cX3_dictionary 54 = .ok (.aload_n 0, 1) := by decide +kernel
theorem dX3_dictionary_55 : decode cX3_dictionary 55 = .ok (.getfield 12, 3) := by decide +kernel
theorem dX3_dictionary_58 : decode cX3_dictionary 58 = .ok (.getfield 93, 3) := by decide +kernel
theorem dX3_dictionary_61 : decode cX3_dictionary 61 = .ok (.i2l, 1) := by decide +kernel
theorem dX3_dictionary_62 : decode cX3_dictionary 62 = .ok (.invokevirtual 94, 3) := by decide +kernel
theorem dX3_dictionary_65 : decode cX3_dictionary 65 = .ok (.iconst 0, 1) := by decide +kernel
theorem dX3_dictionary_66 : decode cX3_dictionary 66 = .ok (.istore_n 3, 1) := by decide +kernel
theorem dX3_dictionary_67 : decode cX3_dictionary 67 = .ok (.iload_n 3, 1) := by decide +kernel
theorem dX3_dictionary_68 : decode cX3_dictionary 68 = .ok (.aload_n 0, 1) := by decide +kernel
theorem dX3_dictionary_69 : decode cX3_dictionary 69 = .ok (.getfield 12, 3) := by decide +kernel
theorem dX3_dictionary_72 : decode cX3_dictionary 72 = .ok (.getfield 93, 3) := by decide +kernel
theorem dX3_dictionary_75 : decode cX3_dictionary 75 = .ok (.if_icmp .ge 24, 3) := by decide +kernel
theorem dX3_dictionary_78 : decode cX3_dictionary 78 = .ok (.aload_n 0, 1) := by decide +kernel
theorem dX3_dictionary_79 : decode cX3_dictionary 79 = .ok (.aload_n 1, 1) := by decide +kernel
theorem dX3_dictionary_80 : decode cX3_dictionary 80 = .ok (.aload_n 0, 1) := by decide +kernel
theorem dX3_dictionary_81 : decode cX3_dictionary 81 = .ok (.getfield 12, 3) := by decide +kernel
theorem dX3_dictionary_84 : decode cX3_dictionary 84 = .ok (.getfield 98, 3) := by decide +kernel
theorem dX3_dictionary_87 : decode cX3_dictionary 87 = .ok (.iload_n 3, 1) := by decide +kernel
theorem dX3_dictionary_88 : decode cX3_dictionary 88 = .ok (.iaload, 1) := by decide +kernel
theorem dX3_dictionary_89 : decode cX3_dictionary 89 = .ok (.aload_n 2, 1) := by decide +kernel
theorem dX3_dictionary_90 : decode cX3_dictionary 90 = .ok (.invokevirtual 44, 3) := by decide +kernel
theorem dX3_dictionary_93 : decode cX3_dictionary 93 = .ok (.iinc 3 1, 3) := by decide +kernel
theorem dX3_dictionary_96 : decode cX3_dictionary 96 = .ok (.goto (-29), 3) := by decide +kernel
theorem dX3_dictionary_99 : decode cX3_dictionary 99 = .ok (.aload_n 0, 1) := by decide +kernel
theorem dX3_dictionary_100 : decode cX3_dictionary 100 = .ok (.getfield 12, 3) := by decide +kernel
theorem dX3_dictionary_103 : decode cX3_dictionary 103 = .ok (.getfield 93, 3) := by decide +kernel
theorem dX3_dictionary_106 : decode cX3_dictionary 106 = .ok (.iconst 1, 1) := by decide +kernel
theorem dX3_dictionary_107 : decode cX3_dictionary 107 = .ok (.isub, 1) := by decide +kernel
theorem dX3_dictionary_108 : decode cX3_dictionary 108 = .ok (.iconst 0, 1) := by decide +kernel
theorem dX3_dictionary_109 : decode cX3_dictionary 109 = .ok (.invokestatic 101, 3) := by decide +kernel
theorem dX3_dictionary_112 : decode cX3_dictionary 112 = .ok (.i2l, 1) := by decide +kernel
theorem dX3_dictionary_113 : decode cX3_dictionary 113 = .ok (.invokestatic 107, 3) := by decide +kernel
theorem dX3_dictionary_116 : decode cX3_dictionary 116 = .ok (.istore_n 3, 1) := by decide +kernel
theorem dX3_dictionary_117 : decode cX3_dictionary 117 = .ok (.aload_n 2, 1) := by decide +kernel
theorem dX3_dictionary_118 : decode cX3_dictionary 118 = .ok (.iload_n 3, 1) := by decide +kernel
theorem dX3_dictionary_119 : decode cX3_dictionary 119 = .ok (.invokevirtual 111, 3) := by decide +kernel
theorem dX3_dictionary_122 : decode cX3_dictionary 122 = .ok (.aload_n 0, 1) := by decide +kernel
theorem dX3_dictionary_123 : decode cX3_dictionary 123 = .ok (.getfield 34, 3) := by decide +kernel
theorem dX3_dictionary_126 : decode cX3_dictionary 126 = .ok (.aload_n 2, 1) := by decide +kernel
theorem dX3_dictionary_127 : decode cX3_dictionary 127 = .ok (.iload_n 3, 1) := by decide +kernel
theorem dX3_dictionary_128 : decode cX3_dictionary 128 = .ok (.invokevirtual 114, 3) := by decide +kernel
theorem dX3_dictionary_131 : decode cX3_dictionary 131 = .ok (.return_, 1) := by decide +kernel
theorem dX3_putText_0 : decode cX3_putText 0 = .ok (.aload_n 3, 1) := by decide +kernel
theorem dX3_putText_1 : decode cX3_putText 1 = .ok (.aload_n 1, 1) := by decide +kernel
theorem dX3_putText_2 : decode cX3_putText 2 = .ok (.iload_n 2, 1) := by decide +kernel
theorem dX3_putText_3 : decode cX3_putText 3 = .ok (.invokevirtual 55, 3) := by decide +kernel
theorem dX3_putText_6 : decode cX3_putText 6 = .ok (.i2l, 1) := by decide +kernel
theorem dX3_putText_7 : decode cX3_putText 7 = .ok (.invokevirtual 94, 3) := by decide +kernel
theorem dX3_putText_10 : decode cX3_putText 10 = .ok (.aload_n 3, 1) := by decide +kernel
theorem dX3_putText_11 : decode cX3_putText 11 = .ok (.aload_n 1, 1) := by decide +kernel
theorem dX3_putText_12 : decode cX3_putText 12 = .ok (.getfield 63, 3) := by decide +kernel
theorem dX3_putText_15 : decode cX3_putText 15 = .ok (.aload_n 1, 1) := by decide +kernel
theorem dX3_putText_16 : decode cX3_putText 16 = .ok (.getfield 78, 3) := by decide +kernel
theorem dX3_putText_19 : decode cX3_putText 19 = .ok (.iload_n 2, 1) := by decide +kernel
theorem dX3_putText_20 : decode cX3_putText 20 = .ok (.iaload, 1) := by decide +kernel
theorem dX3_putText_21 : decode cX3_putText 21 = .ok (.aload_n 1, 1) := by decide +kernel
theorem dX3_putText_22 : decode cX3_putText 22 = .ok (.iload_n 2, 1) := by decide +kernel
theorem dX3_putText_23 : decode cX3_putText 23 = .ok (.invokevirtual 55, 3) := by decide +kernel
theorem dX3_putText_26 : decode cX3_putText 26 = .ok (.invokevirtual 71, 3) := by decide +kernel
theorem dX3_putText_29 : decode cX3_putText 29 = .ok (.return_, 1) := by decide +kernel
theorem dX3_putCode_0 : decode cX3_putCode 0 = .ok (.aload_n 0, 1) := by decide +kernel
theorem dX3_putCode_1 : decode cX3_putCode 1 = .ok (.getfield 23, 3) := by decide +kernel
theorem dX3_putCode_4 : decode cX3_putCode 4 = .ok (.iconst 0, 1) := by decide +kernel
theorem dX3_putCode_5 : decode cX3_putCode 5 = .ok (.putfield 118, 3) := by decide +kernel
theorem dX3_putCode_8 : decode cX3_putCode 8 = .ok (.aload_n 1, 1) := by decide +kernel
theorem dX3_putCode_9 : decode cX3_putCode 9 = .ok (.aload_n 0, 1) := by decide +kernel
theorem dX3_putCode_10 : decode cX3_putCode 10 = .ok (.getfield 23, 3) := by decide +kernel
theorem dX3_putCode_13 : decode cX3_putCode 13 = .ok (.invokevirtual 121, 3) := by decide +kernel
theorem dX3_putCode_16 : decode cX3_putCode 16 = .ok (.aload_n 2, 1) := by decide +kernel
theorem dX3_putCode_17 : decode cX3_putCode 17 = .ok (.aload_n 0, 1) := by decide +kernel
theorem dX3_putCode_18 : decode cX3_putCode 18 = .ok (.getfield 23, 3) := by decide +kernel
theorem dX3_putCode_21 : decode cX3_putCode 21 = .ok (.getfield 118, 3) := by decide +kernel
theorem dX3_putCode_24 : decode cX3_putCode 24 = .ok (.i2l, 1) := by decide +kernel
theorem dX3_putCode_25 : decode cX3_putCode 25 = .ok (.invokevirtual 94, 3) := by decide +kernel
theorem dX3_putCode_28 : decode cX3_putCode 28 = .ok (.aload_n 2, 1) := by decide +kernel
theorem dX3_putCode_29 : decode cX3_putCode 29 = .ok (.aload_n 0, 1) := by decide +kernel
theorem dX3_putCode_30 : decode cX3_putCode 30 = .ok (.getfield 23, 3) := by decide +kernel
theorem dX3_putCode_33 : decode cX3_putCode 33 = .ok (.getfield 124, 3) := by decide +kernel
theorem dX3_putCode_36 : decode cX3_putCode 36 = .ok (.iconst 0, 1) := by decide +kernel
theorem dX3_putCode_37 : decode cX3_putCode 37 = .ok (.aload_n 0, 1) := by decide +kernel
theorem dX3_putCode_38 : decode cX3_putCode 38 = .ok (.getfield 23, 3) := by decide +kernel
theorem dX3_putCode_41 : decode cX3_putCode 41 = .ok (.getfield 118, 3) := by decide +kernel
theorem dX3_putCode_44 : decode cX3_putCode 44 = .ok (.invokevirtual 71, 3) := by decide +kernel
theorem dX3_putCode_47 : decode cX3_putCode 47 = .ok (.return_, 1) := by decide +kernel
theorem dX4_init_0 : decode cX4_init 0 = .ok (.aload_n 0, 1) := by decide +kernel
theorem dX4_init_1 : decode cX4_init 1 = .ok (.invokespecial 3, 3) := by decide +kernel
theorem dX4_init_4 : decode cX4_init 4 = .ok (.aload_n 0, 1) := by decide +kernel
theorem dX4_init_5 : decode cX4_init 5 = .ok (.sipush 2048, 3) := by decide +kernel
theorem dX4_init_8 : decode cX4_init 8 = .ok (.newarray .int, 2) := by decide +kernel
theorem dX4_init_10 : decode cX4_init 10 = .ok (.putfield 9, 3) := by decide +kernel
theorem dX4_init_13 : decode cX4_init 13 = .ok (.aload_n 0, 1) := by decide +kernel
theorem dX4_init_14 : decode cX4_init 14 = .ok (.sipush 1000, 3) := by decide +kernel
theorem dX4_init_17 : decode cX4_init 17 = .ok (.newarray .int, 2) := by decide +kernel
theorem dX4_init_19 : decode cX4_init 19 = .ok (.putfield 15, 3) := by decide +kernel
theorem dX4_init_22 : decode cX4_init 22 = .ok (.return_, 1) := by decide +kernel
theorem dX4_empty_0 : decode cX4_empty 0 = .ok (.aload_n 0, 1) := by decide +kernel
theorem dX4_empty_1 : decode cX4_empty 1 = .ok (.iconst 0, 1) := by decide +kernel
theorem dX4_empty_2 : decode cX4_empty 2 = .ok (.putfield 18, 3) := by decide +kernel
theorem dX4_empty_5 : decode cX4_empty 5 = .ok (.iconst 0, 1) := by decide +kernel
theorem dX4_empty_6 : decode cX4_empty 6 = .ok (.istore_n 1, 1) := by decide +kernel
theorem dX4_empty_7 : decode cX4_empty 7 = .ok (.iload_n 1, 1) := by decide +kernel
theorem dX4_empty_8 : decode cX4_empty 8 = .ok (.sipush 2048, 3) := by decide +kernel
theorem dX4_empty_11 : decode cX4_empty 11 = .ok (.if_icmp .ge 16, 3) := by decide +kernel
theorem dX4_empty_14 : decode cX4_empty 14 = .ok (.aload_n 0, 1) := by decide +kernel
theorem dX4_empty_15 : decode cX4_empty 15 = .ok (.getfield 9, 3) := by decide +kernel
theorem dX4_empty_18 : decode cX4_empty 18 = .ok (.iload_n 1, 1) := by decide +kernel
theorem dX4_empty_19 : decode cX4_empty 19 = .ok (.iconst 0, 1) := by decide +kernel
theorem dX4_empty_20 : decode cX4_empty 20 = .ok (.iastore, 1) := by decide +kernel
theorem dX4_empty_21 : decode cX4_empty 21 = .ok (.iinc 1 1, 3) := by decide +kernel
theorem dX4_empty_24 : decode cX4_empty 24 = .ok (.goto (-17), 3) := by decide +kernel
theorem dX4_empty_27 : decode cX4_empty 27 = .ok (.return_, 1) := by decide +kernel
theorem dX4_numberOf_0 : decode cX4_numberOf 0 = .ok (.aload_n 1, 1) := by decide +kernel
theorem dX4_numberOf_1 : decode cX4_numberOf 1 = .ok (.iload_n 2, 1) := by decide +kernel
theorem dX4_numberOf_2 : decode cX4_numberOf 2 = .ok (.invokestatic 22, 3) := by decide +kernel
theorem dX4_numberOf_5 : decode cX4_numberOf 5 = .ok (.istore_n 3, 1) := by decide +kernel
theorem dX4_numberOf_6 : decode cX4_numberOf 6 = .ok (.iconst 0, 1) := by decide +kernel
theorem dX4_numberOf_7 : decode cX4_numberOf 7 = .ok (.istore 4, 2) := by decide +kernel
theorem dX4_numberOf_9 : decode cX4_numberOf 9 = .ok (.iload 4, 2) := by decide +kernel
theorem dX4_numberOf_11 : decode cX4_numberOf 11 = .ok (.sipush 2048, 3) := by decide +kernel
theorem dX4_numberOf_14 : decode cX4_numberOf 14 = .ok (.if_icmp .ge 57, 3) := by decide +kernel
theorem dX4_numberOf_17 : decode cX4_numberOf 17 = .ok (.aload_n 0, 1) := by decide +kernel
theorem dX4_numberOf_18 : decode cX4_numberOf 18 = .ok (.getfield 9, 3) := by decide +kernel
theorem dX4_numberOf_21 : decode cX4_numberOf 21 = .ok (.iload_n 3, 1) := by decide +kernel
theorem dX4_numberOf_22 : decode cX4_numberOf 22 = .ok (.iaload, 1) := by decide +kernel
theorem dX4_numberOf_23 : decode cX4_numberOf 23 = .ok (.iconst 1, 1) := by decide +kernel
theorem dX4_numberOf_24 : decode cX4_numberOf 24 = .ok (.isub, 1) := by decide +kernel
theorem dX4_numberOf_25 : decode cX4_numberOf 25 = .ok (.istore 5, 2) := by decide +kernel
theorem dX4_numberOf_27 : decode cX4_numberOf 27 = .ok (.iload 5, 2) := by decide +kernel
theorem dX4_numberOf_29 : decode cX4_numberOf 29 = .ok (.ifCond .ge 10, 3) := by decide +kernel
theorem dX4_numberOf_32 : decode cX4_numberOf 32 = .ok (.aload_n 0, 1) := by decide +kernel
theorem dX4_numberOf_33 : decode cX4_numberOf 33 = .ok (.iload_n 3, 1) := by decide +kernel
theorem dX4_numberOf_34 : decode cX4_numberOf 34 = .ok (.iload_n 2, 1) := by decide +kernel
theorem dX4_numberOf_35 : decode cX4_numberOf 35 = .ok (.invokevirtual 26, 3) := by decide +kernel
theorem dX4_numberOf_38 : decode cX4_numberOf 38 = .ok (.ireturn, 1) := by decide +kernel
theorem dX4_numberOf_39 : decode cX4_numberOf 39 = .ok (.aload_n 1, 1) := by decide +kernel
theorem dX4_numberOf_40 : decode cX4_numberOf 40 = .ok (.aload_n 0, 1) := by decide +kernel
theorem dX4_numberOf_41 : decode cX4_numberOf 41 = .ok (.getfield 15, 3) := by decide +kernel
theorem dX4_numberOf_44 : decode cX4_numberOf 44 = .ok (.iload 5, 2) := by decide +kernel
theorem dX4_numberOf_46 : decode cX4_numberOf 46 = .ok (.iaload, 1) := by decide +kernel
theorem dX4_numberOf_47 : decode cX4_numberOf 47 = .ok (.iload_n 2, 1) := by decide +kernel
theorem dX4_numberOf_48 : decode cX4_numberOf 48 = .ok (.invokevirtual 30, 3) := by decide +kernel
theorem dX4_numberOf_51 : decode cX4_numberOf 51 = .ok (.ifCond .eq 6, 3) := by decide +kernel
theorem dX4_numberOf_54 : decode cX4_numberOf 54 = .ok (.iload 5, 2) := by decide +kernel
theorem dX4_numberOf_56 : decode cX4_numberOf 56 = .ok (.ireturn, 1) := by decide +kernel
theorem dX4_numberOf_57 : decode cX4_numberOf 57 = .ok (.iload_n 3, 1) := by decide +kernel
theorem dX4_numberOf_58 : decode cX4_numberOf 58 = .ok (.iconst 1, 1) := by decide +kernel
theorem dX4_numberOf_59 : decode cX4_numberOf 59 = .ok (.iadd, 1) := by decide +kernel
theorem dX4_numberOf_60 : decode cX4_numberOf 60 = .ok (.sipush 2047, 3) := by decide +kernel
theorem dX4_numberOf_63 : decode cX4_numberOf 63 = .ok (.iand, 1) := by decide +kernel
theorem dX4_numberOf_64 : decode cX4_numberOf 64 = .ok (.istore_n 3, 1) := by decide +kernel
theorem dX4_numberOf_65 : decode cX4_numberOf 65 = .ok (.iinc 4 1, 3) := by decide +kernel
theorem dX4_numberOf_68 : decode cX4_numberOf 68 = .ok (.goto (-59), 3) := by decide +kernel
theorem dX4_numberOf_71 : decode cX4_numberOf 71 = .ok (.iconst 0, 1) := by decide +kernel
theorem dX4_numberOf_72 : decode cX4_numberOf 72 = .ok (.ireturn, 1) := by decide +kernel
theorem dX4_enter_0 : decode cX4_enter 0 = .ok (.aload_n 0, 1) := by decide +kernel
theorem dX4_enter_1 : decode cX4_enter 1 = .ok (.getfield 18, 3) := by decide +kernel
theorem dX4_enter_4 : decode cX4_enter 4 = .ok (.sipush 1000, 3) := by decide +kernel
theorem dX4_enter_7 : decode cX4_enter 7 = .ok (.if_icmp .lt 5, 3) := by decide +kernel
theorem dX4_enter_10 : decode cX4_enter 10 = .ok (.iconst 0, 1) := by decide +kernel
theorem dX4_enter_11 : decode cX4_enter 11 = .ok (.ireturn, 1) := by decide +kernel
theorem dX4_enter_12 : decode cX4_enter 12 = .ok (.aload_n 0, 1) := by decide +kernel
theorem dX4_enter_13 : decode cX4_enter 13 = .ok (.getfield 15, 3) := by decide +kernel
theorem dX4_enter_16 : decode cX4_enter 16 = .ok (.aload_n 0, 1) := by decide +kernel
theorem dX4_enter_17 : decode cX4_enter 17 = .ok (.getfield 18, 3) := by decide +kernel
theorem dX4_enter_20 : decode cX4_enter 20 = .ok (.iload_n 2, 1) := by decide +kernel
theorem dX4_enter_21 : decode cX4_enter 21 = .ok (.iastore, 1) := by decide +kernel
theorem dX4_enter_22 : decode cX4_enter 22 = .ok (.aload_n 0, 1) := by decide +kernel
theorem dX4_enter_23 : decode cX4_enter 23 = .ok (.dup, 1) := by decide +kernel
theorem dX4_enter_24 : decode cX4_enter 24 = .ok (.getfield 18, 3) := by decide +kernel
theorem dX4_enter_27 : decode cX4_enter 27 = .ok (.iconst 1, 1) := by decide +kernel
theorem dX4_enter_28 : decode cX4_enter 28 = .ok (.iadd, 1) := by decide +kernel
theorem dX4_enter_29 : decode cX4_enter 29 = .ok (.putfield 18, 3) := by decide +kernel
theorem dX4_enter_32 : decode cX4_enter 32 = .ok (.aload_n 0, 1) := by decide +kernel
theorem dX4_enter_33 : decode cX4_enter 33 = .ok (.getfield 9, 3) := by decide +kernel
theorem dX4_enter_36 : decode cX4_enter 36 = .ok (.iload_n 1, 1) := by decide +kernel
theorem dX4_enter_37 : decode cX4_enter 37 = .ok (.aload_n 0, 1) := by decide +kernel
theorem dX4_enter_38 : decode cX4_enter 38 = .ok (.getfield 18, 3) := by decide +kernel
theorem dX4_enter_41 : decode cX4_enter 41 = .ok (.iastore, 1) := by decide +kernel
theorem dX4_enter_42 : decode cX4_enter 42 = .ok (.aload_n 0, 1) := by decide +kernel
theorem dX4_enter_43 : decode cX4_enter 43 = .ok (.getfield 18, 3) := by decide +kernel
theorem dX4_enter_46 : decode cX4_enter 46 = .ok (.iconst 1, 1) := by decide +kernel
theorem dX4_enter_47 : decode cX4_enter 47 = .ok (.isub, 1) := by decide +kernel
theorem dX4_enter_48 : decode cX4_enter 48 = .ok (.ireturn, 1) := by decide +kernel
theorem dX4_slotOf_0 : decode cX4_slotOf 0 = .ok (.iconst 0, 1) := by decide +kernel
theorem dX4_slotOf_1 : decode cX4_slotOf 1 = .ok (.istore_n 2, 1) := by decide +kernel
theorem dX4_slotOf_2 : decode cX4_slotOf 2 = .ok (.aload_n 0, 1) := by decide +kernel
theorem dX4_slotOf_3 : decode cX4_slotOf 3 = .ok (.iload_n 1, 1) := by decide +kernel
theorem dX4_slotOf_4 : decode cX4_slotOf 4 = .ok (.invokevirtual 36, 3) := by decide +kernel
theorem dX4_slotOf_7 : decode cX4_slotOf 7 = .ok (.istore_n 3, 1) := by decide +kernel
theorem dX4_slotOf_8 : decode cX4_slotOf 8 = .ok (.iconst 0, 1) := by decide +kernel
theorem dX4_slotOf_9 : decode cX4_slotOf 9 = .ok (.istore 4, 2) := by decide +kernel
theorem dX4_slotOf_11 : decode cX4_slotOf 11 = .ok (.iload 4, 2) := by decide +kernel
theorem dX4_slotOf_13 : decode cX4_slotOf 13 = .ok (.iload_n 3, 1) := by decide +kernel
theorem dX4_slotOf_14 : decode cX4_slotOf 14 = .ok (.if_icmp .ge 29, 3) := by decide +kernel
theorem dX4_slotOf_17 : decode cX4_slotOf 17 = .ok (.iload_n 2, 1) := by decide +kernel
theorem dX4_slotOf_18 : decode cX4_slotOf 18 = .ok (.bipush 31, 2) := by decide +kernel
theorem dX4_slotOf_20 : decode cX4_slotOf 20 = .ok (.imul, 1) := by decide +kernel
theorem dX4_slotOf_21 : decode cX4_slotOf 21 = .ok (.aload_n 0, 1) := by decide +kernel
theorem dX4_slotOf_22 : decode cX4_slotOf 22 = .ok (.getfield 40, 3) := by decide +kernel
theorem dX4_slotOf_25 : decode cX4_slotOf 25 = .ok (.aload_n 0, 1) := by decide +kernel
theorem dX4_slotOf_26 : decode cX4_slotOf 26 = .ok (.getfield 44, 3) := by decide +kernel
theorem dX4_slotOf_29 : decode cX4_slotOf 29 = .ok (.iload_n 1, 1) := by decide +kernel
theorem dX4_slotOf_30 : decode cX4_slotOf 30 = .ok (.iaload, 1) := by decide +kernel
theorem dX4_slotOf_31 : decode cX4_slotOf 31 = .ok (.iload 4, 2) := by decide +kernel
theorem dX4_slotOf_33 : decode cX4_slotOf 33 = .ok (.iadd, 1) := by decide +kernel
theorem dX4_slotOf_34 : decode cX4_slotOf 34 = .ok (.baload, 1) := by decide +kernel
theorem dX4_slotOf_35 : decode cX4_slotOf 35 = .ok (.iadd, 1) := by decide +kernel
theorem dX4_slotOf_36 : decode cX4_slotOf 36 = .ok (.istore_n 2, 1) := by decide +kernel
theorem dX4_slotOf_37 : decode cX4_slotOf 37 = .ok (.iinc 4 1, 3) := by decide +kernel
theorem dX4_slotOf_40 : decode cX4_slotOf 40 = .ok (.goto (-29), 3) := by decide +kernel
theorem dX4_slotOf_43 : decode cX4_slotOf 43 = .ok (.iload_n 2, 1) := by decide +kernel
theorem dX4_slotOf_44 : decode cX4_slotOf 44 = .ok (.ldc 47, 2) := by decide +kernel
theorem dX4_slotOf_46 : decode cX4_slotOf 46 = .ok (.imul, 1) := by decide +kernel
theorem dX4_slotOf_47 : decode cX4_slotOf 47 = .ok (.istore_n 2, 1) := by decide +kernel
theorem dX4_slotOf_48 : decode cX4_slotOf 48 = .ok (.iload_n 2, 1) := by decide +kernel
theorem dX4_slotOf_49 : decode cX4_slotOf 49 = .ok (.bipush 16, 2) := by decide +kernel
theorem dX4_slotOf_51 : decode cX4_slotOf 51 = .ok (.iushr, 1) := by decide +kernel
theorem dX4_slotOf_52 : decode cX4_slotOf 52 = .ok (.sipush 2047, 3) := by decide +kernel
theorem dX4_slotOf_55 : decode cX4_slotOf 55 = .ok (.iand, 1) := by decide +kernel
theorem dX4_slotOf_56 : decode cX4_slotOf 56 = .ok (.ireturn, 1) := by decide +kernel
theorem dX5_init_0 : decode cX5_init 0 = .ok (.aload_n 0, 1) := by decide +kernel
theorem dX5_init_1 : decode cX5_init 1 = .ok (.invokespecial 3, 3) := by decide +kernel
theorem dX5_init_4 : decode cX5_init 4 = .ok (.aload_n 0, 1) := by decide +kernel
theorem dX5_init_5 : decode cX5_init 5 = .ok (.sipush 20000, 3) := by decide +kernel
theorem dX5_init_8 : decode cX5_init 8 = .ok (.newarray .byte, 2) := by decide +kernel
theorem dX5_init_10 : decode cX5_init 10 = .ok (.putfield 9, 3) := by decide +kernel
theorem dX5_init_13 : decode cX5_init 13 = .ok (.aload_n 0, 1) := by decide +kernel
theorem dX5_init_14 : decode cX5_init 14 = .ok (.sipush 1001, 3) := by decide +kernel
theorem dX5_init_17 : decode cX5_init 17 = .ok (.newarray .int, 2) := by decide +kernel
theorem dX5_init_19 : decode cX5_init 19 = .ok (.putfield 15, 3) := by decide +kernel
theorem dX5_init_22 : decode cX5_init 22 = .ok (.return_, 1) := by decide +kernel
theorem dX5_has_0 : decode cX5_has 0 = .ok (.iload_n 1, 1) := by decide +kernel
theorem dX5_has_1 : decode cX5_has 1 = .ok (.ifCond .lt 15, 3) := by decide +kernel
theorem dX5_has_4 : decode cX5_has 4 = .ok (.iload_n 1, 1) := by decide +kernel
theorem dX5_has_5 : decode cX5_has 5 = .ok (.aload_n 0, 1) := by decide +kernel
theorem dX5_has_6 : decode cX5_has 6 = .ok (.getfield 19, 3) := by decide +kernel
theorem dX5_has_9 : decode cX5_has 9 = .ok (.if_icmp .ge 7, 3) := by decide +kernel
theorem dX5_has_12 : decode cX5_has 12 = .ok (.iconst 1, 1) := by decide +kernel
theorem dX5_has_13 : decode cX5_has 13 = .ok (.goto 4, 3) := by decide +kernel
theorem dX5_has_16 : decode cX5_has 16 = .ok (.iconst 0, 1) := by decide +kernel
theorem dX5_has_17 : decode cX5_has 17 = .ok (.ireturn, 1) := by decide +kernel
theorem dX5_total_0 : decode cX5_total 0 = .ok (.aload_n 0, 1) := by decide +kernel
theorem dX5_total_1 : decode cX5_total 1 = .ok (.getfield 15, 3) := by decide +kernel
theorem dX5_total_4 : decode cX5_total 4 = .ok (.aload_n 0, 1) := by decide +kernel
theorem dX5_total_5 : decode cX5_total 5 = .ok (.getfield 19, 3) := by decide +kernel
theorem dX5_total_8 : decode cX5_total 8 = .ok (.iaload, 1) := by decide +kernel
theorem dX5_total_9 : decode cX5_total 9 = .ok (.ireturn, 1) := by decide +kernel
theorem dX5_lengthOf_0 : decode cX5_lengthOf 0 = .ok (.aload_n 0, 1) := by decide +kernel
theorem dX5_lengthOf_1 : decode cX5_lengthOf 1 = .ok (.iload_n 1, 1) := by decide +kernel
theorem dX5_lengthOf_2 : decode cX5_lengthOf 2 = .ok (.invokevirtual 23, 3) := by decide +kernel
theorem dX5_lengthOf_5 : decode cX5_lengthOf 5 = .ok (.ifCond .eq 21, 3) := by decide +kernel
theorem dX5_lengthOf_8 : decode cX5_lengthOf 8 = .ok (.aload_n 0, 1) := by decide +kernel
theorem dX5_lengthOf_9 : decode cX5_lengthOf 9 = .ok (.getfield 15, 3) := by decide +kernel
theorem dX5_lengthOf_12 : decode cX5_lengthOf 12 = .ok (.iload_n 1, 1) := by decide +kernel
theorem dX5_lengthOf_13 : decode cX5_lengthOf 13 = .ok (.iconst 1, 1) := by decide +kernel
theorem dX5_lengthOf_14 : decode cX5_lengthOf 14 = .ok (.iadd, 1) := by decide +kernel
theorem dX5_lengthOf_15 : decode cX5_lengthOf 15 = .ok (.iaload, 1) := by decide +kernel
theorem dX5_lengthOf_16 : decode cX5_lengthOf 16 = .ok (.aload_n 0, 1) := by decide +kernel
theorem dX5_lengthOf_17 : decode cX5_lengthOf 17 = .ok (.getfield 15, 3) := by decide +kernel
theorem dX5_lengthOf_20 : decode cX5_lengthOf 20 = .ok (.iload_n 1, 1) := by decide +kernel
theorem dX5_lengthOf_21 : decode cX5_lengthOf 21 = .ok (.iaload, 1) := by decide +kernel
theorem dX5_lengthOf_22 : decode cX5_lengthOf 22 = .ok (.isub, 1) := by decide +kernel
theorem dX5_lengthOf_23 : decode cX5_lengthOf 23 = .ok (.goto 4, 3) := by decide +kernel
theorem dX5_lengthOf_26 : decode cX5_lengthOf 26 = .ok (.iconst 0, 1) := by decide +kernel
theorem dX5_lengthOf_27 : decode cX5_lengthOf 27 = .ok (.ireturn, 1) := by decide +kernel
theorem dX5_holdsMore_0 : decode cX5_holdsMore 0 = .ok (.aload_n 0, 1) := by decide +kernel
theorem dX5_holdsMore_1 : decode cX5_holdsMore 1 = .ok (.getfield 19, 3) := by decide +kernel
theorem dX5_holdsMore_4 : decode cX5_holdsMore 4 = .ok (.sipush 1000, 3) := by decide +kernel
theorem dX5_holdsMore_7 : decode cX5_holdsMore 7 = .ok (.if_icmp .ge 19, 3) := by decide +kernel
theorem dX5_holdsMore_10 : decode cX5_holdsMore 10 = .ok (.iload_n 1, 1) := by decide +kernel
theorem dX5_holdsMore_11 : decode cX5_holdsMore 11 = .ok (.sipush 20000, 3) := by decide +kernel
theorem dX5_holdsMore_14 : decode cX5_holdsMore 14 = .ok (.aload_n 0, 1) := by decide +kernel
theorem dX5_holdsMore_15 : decode cX5_holdsMore 15 = .ok (.invokevirtual 27, 3) := by decide +kernel
theorem dX5_holdsMore_18 : decode cX5_holdsMore 18 = .ok (.isub, 1) := by decide +kernel
theorem dX5_holdsMore_19 : decode cX5_holdsMore 19 = .ok (.if_icmp .gt 7, 3) := by decide +kernel
theorem dX5_holdsMore_22 : decode cX5_holdsMore 22 = .ok (.iconst 1, 1) := by decide +kernel
theorem dX5_holdsMore_23 : decode cX5_holdsMore 23 = .ok (.goto 4, 3) := by decide +kernel
theorem dX5_holdsMore_26 : decode cX5_holdsMore 26 = .ok (.iconst 0, 1) := by decide +kernel
theorem dX5_holdsMore_27 : decode cX5_holdsMore 27 = .ok (.ireturn, 1) := by decide +kernel
theorem dX5_append_0 : decode cX5_append 0 = .ok (.iload_n 1, 1) := by decide +kernel
theorem dX5_append_1 : decode cX5_append 1 = .ok (.ifCond .lt 28, 3) := by decide +kernel
theorem dX5_append_4 : decode cX5_append 4 = .ok (.iload_n 1, 1) := by decide +kernel
theorem dX5_append_5 : decode cX5_append 5 = .ok (.aload_n 0, 1) := by decide +kernel
theorem dX5_append_6 : decode cX5_append 6 = .ok (.aload_n 0, 1) := by decide +kernel
theorem dX5_append_7 : decode cX5_append 7 = .ok (.getfield 19, 3) := by decide +kernel
theorem dX5_append_10 : decode cX5_append 10 = .ok (.iconst 1, 1) := by decide +kernel
theorem dX5_append_11 : decode cX5_append 11 = .ok (.isub, 1) := by decide +kernel
theorem dX5_append_12 : decode cX5_append 12 = .ok (.invokevirtual 31, 3) := by decide +kernel
theorem dX5_append_15 : decode cX5_append 15 = .ok (.if_icmp .gt 14, 3) := by decide +kernel
theorem dX5_append_18 : decode cX5_append 18 = .ok (.aload_n 0, 1) := by decide +kernel
theorem dX5_append_19 : decode cX5_append 19 = .ok (.iload_n 1, 1) := by decide +kernel
theorem dX5_append_20 : decode cX5_append 20 = .ok (.iload 4, 2) := by decide +kernel
theorem dX5_append_22 : decode cX5_append 22 = .ok (.iadd, 1) := by decide +kernel
theorem dX5_append_23 : decode cX5_append 23 = .ok (.invokevirtual 35, 3) := by decide +kernel
theorem dX5_append_26 : decode cX5_append 26 = .ok (.ifCond .ne 4, 3) := by decide +kernel
theorem dX5_append_29 : decode cX5_append 29 = .ok (.return_, 1) := by decide +kernel
theorem dX5_append_30 : decode cX5_append 30 = .ok (.iload_n 3, 1) := by decide +kernel
theorem dX5_append_31 : decode cX5_append 31 = .ok (.ifCond .lt 17, 3) := by decide +kernel
theorem dX5_append_34 : decode cX5_append 34 = .ok (.iload 4, 2) := by decide +kernel
theorem dX5_append_36 : decode cX5_append 36 = .ok (.ifCond .lt 12, 3) := by decide +kernel
theorem dX5_append_39 : decode cX5_append 39 = .ok (.iload 4, 2) := by decide +kernel
theorem dX5_append_41 : decode cX5_append 41 = .ok (.aload_n 2, 1) := by decide +kernel
theorem dX5_append_42 : decode cX5_append 42 = .ok (.arraylength, 1) := by decide +kernel
theorem dX5_append_43 : decode cX5_append 43 = .ok (.iload_n 3, 1) := by decide +kernel
theorem dX5_append_44 : decode cX5_append 44 = .ok (.isub, 1) := by decide +kernel
theorem dX5_append_45 : decode cX5_append 45 = .ok (.if_icmp .le 4, 3) := by decide +kernel
theorem dX5_append_48 : decode cX5_append 48 = .ok (.return_, 1) := by decide +kernel
theorem dX5_append_49 : decode cX5_append 49 = .ok (.aload_n 0, 1) := by decide +kernel
theorem dX5_append_50 : decode cX5_append 50 = .ok (.invokevirtual 27, 3) := by decide +kernel
theorem dX5_append_53 : decode cX5_append 53 = .ok (.istore 5, 2) := by decide +kernel
theorem dX5_append_55 : decode cX5_append 55 = .ok (.iload_n 1, 1) := by decide +kernel
theorem dX5_append_56 : decode cX5_append 56 = .ok (.ifCond .le 28, 3) := by decide +kernel
theorem dX5_append_59 : decode cX5_append 59 = .ok (.aload_n 0, 1) := by decide +kernel
theorem dX5_append_60 : decode cX5_append 60 = .ok (.getfield 9, 3) := by decide +kernel
theorem dX5_append_63 : decode cX5_append 63 = .ok (.aload_n 0, 1) := by decide +kernel
theorem dX5_append_64 : decode cX5_append 64 = .ok (.getfield 15, 3) := by decide +kernel
theorem dX5_append_67 : decode cX5_append 67 = .ok (.aload_n 0, 1) := by decide +kernel
theorem dX5_append_68 : decode cX5_append 68 = .ok (.getfield 19, 3) := by decide +kernel
theorem dX5_append_71 : decode cX5_append 71 = .ok (.iconst 1, 1) := by decide +kernel
theorem dX5_append_72 : decode cX5_append 72 = .ok (.isub, 1) := by decide +kernel
theorem dX5_append_73 : decode cX5_append 73 = .ok (.iaload, 1) := by decide +kernel
theorem dX5_append_74 : decode cX5_append 74 = .ok (.aload_n 0, 1) := by decide +kernel
theorem dX5_append_75 : decode cX5_append 75 = .ok (.getfield 9, 3) := by decide +kernel
theorem dX5_append_78 : decode cX5_append 78 = .ok (.iload 5, 2) := by decide +kernel
theorem dX5_append_80 : decode cX5_append 80 = .ok (.iload_n 1, 1) := by decide +kernel
theorem dX5_append_81 : decode cX5_append 81 = .ok (.invokestatic 38, 3) := by decide +kernel
theorem dX5_append_84 : decode cX5_append 84 = .ok (.aload_n 2, 1) := by decide +kernel
theorem dX5_append_85 : decode cX5_append 85 = .ok (.iload_n 3, 1) := by decide +kernel
theorem dX5_append_86 : decode cX5_append 86 = .ok (.aload_n 0, 1) := by decide +kernel
theorem dX5_append_87 : decode cX5_append 87 = .ok (.getfield 9, 3) := by decide +kernel
theorem dX5_append_90 : decode cX5_append 90 = .ok (.iload 5, 2) := by decide +kernel
theorem dX5_append_92 : decode cX5_append 92 = .ok (.iload_n 1, 1) := by decide +kernel
theorem dX5_append_93 : decode cX5_append 93 = .ok (.iadd, 1) := by decide +kernel
theorem dX5_append_94 : decode cX5_append 94 = .ok (.iload 4, 2) := by decide +kernel
theorem dX5_append_96 : decode cX5_append 96 = .ok (.invokestatic 38, 3) := by decide +kernel
theorem dX5_append_99 : decode cX5_append 99 = .ok (.aload_n 0, 1) := by decide +kernel
theorem dX5_append_100 : decode cX5_append 100 = .ok (.dup, 1) := by decide +kernel
theorem dX5_append_101 : decode cX5_append 101 = .ok (.getfield 19, 3) := by decide +kernel
theorem dX5_append_104 : decode cX5_append 104 = .ok (.iconst 1, 1) := by decide +kernel
theorem dX5_append_105 : decode cX5_append 105 = .ok (.iadd, 1) := by decide +kernel
theorem dX5_append_106 : decode cX5_append 106 = .ok (.putfield 19, 3) := by decide +kernel
theorem dX5_append_109 : decode cX5_append 109 = .ok (.aload_n 0, 1) := by decide +kernel
theorem dX5_append_110 : decode cX5_append 110 = .ok (.getfield 15, 3) := by decide +kernel
theorem dX5_append_113 : decode cX5_append 113 = .ok (.aload_n 0, 1) := by decide +kernel
theorem dX5_append_114 : decode cX5_append 114 = .ok (.getfield 19, 3) := by decide +kernel
theorem dX5_append_117 : decode cX5_append 117 = .ok (.iload 5, 2) := by decide +kernel
theorem dX5_append_119 : decode cX5_append 119 = .ok (.iload_n 1, 1) := by decide +kernel
theorem dX5_append_120 : decode cX5_append 120 = .ok (.iadd, 1) := by decide +kernel
theorem dX5_append_121 : decode cX5_append 121 = .ok (.iload 4, 2) := by decide +kernel
theorem dX5_append_123 : decode cX5_append 123 = .ok (.iadd, 1) := by decide +kernel
theorem dX5_append_124 : decode cX5_append 124 = .ok (.iastore, 1) := by decide +kernel
theorem dX5_append_125 : decode cX5_append 125 = .ok (.return_, 1) := by decide +kernel
theorem dX5_commonWithLast_0 : decode cX5_commonWithLast 0 = .ok (.aload_n 0, 1) := by decide +kernel
theorem dX5_commonWithLast_1 : decode cX5_commonWithLast 1 = .ok (.iload_n 1, 1) := by decide +kernel
theorem dX5_commonWithLast_2 : decode cX5_commonWithLast 2 = .ok (.invokevirtual 23, 3) := by decide +kernel
theorem dX5_commonWithLast_5 : decode cX5_commonWithLast 5 = .ok (.ifCond .eq 7, 3) := by decide +kernel
theorem dX5_commonWithLast_8 : decode cX5_commonWithLast 8 = .ok (.iload_n 1, 1) := by decide +kernel
theorem dX5_commonWithLast_9 : decode cX5_commonWithLast 9 = .ok (.ifCond .ne 5, 3) := by decide +kernel
theorem dX5_commonWithLast_12 : decode cX5_commonWithLast 12 = .ok (.iconst 0, 1) := by decide +kernel
theorem dX5_commonWithLast_13 : decode cX5_commonWithLast 13 = .ok (.ireturn, 1) := by decide +kernel
theorem dX5_commonWithLast_14 : decode cX5_commonWithLast 14 = .ok (.aload_n 0, 1) := by decide +kernel
theorem dX5_commonWithLast_15 : decode cX5_commonWithLast 15 = .ok (.iload_n 1, 1) := by decide +kernel
theorem dX5_commonWithLast_16 : decode cX5_commonWithLast 16 = .ok (.iconst 1, 1) := by decide +kernel
theorem dX5_commonWithLast_17 : decode cX5_commonWithLast 17 = .ok (.isub, 1) := by decide +kernel
theorem dX5_commonWithLast_18 : decode cX5_commonWithLast 18 = .ok (.invokevirtual 31, 3) := by decide +kernel
theorem dX5_commonWithLast_21 : decode cX5_commonWithLast 21 = .ok (.aload_n 0, 1) := by decide +kernel
theorem dX5_commonWithLast_22 : decode cX5_commonWithLast 22 = .ok (.iload_n 1, 1) := by decide +kernel
theorem dX5_commonWithLast_23 : decode cX5_commonWithLast 23 = .ok (.invokevirtual 31, 3) := by decide +kernel
theorem dX5_commonWithLast_26 : decode cX5_commonWithLast 26 = .ok (.invokestatic 44, 3) := by decide +kernel
theorem dX5_commonWithLast_29 : decode cX5_commonWithLast 29 = .ok (.istore_n 2, 1) := by decide +kernel
theorem dX5_commonWithLast_30 : decode cX5_commonWithLast 30 = .ok (.iconst 0, 1) := by decide +kernel
theorem dX5_commonWithLast_31 : decode cX5_commonWithLast 31 = .ok (.istore_n 3, 1) := by decide +kernel
theorem dX5_commonWithLast_32 : decode cX5_commonWithLast 32 = .ok (.iload_n 3, 1) := by decide +kernel
theorem dX5_commonWithLast_33 : decode cX5_commonWithLast 33 = .ok (.iload_n 2, 1) := by decide +kernel
theorem dX5_commonWithLast_34 : decode cX5_commonWithLast 34 = .ok (.if_icmp .ge 40, 3) := by decide +kernel
theorem dX5_commonWithLast_37 : decode cX5_commonWithLast 37 = .ok (.aload_n 0, 1) := by decide +kernel
theorem dX5_commonWithLast_38 : decode cX5_commonWithLast 38 = .ok (.getfield 9, 3) := by decide +kernel
theorem dX5_commonWithLast_41 : decode cX5_commonWithLast 41 = .ok (.aload_n 0, 1) := by decide +kernel
theorem dX5_commonWithLast_42 : decode cX5_commonWithLast 42 = .ok (.getfield 15, 3) := by decide +kernel
theorem dX5_commonWithLast_45 : decode cX5_commonWithLast 45 = .ok (.iload_n 1, 1) := by decide +kernel
theorem dX5_commonWithLast_46 : decode cX5_commonWithLast 46 = .ok (.iconst 1, 1) := by decide +kernel
theorem dX5_commonWithLast_47 : decode cX5_commonWithLast 47 = .ok (.isub, 1) := by decide +kernel
theorem dX5_commonWithLast_48 : decode cX5_commonWithLast 48 = .ok (.iaload, 1) := by decide +kernel
theorem dX5_commonWithLast_49 : decode cX5_commonWithLast 49 = .ok (.iload_n 3, 1) := by decide +kernel
theorem dX5_commonWithLast_50 : decode cX5_commonWithLast 50 = .ok (.iadd, 1) := by decide +kernel
theorem dX5_commonWithLast_51 : decode cX5_commonWithLast 51 = .ok (.baload, 1) := by decide +kernel
theorem dX5_commonWithLast_52 : decode cX5_commonWithLast 52 = .ok (.aload_n 0, 1) := by decide +kernel
theorem dX5_commonWithLast_53 : decode cX5_commonWithLast 53 = .ok (.getfield 9, 3) := by decide +kernel
theorem dX5_commonWithLast_56 : decode cX5_commonWithLast 56 = .ok (.aload_n 0, 1) := by decide +kernel
theorem dX5_commonWithLast_57 : decode cX5_commonWithLast 57 = .ok (.getfield 15, 3) := by decide +kernel
theorem dX5_commonWithLast_60 : decode cX5_commonWithLast 60 = .ok (.iload_n 1, 1) := by decide +kernel
theorem dX5_commonWithLast_61 : decode cX5_commonWithLast 61 = .ok (.iaload, 1) := by decide +kernel
theorem dX5_commonWithLast_62 : decode cX5_commonWithLast 62 = .ok (.iload_n 3, 1) := by decide +kernel
theorem dX5_commonWithLast_63 : decode cX5_commonWithLast 63 = .ok (.iadd, 1) := by decide +kernel
theorem dX5_commonWithLast_64 : decode cX5_commonWithLast 64 = .ok (.baload, 1) := by decide +kernel
theorem dX5_commonWithLast_65 : decode cX5_commonWithLast 65 = .ok (.if_icmp .ne 9, 3) := by decide +kernel
theorem dX5_commonWithLast_68 : decode cX5_commonWithLast 68 = .ok (.iinc 3 1, 3) := by decide +kernel
theorem dX5_commonWithLast_71 : decode cX5_commonWithLast 71 = .ok (.goto (-39), 3) := by decide +kernel
theorem dX5_commonWithLast_74 : decode cX5_commonWithLast 74 = .ok (.iload_n 3, 1) := by decide +kernel
theorem dX5_commonWithLast_75 : decode cX5_commonWithLast 75 = .ok (.ireturn, 1) := by decide +kernel
theorem dX5_areSame_0 : decode cX5_areSame 0 = .ok (.aload_n 0, 1) := by decide +kernel
theorem dX5_areSame_1 : decode cX5_areSame 1 = .ok (.iload_n 1, 1) := by decide +kernel
theorem dX5_areSame_2 : decode cX5_areSame 2 = .ok (.invokevirtual 23, 3) := by decide +kernel
theorem dX5_areSame_5 : decode cX5_areSame 5 = .ok (.ifCond .eq 24, 3) := by decide +kernel
theorem dX5_areSame_8 : decode cX5_areSame 8 = .ok (.aload_n 0, 1) := by decide +kernel
theorem dX5_areSame_9 : decode cX5_areSame 9 = .ok (.iload_n 2, 1) := by decide +kernel
theorem dX5_areSame_10 : decode cX5_areSame 10 = .ok (.invokevirtual 23, 3) := by decide +kernel
theorem dX5_areSame_13 : decode cX5_areSame 13 = .ok (.ifCond .eq 16, 3) := by decide +kernel
theorem dX5_areSame_16 : decode cX5_areSame 16 = .ok (.aload_n 0, 1) := by decide +kernel
theorem dX5_areSame_17 : decode cX5_areSame 17 = .ok (.iload_n 1, 1) := by decide +kernel
theorem dX5_areSame_18 : decode cX5_areSame 18 = .ok (.invokevirtual 31, 3) := by decide +kernel
theorem dX5_areSame_21 : decode cX5_areSame 21 = .ok (.aload_n 0, 1) := by decide +kernel
theorem dX5_areSame_22 : decode cX5_areSame 22 = .ok (.iload_n 2, 1) := by decide +kernel
theorem dX5_areSame_23 : decode cX5_areSame 23 = .ok (.invokevirtual 31, 3) := by decide +kernel
theorem dX5_areSame_26 : decode cX5_areSame 26 = .ok (.if_icmp .eq 5, 3) := by decide +kernel
theorem dX5_areSame_29 : decode cX5_areSame 29 = .ok (.iconst 0, 1) := by decide +kernel
theorem dX5_areSame_30 : decode cX5_areSame 30 = .ok (.ireturn, 1) := by decide +kernel
theorem dX5_areSame_31 : decode cX5_areSame 31 = .ok (.aload_n 0, 1) := by decide +kernel
theorem dX5_areSame_32 : decode cX5_areSame 32 = .ok (.iload_n 1, 1) := by decide +kernel
theorem dX5_areSame_33 : decode cX5_areSame 33 = .ok (.invokevirtual 31, 3) := by decide +kernel
theorem dX5_areSame_36 : decode cX5_areSame 36 = .ok (.istore_n 3, 1) := by decide +kernel
theorem dX5_areSame_37 : decode cX5_areSame 37 = .ok (.iconst 0, 1) := by decide +kernel
theorem dX5_areSame_38 : decode cX5_areSame 38 = .ok (.istore 4, 2) := by decide +kernel
theorem dX5_areSame_40 : decode cX5_areSame 40 = .ok (.iload 4, 2) := by decide +kernel
theorem dX5_areSame_42 : decode cX5_areSame 42 = .ok (.iload_n 3, 1) := by decide +kernel
theorem dX5_areSame_43 : decode cX5_areSame 43 = .ok (.if_icmp .ge 42, 3) := by decide +kernel
theorem dX5_areSame_46 : decode cX5_areSame 46 = .ok (.aload_n 0, 1) := by decide +kernel
theorem dX5_areSame_47 : decode cX5_areSame 47 = .ok (.getfield 9, 3) := by decide +kernel
theorem dX5_areSame_50 : decode cX5_areSame 50 = .ok (.aload_n 0, 1) := by decide +kernel
theorem dX5_areSame_51 : decode cX5_areSame 51 = .ok (.getfield 15, 3) := by decide +kernel
theorem dX5_areSame_54 : decode cX5_areSame 54 = .ok (.iload_n 1, 1) := by decide +kernel
theorem dX5_areSame_55 : decode cX5_areSame 55 = .ok (.iaload, 1) := by decide +kernel
theorem dX5_areSame_56 : decode cX5_areSame 56 = .ok (.iload 4, 2) := by decide +kernel
theorem dX5_areSame_58 : decode cX5_areSame 58 = .ok (.iadd, 1) := by decide +kernel
theorem dX5_areSame_59 : decode cX5_areSame 59 = .ok (.baload, 1) := by decide +kernel
theorem dX5_areSame_60 : decode cX5_areSame 60 = .ok (.aload_n 0, 1) := by decide +kernel
theorem dX5_areSame_61 : decode cX5_areSame 61 = .ok (.getfield 9, 3) := by decide +kernel
theorem dX5_areSame_64 : decode cX5_areSame 64 = .ok (.aload_n 0, 1) := by decide +kernel
theorem dX5_areSame_65 : decode cX5_areSame 65 = .ok (.getfield 15, 3) := by decide +kernel
theorem dX5_areSame_68 : decode cX5_areSame 68 = .ok (.iload_n 2, 1) := by decide +kernel
theorem dX5_areSame_69 : decode cX5_areSame 69 = .ok (.iaload, 1) := by decide +kernel
theorem dX5_areSame_70 : decode cX5_areSame 70 = .ok (.iload 4, 2) := by decide +kernel
theorem dX5_areSame_72 : decode cX5_areSame 72 = .ok (.iadd, 1) := by decide +kernel
theorem dX5_areSame_73 : decode cX5_areSame 73 = .ok (.baload, 1) := by decide +kernel
theorem dX5_areSame_74 : decode cX5_areSame 74 = .ok (.if_icmp .eq 5, 3) := by decide +kernel
theorem dX5_areSame_77 : decode cX5_areSame 77 = .ok (.iconst 0, 1) := by decide +kernel
theorem dX5_areSame_78 : decode cX5_areSame 78 = .ok (.ireturn, 1) := by decide +kernel
theorem dX5_areSame_79 : decode cX5_areSame 79 = .ok (.iinc 4 1, 3) := by decide +kernel
theorem dX5_areSame_82 : decode cX5_areSame 82 = .ok (.goto (-42), 3) := by decide +kernel
theorem dX5_areSame_85 : decode cX5_areSame 85 = .ok (.iconst 1, 1) := by decide +kernel
theorem dX5_areSame_86 : decode cX5_areSame 86 = .ok (.ireturn, 1) := by decide +kernel
theorem dX6_init_0 : decode cX6_init 0 = .ok (.aload_n 0, 1) := by decide +kernel
theorem dX6_init_1 : decode cX6_init 1 = .ok (.invokespecial 3, 3) := by decide +kernel
theorem dX6_init_4 : decode cX6_init 4 = .ok (.aload_n 0, 1) := by decide +kernel
theorem dX6_init_5 : decode cX6_init 5 = .ok (.sipush 1000, 3) := by decide +kernel
theorem dX6_init_8 : decode cX6_init 8 = .ok (.newarray .long, 2) := by decide +kernel
theorem dX6_init_10 : decode cX6_init 10 = .ok (.putfield 9, 3) := by decide +kernel
theorem dX6_init_13 : decode cX6_init 13 = .ok (.return_, 1) := by decide +kernel
theorem dX6_writeOn_0 : decode cX6_writeOn 0 = .ok (.iconst 0, 1) := by decide +kernel
theorem dX6_writeOn_1 : decode cX6_writeOn 1 = .ok (.istore_n 3, 1) := by decide +kernel
theorem dX6_writeOn_2 : decode cX6_writeOn 2 = .ok (.iconst 0, 1) := by decide +kernel
theorem dX6_writeOn_3 : decode cX6_writeOn 3 = .ok (.istore 4, 2) := by decide +kernel
theorem dX6_writeOn_5 : decode cX6_writeOn 5 = .ok (.iload 4, 2) := by decide +kernel
theorem dX6_writeOn_7 : decode cX6_writeOn 7 = .ok (.aload_n 0, 1) := by decide +kernel
theorem dX6_writeOn_8 : decode cX6_writeOn 8 = .ok (.getfield 15, 3) := by decide +kernel
theorem dX6_writeOn_11 : decode cX6_writeOn 11 = .ok (.if_icmp .ge 72, 3) := by decide +kernel
theorem dX6_writeOn_14 : decode cX6_writeOn 14 = .ok (.iload_n 3, 1) := by decide +kernel
theorem dX6_writeOn_15 : decode cX6_writeOn 15 = .ok (.aload_n 0, 1) := by decide +kernel
theorem dX6_writeOn_16 : decode cX6_writeOn 16 = .ok (.getfield 15, 3) := by decide +kernel
theorem dX6_writeOn_19 : decode cX6_writeOn 19 = .ok (.if_icmp .ge 64, 3) := by decide +kernel
theorem dX6_writeOn_22 : decode cX6_writeOn 22 = .ok (.aload_n 0, 1) := by decide +kernel
theorem dX6_writeOn_23 : decode cX6_writeOn 23 = .ok (.iload_n 3, 1) := by decide +kernel
theorem dX6_writeOn_24 : decode cX6_writeOn 24 = .ok (.invokevirtual 19, 3) := by decide +kernel
theorem dX6_writeOn_27 : decode cX6_writeOn 27 = .ok (.istore 5, 2) := by decide +kernel
theorem dX6_writeOn_29 : decode cX6_writeOn 29 = .ok (.iload 5, 2) := by decide +kernel
theorem dX6_writeOn_31 : decode cX6_writeOn 31 = .ok (.bipush 8, 2) := by decide +kernel
theorem dX6_writeOn_33 : decode cX6_writeOn 33 = .ok (.if_icmp .lt 20, 3) := by decide +kernel
theorem dX6_writeOn_36 : decode cX6_writeOn 36 = .ok (.aload_n 0, 1) := by decide +kernel
theorem dX6_writeOn_37 : decode cX6_writeOn 37 = .ok (.aload_n 1, 1) := by decide +kernel
theorem dX6_writeOn_38 : decode cX6_writeOn 38 = .ok (.iload_n 3, 1) := by decide +kernel
theorem dX6_writeOn_39 : decode cX6_writeOn 39 = .ok (.iload 5, 2) := by decide +kernel
theorem dX6_writeOn_41 : decode cX6_writeOn 41 = .ok (.iload_n 2, 1) := by decide +kernel
theorem dX6_writeOn_42 : decode cX6_writeOn 42 = .ok (.invokevirtual 23, 3) := by decide +kernel
theorem dX6_writeOn_45 : decode cX6_writeOn 45 = .ok (.iload_n 3, 1) := by decide +kernel
theorem dX6_writeOn_46 : decode cX6_writeOn 46 = .ok (.iload 5, 2) := by decide +kernel
theorem dX6_writeOn_48 : decode cX6_writeOn 48 = .ok (.iadd, 1) := by decide +kernel
theorem dX6_writeOn_49 : decode cX6_writeOn 49 = .ok (.istore_n 3, 1) := by decide +kernel
theorem dX6_writeOn_50 : decode cX6_writeOn 50 = .ok (.goto 27, 3) := by decide +kernel
theorem dX6_writeOn_53 : decode cX6_writeOn 53 = .ok (.aload_n 0, 1) := by decide +kernel
theorem dX6_writeOn_54 : decode cX6_writeOn 54 = .ok (.iload_n 3, 1) := by decide +kernel
theorem dX6_writeOn_55 : decode cX6_writeOn 55 = .ok (.invokevirtual 27, 3) := by decide +kernel
theorem dX6_writeOn_58 : decode cX6_writeOn 58 = .ok (.istore 6, 2) := by decide +kernel
theorem dX6_writeOn_60 : decode cX6_writeOn 60 = .ok (.aload_n 0, 1) := by decide +kernel
theorem dX6_writeOn_61 : decode cX6_writeOn 61 = .ok (.aload_n 1, 1) := by decide +kernel
theorem dX6_writeOn_62 : decode cX6_writeOn 62 = .ok (.iload_n 3, 1) := by decide +kernel
theorem dX6_writeOn_63 : decode cX6_writeOn 63 = .ok (.iload 6, 2) := by decide +kernel
theorem dX6_writeOn_65 : decode cX6_writeOn 65 = .ok (.iload_n 2, 1) := by decide +kernel
theorem dX6_writeOn_66 : decode cX6_writeOn 66 = .ok (.invokevirtual 30, 3) := by decide +kernel
theorem dX6_writeOn_69 : decode cX6_writeOn 69 = .ok (.iload_n 3, 1) := by decide +kernel
theorem dX6_writeOn_70 : decode cX6_writeOn 70 = .ok (.iload 6, 2) := by decide +kernel
theorem dX6_writeOn_72 : decode cX6_writeOn 72 = .ok (.bipush 8, 2) := by decide +kernel
theorem dX6_writeOn_74 : decode cX6_writeOn 74 = .ok (.imul, 1) := by decide +kernel
theorem dX6_writeOn_75 : decode cX6_writeOn 75 = .ok (.iadd, 1) := by decide +kernel
theorem dX6_writeOn_76 : decode cX6_writeOn 76 = .ok (.istore_n 3, 1) := by decide +kernel
theorem dX6_writeOn_77 : decode cX6_writeOn 77 = .ok (.iinc 4 1, 3) := by decide +kernel
theorem dX6_writeOn_80 : decode cX6_writeOn 80 = .ok (.goto (-75), 3) := by decide +kernel
theorem dX6_writeOn_83 : decode cX6_writeOn 83 = .ok (.return_, 1) := by decide +kernel
theorem dX6_sameFrom_0 : decode cX6_sameFrom 0 = .ok (.iconst 1, 1) := by decide +kernel
theorem dX6_sameFrom_1 : decode cX6_sameFrom 1 = .ok (.istore_n 2, 1) := by decide +kernel
theorem dX6_sameFrom_2 : decode cX6_sameFrom 2 = .ok (.iload_n 1, 1) := by decide +kernel
theorem dX6_sameFrom_3 : decode cX6_sameFrom 3 = .ok (.iload_n 2, 1) := by decide +kernel
theorem dX6_sameFrom_4 : decode cX6_sameFrom 4 = .ok (.iadd, 1) := by decide +kernel
theorem dX6_sameFrom_5 : decode cX6_sameFrom 5 = .ok (.aload_n 0, 1) := by decide +kernel
theorem dX6_sameFrom_6 : decode cX6_sameFrom 6 = .ok (.getfield 15, 3) := by decide +kernel
theorem dX6_sameFrom_9 : decode cX6_sameFrom 9 = .ok (.if_icmp .ge 27, 3) := by decide +kernel
theorem dX6_sameFrom_12 : decode cX6_sameFrom 12 = .ok (.aload_n 0, 1) := by decide +kernel
theorem dX6_sameFrom_13 : decode cX6_sameFrom 13 = .ok (.getfield 9, 3) := by decide +kernel
theorem dX6_sameFrom_16 : decode cX6_sameFrom 16 = .ok (.iload_n 1, 1) := by decide +kernel
theorem dX6_sameFrom_17 : decode cX6_sameFrom 17 = .ok (.iload_n 2, 1) := by decide +kernel
theorem dX6_sameFrom_18 : decode cX6_sameFrom 18 = .ok (.iadd, 1) := by decide +kernel
theorem dX6_sameFrom_19 : decode cX6_sameFrom 19 = .ok (.laload, 1) := by decide +kernel
theorem dX6_sameFrom_20 : decode cX6_sameFrom 20 = .ok (.aload_n 0, 1) := by decide +kernel
theorem dX6_sameFrom_21 : decode cX6_sameFrom 21 = .ok (.getfield 9, 3) := by decide +kernel
theorem dX6_sameFrom_24 : decode cX6_sameFrom 24 = .ok (.iload_n 1, 1) := by decide +kernel
theorem dX6_sameFrom_25 : decode cX6_sameFrom 25 = .ok (.laload, 1) := by decide +kernel
theorem dX6_sameFrom_26 : decode cX6_sameFrom 26 = .ok (.lcmp, 1) := by decide +kernel
theorem dX6_sameFrom_27 : decode cX6_sameFrom 27 = .ok (.ifCond .ne 9, 3) := by decide +kernel
theorem dX6_sameFrom_30 : decode cX6_sameFrom 30 = .ok (.iinc 2 1, 3) := by decide +kernel
theorem dX6_sameFrom_33 : decode cX6_sameFrom 33 = .ok (.goto (-31), 3) := by decide +kernel
theorem dX6_sameFrom_36 : decode cX6_sameFrom 36 = .ok (.iload_n 2, 1) := by decide +kernel
theorem dX6_sameFrom_37 : decode cX6_sameFrom 37 = .ok (.ireturn, 1) := by decide +kernel
theorem dX6_groupsFrom_0 : decode cX6_groupsFrom 0 = .ok (.iconst 1, 1) := by decide +kernel
theorem dX6_groupsFrom_1 : decode cX6_groupsFrom 1 = .ok (.istore_n 2, 1) := by decide +kernel
theorem dX6_groupsFrom_2 : decode cX6_groupsFrom 2 = .ok (.iload_n 1, 1) := by decide +kernel
theorem dX6_groupsFrom_3 : decode cX6_groupsFrom 3 = .ok (.iload_n 2, 1) := by decide +kernel
theorem dX6_groupsFrom_4 : decode cX6_groupsFrom 4 = .ok (.bipush 8, 2) := by decide +kernel
theorem dX6_groupsFrom_6 : decode cX6_groupsFrom 6 = .ok (.imul, 1) := by decide +kernel
theorem dX6_groupsFrom_7 : decode cX6_groupsFrom 7 = .ok (.iadd, 1) := by decide +kernel
theorem dX6_groupsFrom_8 : decode cX6_groupsFrom 8 = .ok (.aload_n 0, 1) := by decide +kernel
theorem dX6_groupsFrom_9 : decode cX6_groupsFrom 9 = .ok (.getfield 15, 3) := by decide +kernel
theorem dX6_groupsFrom_12 : decode cX6_groupsFrom 12 = .ok (.if_icmp .ge 24, 3) := by decide +kernel
theorem dX6_groupsFrom_15 : decode cX6_groupsFrom 15 = .ok (.aload_n 0, 1) := by decide +kernel
theorem dX6_groupsFrom_16 : decode cX6_groupsFrom 16 = .ok (.iload_n 1, 1) := by decide +kernel
theorem dX6_groupsFrom_17 : decode cX6_groupsFrom 17 = .ok (.iload_n 2, 1) := by decide +kernel
theorem dX6_groupsFrom_18 : decode cX6_groupsFrom 18 = .ok (.bipush 8, 2) := by decide +kernel
theorem dX6_groupsFrom_20 : decode cX6_groupsFrom 20 = .ok (.imul, 1) := by decide +kernel
theorem dX6_groupsFrom_21 : decode cX6_groupsFrom 21 = .ok (.iadd, 1) := by decide +kernel
theorem dX6_groupsFrom_22 : decode cX6_groupsFrom 22 = .ok (.invokevirtual 19, 3) := by decide +kernel
theorem dX6_groupsFrom_25 : decode cX6_groupsFrom 25 = .ok (.bipush 8, 2) := by decide +kernel
theorem dX6_groupsFrom_27 : decode cX6_groupsFrom 27 = .ok (.if_icmp .ge 9, 3) := by decide +kernel
theorem dX6_groupsFrom_30 : decode cX6_groupsFrom 30 = .ok (.iinc 2 1, 3) := by decide +kernel
theorem dX6_groupsFrom_33 : decode cX6_groupsFrom 33 = .ok (.goto (-31), 3) := by decide +kernel
theorem dX6_groupsFrom_36 : decode cX6_groupsFrom 36 = .ok (.iload_n 2, 1) := by decide +kernel
theorem dX6_groupsFrom_37 : decode cX6_groupsFrom 37 = .ok (.ireturn, 1) := by decide +kernel
theorem dX6_writeOne_0 : decode cX6_writeOne 0 = .ok (.aload_n 1, 1) := by decide +kernel
theorem dX6_writeOne_1 : decode cX6_writeOne 1 = .ok (.ldc2_w 33, 3) := by decide +kernel
theorem dX6_writeOne_4 : decode cX6_writeOne 4 = .ok (.iload_n 3, 1) := by decide +kernel
theorem dX6_writeOne_5 : decode cX6_writeOne 5 = .ok (.i2l, 1) := by decide +kernel
theorem dX6_writeOne_6 : decode cX6_writeOne 6 = .ok (.lmul, 1) := by decide +kernel
theorem dX6_writeOne_7 : decode cX6_writeOne 7 = .ok (.invokevirtual 35, 3) := by decide +kernel
theorem dX6_writeOne_10 : decode cX6_writeOne 10 = .ok (.aload_n 1, 1) := by decide +kernel
theorem dX6_writeOne_11 : decode cX6_writeOne 11 = .ok (.getfield 41, 3) := by decide +kernel
theorem dX6_writeOne_14 : decode cX6_writeOne 14 = .ok (.istore 5, 2) := by decide +kernel
theorem dX6_writeOne_16 : decode cX6_writeOne 16 = .ok (.aload_n 1, 1) := by decide +kernel
theorem dX6_writeOne_17 : decode cX6_writeOne 17 = .ok (.iload 4, 2) := by decide +kernel
theorem dX6_writeOne_19 : decode cX6_writeOne 19 = .ok (.bipush 7, 2) := by decide +kernel
theorem dX6_writeOne_21 : decode cX6_writeOne 21 = .ok (.iadd, 1) := by decide +kernel
theorem dX6_writeOne_22 : decode cX6_writeOne 22 = .ok (.bipush 8, 2) := by decide +kernel
theorem dX6_writeOne_24 : decode cX6_writeOne 24 = .ok (.idiv, 1) := by decide +kernel
theorem dX6_writeOne_25 : decode cX6_writeOne 25 = .ok (.invokevirtual 44, 3) := by decide +kernel
theorem dX6_writeOne_28 : decode cX6_writeOne 28 = .ok (.aload_n 1, 1) := by decide +kernel
theorem dX6_writeOne_29 : decode cX6_writeOne 29 = .ok (.iload 5, 2) := by decide +kernel
theorem dX6_writeOne_31 : decode cX6_writeOne 31 = .ok (.iconst 0, 1) := by decide +kernel
theorem dX6_writeOne_32 : decode cX6_writeOne 32 = .ok (.iload 4, 2) := by decide +kernel
theorem dX6_writeOne_34 : decode cX6_writeOne 34 = .ok (.aload_n 0, 1) := by decide +kernel
theorem dX6_writeOne_35 : decode cX6_writeOne 35 = .ok (.getfield 9, 3) := by decide +kernel
theorem dX6_writeOne_38 : decode cX6_writeOne 38 = .ok (.iload_n 2, 1) := by decide +kernel
theorem dX6_writeOne_39 : decode cX6_writeOne 39 = .ok (.laload, 1) := by decide +kernel
theorem dX6_writeOne_40 : decode cX6_writeOne 40 = .ok (.invokevirtual 48, 3) := by decide +kernel
theorem dX6_writeOne_43 : decode cX6_writeOne 43 = .ok (.return_, 1) := by decide +kernel
