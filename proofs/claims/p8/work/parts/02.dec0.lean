theorem dX0_init_0 : decode cX0_init 0 = .ok (.aload_n 0, 1) := by decide +kernel
theorem dX0_init_1 : decode cX0_init 1 = .ok (.invokespecial 3, 3) := by decide +kernel
theorem dX0_init_4 : decode cX0_init 4 = .ok (.aload_n 0, 1) := by decide +kernel
theorem dX0_init_5 : decode cX0_init 5 = .ok (.iload_n 1, 1) := by decide +kernel
theorem dX0_init_6 : decode cX0_init 6 = .ok (.iconst 0, 1) := by decide +kernel
theorem dX0_init_7 : decode cX0_init 7 = .ok (.invokestatic 9, 3) := by decide +kernel
theorem dX0_init_10 : decode cX0_init 10 = .ok (.newarray .byte, 2) := by decide +kernel
theorem dX0_init_12 : decode cX0_init 12 = .ok (.putfield 15, 3) := by decide +kernel
theorem dX0_init_15 : decode cX0_init 15 = .ok (.return_, 1) := by decide +kernel
theorem dX0_put_0 : decode cX0_put 0 = .ok (.aload_n 0, 1) := by decide +kernel
theorem dX0_put_1 : decode cX0_put 1 = .ok (.getfield 21, 3) := by decide +kernel
theorem dX0_put_4 : decode cX0_put 4 = .ok (.aload_n 0, 1) := by decide +kernel
theorem dX0_put_5 : decode cX0_put 5 = .ok (.getfield 15, 3) := by decide +kernel
theorem dX0_put_8 : decode cX0_put 8 = .ok (.arraylength, 1) := by decide +kernel
theorem dX0_put_9 : decode cX0_put 9 = .ok (.if_icmp .ge 24, 3) := by decide +kernel
theorem dX0_put_12 : decode cX0_put 12 = .ok (.aload_n 0, 1) := by decide +kernel
theorem dX0_put_13 : decode cX0_put 13 = .ok (.getfield 15, 3) := by decide +kernel
theorem dX0_put_16 : decode cX0_put 16 = .ok (.aload_n 0, 1) := by decide +kernel
theorem dX0_put_17 : decode cX0_put 17 = .ok (.getfield 21, 3) := by decide +kernel
theorem dX0_put_20 : decode cX0_put 20 = .ok (.iload_n 1, 1) := by decide +kernel
theorem dX0_put_21 : decode cX0_put 21 = .ok (.i2b, 1) := by decide +kernel
theorem dX0_put_22 : decode cX0_put 22 = .ok (.bastore, 1) := by decide +kernel
theorem dX0_put_23 : decode cX0_put 23 = .ok (.aload_n 0, 1) := by decide +kernel
theorem dX0_put_24 : decode cX0_put 24 = .ok (.dup, 1) := by decide +kernel
theorem dX0_put_25 : decode cX0_put 25 = .ok (.getfield 21, 3) := by decide +kernel
theorem dX0_put_28 : decode cX0_put 28 = .ok (.iconst 1, 1) := by decide +kernel
theorem dX0_put_29 : decode cX0_put 29 = .ok (.iadd, 1) := by decide +kernel
theorem dX0_put_30 : decode cX0_put 30 = .ok (.putfield 21, 3) := by decide +kernel
theorem dX0_put_33 : decode cX0_put 33 = .ok (.return_, 1) := by decide +kernel
theorem dX0_putInt_0 : decode cX0_putInt 0 = .ok (.aload_n 0, 1) := by decide +kernel
theorem dX0_putInt_1 : decode cX0_putInt 1 = .ok (.iload_n 1, 1) := by decide +kernel
theorem dX0_putInt_2 : decode cX0_putInt 2 = .ok (.bipush 24, 2) := by decide +kernel
theorem dX0_putInt_4 : decode cX0_putInt 4 = .ok (.iushr, 1) := by decide +kernel
theorem dX0_putInt_5 : decode cX0_putInt 5 = .ok (.invokevirtual 25, 3) := by decide +kernel
theorem dX0_putInt_8 : decode cX0_putInt 8 = .ok (.aload_n 0, 1) := by decide +kernel
theorem dX0_putInt_9 : decode cX0_putInt 9 = .ok (.iload_n 1, 1) := by decide +kernel
theorem dX0_putInt_10 : decode cX0_putInt 10 = .ok (.bipush 16, 2) := by decide +kernel
theorem dX0_putInt_12 : decode cX0_putInt 12 = .ok (.iushr, 1) := by decide +kernel
theorem dX0_putInt_13 : decode cX0_putInt 13 = .ok (.invokevirtual 25, 3) := by decide +kernel
theorem dX0_putInt_16 : decode cX0_putInt 16 = .ok (.aload_n 0, 1) := by decide +kernel
theorem dX0_putInt_17 : decode cX0_putInt 17 = .ok (.iload_n 1, 1) := by decide +kernel
theorem dX0_putInt_18 : decode cX0_putInt 18 = .ok (.bipush 8, 2) := by decide +kernel
theorem dX0_putInt_20 : decode cX0_putInt 20 = .ok (.iushr, 1) := by decide +kernel
theorem dX0_putInt_21 : decode cX0_putInt 21 = .ok (.invokevirtual 25, 3) := by decide +kernel
theorem dX0_putInt_24 : decode cX0_putInt 24 = .ok (.aload_n 0, 1) := by decide +kernel
theorem dX0_putInt_25 : decode cX0_putInt 25 = .ok (.iload_n 1, 1) := by decide +kernel
theorem dX0_putInt_26 : decode cX0_putInt 26 = .ok (.invokevirtual 25, 3) := by decide +kernel
theorem dX0_putInt_29 : decode cX0_putInt 29 = .ok (.return_, 1) := by decide +kernel
theorem dX0_putAll_0 : decode cX0_putAll 0 = .ok (.iload_n 2, 1) := by decide +kernel
theorem dX0_putAll_1 : decode cX0_putAll 1 = .ok (.ifCond .lt 15, 3) := by decide +kernel
theorem dX0_putAll_4 : decode cX0_putAll 4 = .ok (.iload_n 3, 1) := by decide +kernel
theorem dX0_putAll_5 : decode cX0_putAll 5 = .ok (.ifCond .lt 11, 3) := by decide +kernel
theorem dX0_putAll_8 : decode cX0_putAll 8 = .ok (.iload_n 3, 1) := by decide +kernel
theorem dX0_putAll_9 : decode cX0_putAll 9 = .ok (.aload_n 1, 1) := by decide +kernel
theorem dX0_putAll_10 : decode cX0_putAll 10 = .ok (.arraylength, 1) := by decide +kernel
theorem dX0_putAll_11 : decode cX0_putAll 11 = .ok (.iload_n 2, 1) := by decide +kernel
theorem dX0_putAll_12 : decode cX0_putAll 12 = .ok (.isub, 1) := by decide +kernel
theorem dX0_putAll_13 : decode cX0_putAll 13 = .ok (.if_icmp .le 4, 3) := by decide +kernel
theorem dX0_putAll_16 : decode cX0_putAll 16 = .ok (.return_, 1) := by decide +kernel
theorem dX0_putAll_17 : decode cX0_putAll 17 = .ok (.iload_n 3, 1) := by decide +kernel
theorem dX0_putAll_18 : decode cX0_putAll 18 = .ok (.aload_n 0, 1) := by decide +kernel
theorem dX0_putAll_19 : decode cX0_putAll 19 = .ok (.getfield 15, 3) := by decide +kernel
theorem dX0_putAll_22 : decode cX0_putAll 22 = .ok (.arraylength, 1) := by decide +kernel
theorem dX0_putAll_23 : decode cX0_putAll 23 = .ok (.aload_n 0, 1) := by decide +kernel
theorem dX0_putAll_24 : decode cX0_putAll 24 = .ok (.getfield 21, 3) := by decide +kernel
theorem dX0_putAll_27 : decode cX0_putAll 27 = .ok (.isub, 1) := by decide +kernel
theorem dX0_putAll_28 : decode cX0_putAll 28 = .ok (.if_icmp .le 4, 3) := by decide +kernel
theorem dX0_putAll_31 : decode cX0_putAll 31 = .ok (.return_, 1) := by decide +kernel
theorem dX0_putAll_32 : decode cX0_putAll 32 = .ok (.aload_n 1, 1) := by decide +kernel
theorem dX0_putAll_33 : decode cX0_putAll 33 = .ok (.iload_n 2, 1) := by decide +kernel
theorem dX0_putAll_34 : decode cX0_putAll 34 = .ok (.aload_n 0, 1) := by decide +kernel
theorem dX0_putAll_35 : decode cX0_putAll 35 = .ok (.getfield 15, 3) := by decide +kernel
theorem dX0_putAll_38 : decode cX0_putAll 38 = .ok (.aload_n 0, 1) := by decide +kernel
theorem dX0_putAll_39 : decode cX0_putAll 39 = .ok (.getfield 21, 3) := by decide +kernel
theorem dX0_putAll_42 : decode cX0_putAll 42 = .ok (.iload_n 3, 1) := by decide +kernel
theorem dX0_putAll_43 : decode cX0_putAll 43 = .ok (.invokestatic 29, 3) := by decide +kernel
theorem dX0_putAll_46 : decode cX0_putAll 46 = .ok (.aload_n 0, 1) := by decide +kernel
theorem dX0_putAll_47 : decode cX0_putAll 47 = .ok (.dup, 1) := by decide +kernel
theorem dX0_putAll_48 : decode cX0_putAll 48 = .ok (.getfield 21, 3) := by decide +kernel
theorem dX0_putAll_51 : decode cX0_putAll 51 = .ok (.iload_n 3, 1) := by decide +kernel
theorem dX0_putAll_52 : decode cX0_putAll 52 = .ok (.iadd, 1) := by decide +kernel
theorem dX0_putAll_53 : decode cX0_putAll 53 = .ok (.putfield 21, 3) := by decide +kernel
theorem dX0_putAll_56 : decode cX0_putAll 56 = .ok (.return_, 1) := by decide +kernel
theorem dX0_putVarint_0 : decode cX0_putVarint 0 = .ok (.lload_n 1, 1) := by decide +kernel
theorem dX0_putVarint_1 : decode cX0_putVarint 1 = .ok (.lstore_n 3, 1) := by decide +kernel
theorem dX0_putVarint_2 : decode cX0_putVarint 2 = .ok (.iconst 1, 1) := by decide +kernel
theorem dX0_putVarint_3 : decode cX0_putVarint 3 = .ok (.istore 5, 2) := by decide +kernel
theorem dX0_putVarint_5 : decode cX0_putVarint 5 = .ok (.iload 5, 2) := by decide +kernel
theorem dX0_putVarint_7 : decode cX0_putVarint 7 = .ok (.bipush 10, 2) := by decide +kernel
theorem dX0_putVarint_9 : decode cX0_putVarint 9 = .ok (.if_icmp .ge 37, 3) := by decide +kernel
theorem dX0_putVarint_12 : decode cX0_putVarint 12 = .ok (.lload_n 3, 1) := by decide +kernel
theorem dX0_putVarint_13 : decode cX0_putVarint 13 = .ok (.bipush 7, 2) := by decide +kernel
theorem dX0_putVarint_15 : decode cX0_putVarint 15 = .ok (.lushr, 1) := by decide +kernel
theorem dX0_putVarint_16 : decode cX0_putVarint 16 = .ok (.lconst 0, 1) := by decide +kernel
theorem dX0_putVarint_17 : decode cX0_putVarint 17 = .ok (.lcmp, 1) := by decide +kernel
theorem dX0_putVarint_18 : decode cX0_putVarint 18 = .ok (.ifCond .eq 28, 3) := by decide +kernel
theorem dX0_putVarint_21 : decode cX0_putVarint 21 = .ok (.aload_n 0, 1) := by decide +kernel
theorem dX0_putVarint_22 : decode cX0_putVarint 22 = .ok (.lload_n 3, 1) := by decide +kernel
theorem dX0_putVarint_23 : decode cX0_putVarint 23 = .ok (.ldc2_w 35, 3) := by decide +kernel
theorem dX0_putVarint_26 : decode cX0_putVarint 26 = .ok (.land, 1) := by decide +kernel
theorem dX0_putVarint_27 : decode cX0_putVarint 27 = .ok (.l2i, 1) := by decide +kernel
theorem dX0_putVarint_28 : decode cX0_putVarint 28 = .ok (.sipush 128, 3) := by decide +kernel
theorem dX0_putVarint_31 : decode cX0_putVarint 31 = .ok (.ior, 1) := by decide +kernel
theorem dX0_putVarint_32 : decode cX0_putVarint 32 = .ok (.invokevirtual 25, 3) := by decide +kernel
theorem dX0_putVarint_35 : decode cX0_putVarint 35 = .ok (.lload_n 3, 1) := by decide +kernel
theorem dX0_putVarint_36 : decode cX0_putVarint 36 = .ok (.bipush 7, 2) := by decide +kernel
theorem dX0_putVarint_38 : decode cX0_putVarint 38 = .ok (.lushr, 1) := by decide +kernel
theorem dX0_putVarint_39 : decode cX0_putVarint 39 = .ok (.lstore_n 3, 1) := by decide +kernel
theorem dX0_putVarint_40 : decode cX0_putVarint 40 = .ok (.iinc 5 1, 3) := by decide +kernel
theorem dX0_putVarint_43 : decode cX0_putVarint 43 = .ok (.goto (-38), 3) := by decide +kernel
theorem dX0_putVarint_46 : decode cX0_putVarint 46 = .ok (.aload_n 0, 1) := by decide +kernel
theorem dX0_putVarint_47 : decode cX0_putVarint 47 = .ok (.lload_n 3, 1) := by decide +kernel
theorem dX0_putVarint_48 : decode cX0_putVarint 48 = .ok (.l2i, 1) := by decide +kernel
theorem dX0_putVarint_49 : decode cX0_putVarint 49 = .ok (.invokevirtual 25, 3) := by decide +kernel
theorem dX0_putVarint_52 : decode cX0_putVarint 52 = .ok (.return_, 1) := by decide +kernel
theorem dX0_putZeros_0 : decode cX0_putZeros 0 = .ok (.iconst 0, 1) := by decide +kernel
theorem dX0_putZeros_1 : decode cX0_putZeros 1 = .ok (.istore_n 2, 1) := by decide +kernel
theorem dX0_putZeros_2 : decode cX0_putZeros 2 = .ok (.iload_n 2, 1) := by decide +kernel
theorem dX0_putZeros_3 : decode cX0_putZeros 3 = .ok (.iload_n 1, 1) := by decide +kernel
theorem dX0_putZeros_4 : decode cX0_putZeros 4 = .ok (.if_icmp .ge 41, 3) := by decide +kernel
theorem dX0_putZeros_7 : decode cX0_putZeros 7 = .ok (.aload_n 0, 1) := by decide +kernel
theorem dX0_putZeros_8 : decode cX0_putZeros 8 = .ok (.getfield 21, 3) := by decide +kernel
theorem dX0_putZeros_11 : decode cX0_putZeros 11 = .ok (.aload_n 0, 1) := by decide +kernel
theorem dX0_putZeros_12 : decode cX0_putZeros 12 = .ok (.getfield 15, 3) := by decide +kernel
theorem dX0_putZeros_15 : decode cX0_putZeros 15 = .ok (.arraylength, 1) := by decide +kernel
theorem dX0_putZeros_16 : decode cX0_putZeros 16 = .ok (.if_icmp .ge 29, 3) := by decide +kernel
theorem dX0_putZeros_19 : decode cX0_putZeros 19 = .ok (.aload_n 0, 1) := by decide +kernel
theorem dX0_putZeros_20 : decode cX0_putZeros 20 = .ok (.getfield 15, 3) := by decide +kernel
theorem dX0_putZeros_23 : decode cX0_putZeros 23 = .ok (.aload_n 0, 1) := by decide +kernel
theorem dX0_putZeros_24 : decode cX0_putZeros 24 = .ok (.getfield 21, 3) := by decide +kernel
theorem dX0_putZeros_27 : decode cX0_putZeros 27 = .ok (.iconst 0, 1) := by decide +kernel
theorem dX0_putZeros_28 : decode cX0_putZeros 28 = .ok (.bastore, 1) := by decide +kernel
theorem dX0_putZeros_29 : decode cX0_putZeros 29 = .ok (.aload_n 0, 1) := by decide +kernel
theorem dX0_putZeros_30 : decode cX0_putZeros 30 = .ok (.dup, 1) := by decide +kernel
theorem dX0_putZeros_31 : decode cX0_putZeros 31 = .ok (.getfield 21, 3) := by decide +kernel
theorem dX0_putZeros_34 : decode cX0_putZeros 34 = .ok (.iconst 1, 1) := by decide +kernel
theorem dX0_putZeros_35 : decode cX0_putZeros 35 = .ok (.iadd, 1) := by decide +kernel
theorem dX0_putZeros_36 : decode cX0_putZeros 36 = .ok (.putfield 21, 3) := by decide +kernel
theorem dX0_putZeros_39 : decode cX0_putZeros 39 = .ok (.iinc 2 1, 3) := by decide +kernel
theorem dX0_putZeros_42 : decode cX0_putZeros 42 = .ok (.goto (-40), 3) := by decide +kernel
theorem dX0_putZeros_45 : decode cX0_putZeros 45 = .ok (.return_, 1) := by decide +kernel
theorem dX0_setBits_0 : decode cX0_setBits 0 = .ok (.iload_n 2, 1) := by decide +kernel
theorem dX0_setBits_1 : decode cX0_setBits 1 = .ok (.iconst 3, 1) := by decide +kernel
theorem dX0_setBits_2 : decode cX0_setBits 2 = .ok (.ishr, 1) := by decide +kernel
theorem dX0_setBits_3 : decode cX0_setBits 3 = .ok (.istore 6, 2) := by decide +kernel
theorem dX0_setBits_5 : decode cX0_setBits 5 = .ok (.bipush 8, 2) := by decide +kernel
theorem dX0_setBits_7 : decode cX0_setBits 7 = .ok (.iload 6, 2) := by decide +kernel
theorem dX0_setBits_9 : decode cX0_setBits 9 = .ok (.imul, 1) := by decide +kernel
theorem dX0_setBits_10 : decode cX0_setBits 10 = .ok (.iload_n 2, 1) := by decide +kernel
theorem dX0_setBits_11 : decode cX0_setBits 11 = .ok (.iload_n 3, 1) := by decide +kernel
theorem dX0_setBits_12 : decode cX0_setBits 12 = .ok (.iadd, 1) := by decide +kernel
theorem dX0_setBits_13 : decode cX0_setBits 13 = .ok (.if_icmp .ge 80, 3) := by decide +kernel
theorem dX0_setBits_16 : decode cX0_setBits 16 = .ok (.iload_n 1, 1) := by decide +kernel
theorem dX0_setBits_17 : decode cX0_setBits 17 = .ok (.iload 6, 2) := by decide +kernel
theorem dX0_setBits_19 : decode cX0_setBits 19 = .ok (.iadd, 1) := by decide +kernel
theorem dX0_setBits_20 : decode cX0_setBits 20 = .ok (.istore 7, 2) := by decide +kernel
theorem dX0_setBits_22 : decode cX0_setBits 22 = .ok (.iload 7, 2) := by decide +kernel
theorem dX0_setBits_24 : decode cX0_setBits 24 = .ok (.ifCond .lt 12, 3) := by decide +kernel
theorem dX0_setBits_27 : decode cX0_setBits 27 = .ok (.iload 7, 2) := by decide +kernel
theorem dX0_setBits_29 : decode cX0_setBits 29 = .ok (.aload_n 0, 1) := by decide +kernel
theorem dX0_setBits_30 : decode cX0_setBits 30 = .ok (.getfield 21, 3) := by decide +kernel
theorem dX0_setBits_33 : decode cX0_setBits 33 = .ok (.if_icmp .lt 4, 3) := by decide +kernel
theorem dX0_setBits_36 : decode cX0_setBits 36 = .ok (.return_, 1) := by decide +kernel
theorem dX0_setBits_37 : decode cX0_setBits 37 = .ok (.bipush 8, 2) := by decide +kernel
theorem dX0_setBits_39 : decode cX0_setBits 39 = .ok (.iload 6, 2) := by decide +kernel
theorem dX0_setBits_41 : decode cX0_setBits 41 = .ok (.imul, 1) := by decide +kernel
theorem dX0_setBits_42 : decode cX0_setBits 42 = .ok (.iload_n 2, 1) := by decide +kernel
theorem dX0_setBits_43 : decode cX0_setBits 43 = .ok (.isub, 1) := by decide +kernel
theorem dX0_setBits_44 : decode cX0_setBits 44 = .ok (.istore 8, 2) := by decide +kernel
theorem dX0_setBits_46 : decode cX0_setBits 46 = .ok (.iload 8, 2) := by decide +kernel
theorem dX0_setBits_48 : decode cX0_setBits 48 = .ok (.ifCond .ge 12, 3) := by decide +kernel
theorem dX0_setBits_51 : decode cX0_setBits 51 = .ok (.lload 4, 2) := by decide +kernel
theorem dX0_setBits_53 : decode cX0_setBits 53 = .ok (.iload 8, 2) := by decide +kernel
theorem dX0_setBits_55 : decode cX0_setBits 55 = .ok (.ineg, 1) := by decide +kernel
theorem dX0_setBits_56 : decode cX0_setBits 56 = .ok (.lshl, 1) := by decide +kernel
theorem dX0_setBits_57 : decode cX0_setBits 57 = .ok (.goto 8, 3) := by decide +kernel
theorem dX0_setBits_60 : decode cX0_setBits 60 = .ok (.lload 4, 2) := by decide +kernel
theorem dX0_setBits_62 : decode cX0_setBits 62 = .ok (.iload 8, 2) := by decide +kernel
theorem dX0_setBits_64 : decode cX0_setBits 64 = .ok (.lushr, 1) := by decide +kernel
theorem dX0_setBits_65 : decode cX0_setBits 65 = .ok (.lstore 9, 2) := by decide +kernel
theorem dX0_setBits_67 : decode cX0_setBits 67 = .ok (.aload_n 0, 1) := by decide +kernel
theorem dX0_setBits_68 : decode cX0_setBits 68 = .ok (.getfield 15, 3) := by decide +kernel
theorem dX0_setBits_71 : decode cX0_setBits 71 = .ok (.iload 7, 2) := by decide +kernel
theorem dX0_setBits_73 : decode cX0_setBits 73 = .ok (.aload_n 0, 1) := by decide +kernel
theorem dX0_setBits_74 : decode cX0_setBits 74 = .ok (.getfield 15, 3) := by decide +kernel
theorem dX0_setBits_77 : decode cX0_setBits 77 = .ok (.iload 7, 2) := by decide +kernel
theorem dX0_setBits_79 : decode cX0_setBits 79 = .ok (.baload, 1) := by decide +kernel
theorem dX0_setBits_80 : decode cX0_setBits 80 = .ok (.i2l, 1) := by decide +kernel
theorem dX0_setBits_81 : decode cX0_setBits 81 = .ok (.lload 9, 2) := by decide +kernel
theorem dX0_setBits_83 : decode cX0_setBits 83 = .ok (.lor, 1) := by decide +kernel
theorem dX0_setBits_84 : decode cX0_setBits 84 = .ok (.l2i, 1) := by decide +kernel
theorem dX0_setBits_85 : decode cX0_setBits 85 = .ok (.i2b, 1) := by decide +kernel
theorem dX0_setBits_86 : decode cX0_setBits 86 = .ok (.bastore, 1) := by decide +kernel
theorem dX0_setBits_87 : decode cX0_setBits 87 = .ok (.iinc 6 1, 3) := by decide +kernel
theorem dX0_setBits_90 : decode cX0_setBits 90 = .ok (.goto (-85), 3) := by decide +kernel
theorem dX0_setBits_93 : decode cX0_setBits 93 = .ok (.return_, 1) := by decide +kernel
theorem dX1_init_0 : decode cX1_init 0 = .ok (.aload_n 0, 1) := by decide +kernel
theorem dX1_init_1 : decode cX1_init 1 = .ok (.invokespecial 3, 3) := by decide +kernel
theorem dX1_init_4 : decode cX1_init 4 = .ok (.aload_n 0, 1) := by decide +kernel
theorem dX1_init_5 : decode cX1_init 5 = .ok (.sipush 2000, 3) := by decide +kernel
theorem dX1_init_8 : decode cX1_init 8 = .ok (.newarray .long, 2) := by decide +kernel
theorem dX1_init_10 : decode cX1_init 10 = .ok (.putfield 9, 3) := by decide +kernel
theorem dX1_init_13 : decode cX1_init 13 = .ok (.aload_n 0, 1) := by decide +kernel
theorem dX1_init_14 : decode cX1_init 14 = .ok (.iconst 4, 1) := by decide +kernel
theorem dX1_init_15 : decode cX1_init 15 = .ok (.newarray .int, 2) := by decide +kernel
theorem dX1_init_17 : decode cX1_init 17 = .ok (.putfield 15, 3) := by decide +kernel
theorem dX1_init_20 : decode cX1_init 20 = .ok (.return_, 1) := by decide +kernel
theorem dX1_writeOn_0 : decode cX1_writeOn 0 = .ok (.aload_n 1, 1) := by decide +kernel
theorem dX1_writeOn_1 : decode cX1_writeOn 1 = .ok (.aload_n 0, 1) := by decide +kernel
theorem dX1_writeOn_2 : decode cX1_writeOn 2 = .ok (.getfield 19, 3) := by decide +kernel
theorem dX1_writeOn_5 : decode cX1_writeOn 5 = .ok (.i2l, 1) := by decide +kernel
theorem dX1_writeOn_6 : decode cX1_writeOn 6 = .ok (.invokevirtual 23, 3) := by decide +kernel
theorem dX1_writeOn_9 : decode cX1_writeOn 9 = .ok (.aload_n 0, 1) := by decide +kernel
theorem dX1_writeOn_10 : decode cX1_writeOn 10 = .ok (.getfield 19, 3) := by decide +kernel
theorem dX1_writeOn_13 : decode cX1_writeOn 13 = .ok (.ifCond .le 16, 3) := by decide +kernel
theorem dX1_writeOn_16 : decode cX1_writeOn 16 = .ok (.aload_n 1, 1) := by decide +kernel
theorem dX1_writeOn_17 : decode cX1_writeOn 17 = .ok (.aload_n 0, 1) := by decide +kernel
theorem dX1_writeOn_18 : decode cX1_writeOn 18 = .ok (.getfield 9, 3) := by decide +kernel
theorem dX1_writeOn_21 : decode cX1_writeOn 21 = .ok (.iconst 0, 1) := by decide +kernel
theorem dX1_writeOn_22 : decode cX1_writeOn 22 = .ok (.laload, 1) := by decide +kernel
theorem dX1_writeOn_23 : decode cX1_writeOn 23 = .ok (.invokestatic 29, 3) := by decide +kernel
theorem dX1_writeOn_26 : decode cX1_writeOn 26 = .ok (.invokevirtual 23, 3) := by decide +kernel
theorem dX1_writeOn_29 : decode cX1_writeOn 29 = .ok (.iconst 1, 1) := by decide +kernel
theorem dX1_writeOn_30 : decode cX1_writeOn 30 = .ok (.istore_n 2, 1) := by decide +kernel
theorem dX1_writeOn_31 : decode cX1_writeOn 31 = .ok (.iload_n 2, 1) := by decide +kernel
theorem dX1_writeOn_32 : decode cX1_writeOn 32 = .ok (.aload_n 0, 1) := by decide +kernel
theorem dX1_writeOn_33 : decode cX1_writeOn 33 = .ok (.getfield 19, 3) := by decide +kernel
theorem dX1_writeOn_36 : decode cX1_writeOn 36 = .ok (.if_icmp .ge 26, 3) := by decide +kernel
theorem dX1_writeOn_39 : decode cX1_writeOn 39 = .ok (.aload_n 0, 1) := by decide +kernel
theorem dX1_writeOn_40 : decode cX1_writeOn 40 = .ok (.aload_n 1, 1) := by decide +kernel
theorem dX1_writeOn_41 : decode cX1_writeOn 41 = .ok (.iload_n 2, 1) := by decide +kernel
theorem dX1_writeOn_42 : decode cX1_writeOn 42 = .ok (.aload_n 0, 1) := by decide +kernel
theorem dX1_writeOn_43 : decode cX1_writeOn 43 = .ok (.getfield 19, 3) := by decide +kernel
theorem dX1_writeOn_46 : decode cX1_writeOn 46 = .ok (.iload_n 2, 1) := by decide +kernel
theorem dX1_writeOn_47 : decode cX1_writeOn 47 = .ok (.bipush 64, 2) := by decide +kernel
theorem dX1_writeOn_49 : decode cX1_writeOn 49 = .ok (.iadd, 1) := by decide +kernel
theorem dX1_writeOn_50 : decode cX1_writeOn 50 = .ok (.invokestatic 33, 3) := by decide +kernel
theorem dX1_writeOn_53 : decode cX1_writeOn 53 = .ok (.invokevirtual 39, 3) := by decide +kernel
theorem dX1_writeOn_56 : decode cX1_writeOn 56 = .ok (.iinc 2 64, 3) := by decide +kernel
theorem dX1_writeOn_59 : decode cX1_writeOn 59 = .ok (.goto (-28), 3) := by decide +kernel
theorem dX1_writeOn_62 : decode cX1_writeOn 62 = .ok (.return_, 1) := by decide +kernel
theorem dX1_writeBlock_0 : decode cX1_writeBlock 0 = .ok (.aload_n 0, 1) := by decide +kernel
theorem dX1_writeBlock_1 : decode cX1_writeBlock 1 = .ok (.iload_n 2, 1) := by decide +kernel
theorem dX1_writeBlock_2 : decode cX1_writeBlock 2 = .ok (.iload_n 3, 1) := by decide +kernel
theorem dX1_writeBlock_3 : decode cX1_writeBlock 3 = .ok (.invokevirtual 43, 3) := by decide +kernel
theorem dX1_writeBlock_6 : decode cX1_writeBlock 6 = .ok (.lstore 4, 2) := by decide +kernel
theorem dX1_writeBlock_8 : decode cX1_writeBlock 8 = .ok (.aload_n 1, 1) := by decide +kernel
theorem dX1_writeBlock_9 : decode cX1_writeBlock 9 = .ok (.lload 4, 2) := by decide +kernel
theorem dX1_writeBlock_11 : decode cX1_writeBlock 11 = .ok (.invokestatic 29, 3) := by decide +kernel
theorem dX1_writeBlock_14 : decode cX1_writeBlock 14 = .ok (.invokevirtual 23, 3) := by decide +kernel
theorem dX1_writeBlock_17 : decode cX1_writeBlock 17 = .ok (.iconst 0, 1) := by decide +kernel
theorem dX1_writeBlock_18 : decode cX1_writeBlock 18 = .ok (.istore 6, 2) := by decide +kernel
theorem dX1_writeBlock_20 : decode cX1_writeBlock 20 = .ok (.iload 6, 2) := by decide +kernel
theorem dX1_writeBlock_22 : decode cX1_writeBlock 22 = .ok (.iconst 4, 1) := by decide +kernel
theorem dX1_writeBlock_23 : decode cX1_writeBlock 23 = .ok (.if_icmp .ge 53, 3) := by decide +kernel
theorem dX1_writeBlock_26 : decode cX1_writeBlock 26 = .ok (.iload_n 2, 1) := by decide +kernel
theorem dX1_writeBlock_27 : decode cX1_writeBlock 27 = .ok (.iload 6, 2) := by decide +kernel
theorem dX1_writeBlock_29 : decode cX1_writeBlock 29 = .ok (.bipush 16, 2) := by decide +kernel
theorem dX1_writeBlock_31 : decode cX1_writeBlock 31 = .ok (.imul, 1) := by decide +kernel
theorem dX1_writeBlock_32 : decode cX1_writeBlock 32 = .ok (.iadd, 1) := by decide +kernel
theorem dX1_writeBlock_33 : decode cX1_writeBlock 33 = .ok (.istore 7, 2) := by decide +kernel
theorem dX1_writeBlock_35 : decode cX1_writeBlock 35 = .ok (.aload_n 0, 1) := by decide +kernel
theorem dX1_writeBlock_36 : decode cX1_writeBlock 36 = .ok (.getfield 15, 3) := by decide +kernel
theorem dX1_writeBlock_39 : decode cX1_writeBlock 39 = .ok (.iload 6, 2) := by decide +kernel
theorem dX1_writeBlock_41 : decode cX1_writeBlock 41 = .ok (.aload_n 0, 1) := by decide +kernel
theorem dX1_writeBlock_42 : decode cX1_writeBlock 42 = .ok (.iload 7, 2) := by decide +kernel
theorem dX1_writeBlock_44 : decode cX1_writeBlock 44 = .ok (.iload_n 3, 1) := by decide +kernel
theorem dX1_writeBlock_45 : decode cX1_writeBlock 45 = .ok (.iload 7, 2) := by decide +kernel
theorem dX1_writeBlock_47 : decode cX1_writeBlock 47 = .ok (.bipush 16, 2) := by decide +kernel
theorem dX1_writeBlock_49 : decode cX1_writeBlock 49 = .ok (.iadd, 1) := by decide +kernel
theorem dX1_writeBlock_50 : decode cX1_writeBlock 50 = .ok (.invokestatic 33, 3) := by decide +kernel
theorem dX1_writeBlock_53 : decode cX1_writeBlock 53 = .ok (.lload 4, 2) := by decide +kernel
theorem dX1_writeBlock_55 : decode cX1_writeBlock 55 = .ok (.invokevirtual 47, 3) := by decide +kernel
theorem dX1_writeBlock_58 : decode cX1_writeBlock 58 = .ok (.iastore, 1) := by decide +kernel
theorem dX1_writeBlock_59 : decode cX1_writeBlock 59 = .ok (.aload_n 1, 1) := by decide +kernel
theorem dX1_writeBlock_60 : decode cX1_writeBlock 60 = .ok (.aload_n 0, 1) := by decide +kernel
theorem dX1_writeBlock_61 : decode cX1_writeBlock 61 = .ok (.getfield 15, 3) := by decide +kernel
theorem dX1_writeBlock_64 : decode cX1_writeBlock 64 = .ok (.iload 6, 2) := by decide +kernel
theorem dX1_writeBlock_66 : decode cX1_writeBlock 66 = .ok (.iaload, 1) := by decide +kernel
theorem dX1_writeBlock_67 : decode cX1_writeBlock 67 = .ok (.invokevirtual 51, 3) := by decide +kernel
theorem dX1_writeBlock_70 : decode cX1_writeBlock 70 = .ok (.iinc 6 1, 3) := by decide +kernel
theorem dX1_writeBlock_73 : decode cX1_writeBlock 73 = .ok (.goto (-53), 3) := by decide +kernel
theorem dX1_writeBlock_76 : decode cX1_writeBlock 76 = .ok (.iconst 0, 1) := by decide +kernel
theorem dX1_writeBlock_77 : decode cX1_writeBlock 77 = .ok (.istore 6, 2) := by decide +kernel
theorem dX1_writeBlock_79 : decode cX1_writeBlock 79 = .ok (.iload 6, 2) := by decide +kernel
theorem dX1_writeBlock_81 : decode cX1_writeBlock 81 = .ok (.iconst 4, 1) := by decide +kernel
theorem dX1_writeBlock_82 : decode cX1_writeBlock 82 = .ok (.if_icmp .ge 43, 3) := by decide +kernel
theorem dX1_writeBlock_85 : decode cX1_writeBlock 85 = .ok (.iload_n 2, 1) := by decide +kernel
theorem dX1_writeBlock_86 : decode cX1_writeBlock 86 = .ok (.iload 6, 2) := by decide +kernel
theorem dX1_writeBlock_88 : decode cX1_writeBlock 88 = .ok (.bipush 16, 2) := by decide +kernel
theorem dX1_writeBlock_90 : decode cX1_writeBlock 90 = .ok (.imul, 1) := by decide +kernel
theorem dX1_writeBlock_91 : decode cX1_writeBlock 91 = .ok (.iadd, 1) := by decide +kernel
theorem dX1_writeBlock_92 : decode cX1_writeBlock 92 = .ok (.istore 7, 2) := by decide +kernel
theorem dX1_writeBlock_94 : decode cX1_writeBlock 94 = .ok (.aload_n 0, 1) := by decide +kernel
theorem dX1_writeBlock_95 : decode cX1_writeBlock 95 = .ok (.aload_n 1, 1) := by decide +kernel
theorem dX1_writeBlock_96 : decode cX1_writeBlock 96 = .ok (.iload 7, 2) := by decide +kernel
theorem dX1_writeBlock_98 : decode cX1_writeBlock 98 = .ok (.iload_n 3, 1) := by decide +kernel
theorem dX1_writeBlock_99 : decode cX1_writeBlock 99 = .ok (.iload 7, 2) := by decide +kernel
theorem dX1_writeBlock_101 : decode cX1_writeBlock 101 = .ok (.bipush 16, 2) := by decide +kernel
theorem dX1_writeBlock_103 : decode cX1_writeBlock 103 = .ok (.iadd, 1) := by decide +kernel
theorem dX1_writeBlock_104 : decode cX1_writeBlock 104 = .ok (.invokestatic 33, 3) := by decide +kernel
theorem dX1_writeBlock_107 : decode cX1_writeBlock 107 = .ok (.aload_n 0, 1) := by decide +kernel
theorem dX1_writeBlock_108 : decode cX1_writeBlock 108 = .ok (.getfield 15, 3) := by decide +kernel
theorem dX1_writeBlock_111 : decode cX1_writeBlock 111 = .ok (.iload 6, 2) := by decide +kernel
theorem dX1_writeBlock_113 : decode cX1_writeBlock 113 = .ok (.iaload, 1) := by decide +kernel
theorem dX1_writeBlock_114 : decode cX1_writeBlock 114 = .ok (.lload 4, 2) := by decide +kernel
theorem dX1_writeBlock_116 : decode cX1_writeBlock 116 = .ok (.invokevirtual 55, 3) := by decide +kernel
theorem dX1_writeBlock_119 : decode cX1_writeBlock 119 = .ok (.iinc 6 1, 3) := by decide +kernel
theorem dX1_writeBlock_122 : decode cX1_writeBlock 122 = .ok (.goto (-43), 3) := by decide +kernel
theorem dX1_writeBlock_125 : decode cX1_writeBlock 125 = .ok (.return_, 1) := by decide +kernel
theorem dX1_leastDifference_0 : decode cX1_leastDifference 0 = .ok (.ldc2_w 61, 3) := by decide +kernel
theorem dX1_leastDifference_3 : decode cX1_leastDifference 3 = .ok (.lstore_n 3, 1) := by decide +kernel
theorem dX1_leastDifference_4 : decode cX1_leastDifference 4 = .ok (.iload_n 1, 1) := by decide +kernel
theorem dX1_leastDifference_5 : decode cX1_leastDifference 5 = .ok (.istore 5, 2) := by decide +kernel
theorem dX1_leastDifference_7 : decode cX1_leastDifference 7 = .ok (.iload 5, 2) := by decide +kernel
theorem dX1_leastDifference_9 : decode cX1_leastDifference 9 = .ok (.iload_n 2, 1) := by decide +kernel
theorem dX1_leastDifference_10 : decode cX1_leastDifference 10 = .ok (.if_icmp .ge 31, 3) := by decide +kernel
theorem dX1_leastDifference_13 : decode cX1_leastDifference 13 = .ok (.lload_n 3, 1) := by decide +kernel
theorem dX1_leastDifference_14 : decode cX1_leastDifference 14 = .ok (.aload_n 0, 1) := by decide +kernel
theorem dX1_leastDifference_15 : decode cX1_leastDifference 15 = .ok (.getfield 9, 3) := by decide +kernel
theorem dX1_leastDifference_18 : decode cX1_leastDifference 18 = .ok (.iload 5, 2) := by decide +kernel
theorem dX1_leastDifference_20 : decode cX1_leastDifference 20 = .ok (.laload, 1) := by decide +kernel
theorem dX1_leastDifference_21 : decode cX1_leastDifference 21 = .ok (.aload_n 0, 1) := by decide +kernel
theorem dX1_leastDifference_22 : decode cX1_leastDifference 22 = .ok (.getfield 9, 3) := by decide +kernel
theorem dX1_leastDifference_25 : decode cX1_leastDifference 25 = .ok (.iload 5, 2) := by decide +kernel
theorem dX1_leastDifference_27 : decode cX1_leastDifference 27 = .ok (.iconst 1, 1) := by decide +kernel
theorem dX1_leastDifference_28 : decode cX1_leastDifference 28 = .ok (.isub, 1) := by decide +kernel
theorem dX1_leastDifference_29 : decode cX1_leastDifference 29 = .ok (.laload, 1) := by decide +kernel
theorem dX1_leastDifference_30 : decode cX1_leastDifference 30 = .ok (.lsub, 1) := by decide +kernel
theorem dX1_leastDifference_31 : decode cX1_leastDifference 31 = .ok (.invokestatic 63, 3) := by decide +kernel
theorem dX1_leastDifference_34 : decode cX1_leastDifference 34 = .ok (.lstore_n 3, 1) := by decide +kernel
theorem dX1_leastDifference_35 : decode cX1_leastDifference 35 = .ok (.iinc 5 1, 3) := by decide +kernel
theorem dX1_leastDifference_38 : decode cX1_leastDifference 38 = .ok (.goto (-31), 3) := by decide +kernel
theorem dX1_leastDifference_41 : decode cX1_leastDifference 41 = .ok (.lload_n 3, 1) := by decide +kernel
theorem dX1_leastDifference_42 : decode cX1_leastDifference 42 = .ok (.lreturn, 1) := by decide +kernel
theorem dX1_widthOf_0 : decode cX1_widthOf 0 = .ok (.lconst 0, 1) := by decide +kernel
theorem dX1_widthOf_1 : decode cX1_widthOf 1 = .ok (.lstore 5, 2) := by decide +kernel
theorem dX1_widthOf_3 : decode cX1_widthOf 3 = .ok (.iload_n 1, 1) := by decide +kernel
theorem dX1_widthOf_4 : decode cX1_widthOf 4 = .ok (.istore 7, 2) := by decide +kernel
theorem dX1_widthOf_6 : decode cX1_widthOf 6 = .ok (.iload 7, 2) := by decide +kernel
theorem dX1_widthOf_8 : decode cX1_widthOf 8 = .ok (.iload_n 2, 1) := by decide +kernel
theorem dX1_widthOf_9 : decode cX1_widthOf 9 = .ok (.if_icmp .ge 33, 3) := by decide +kernel
theorem dX1_widthOf_12 : decode cX1_widthOf 12 = .ok (.lload 5, 2) := by decide +kernel
theorem dX1_widthOf_14 : decode cX1_widthOf 14 = .ok (.aload_n 0, 1) := by decide +kernel
theorem dX1_widthOf_15 : decode cX1_widthOf 15 = .ok (.getfield 9, 3) := by decide +kernel
theorem dX1_widthOf_18 : decode cX1_widthOf 18 = .ok (.iload 7, 2) := by decide +kernel
theorem dX1_widthOf_20 : decode cX1_widthOf 20 = .ok (.laload, 1) := by decide +kernel
theorem dX1_widthOf_21 : decode cX1_widthOf 21 = .ok (.aload_n 0, 1) := by decide +kernel
theorem dX1_widthOf_22 : decode cX1_widthOf 22 = .ok (.getfield 9, 3) := by decide +kernel
theorem dX1_widthOf_25 : decode cX1_widthOf 25 = .ok (.iload 7, 2) := by decide +kernel
theorem dX1_widthOf_27 : decode cX1_widthOf 27 = .ok (.iconst 1, 1) := by decide +kernel
theorem dX1_widthOf_28 : decode cX1_widthOf 28 = .ok (.isub, 1) := by decide +kernel
theorem dX1_widthOf_29 : decode cX1_widthOf 29 = .ok (.laload, 1) := by decide +kernel
theorem dX1_widthOf_30 : decode cX1_widthOf 30 = .ok (.lsub, 1) := by decide +kernel
theorem dX1_widthOf_31 : decode cX1_widthOf 31 = .ok (.lload_n 3, 1) := by decide +kernel
theorem dX1_widthOf_32 : decode cX1_widthOf 32 = .ok (.lsub, 1) := by decide +kernel
theorem dX1_widthOf_33 : decode cX1_widthOf 33 = .ok (.lor, 1) := by decide +kernel
theorem dX1_widthOf_34 : decode cX1_widthOf 34 = .ok (.lstore 5, 2) := by decide +kernel
theorem dX1_widthOf_36 : decode cX1_widthOf 36 = .ok (.iinc 7 1, 3) := by decide +kernel
theorem dX1_widthOf_39 : decode cX1_widthOf 39 = .ok (.goto (-33), 3) := by decide +kernel
theorem dX1_widthOf_42 : decode cX1_widthOf 42 = .ok (.lload 5, 2) := by decide +kernel
theorem dX1_widthOf_44 : decode cX1_widthOf 44 = .ok (.invokestatic 66, 3) := by decide +kernel
theorem dX1_widthOf_47 : decode cX1_widthOf 47 = .ok (.ireturn, 1) := by decide +kernel
theorem dX1_writePart_0 : decode cX1_writePart 0 = .ok (.aload_n 1, 1) := by decide +kernel
theorem dX1_writePart_1 : decode cX1_writePart 1 = .ok (.getfield 70, 3) := by decide +kernel
theorem dX1_writePart_4 : decode cX1_writePart 4 = .ok (.istore 7, 2) := by decide +kernel
theorem dX1_writePart_6 : decode cX1_writePart 6 = .ok (.aload_n 1, 1) := by decide +kernel
theorem dX1_writePart_7 : decode cX1_writePart 7 = .ok (.iconst 2, 1) := by decide +kernel
theorem dX1_writePart_8 : decode cX1_writePart 8 = .ok (.iload 4, 2) := by decide +kernel
theorem dX1_writePart_10 : decode cX1_writePart 10 = .ok (.imul, 1) := by decide +kernel
theorem dX1_writePart_11 : decode cX1_writePart 11 = .ok (.invokevirtual 73, 3) := by decide +kernel
theorem dX1_writePart_14 : decode cX1_writePart 14 = .ok (.iload_n 2, 1) := by decide +kernel
theorem dX1_writePart_15 : decode cX1_writePart 15 = .ok (.istore 8, 2) := by decide +kernel
theorem dX1_writePart_17 : decode cX1_writePart 17 = .ok (.iload 8, 2) := by decide +kernel
theorem dX1_writePart_19 : decode cX1_writePart 19 = .ok (.iload_n 3, 1) := by decide +kernel
theorem dX1_writePart_20 : decode cX1_writePart 20 = .ok (.if_icmp .ge 48, 3) := by decide +kernel
theorem dX1_writePart_23 : decode cX1_writePart 23 = .ok (.aload_n 0, 1) := by decide +kernel
theorem dX1_writePart_24 : decode cX1_writePart 24 = .ok (.getfield 9, 3) := by decide +kernel
theorem dX1_writePart_27 : decode cX1_writePart 27 = .ok (.iload 8, 2) := by decide +kernel
theorem dX1_writePart_29 : decode cX1_writePart 29 = .ok (.laload, 1) := by decide +kernel
theorem dX1_writePart_30 : decode cX1_writePart 30 = .ok (.aload_n 0, 1) := by decide +kernel
theorem dX1_writePart_31 : decode cX1_writePart 31 = .ok (.getfield 9, 3) := by decide +kernel
theorem dX1_writePart_34 : decode cX1_writePart 34 = .ok (.iload 8, 2) := by decide +kernel
theorem dX1_writePart_36 : decode cX1_writePart 36 = .ok (.iconst 1, 1) := by decide +kernel
theorem dX1_writePart_37 : decode cX1_writePart 37 = .ok (.isub, 1) := by decide +kernel
theorem dX1_writePart_38 : decode cX1_writePart 38 = .ok (.laload, 1) := by decide +kernel
theorem dX1_writePart_39 : decode cX1_writePart 39 = .ok (.lsub, 1) := by decide +kernel
theorem dX1_writePart_40 : decode cX1_writePart 40 = .ok (.lload 5, 2) := by decide +kernel
theorem dX1_writePart_42 : decode cX1_writePart 42 = .ok (.lsub, 1) := by decide +kernel
theorem dX1_writePart_43 : decode cX1_writePart 43 = .ok (.lstore 9, 2) := by decide +kernel
theorem dX1_writePart_45 : decode cX1_writePart 45 = .ok (.aload_n 1, 1) := by decide +kernel
theorem dX1_writePart_46 : decode cX1_writePart 46 = .ok (.iload 7, 2) := by decide +kernel
theorem dX1_writePart_48 : decode cX1_writePart 48 = .ok (.iload 8, 2) := by decide +kernel
theorem dX1_writePart_50 : decode cX1_writePart 50 = .ok (.iload_n 2, 1) := by decide +kernel
theorem dX1_writePart_51 : decode cX1_writePart 51 = .ok (.isub, 1) := by decide +kernel
theorem dX1_writePart_52 : decode cX1_writePart 52 = .ok (.iload 4, 2) := by decide +kernel
theorem dX1_writePart_54 : decode cX1_writePart 54 = .ok (.imul, 1) := by decide +kernel
theorem dX1_writePart_55 : decode cX1_writePart 55 = .ok (.iload 4, 2) := by decide +kernel
theorem dX1_writePart_57 : decode cX1_writePart 57 = .ok (.lload 9, 2) := by decide +kernel
theorem dX1_writePart_59 : decode cX1_writePart 59 = .ok (.invokevirtual 76, 3) := by decide +kernel
theorem dX1_writePart_62 : decode cX1_writePart 62 = .ok (.iinc 8 1, 3) := by decide +kernel
theorem dX1_writePart_65 : decode cX1_writePart 65 = .ok (.goto (-48), 3) := by decide +kernel
theorem dX1_writePart_68 : decode cX1_writePart 68 = .ok (.return_, 1) := by decide +kernel
theorem dX1_readFrom_0 : decode cX1_readFrom 0 = .ok (.aload_n 0, 1) := by decide +kernel
theorem dX1_readFrom_1 : decode cX1_readFrom 1 = .ok (.iconst 0, 1) := by decide +kernel
theorem dX1_readFrom_2 : decode cX1_readFrom 2 = .ok (.putfield 19, 3) := by decide +kernel
theorem dX1_readFrom_5 : decode cX1_readFrom 5 = .ok (.aload_n 1, 1) := by decide +kernel
theorem dX1_readFrom_6 : decode cX1_readFrom 6 = .ok (.invokevirtual 80, 3) := by decide +kernel
theorem dX1_readFrom_9 : decode cX1_readFrom 9 = .ok (.lstore_n 2, 1) := by decide +kernel
theorem dX1_readFrom_10 : decode cX1_readFrom 10 = .ok (.lload_n 2, 1) := by decide +kernel
theorem dX1_readFrom_11 : decode cX1_readFrom 11 = .ok (.lconst 0, 1) := by decide +kernel
theorem dX1_readFrom_12 : decode cX1_readFrom 12 = .ok (.lcmp, 1) := by decide +kernel
theorem dX1_readFrom_13 : decode cX1_readFrom 13 = .ok (.ifCond .lt 11, 3) := by decide +kernel
theorem dX1_readFrom_16 : decode cX1_readFrom 16 = .ok (.lload_n 2, 1) := by decide +kernel
theorem dX1_readFrom_17 : decode cX1_readFrom 17 = .ok (.ldc2_w 86, 3) := by decide +kernel
theorem dX1_readFrom_20 : decode cX1_readFrom 20 = .ok (.lcmp, 1) := by decide +kernel
theorem dX1_readFrom_21 : decode cX1_readFrom 21 = .ok (.ifCond .le 8, 3) := by decide +kernel
theorem dX1_readFrom_24 : decode cX1_readFrom 24 = .ok (.aload_n 1, 1) := by decide +kernel
theorem dX1_readFrom_25 : decode cX1_readFrom 25 = .ok (.iconst 4, 1) := by decide +kernel
theorem dX1_readFrom_26 : decode cX1_readFrom 26 = .ok (.invokevirtual 88, 3) := by decide +kernel
theorem dX1_readFrom_29 : decode cX1_readFrom 29 = .ok (.aload_n 1, 1) := by decide +kernel
theorem dX1_readFrom_30 : decode cX1_readFrom 30 = .ok (.invokevirtual 91, 3) := by decide +kernel
theorem dX1_readFrom_33 : decode cX1_readFrom 33 = .ok (.ifCond .eq 4, 3) := by decide +kernel
theorem dX1_readFrom_36 : decode cX1_readFrom 36 = .ok (.return_, 1) := by decide +kernel
theorem dX1_readFrom_37 : decode cX1_readFrom 37 = .ok (.lload_n 2, 1) := by decide +kernel
theorem dX1_readFrom_38 : decode cX1_readFrom 38 = .ok (.l2i, 1) := by decide +kernel
theorem dX1_readFrom_39 : decode cX1_readFrom 39 = .ok (.istore 4, 2) := by decide +kernel
theorem dX1_readFrom_41 : decode cX1_readFrom 41 = .ok (.iload 4, 2) := by decide +kernel
theorem dX1_readFrom_43 : decode cX1_readFrom 43 = .ok (.ifCond .le 16, 3) := by decide +kernel
theorem dX1_readFrom_46 : decode cX1_readFrom 46 = .ok (.aload_n 0, 1) := by decide +kernel
theorem dX1_readFrom_47 : decode cX1_readFrom 47 = .ok (.getfield 9, 3) := by decide +kernel
theorem dX1_readFrom_50 : decode cX1_readFrom 50 = .ok (.iconst 0, 1) := by decide +kernel
theorem dX1_readFrom_51 : decode cX1_readFrom 51 = .ok (.aload_n 1, 1) := by decide +kernel
theorem dX1_readFrom_52 : decode cX1_readFrom 52 = .ok (.invokevirtual 80, 3) := by decide +kernel
theorem dX1_readFrom_55 : decode cX1_readFrom 55 = .ok (.invokestatic 95, 3) := by decide +kernel
theorem dX1_readFrom_58 : decode cX1_readFrom 58 = .ok (.lastore, 1) := by decide +kernel
theorem dX1_readFrom_59 : decode cX1_readFrom 59 = .ok (.iconst 1, 1) := by decide +kernel
theorem dX1_readFrom_60 : decode cX1_readFrom 60 = .ok (.istore 5, 2) := by decide +kernel
theorem dX1_readFrom_62 : decode cX1_readFrom 62 = .ok (.iload 5, 2) := by decide +kernel
theorem dX1_readFrom_64 : decode cX1_readFrom 64 = .ok (.iload 4, 2) := by decide +kernel
theorem dX1_readFrom_66 : decode cX1_readFrom 66 = .ok (.if_icmp .ge 33, 3) := by decide +kernel
theorem dX1_readFrom_69 : decode cX1_readFrom 69 = .ok (.aload_n 1, 1) := by decide +kernel
theorem dX1_readFrom_70 : decode cX1_readFrom 70 = .ok (.invokevirtual 91, 3) := by decide +kernel
theorem dX1_readFrom_73 : decode cX1_readFrom 73 = .ok (.ifCond .ne 26, 3) := by decide +kernel
theorem dX1_readFrom_76 : decode cX1_readFrom 76 = .ok (.aload_n 0, 1) := by decide +kernel
theorem dX1_readFrom_77 : decode cX1_readFrom 77 = .ok (.aload_n 1, 1) := by decide +kernel
theorem dX1_readFrom_78 : decode cX1_readFrom 78 = .ok (.iload 5, 2) := by decide +kernel
theorem dX1_readFrom_80 : decode cX1_readFrom 80 = .ok (.iload 4, 2) := by decide +kernel
theorem dX1_readFrom_82 : decode cX1_readFrom 82 = .ok (.iload 5, 2) := by decide +kernel
theorem dX1_readFrom_84 : decode cX1_readFrom 84 = .ok (.bipush 64, 2) := by decide +kernel
theorem dX1_readFrom_86 : decode cX1_readFrom 86 = .ok (.iadd, 1) := by decide +kernel
theorem dX1_readFrom_87 : decode cX1_readFrom 87 = .ok (.invokestatic 33, 3) := by decide +kernel
theorem dX1_readFrom_90 : decode cX1_readFrom 90 = .ok (.invokevirtual 98, 3) := by decide +kernel
theorem dX1_readFrom_93 : decode cX1_readFrom 93 = .ok (.iinc 5 64, 3) := by decide +kernel
theorem dX1_readFrom_96 : decode cX1_readFrom 96 = .ok (.goto (-34), 3) := by decide +kernel
theorem dX1_readFrom_99 : decode cX1_readFrom 99 = .ok (.aload_n 1, 1) := by decide +kernel
theorem dX1_readFrom_100 : decode cX1_readFrom 100 = .ok (.invokevirtual 102, 3) := by decide +kernel
theorem dX1_readFrom_103 : decode cX1_readFrom 103 = .ok (.aload_n 0, 1) := by decide +kernel
theorem dX1_readFrom_104 : decode cX1_readFrom 104 = .ok (.iload 4, 2) := by decide +kernel
theorem dX1_readFrom_106 : decode cX1_readFrom 106 = .ok (.putfield 19, 3) := by decide +kernel
theorem dX1_readFrom_109 : decode cX1_readFrom 109 = .ok (.return_, 1) := by decide +kernel
theorem dX1_readBlock_0 : decode cX1_readBlock 0 = .ok (.aload_n 1, 1) := by decide +kernel
theorem dX1_readBlock_1 : decode cX1_readBlock 1 = .ok (.invokevirtual 80, 3) := by decide +kernel
theorem dX1_readBlock_4 : decode cX1_readBlock 4 = .ok (.invokestatic 95, 3) := by decide +kernel
theorem dX1_readBlock_7 : decode cX1_readBlock 7 = .ok (.lstore 4, 2) := by decide +kernel
theorem dX1_readBlock_9 : decode cX1_readBlock 9 = .ok (.iconst 0, 1) := by decide +kernel
theorem dX1_readBlock_10 : decode cX1_readBlock 10 = .ok (.istore 6, 2) := by decide +kernel
theorem dX1_readBlock_12 : decode cX1_readBlock 12 = .ok (.iload 6, 2) := by decide +kernel
theorem dX1_readBlock_14 : decode cX1_readBlock 14 = .ok (.iconst 4, 1) := by decide +kernel
theorem dX1_readBlock_15 : decode cX1_readBlock 15 = .ok (.if_icmp .ge 71, 3) := by decide +kernel
theorem dX1_readBlock_18 : decode cX1_readBlock 18 = .ok (.aload_n 1, 1) := by decide +kernel
theorem dX1_readBlock_19 : decode cX1_readBlock 19 = .ok (.invokevirtual 91, 3) := by decide +kernel
theorem dX1_readBlock_22 : decode cX1_readBlock 22 = .ok (.ifCond .ne 64, 3) := by decide +kernel
theorem dX1_readBlock_25 : decode cX1_readBlock 25 = .ok (.aload_n 1, 1) := by decide +kernel
theorem dX1_readBlock_26 : decode cX1_readBlock 26 = .ok (.invokevirtual 105, 3) := by decide +kernel
theorem dX1_readBlock_29 : decode cX1_readBlock 29 = .ok (.istore 7, 2) := by decide +kernel
theorem dX1_readBlock_31 : decode cX1_readBlock 31 = .ok (.iload_n 2, 1) := by decide +kernel
theorem dX1_readBlock_32 : decode cX1_readBlock 32 = .ok (.iload 6, 2) := by decide +kernel
theorem dX1_readBlock_34 : decode cX1_readBlock 34 = .ok (.bipush 16, 2) := by decide +kernel
theorem dX1_readBlock_36 : decode cX1_readBlock 36 = .ok (.imul, 1) := by decide +kernel
theorem dX1_readBlock_37 : decode cX1_readBlock 37 = .ok (.iadd, 1) := by decide +kernel
theorem dX1_readBlock_38 : decode cX1_readBlock 38 = .ok (.iload_n 3, 1) := by decide +kernel
theorem dX1_readBlock_39 : decode cX1_readBlock 39 = .ok (.if_icmp .lt 7, 3) := by decide +kernel
theorem dX1_readBlock_42 : decode cX1_readBlock 42 = .ok (.iconst 1, 1) := by decide +kernel
theorem dX1_readBlock_43 : decode cX1_readBlock 43 = .ok (.goto 4, 3) := by decide +kernel
theorem dX1_readBlock_46 : decode cX1_readBlock 46 = .ok (.iconst 0, 1) := by decide +kernel
theorem dX1_readBlock_47 : decode cX1_readBlock 47 = .ok (.istore 8, 2) := by decide +kernel
theorem dX1_readBlock_49 : decode cX1_readBlock 49 = .ok (.iload 7, 2) := by decide +kernel
theorem dX1_readBlock_51 : decode cX1_readBlock 51 = .ok (.bipush 64, 2) := by decide +kernel
theorem dX1_readBlock_53 : decode cX1_readBlock 53 = .ok (.if_icmp .gt 13, 3) := by decide +kernel
theorem dX1_readBlock_56 : decode cX1_readBlock 56 = .ok (.iload 8, 2) := by decide +kernel
theorem dX1_readBlock_58 : decode cX1_readBlock 58 = .ok (.ifCond .eq 13, 3) := by decide +kernel
theorem dX1_readBlock_61 : decode cX1_readBlock 61 = .ok (.iload 7, 2) := by decide +kernel
theorem dX1_readBlock_63 : decode cX1_readBlock 63 = .ok (.ifCond .eq 8, 3) := by decide +kernel
theorem dX1_readBlock_66 : decode cX1_readBlock 66 = .ok (.aload_n 1, 1) := by decide +kernel
theorem dX1_readBlock_67 : decode cX1_readBlock 67 = .ok (.iconst 5, 1) := by decide +kernel
theorem dX1_readBlock_68 : decode cX1_readBlock 68 = .ok (.invokevirtual 88, 3) := by decide +kernel
theorem dX1_readBlock_71 : decode cX1_readBlock 71 = .ok (.aload_n 0, 1) := by decide +kernel
theorem dX1_readBlock_72 : decode cX1_readBlock 72 = .ok (.getfield 15, 3) := by decide +kernel
theorem dX1_readBlock_75 : decode cX1_readBlock 75 = .ok (.iload 6, 2) := by decide +kernel
theorem dX1_readBlock_77 : decode cX1_readBlock 77 = .ok (.iload 7, 2) := by decide +kernel
theorem dX1_readBlock_79 : decode cX1_readBlock 79 = .ok (.iastore, 1) := by decide +kernel
theorem dX1_readBlock_80 : decode cX1_readBlock 80 = .ok (.iinc 6 1, 3) := by decide +kernel
theorem dX1_readBlock_83 : decode cX1_readBlock 83 = .ok (.goto (-71), 3) := by decide +kernel
theorem dX1_readBlock_86 : decode cX1_readBlock 86 = .ok (.iconst 0, 1) := by decide +kernel
theorem dX1_readBlock_87 : decode cX1_readBlock 87 = .ok (.istore 6, 2) := by decide +kernel
theorem dX1_readBlock_89 : decode cX1_readBlock 89 = .ok (.iload 6, 2) := by decide +kernel
theorem dX1_readBlock_91 : decode cX1_readBlock 91 = .ok (.iconst 4, 1) := by decide +kernel
theorem dX1_readBlock_92 : decode cX1_readBlock 92 = .ok (.if_icmp .ge 50, 3) := by decide +kernel
theorem dX1_readBlock_95 : decode cX1_readBlock 95 = .ok (.aload_n 1, 1) := by decide +kernel
theorem dX1_readBlock_96 : decode cX1_readBlock 96 = .ok (.invokevirtual 91, 3) := by decide +kernel
theorem dX1_readBlock_99 : decode cX1_readBlock 99 = .ok (.ifCond .ne 43, 3) := by decide +kernel
theorem dX1_readBlock_102 : decode cX1_readBlock 102 = .ok (.iload_n 2, 1) := by decide +kernel
theorem dX1_readBlock_103 : decode cX1_readBlock 103 = .ok (.iload 6, 2) := by decide +kernel
theorem dX1_readBlock_105 : decode cX1_readBlock 105 = .ok (.bipush 16, 2) := by decide +kernel
theorem dX1_readBlock_107 : decode cX1_readBlock 107 = .ok (.imul, 1) := by decide +kernel
theorem dX1_readBlock_108 : decode cX1_readBlock 108 = .ok (.iadd, 1) := by decide +kernel
theorem dX1_readBlock_109 : decode cX1_readBlock 109 = .ok (.istore 7, 2) := by decide +kernel
theorem dX1_readBlock_111 : decode cX1_readBlock 111 = .ok (.aload_n 0, 1) := by decide +kernel
theorem dX1_readBlock_112 : decode cX1_readBlock 112 = .ok (.aload_n 1, 1) := by decide +kernel
theorem dX1_readBlock_113 : decode cX1_readBlock 113 = .ok (.iload 7, 2) := by decide +kernel
theorem dX1_readBlock_115 : decode cX1_readBlock 115 = .ok (.iload_n 3, 1) := by decide +kernel
theorem dX1_readBlock_116 : decode cX1_readBlock 116 = .ok (.iload 7, 2) := by decide +kernel
theorem dX1_readBlock_118 : decode cX1_readBlock 118 = .ok (.bipush 16, 2) := by decide +kernel
theorem dX1_readBlock_120 : decode cX1_readBlock 120 = .ok (.iadd, 1) := by decide +kernel
theorem dX1_readBlock_121 : decode cX1_readBlock 121 = .ok (.invokestatic 33, 3) := by decide +kernel
theorem dX1_readBlock_124 : decode cX1_readBlock 124 = .ok (.aload_n 0, 1) := by decide +kernel
theorem dX1_readBlock_125 : decode cX1_readBlock 125 = .ok (.getfield 15, 3) := by decide +kernel
theorem dX1_readBlock_128 : decode cX1_readBlock 128 = .ok (.iload 6, 2) := by decide +kernel
theorem dX1_readBlock_130 : decode cX1_readBlock 130 = .ok (.iaload, 1) := by decide +kernel
theorem dX1_readBlock_131 : decode cX1_readBlock 131 = .ok (.lload 4, 2) := by decide +kernel
theorem dX1_readBlock_133 : decode cX1_readBlock 133 = .ok (.invokevirtual 109, 3) := by decide +kernel
theorem dX1_readBlock_136 : decode cX1_readBlock 136 = .ok (.iinc 6 1, 3) := by decide +kernel
theorem dX1_readBlock_139 : decode cX1_readBlock 139 = .ok (.goto (-50), 3) := by decide +kernel
theorem dX1_readBlock_142 : decode cX1_readBlock 142 = .ok (.return_, 1) := by decide +kernel
theorem dX1_readPart_0 : decode cX1_readPart 0 = .ok (.aload_n 1, 1) := by decide +kernel
theorem dX1_readPart_1 : decode cX1_readPart 1 = .ok (.iconst 2, 1) := by decide +kernel
theorem dX1_readPart_2 : decode cX1_readPart 2 = .ok (.iload 4, 2) := by decide +kernel
theorem dX1_readPart_4 : decode cX1_readPart 4 = .ok (.imul, 1) := by decide +kernel
theorem dX1_readPart_5 : decode cX1_readPart 5 = .ok (.i2l, 1) := by decide +kernel
theorem dX1_readPart_6 : decode cX1_readPart 6 = .ok (.invokevirtual 113, 3) := by decide +kernel
theorem dX1_readPart_9 : decode cX1_readPart 9 = .ok (.ifCond .ne 4, 3) := by decide +kernel
theorem dX1_readPart_12 : decode cX1_readPart 12 = .ok (.return_, 1) := by decide +kernel
theorem dX1_readPart_13 : decode cX1_readPart 13 = .ok (.iload_n 2, 1) := by decide +kernel
theorem dX1_readPart_14 : decode cX1_readPart 14 = .ok (.istore 7, 2) := by decide +kernel
theorem dX1_readPart_16 : decode cX1_readPart 16 = .ok (.iload 7, 2) := by decide +kernel
theorem dX1_readPart_18 : decode cX1_readPart 18 = .ok (.iload_n 3, 1) := by decide +kernel
theorem dX1_readPart_19 : decode cX1_readPart 19 = .ok (.if_icmp .ge 42, 3) := by decide +kernel
theorem dX1_readPart_22 : decode cX1_readPart 22 = .ok (.aload_n 0, 1) := by decide +kernel
theorem dX1_readPart_23 : decode cX1_readPart 23 = .ok (.getfield 9, 3) := by decide +kernel
theorem dX1_readPart_26 : decode cX1_readPart 26 = .ok (.iload 7, 2) := by decide +kernel
theorem dX1_readPart_28 : decode cX1_readPart 28 = .ok (.aload_n 0, 1) := by decide +kernel
theorem dX1_readPart_29 : decode cX1_readPart 29 = .ok (.getfield 9, 3) := by decide +kernel
theorem dX1_readPart_32 : decode cX1_readPart 32 = .ok (.iload 7, 2) := by decide +kernel
theorem dX1_readPart_34 : decode cX1_readPart 34 = .ok (.iconst 1, 1) := by decide +kernel
theorem dX1_readPart_35 : decode cX1_readPart 35 = .ok (.isub, 1) := by decide +kernel
theorem dX1_readPart_36 : decode cX1_readPart 36 = .ok (.laload, 1) := by decide +kernel
theorem dX1_readPart_37 : decode cX1_readPart 37 = .ok (.lload 5, 2) := by decide +kernel
theorem dX1_readPart_39 : decode cX1_readPart 39 = .ok (.ladd, 1) := by decide +kernel
theorem dX1_readPart_40 : decode cX1_readPart 40 = .ok (.aload_n 1, 1) := by decide +kernel
theorem dX1_readPart_41 : decode cX1_readPart 41 = .ok (.iload 7, 2) := by decide +kernel
theorem dX1_readPart_43 : decode cX1_readPart 43 = .ok (.iload_n 2, 1) := by decide +kernel
theorem dX1_readPart_44 : decode cX1_readPart 44 = .ok (.isub, 1) := by decide +kernel
theorem dX1_readPart_45 : decode cX1_readPart 45 = .ok (.iload 4, 2) := by decide +kernel
theorem dX1_readPart_47 : decode cX1_readPart 47 = .ok (.imul, 1) := by decide +kernel
theorem dX1_readPart_48 : decode cX1_readPart 48 = .ok (.iload 4, 2) := by decide +kernel
theorem dX1_readPart_50 : decode cX1_readPart 50 = .ok (.invokevirtual 117, 3) := by decide +kernel
theorem dX1_readPart_53 : decode cX1_readPart 53 = .ok (.ladd, 1) := by decide +kernel
theorem dX1_readPart_54 : decode cX1_readPart 54 = .ok (.lastore, 1) := by decide +kernel
theorem dX1_readPart_55 : decode cX1_readPart 55 = .ok (.iinc 7 1, 3) := by decide +kernel
theorem dX1_readPart_58 : decode cX1_readPart 58 = .ok (.goto (-42), 3) := by decide +kernel
theorem dX1_readPart_61 : decode cX1_readPart 61 = .ok (.iload_n 2, 1) := by decide +kernel
theorem dX1_readPart_62 : decode cX1_readPart 62 = .ok (.iload_n 3, 1) := by decide +kernel
theorem dX1_readPart_63 : decode cX1_readPart 63 = .ok (.invokestatic 120, 3) := by decide +kernel
theorem dX1_readPart_66 : decode cX1_readPart 66 = .ok (.istore 7, 2) := by decide +kernel
theorem dX1_readPart_68 : decode cX1_readPart 68 = .ok (.iload 7, 2) := by decide +kernel
theorem dX1_readPart_70 : decode cX1_readPart 70 = .ok (.iload_n 2, 1) := by decide +kernel
theorem dX1_readPart_71 : decode cX1_readPart 71 = .ok (.bipush 16, 2) := by decide +kernel
theorem dX1_readPart_73 : decode cX1_readPart 73 = .ok (.iadd, 1) := by decide +kernel
theorem dX1_readPart_74 : decode cX1_readPart 74 = .ok (.if_icmp .ge 32, 3) := by decide +kernel
theorem dX1_readPart_77 : decode cX1_readPart 77 = .ok (.aload_n 1, 1) := by decide +kernel
theorem dX1_readPart_78 : decode cX1_readPart 78 = .ok (.iload 7, 2) := by decide +kernel
theorem dX1_readPart_80 : decode cX1_readPart 80 = .ok (.iload_n 2, 1) := by decide +kernel
theorem dX1_readPart_81 : decode cX1_readPart 81 = .ok (.isub, 1) := by decide +kernel
theorem dX1_readPart_82 : decode cX1_readPart 82 = .ok (.iload 4, 2) := by decide +kernel
theorem dX1_readPart_84 : decode cX1_readPart 84 = .ok (.imul, 1) := by decide +kernel
theorem dX1_readPart_85 : decode cX1_readPart 85 = .ok (.iload 4, 2) := by decide +kernel
theorem dX1_readPart_87 : decode cX1_readPart 87 = .ok (.invokevirtual 117, 3) := by decide +kernel
theorem dX1_readPart_90 : decode cX1_readPart 90 = .ok (.lconst 0, 1) := by decide +kernel
theorem dX1_readPart_91 : decode cX1_readPart 91 = .ok (.lcmp, 1) := by decide +kernel
theorem dX1_readPart_92 : decode cX1_readPart 92 = .ok (.ifCond .eq 8, 3) := by decide +kernel
theorem dX1_readPart_95 : decode cX1_readPart 95 = .ok (.aload_n 1, 1) := by decide +kernel
theorem dX1_readPart_96 : decode cX1_readPart 96 = .ok (.iconst 5, 1) := by decide +kernel
theorem dX1_readPart_97 : decode cX1_readPart 97 = .ok (.invokevirtual 88, 3) := by decide +kernel
theorem dX1_readPart_100 : decode cX1_readPart 100 = .ok (.iinc 7 1, 3) := by decide +kernel
theorem dX1_readPart_103 : decode cX1_readPart 103 = .ok (.goto (-35), 3) := by decide +kernel
theorem dX1_readPart_106 : decode cX1_readPart 106 = .ok (.aload_n 1, 1) := by decide +kernel
theorem dX1_readPart_107 : decode cX1_readPart 107 = .ok (.dup, 1) := by decide +kernel
theorem dX1_readPart_108 : decode cX1_readPart 108 = .ok (.getfield 123, 3) := by decide +kernel
theorem dX1_readPart_111 : decode cX1_readPart 111 = .ok (.iconst 2, 1) := by decide +kernel
theorem dX1_readPart_112 : decode cX1_readPart 112 = .ok (.iload 4, 2) := by decide +kernel
theorem dX1_readPart_114 : decode cX1_readPart 114 = .ok (.imul, 1) := by decide +kernel
theorem dX1_readPart_115 : decode cX1_readPart 115 = .ok (.iadd, 1) := by decide +kernel
theorem dX1_readPart_116 : decode cX1_readPart 116 = .ok (.putfield 123, 3) := by decide +kernel
theorem dX1_readPart_119 : decode cX1_readPart 119 = .ok (.return_, 1) := by decide +kernel
theorem dX1_zigzag_0 : decode cX1_zigzag 0 = .ok (.lload_n 0, 1) := by decide +kernel
theorem dX1_zigzag_1 : decode cX1_zigzag 1 = .ok (.iconst 1, 1) := by decide +kernel
theorem dX1_zigzag_2 : decode cX1_zigzag 2 = .ok (.lshl, 1) := by decide +kernel
theorem dX1_zigzag_3 : decode cX1_zigzag 3 = .ok (.lload_n 0, 1) := by decide +kernel
theorem dX1_zigzag_4 : decode cX1_zigzag 4 = .ok (.bipush 63, 2) := by decide +kernel
theorem dX1_zigzag_6 : decode cX1_zigzag 6 = .ok (.lshr, 1) := by decide +kernel
theorem dX1_zigzag_7 : decode cX1_zigzag 7 = .ok (.lxor, 1) := by decide +kernel
theorem dX1_zigzag_8 : decode cX1_zigzag 8 = .ok (.lreturn, 1) := by decide +kernel
theorem dX1_unzigzag_0 : decode cX1_unzigzag 0 = .ok (.lload_n 0, 1) := by decide +kernel
theorem dX1_unzigzag_1 : decode cX1_unzigzag 1 = .ok (.iconst 1, 1) := by decide +kernel
theorem dX1_unzigzag_2 : decode cX1_unzigzag 2 = .ok (.lushr, 1) := by decide +kernel
theorem dX1_unzigzag_3 : decode cX1_unzigzag 3 = .ok (.lload_n 0, 1) := by decide +kernel
theorem dX1_unzigzag_4 : decode cX1_unzigzag 4 = .ok (.lconst 1, 1) := by decide +kernel
theorem dX1_unzigzag_5 : decode cX1_unzigzag 5 = .ok (.land, 1) := by decide +kernel
theorem dX1_unzigzag_6 : decode cX1_unzigzag 6 = .ok (.lneg, 1) := by decide +kernel
theorem dX1_unzigzag_7 : decode cX1_unzigzag 7 = .ok (.lxor, 1) := by decide +kernel
theorem dX1_unzigzag_8 : decode cX1_unzigzag 8 = .ok (.lreturn, 1) := by decide +kernel
theorem dX2_init_0 : decode cX2_init 0 = .ok (.aload_n 0, 1) := by decide +kernel
theorem dX2_init_1 : decode cX2_init 1 = .ok (.invokespecial 3, 3) := by decide +kernel
theorem dX2_init_4 : decode cX2_init 4 = .ok (.aload_n 0, 1) := by decide +kernel
theorem dX2_init_5 : decode cX2_init 5 = .ok (.new 9, 3) := by decide +kernel
theorem dX2_init_8 : decode cX2_init 8 = .ok (.dup, 1) := by decide +kernel
theorem dX2_init_9 : decode cX2_init 9 = .ok (.invokespecial 11, 3) := by decide +kernel
theorem dX2_init_12 : decode cX2_init 12 = .ok (.putfield 12, 3) := by decide +kernel
theorem dX2_init_15 : decode cX2_init 15 = .ok (.aload_n 0, 1) := by decide +kernel
theorem dX2_init_16 : decode cX2_init 16 = .ok (.sipush 1000, 3) := by decide +kernel
theorem dX2_init_19 : decode cX2_init 19 = .ok (.newarray .int, 2) := by decide +kernel
theorem dX2_init_21 : decode cX2_init 21 = .ok (.putfield 18, 3) := by decide +kernel
theorem dX2_init_24 : decode cX2_init 24 = .ok (.aload_n 0, 1) := by decide +kernel
theorem dX2_init_25 : decode cX2_init 25 = .ok (.sipush 1000, 3) := by decide +kernel
theorem dX2_init_28 : decode cX2_init 28 = .ok (.newarray .int, 2) := by decide +kernel
theorem dX2_init_30 : decode cX2_init 30 = .ok (.putfield 22, 3) := by decide +kernel
theorem dX2_init_33 : decode cX2_init 33 = .ok (.aload_n 0, 1) := by decide +kernel
theorem dX2_init_34 : decode cX2_init 34 = .ok (.aload_n 1, 1) := by decide +kernel
theorem dX2_init_35 : decode cX2_init 35 = .ok (.putfield 25, 3) := by decide +kernel
theorem dX2_init_38 : decode cX2_init 38 = .ok (.aload_n 0, 1) := by decide +kernel
theorem dX2_init_39 : decode cX2_init 39 = .ok (.aload_n 2, 1) := by decide +kernel
theorem dX2_init_40 : decode cX2_init 40 = .ok (.putfield 29, 3) := by decide +kernel
theorem dX2_init_43 : decode cX2_init 43 = .ok (.aload_n 0, 1) := by decide +kernel
theorem dX2_init_44 : decode cX2_init 44 = .ok (.aload_n 3, 1) := by decide +kernel
theorem dX2_init_45 : decode cX2_init 45 = .ok (.putfield 32, 3) := by decide +kernel
theorem dX2_init_48 : decode cX2_init 48 = .ok (.return_, 1) := by decide +kernel
theorem dX2_open_0 : decode cX2_open 0 = .ok (.aload_n 0, 1) := by decide +kernel
theorem dX2_open_1 : decode cX2_open 1 = .ok (.getfield 12, 3) := by decide +kernel
theorem dX2_open_4 : decode cX2_open 4 = .ok (.aload_n 1, 1) := by decide +kernel
theorem dX2_open_5 : decode cX2_open 5 = .ok (.invokevirtual 36, 3) := by decide +kernel
theorem dX2_open_8 : decode cX2_open 8 = .ok (.return_, 1) := by decide +kernel
theorem dX2_fault_0 : decode cX2_fault 0 = .ok (.aload_n 0, 1) := by decide +kernel
theorem dX2_fault_1 : decode cX2_fault 1 = .ok (.getfield 12, 3) := by decide +kernel
theorem dX2_fault_4 : decode cX2_fault 4 = .ok (.getfield 40, 3) := by decide +kernel
theorem dX2_fault_7 : decode cX2_fault 7 = .ok (.ireturn, 1) := by decide +kernel
theorem dX2_plain_0 : decode cX2_plain 0 = .ok (.iconst 0, 1) := by decide +kernel
theorem dX2_plain_1 : decode cX2_plain 1 = .ok (.istore_n 3, 1) := by decide +kernel
theorem dX2_plain_2 : decode cX2_plain 2 = .ok (.iload_n 3, 1) := by decide +kernel
theorem dX2_plain_3 : decode cX2_plain 3 = .ok (.iload_n 2, 1) := by decide +kernel
theorem dX2_plain_4 : decode cX2_plain 4 = .ok (.if_icmp .ge 33, 3) := by decide +kernel
theorem dX2_plain_7 : decode cX2_plain 7 = .ok (.aload_n 0, 1) := by decide +kernel
theorem dX2_plain_8 : decode cX2_plain 8 = .ok (.getfield 12, 3) := by decide +kernel
theorem dX2_plain_11 : decode cX2_plain 11 = .ok (.invokevirtual 44, 3) := by decide +kernel
theorem dX2_plain_14 : decode cX2_plain 14 = .ok (.ifCond .ne 23, 3) := by decide +kernel
theorem dX2_plain_17 : decode cX2_plain 17 = .ok (.aload_n 0, 1) := by decide +kernel
theorem dX2_plain_18 : decode cX2_plain 18 = .ok (.invokevirtual 48, 3) := by decide +kernel
theorem dX2_plain_21 : decode cX2_plain 21 = .ok (.istore 4, 2) := by decide +kernel
theorem dX2_plain_23 : decode cX2_plain 23 = .ok (.aload_n 0, 1) := by decide +kernel
theorem dX2_plain_24 : decode cX2_plain 24 = .ok (.aload_n 1, 1) := by decide +kernel
theorem dX2_plain_25 : decode cX2_plain 25 = .ok (.iconst 0, 1) := by decide +kernel
theorem dX2_plain_26 : decode cX2_plain 26 = .ok (.iload 4, 2) := by decide +kernel
theorem dX2_plain_28 : decode cX2_plain 28 = .ok (.invokevirtual 52, 3) := by decide +kernel
theorem dX2_plain_31 : decode cX2_plain 31 = .ok (.iinc 3 1, 3) := by decide +kernel
theorem dX2_plain_34 : decode cX2_plain 34 = .ok (.goto (-32), 3) := by decide +kernel
theorem dX2_plain_37 : decode cX2_plain 37 = .ok (.aload_n 0, 1) := by decide +kernel
theorem dX2_plain_38 : decode cX2_plain 38 = .ok (.getfield 12, 3) := by decide +kernel
theorem dX2_plain_41 : decode cX2_plain 41 = .ok (.invokevirtual 56, 3) := by decide +kernel
theorem dX2_plain_44 : decode cX2_plain 44 = .ok (.return_, 1) := by decide +kernel
theorem dX2_lengths_0 : decode cX2_lengths 0 = .ok (.aload_n 0, 1) := by decide +kernel
theorem dX2_lengths_1 : decode cX2_lengths 1 = .ok (.aload_n 0, 1) := by decide +kernel
theorem dX2_lengths_2 : decode cX2_lengths 2 = .ok (.getfield 25, 3) := by decide +kernel
theorem dX2_lengths_5 : decode cX2_lengths 5 = .ok (.iload_n 2, 1) := by decide +kernel
theorem dX2_lengths_6 : decode cX2_lengths 6 = .ok (.invokevirtual 59, 3) := by decide +kernel
theorem dX2_lengths_9 : decode cX2_lengths 9 = .ok (.iconst 0, 1) := by decide +kernel
theorem dX2_lengths_10 : decode cX2_lengths 10 = .ok (.istore_n 3, 1) := by decide +kernel
theorem dX2_lengths_11 : decode cX2_lengths 11 = .ok (.iload_n 3, 1) := by decide +kernel
theorem dX2_lengths_12 : decode cX2_lengths 12 = .ok (.iload_n 2, 1) := by decide +kernel
theorem dX2_lengths_13 : decode cX2_lengths 13 = .ok (.if_icmp .ge 43, 3) := by decide +kernel
theorem dX2_lengths_16 : decode cX2_lengths 16 = .ok (.aload_n 0, 1) := by decide +kernel
theorem dX2_lengths_17 : decode cX2_lengths 17 = .ok (.getfield 12, 3) := by decide +kernel
theorem dX2_lengths_20 : decode cX2_lengths 20 = .ok (.invokevirtual 44, 3) := by decide +kernel
theorem dX2_lengths_23 : decode cX2_lengths 23 = .ok (.ifCond .ne 33, 3) := by decide +kernel
theorem dX2_lengths_26 : decode cX2_lengths 26 = .ok (.aload_n 0, 1) := by decide +kernel
theorem dX2_lengths_27 : decode cX2_lengths 27 = .ok (.getfield 25, 3) := by decide +kernel
theorem dX2_lengths_30 : decode cX2_lengths 30 = .ok (.getfield 63, 3) := by decide +kernel
theorem dX2_lengths_33 : decode cX2_lengths 33 = .ok (.iload_n 3, 1) := by decide +kernel
theorem dX2_lengths_34 : decode cX2_lengths 34 = .ok (.laload, 1) := by decide +kernel
theorem dX2_lengths_35 : decode cX2_lengths 35 = .ok (.invokestatic 69, 3) := by decide +kernel
theorem dX2_lengths_38 : decode cX2_lengths 38 = .ok (.ifCond .ne 12, 3) := by decide +kernel
theorem dX2_lengths_41 : decode cX2_lengths 41 = .ok (.aload_n 0, 1) := by decide +kernel
theorem dX2_lengths_42 : decode cX2_lengths 42 = .ok (.getfield 12, 3) := by decide +kernel
theorem dX2_lengths_45 : decode cX2_lengths 45 = .ok (.bipush 7, 2) := by decide +kernel
theorem dX2_lengths_47 : decode cX2_lengths 47 = .ok (.invokevirtual 73, 3) := by decide +kernel
theorem dX2_lengths_50 : decode cX2_lengths 50 = .ok (.iinc 3 1, 3) := by decide +kernel
theorem dX2_lengths_53 : decode cX2_lengths 53 = .ok (.goto (-42), 3) := by decide +kernel
theorem dX2_lengths_56 : decode cX2_lengths 56 = .ok (.iconst 0, 1) := by decide +kernel
theorem dX2_lengths_57 : decode cX2_lengths 57 = .ok (.istore_n 3, 1) := by decide +kernel
theorem dX2_lengths_58 : decode cX2_lengths 58 = .ok (.iload_n 3, 1) := by decide +kernel
theorem dX2_lengths_59 : decode cX2_lengths 59 = .ok (.iload_n 2, 1) := by decide +kernel
theorem dX2_lengths_60 : decode cX2_lengths 60 = .ok (.if_icmp .ge 35, 3) := by decide +kernel
theorem dX2_lengths_63 : decode cX2_lengths 63 = .ok (.aload_n 0, 1) := by decide +kernel
theorem dX2_lengths_64 : decode cX2_lengths 64 = .ok (.getfield 12, 3) := by decide +kernel
theorem dX2_lengths_67 : decode cX2_lengths 67 = .ok (.invokevirtual 44, 3) := by decide +kernel
theorem dX2_lengths_70 : decode cX2_lengths 70 = .ok (.ifCond .ne 25, 3) := by decide +kernel
theorem dX2_lengths_73 : decode cX2_lengths 73 = .ok (.aload_n 0, 1) := by decide +kernel
theorem dX2_lengths_74 : decode cX2_lengths 74 = .ok (.aload_n 1, 1) := by decide +kernel
theorem dX2_lengths_75 : decode cX2_lengths 75 = .ok (.iconst 0, 1) := by decide +kernel
theorem dX2_lengths_76 : decode cX2_lengths 76 = .ok (.aload_n 0, 1) := by decide +kernel
theorem dX2_lengths_77 : decode cX2_lengths 77 = .ok (.getfield 25, 3) := by decide +kernel
theorem dX2_lengths_80 : decode cX2_lengths 80 = .ok (.getfield 63, 3) := by decide +kernel
theorem dX2_lengths_83 : decode cX2_lengths 83 = .ok (.iload_n 3, 1) := by decide +kernel
theorem dX2_lengths_84 : decode cX2_lengths 84 = .ok (.laload, 1) := by decide +kernel
theorem dX2_lengths_85 : decode cX2_lengths 85 = .ok (.l2i, 1) := by decide +kernel
theorem dX2_lengths_86 : decode cX2_lengths 86 = .ok (.invokevirtual 52, 3) := by decide +kernel
theorem dX2_lengths_89 : decode cX2_lengths 89 = .ok (.iinc 3 1, 3) := by decide +kernel
theorem dX2_lengths_92 : decode cX2_lengths 92 = .ok (.goto (-34), 3) := by decide +kernel
theorem dX2_lengths_95 : decode cX2_lengths 95 = .ok (.aload_n 0, 1) := by decide +kernel
theorem dX2_lengths_96 : decode cX2_lengths 96 = .ok (.getfield 12, 3) := by decide +kernel
theorem dX2_lengths_99 : decode cX2_lengths 99 = .ok (.invokevirtual 56, 3) := by decide +kernel
theorem dX2_lengths_102 : decode cX2_lengths 102 = .ok (.return_, 1) := by decide +kernel
theorem dX2_front_0 : decode cX2_front 0 = .ok (.aload_n 0, 1) := by decide +kernel
theorem dX2_front_1 : decode cX2_front 1 = .ok (.aload_n 0, 1) := by decide +kernel
theorem dX2_front_2 : decode cX2_front 2 = .ok (.getfield 25, 3) := by decide +kernel
theorem dX2_front_5 : decode cX2_front 5 = .ok (.iload_n 2, 1) := by decide +kernel
theorem dX2_front_6 : decode cX2_front 6 = .ok (.invokevirtual 59, 3) := by decide +kernel
theorem dX2_front_9 : decode cX2_front 9 = .ok (.aload_n 0, 1) := by decide +kernel
theorem dX2_front_10 : decode cX2_front 10 = .ok (.getfield 12, 3) := by decide +kernel
theorem dX2_front_13 : decode cX2_front 13 = .ok (.invokevirtual 44, 3) := by decide +kernel
theorem dX2_front_16 : decode cX2_front 16 = .ok (.ifCond .ne 12, 3) := by decide +kernel
theorem dX2_front_19 : decode cX2_front 19 = .ok (.aload_n 0, 1) := by decide +kernel
theorem dX2_front_20 : decode cX2_front 20 = .ok (.aload_n 0, 1) := by decide +kernel
theorem dX2_front_21 : decode cX2_front 21 = .ok (.getfield 29, 3) := by decide +kernel
theorem dX2_front_24 : decode cX2_front 24 = .ok (.iload_n 2, 1) := by decide +kernel
theorem dX2_front_25 : decode cX2_front 25 = .ok (.invokevirtual 59, 3) := by decide +kernel
theorem dX2_front_28 : decode cX2_front 28 = .ok (.iconst 0, 1) := by decide +kernel
theorem dX2_front_29 : decode cX2_front 29 = .ok (.istore_n 3, 1) := by decide +kernel
theorem dX2_front_30 : decode cX2_front 30 = .ok (.iload_n 3, 1) := by decide +kernel
theorem dX2_front_31 : decode cX2_front 31 = .ok (.iload_n 2, 1) := by decide +kernel
theorem dX2_front_32 : decode cX2_front 32 = .ok (.if_icmp .ge 105, 3) := by decide +kernel
theorem dX2_front_35 : decode cX2_front 35 = .ok (.aload_n 0, 1) := by decide +kernel
theorem dX2_front_36 : decode cX2_front 36 = .ok (.getfield 12, 3) := by decide +kernel
theorem dX2_front_39 : decode cX2_front 39 = .ok (.invokevirtual 44, 3) := by decide +kernel
theorem dX2_front_42 : decode cX2_front 42 = .ok (.ifCond .ne 95, 3) := by decide +kernel
theorem dX2_front_45 : decode cX2_front 45 = .ok (.aload_n 0, 1) := by decide +kernel
theorem dX2_front_46 : decode cX2_front 46 = .ok (.getfield 25, 3) := by decide +kernel
theorem dX2_front_49 : decode cX2_front 49 = .ok (.getfield 63, 3) := by decide +kernel
theorem dX2_front_52 : decode cX2_front 52 = .ok (.iload_n 3, 1) := by decide +kernel
theorem dX2_front_53 : decode cX2_front 53 = .ok (.laload, 1) := by decide +kernel
theorem dX2_front_54 : decode cX2_front 54 = .ok (.lstore 4, 2) := by decide +kernel
theorem dX2_front_56 : decode cX2_front 56 = .ok (.aload_n 0, 1) := by decide +kernel
theorem dX2_front_57 : decode cX2_front 57 = .ok (.getfield 29, 3) := by decide +kernel
theorem dX2_front_60 : decode cX2_front 60 = .ok (.getfield 63, 3) := by decide +kernel
theorem dX2_front_63 : decode cX2_front 63 = .ok (.iload_n 3, 1) := by decide +kernel
theorem dX2_front_64 : decode cX2_front 64 = .ok (.laload, 1) := by decide +kernel
theorem dX2_front_65 : decode cX2_front 65 = .ok (.lstore 6, 2) := by decide +kernel
theorem dX2_front_67 : decode cX2_front 67 = .ok (.lload 4, 2) := by decide +kernel
theorem dX2_front_69 : decode cX2_front 69 = .ok (.invokestatic 69, 3) := by decide +kernel
theorem dX2_front_72 : decode cX2_front 72 = .ok (.ifCond .eq 50, 3) := by decide +kernel
theorem dX2_front_75 : decode cX2_front 75 = .ok (.lload 6, 2) := by decide +kernel
theorem dX2_front_77 : decode cX2_front 77 = .ok (.invokestatic 69, 3) := by decide +kernel
theorem dX2_front_80 : decode cX2_front 80 = .ok (.ifCond .eq 42, 3) := by decide +kernel
theorem dX2_front_83 : decode cX2_front 83 = .ok (.lload 4, 2) := by decide +kernel
theorem dX2_front_85 : decode cX2_front 85 = .ok (.lload 6, 2) := by decide +kernel
theorem dX2_front_87 : decode cX2_front 87 = .ok (.ladd, 1) := by decide +kernel
theorem dX2_front_88 : decode cX2_front 88 = .ok (.invokestatic 69, 3) := by decide +kernel
theorem dX2_front_91 : decode cX2_front 91 = .ok (.ifCond .eq 31, 3) := by decide +kernel
theorem dX2_front_94 : decode cX2_front 94 = .ok (.lload 4, 2) := by decide +kernel
theorem dX2_front_96 : decode cX2_front 96 = .ok (.aload_n 1, 1) := by decide +kernel
theorem dX2_front_97 : decode cX2_front 97 = .ok (.iload_n 3, 1) := by decide +kernel
theorem dX2_front_98 : decode cX2_front 98 = .ok (.iconst 1, 1) := by decide +kernel
theorem dX2_front_99 : decode cX2_front 99 = .ok (.isub, 1) := by decide +kernel
theorem dX2_front_100 : decode cX2_front 100 = .ok (.invokevirtual 77, 3) := by decide +kernel
theorem dX2_front_103 : decode cX2_front 103 = .ok (.i2l, 1) := by decide +kernel
theorem dX2_front_104 : decode cX2_front 104 = .ok (.lcmp, 1) := by decide +kernel
theorem dX2_front_105 : decode cX2_front 105 = .ok (.ifCond .gt 17, 3) := by decide +kernel
theorem dX2_front_108 : decode cX2_front 108 = .ok (.aload_n 0, 1) := by decide +kernel
theorem dX2_front_109 : decode cX2_front 109 = .ok (.aload_n 1, 1) := by decide +kernel
theorem dX2_front_110 : decode cX2_front 110 = .ok (.lload 4, 2) := by decide +kernel
theorem dX2_front_112 : decode cX2_front 112 = .ok (.l2i, 1) := by decide +kernel
theorem dX2_front_113 : decode cX2_front 113 = .ok (.lload 6, 2) := by decide +kernel
theorem dX2_front_115 : decode cX2_front 115 = .ok (.l2i, 1) := by decide +kernel
theorem dX2_front_116 : decode cX2_front 116 = .ok (.invokevirtual 52, 3) := by decide +kernel
theorem dX2_front_119 : decode cX2_front 119 = .ok (.goto 12, 3) := by decide +kernel
theorem dX2_front_122 : decode cX2_front 122 = .ok (.aload_n 0, 1) := by decide +kernel
theorem dX2_front_123 : decode cX2_front 123 = .ok (.getfield 12, 3) := by decide +kernel
theorem dX2_front_126 : decode cX2_front 126 = .ok (.bipush 7, 2) := by decide +kernel
theorem dX2_front_128 : decode cX2_front 128 = .ok (.invokevirtual 73, 3) := by decide +kernel
theorem dX2_front_131 : decode cX2_front 131 = .ok (.iinc 3 1, 3) := by decide +kernel
theorem dX2_front_134 : decode cX2_front 134 = .ok (.goto (-104), 3) := by decide +kernel
theorem dX2_front_137 : decode cX2_front 137 = .ok (.aload_n 0, 1) := by decide +kernel
theorem dX2_front_138 : decode cX2_front 138 = .ok (.getfield 12, 3) := by decide +kernel
theorem dX2_front_141 : decode cX2_front 141 = .ok (.invokevirtual 56, 3) := by decide +kernel
theorem dX2_front_144 : decode cX2_front 144 = .ok (.return_, 1) := by decide +kernel
theorem dX2_dictionary_0 : decode cX2_dictionary 0 = .ok (.aload_n 0, 1) := by decide +kernel
theorem dX2_dictionary_1 : decode cX2_dictionary 1 = .ok (.getfield 12, 3) := by decide +kernel
theorem dX2_dictionary_4 : decode cX2_dictionary 4 = .ok (.invokevirtual 83, 3) := by decide +kernel
theorem dX2_dictionary_7 : decode cX2_dictionary 7 = .ok (.lstore_n 3, 1) := by decide +kernel
theorem dX2_dictionary_8 : decode cX2_dictionary 8 = .ok (.lload_n 3, 1) := by decide +kernel
theorem dX2_dictionary_9 : decode cX2_dictionary 9 = .ok (.lconst 0, 1) := by decide +kernel
theorem dX2_dictionary_10 : decode cX2_dictionary 10 = .ok (.lcmp, 1) := by decide +kernel
theorem dX2_dictionary_11 : decode cX2_dictionary 11 = .ok (.ifCond .lt 10, 3) := by decide +kernel
theorem dX2_dictionary_14 : decode cX2_dictionary 14 = .ok (.lload_n 3, 1) := by decide +kernel
theorem dX2_dictionary_15 : decode cX2_dictionary 15 = .ok (.iload_n 2, 1) := by decide +kernel
theorem dX2_dictionary_16 : decode cX2_dictionary 16 = .ok (.i2l, 1) := by decide +kernel
theorem dX2_dictionary_17 : decode cX2_dictionary 17 = .ok (.lcmp, 1) := by decide +kernel
theorem dX2_dictionary_18 : decode cX2_dictionary 18 = .ok (.ifCond .le 11, 3) := by decide +kernel
theorem dX2_dictionary_21 : decode cX2_dictionary 21 = .ok (.aload_n 0, 1) := by decide +kernel
theorem dX2_dictionary_22 : decode cX2_dictionary 22 = .ok (.getfield 12, 3) := by decide +kernel
theorem dX2_dictionary_25 : decode cX2_dictionary 25 = .ok (.iconst 4, 1) := by decide +kernel
theorem dX2_dictionary_26 : decode cX2_dictionary 26 = .ok (.invokevirtual 73, 3) := by decide +kernel
theorem dX2_dictionary_29 : decode cX2_dictionary 29 = .ok (.iconst 0, 1) := by decide +kernel
theorem dX2_dictionary_30 : decode cX2_dictionary 30 = .ok (.istore 5, 2) := by decide +kernel
theorem dX2_dictionary_32 : decode cX2_dictionary 32 = .ok (.iload 5, 2) := by decide +kernel
theorem dX2_dictionary_34 : decode cX2_dictionary 34 = .ok (.i2l, 1) := by decide +kernel
theorem dX2_dictionary_35 : decode cX2_dictionary 35 = .ok (.lload_n 3, 1) := by decide +kernel
theorem dX2_dictionary_36 : decode cX2_dictionary 36 = .ok (.lcmp, 1) := by decide +kernel
theorem dX2_dictionary_37 : decode cX2_dictionary 37 = .ok (.ifCond .ge 25, 3) := by decide +kernel
theorem dX2_dictionary_40 : decode cX2_dictionary 40 = .ok (.aload_n 0, 1) := by decide +kernel
theorem dX2_dictionary_41 : decode cX2_dictionary 41 = .ok (.getfield 12, 3) := by decide +kernel
theorem dX2_dictionary_44 : decode cX2_dictionary 44 = .ok (.invokevirtual 44, 3) := by decide +kernel
theorem dX2_dictionary_47 : decode cX2_dictionary 47 = .ok (.ifCond .ne 15, 3) := by decide +kernel
theorem dX2_dictionary_50 : decode cX2_dictionary 50 = .ok (.aload_n 0, 1) := by decide +kernel
theorem dX2_dictionary_51 : decode cX2_dictionary 51 = .ok (.iload 5, 2) := by decide +kernel
theorem dX2_dictionary_53 : decode cX2_dictionary 53 = .ok (.invokevirtual 87, 3) := by decide +kernel
theorem dX2_dictionary_56 : decode cX2_dictionary 56 = .ok (.iinc 5 1, 3) := by decide +kernel
theorem dX2_dictionary_59 : decode cX2_dictionary 59 = .ok (.goto (-27), 3) := by decide +kernel
theorem dX2_dictionary_62 : decode cX2_dictionary 62 = .ok (.aload_n 0, 1) := by decide +kernel
theorem dX2_dictionary_63 : decode cX2_dictionary 63 = .ok (.getfield 12, 3) := by decide +kernel
theorem dX2_dictionary_66 : decode cX2_dictionary 66 = .ok (.invokevirtual 90, 3) := by decide +kernel
theorem dX2_dictionary_69 : decode cX2_dictionary 69 = .ok (.istore 5, 2) := by decide +kernel
theorem dX2_dictionary_71 : decode cX2_dictionary 71 = .ok (.iload 5, 2) := by decide +kernel
theorem dX2_dictionary_73 : decode cX2_dictionary 73 = .ok (.bipush 32, 2) := by decide +kernel
theorem dX2_dictionary_75 : decode cX2_dictionary 75 = .ok (.if_icmp .le 11, 3) := by decide +kernel
theorem dX2_dictionary_78 : decode cX2_dictionary 78 = .ok (.aload_n 0, 1) := by decide +kernel
theorem dX2_dictionary_79 : decode cX2_dictionary 79 = .ok (.getfield 12, 3) := by decide +kernel
theorem dX2_dictionary_82 : decode cX2_dictionary 82 = .ok (.iconst 5, 1) := by decide +kernel
theorem dX2_dictionary_83 : decode cX2_dictionary 83 = .ok (.invokevirtual 73, 3) := by decide +kernel
theorem dX2_dictionary_86 : decode cX2_dictionary 86 = .ok (.aload_n 0, 1) := by decide +kernel
theorem dX2_dictionary_87 : decode cX2_dictionary 87 = .ok (.getfield 32, 3) := by decide +kernel
theorem dX2_dictionary_90 : decode cX2_dictionary 90 = .ok (.aload_n 0, 1) := by decide +kernel
theorem dX2_dictionary_91 : decode cX2_dictionary 91 = .ok (.getfield 12, 3) := by decide +kernel
theorem dX2_dictionary_94 : decode cX2_dictionary 94 = .ok (.iload_n 2, 1) := by decide +kernel
theorem dX2_dictionary_95 : decode cX2_dictionary 95 = .ok (.iload 5, 2) := by decide +kernel
theorem dX2_dictionary_97 : decode cX2_dictionary 97 = .ok (.invokevirtual 93, 3) := by decide +kernel
theorem dX2_dictionary_100 : decode cX2_dictionary 100 = .ok (.aload_n 0, 1) := by decide +kernel
theorem dX2_dictionary_101 : decode cX2_dictionary 101 = .ok (.getfield 12, 3) := by decide +kernel
theorem dX2_dictionary_104 : decode cX2_dictionary 104 = .ok (.invokevirtual 56, 3) := by decide +kernel
theorem dX2_dictionary_107 : decode cX2_dictionary 107 = .ok (.iconst 0, 1) := by decide +kernel
theorem dX2_dictionary_108 : decode cX2_dictionary 108 = .ok (.istore 6, 2) := by decide +kernel
theorem dX2_dictionary_110 : decode cX2_dictionary 110 = .ok (.iload 6, 2) := by decide +kernel
theorem dX2_dictionary_112 : decode cX2_dictionary 112 = .ok (.iload_n 2, 1) := by decide +kernel
theorem dX2_dictionary_113 : decode cX2_dictionary 113 = .ok (.if_icmp .ge 35, 3) := by decide +kernel
theorem dX2_dictionary_116 : decode cX2_dictionary 116 = .ok (.aload_n 0, 1) := by decide +kernel
theorem dX2_dictionary_117 : decode cX2_dictionary 117 = .ok (.getfield 12, 3) := by decide +kernel
theorem dX2_dictionary_120 : decode cX2_dictionary 120 = .ok (.invokevirtual 44, 3) := by decide +kernel
theorem dX2_dictionary_123 : decode cX2_dictionary 123 = .ok (.ifCond .ne 25, 3) := by decide +kernel
theorem dX2_dictionary_126 : decode cX2_dictionary 126 = .ok (.aload_n 0, 1) := by decide +kernel
theorem dX2_dictionary_127 : decode cX2_dictionary 127 = .ok (.aload_n 1, 1) := by decide +kernel
theorem dX2_dictionary_128 : decode cX2_dictionary 128 = .ok (.aload_n 0, 1) := by decide +kernel
theorem dX2_dictionary_129 : decode cX2_dictionary 129 = .ok (.getfield 32, 3) := by decide +kernel
theorem dX2_dictionary_132 : decode cX2_dictionary 132 = .ok (.getfield 99, 3) := by decide +kernel
theorem dX2_dictionary_135 : decode cX2_dictionary 135 = .ok (.iload 6, 2) := by decide +kernel
theorem dX2_dictionary_137 : decode cX2_dictionary 137 = .ok (.laload, 1) := by decide +kernel
theorem dX2_dictionary_138 : decode cX2_dictionary 138 = .ok (.lload_n 3, 1) := by decide +kernel
theorem dX2_dictionary_139 : decode cX2_dictionary 139 = .ok (.invokevirtual 100, 3) := by decide +kernel
theorem dX2_dictionary_142 : decode cX2_dictionary 142 = .ok (.iinc 6 1, 3) := by decide +kernel
theorem dX2_dictionary_145 : decode cX2_dictionary 145 = .ok (.goto (-35), 3) := by decide +kernel
theorem dX2_dictionary_148 : decode cX2_dictionary 148 = .ok (.return_, 1) := by decide +kernel
theorem dX2_isLength_0 : decode cX2_isLength 0 = .ok (.lload_n 0, 1) := by decide +kernel
theorem dX2_isLength_1 : decode cX2_isLength 1 = .ok (.lconst 0, 1) := by decide +kernel
theorem dX2_isLength_2 : decode cX2_isLength 2 = .ok (.lcmp, 1) := by decide +kernel
theorem dX2_isLength_3 : decode cX2_isLength 3 = .ok (.ifCond .lt 15, 3) := by decide +kernel
theorem dX2_isLength_6 : decode cX2_isLength 6 = .ok (.lload_n 0, 1) := by decide +kernel
theorem dX2_isLength_7 : decode cX2_isLength 7 = .ok (.ldc2_w 104, 3) := by decide +kernel
theorem dX2_isLength_10 : decode cX2_isLength 10 = .ok (.lcmp, 1) := by decide +kernel
theorem dX2_isLength_11 : decode cX2_isLength 11 = .ok (.ifCond .gt 7, 3) := by decide +kernel
theorem dX2_isLength_14 : decode cX2_isLength 14 = .ok (.iconst 1, 1) := by decide +kernel
theorem dX2_isLength_15 : decode cX2_isLength 15 = .ok (.goto 4, 3) := by decide +kernel
theorem dX2_isLength_18 : decode cX2_isLength 18 = .ok (.iconst 0, 1) := by decide +kernel
theorem dX2_isLength_19 : decode cX2_isLength 19 = .ok (.ireturn, 1) := by decide +kernel
theorem dX2_textLength_0 : decode cX2_textLength 0 = .ok (.aload_n 0, 1) := by decide +kernel
theorem dX2_textLength_1 : decode cX2_textLength 1 = .ok (.getfield 12, 3) := by decide +kernel
theorem dX2_textLength_4 : decode cX2_textLength 4 = .ok (.invokevirtual 83, 3) := by decide +kernel
theorem dX2_textLength_7 : decode cX2_textLength 7 = .ok (.lstore_n 1, 1) := by decide +kernel
theorem dX2_textLength_8 : decode cX2_textLength 8 = .ok (.lload_n 1, 1) := by decide +kernel
theorem dX2_textLength_9 : decode cX2_textLength 9 = .ok (.invokestatic 69, 3) := by decide +kernel
theorem dX2_textLength_12 : decode cX2_textLength 12 = .ok (.ifCond .ne 12, 3) := by decide +kernel
theorem dX2_textLength_15 : decode cX2_textLength 15 = .ok (.aload_n 0, 1) := by decide +kernel
theorem dX2_textLength_16 : decode cX2_textLength 16 = .ok (.getfield 12, 3) := by decide +kernel
theorem dX2_textLength_19 : decode cX2_textLength 19 = .ok (.bipush 7, 2) := by decide +kernel
theorem dX2_textLength_21 : decode cX2_textLength 21 = .ok (.invokevirtual 73, 3) := by decide +kernel
theorem dX2_textLength_24 : decode cX2_textLength 24 = .ok (.aload_n 0, 1) := by decide +kernel
theorem dX2_textLength_25 : decode cX2_textLength 25 = .ok (.getfield 12, 3) := by decide +kernel
theorem dX2_textLength_28 : decode cX2_textLength 28 = .ok (.invokevirtual 44, 3) := by decide +kernel
theorem dX2_textLength_31 : decode cX2_textLength 31 = .ok (.ifCond .eq 7, 3) := by decide +kernel
theorem dX2_textLength_34 : decode cX2_textLength 34 = .ok (.iconst 0, 1) := by decide +kernel
theorem dX2_textLength_35 : decode cX2_textLength 35 = .ok (.goto 5, 3) := by decide +kernel
theorem dX2_textLength_38 : decode cX2_textLength 38 = .ok (.lload_n 1, 1) := by decide +kernel
theorem dX2_textLength_39 : decode cX2_textLength 39 = .ok (.l2i, 1) := by decide +kernel
theorem dX2_textLength_40 : decode cX2_textLength 40 = .ok (.ireturn, 1) := by decide +kernel
