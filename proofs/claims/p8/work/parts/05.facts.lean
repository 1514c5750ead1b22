theorem ff_X0_15 : zm_FF RX0 15 0 0 := ⟨_, rfl, zi_X0, by decide, zm_inG (by decide +kernel) rfl⟩
theorem fp_X0_0_0 : zm_FP RX0 0 0 (.array .byte) true := ⟨_, rfl, rfl, by decide +kernel, fun _ => rfl⟩
theorem ff_X0_21 : zm_FF RX0 21 0 1 := ⟨_, rfl, zi_X0, by decide, zm_inG (by decide +kernel) rfl⟩
theorem fp_X0_0_1 : zm_FP RX0 0 1 .int false := ⟨_, rfl, rfl, by decide +kernel, fun z => by cases z⟩
theorem sv_X0_25 : zm_SV RX0 25 0 M_X0_put 1 := ⟨sb_X0_put, ⟨_, rfl, rfl⟩, by decide +kernel⟩
theorem ff_X1_9 : zm_FF RX1 9 1 0 := ⟨_, rfl, zi_X1, by decide, zm_inG (by decide +kernel) rfl⟩
theorem fp_X1_1_0 : zm_FP RX1 1 0 (.array .long) true := ⟨_, rfl, rfl, by decide +kernel, fun _ => rfl⟩
theorem ff_X1_15 : zm_FF RX1 15 1 1 := ⟨_, rfl, zi_X1, by decide, zm_inG (by decide +kernel) rfl⟩
theorem fp_X1_1_1 : zm_FP RX1 1 1 (.array .int) true := ⟨_, rfl, rfl, by decide +kernel, fun _ => rfl⟩
theorem ff_X1_19 : zm_FF RX1 19 1 2 := ⟨_, rfl, zi_X1, by decide, zm_inG (by decide +kernel) rfl⟩
theorem sv_X1_23 : zm_SV RX1 23 0 M_X0_putVarint 1 := ⟨sb_X0_putVarint, ⟨_, rfl, rfl⟩, by decide +kernel⟩
theorem ss_X1_29 : zm_SS RX1 29 M_X1_zigzag 1 := ⟨sb_X1_zigzag, rfl, by decide +kernel⟩
theorem sv_X1_39 : zm_SV RX1 39 1 M_X1_writeBlock 3 := ⟨sb_X1_writeBlock, ⟨_, rfl, rfl⟩, by decide +kernel⟩
theorem sv_X1_43 : zm_SV RX1 43 1 M_X1_leastDifference 2 := ⟨sb_X1_leastDifference, ⟨_, rfl, rfl⟩, by decide +kernel⟩
theorem sv_X1_47 : zm_SV RX1 47 1 M_X1_widthOf 3 := ⟨sb_X1_widthOf, ⟨_, rfl, rfl⟩, by decide +kernel⟩
theorem sv_X1_51 : zm_SV RX1 51 0 M_X0_put 1 := ⟨sb_X0_put, ⟨_, rfl, rfl⟩, by decide +kernel⟩
theorem sv_X1_55 : zm_SV RX1 55 1 M_X1_writePart 5 := ⟨sb_X1_writePart, ⟨_, rfl, rfl⟩, by decide +kernel⟩
theorem sn_X1_66 : zm_SNs RX1 66 RX8 M_X8_bitsOf 1 := ⟨sb_X8_bitsOf, by decide, zm_inG (by decide +kernel) rfl⟩
theorem ff_X1_70 : zm_FF RX1 70 0 1 := ⟨_, rfl, zi_X0, by decide, zm_inG (by decide +kernel) rfl⟩
theorem sv_X1_73 : zm_SV RX1 73 0 M_X0_putZeros 1 := ⟨sb_X0_putZeros, ⟨_, rfl, rfl⟩, by decide +kernel⟩
theorem sv_X1_76 : zm_SV RX1 76 0 M_X0_setBits 4 := ⟨sb_X0_setBits, ⟨_, rfl, rfl⟩, by decide +kernel⟩
theorem fp_X1_1_2 : zm_FP RX1 1 2 .int false := ⟨_, rfl, rfl, by decide +kernel, fun z => by cases z⟩
theorem sv_X1_80 : zm_SV RX1 80 7 M_X7_varint 0 := ⟨sb_X7_varint, ⟨_, rfl, rfl⟩, by decide +kernel⟩
theorem sv_X1_88 : zm_SV RX1 88 7 M_X7_fail 1 := ⟨sb_X7_fail, ⟨_, rfl, rfl⟩, by decide +kernel⟩
theorem sv_X1_91 : zm_SV RX1 91 7 M_X7_failed 0 := ⟨sb_X7_failed, ⟨_, rfl, rfl⟩, by decide +kernel⟩
theorem ss_X1_95 : zm_SS RX1 95 M_X1_unzigzag 1 := ⟨sb_X1_unzigzag, rfl, by decide +kernel⟩
theorem sv_X1_102 : zm_SV RX1 102 7 M_X7_expectEnd 0 := ⟨sb_X7_expectEnd, ⟨_, rfl, rfl⟩, by decide +kernel⟩
theorem sv_X1_98 : zm_SV RX1 98 1 M_X1_readBlock 3 := ⟨sb_X1_readBlock, ⟨_, rfl, rfl⟩, by decide +kernel⟩
theorem sv_X1_105 : zm_SV RX1 105 7 M_X7_nextByte 0 := ⟨sb_X7_nextByte, ⟨_, rfl, rfl⟩, by decide +kernel⟩
theorem sv_X1_109 : zm_SV RX1 109 1 M_X1_readPart 5 := ⟨sb_X1_readPart, ⟨_, rfl, rfl⟩, by decide +kernel⟩
theorem sv_X1_113 : zm_SV RX1 113 7 M_X7_holds 1 := ⟨sb_X7_holds, ⟨_, rfl, rfl⟩, by decide +kernel⟩
theorem sv_X1_117 : zm_SV RX1 117 7 M_X7_bitsAt 2 := ⟨sb_X7_bitsAt, ⟨_, rfl, rfl⟩, by decide +kernel⟩
theorem ff_X1_123 : zm_FF RX1 123 7 1 := ⟨_, rfl, zi_X7, by decide, zm_inG (by decide +kernel) rfl⟩
theorem fp_X1_7_1 : zm_FP RX1 7 1 .int false := ⟨_, rfl, rfl, by decide +kernel, fun z => by cases z⟩
theorem fn_X2_9 : zm_FN RX2 9 7 [.null, .int 0, .int 0, .int 0] 4 := ⟨_, tyX7, rfl, rfl, zi_X7, tyX7_ok, zm_inG (by decide +kernel) rfl, zm_inG (by decide +kernel) rfl, zm_inG (by decide +kernel) rfl, by decide +kernel⟩
theorem sn_X2_11 : zm_SNi RX2 11 RX8 M_X7_init 0 := ⟨sb_X7_init, by decide, rfl, rfl, zm_inG (by decide +kernel) rfl⟩
theorem ff_X2_12 : zm_FF RX2 12 2 0 := ⟨_, rfl, zi_X2, by decide, zm_inG (by decide +kernel) rfl⟩
theorem fp_X2_2_0 : zm_FP RX2 2 0 (.object "TextRows$Scan") true := ⟨_, rfl, rfl, by decide +kernel, fun _ => rfl⟩
theorem ff_X2_18 : zm_FF RX2 18 2 4 := ⟨_, rfl, zi_X2, by decide, zm_inG (by decide +kernel) rfl⟩
theorem fp_X2_2_4 : zm_FP RX2 2 4 (.array .int) true := ⟨_, rfl, rfl, by decide +kernel, fun _ => rfl⟩
theorem ff_X2_22 : zm_FF RX2 22 2 5 := ⟨_, rfl, zi_X2, by decide, zm_inG (by decide +kernel) rfl⟩
theorem fp_X2_2_5 : zm_FP RX2 2 5 (.array .int) true := ⟨_, rfl, rfl, by decide +kernel, fun _ => rfl⟩
theorem ff_X2_25 : zm_FF RX2 25 2 1 := ⟨_, rfl, zi_X2, by decide, zm_inG (by decide +kernel) rfl⟩
theorem fp_X2_2_1 : zm_FP RX2 2 1 (.object "TextRows$Code") true := ⟨_, rfl, rfl, by decide +kernel, fun _ => rfl⟩
theorem ff_X2_29 : zm_FF RX2 29 2 2 := ⟨_, rfl, zi_X2, by decide, zm_inG (by decide +kernel) rfl⟩
theorem fp_X2_2_2 : zm_FP RX2 2 2 (.object "TextRows$Code") true := ⟨_, rfl, rfl, by decide +kernel, fun _ => rfl⟩
theorem ff_X2_32 : zm_FF RX2 32 2 3 := ⟨_, rfl, zi_X2, by decide, zm_inG (by decide +kernel) rfl⟩
theorem fp_X2_2_3 : zm_FP RX2 2 3 (.object "TextRows$Runs") true := ⟨_, rfl, rfl, by decide +kernel, fun _ => rfl⟩
theorem sv_X2_36 : zm_SV RX2 36 7 M_X7_open 1 := ⟨sb_X7_open, ⟨_, rfl, rfl⟩, by decide +kernel⟩
theorem ff_X2_40 : zm_FF RX2 40 7 3 := ⟨_, rfl, zi_X7, by decide, zm_inG (by decide +kernel) rfl⟩
theorem sv_X2_56 : zm_SV RX2 56 7 M_X7_expectEnd 0 := ⟨sb_X7_expectEnd, ⟨_, rfl, rfl⟩, by decide +kernel⟩
theorem sv_X2_44 : zm_SV RX2 44 7 M_X7_failed 0 := ⟨sb_X7_failed, ⟨_, rfl, rfl⟩, by decide +kernel⟩
theorem sv_X2_48 : zm_SV RX2 48 2 M_X2_textLength 0 := ⟨sb_X2_textLength, ⟨_, rfl, rfl⟩, by decide +kernel⟩
theorem sv_X2_52 : zm_SV RX2 52 2 M_X2_takeText 3 := ⟨sb_X2_takeText, ⟨_, rfl, rfl⟩, by decide +kernel⟩
theorem sv_X2_59 : zm_SV RX2 59 2 M_X2_takeCode 2 := ⟨sb_X2_takeCode, ⟨_, rfl, rfl⟩, by decide +kernel⟩
theorem ff_X2_63 : zm_FF RX2 63 1 0 := ⟨_, rfl, zi_X1, by decide, zm_inG (by decide +kernel) rfl⟩
theorem ss_X2_69 : zm_SS RX2 69 M_X2_isLength 1 := ⟨sb_X2_isLength, rfl, by decide +kernel⟩
theorem sv_X2_73 : zm_SV RX2 73 7 M_X7_fail 1 := ⟨sb_X7_fail, ⟨_, rfl, rfl⟩, by decide +kernel⟩
theorem sv_X2_77 : zm_SV RX2 77 5 M_X5_lengthOf 1 := ⟨sb_X5_lengthOf, ⟨_, rfl, rfl⟩, by decide +kernel⟩
theorem sv_X2_83 : zm_SV RX2 83 7 M_X7_varint 0 := ⟨sb_X7_varint, ⟨_, rfl, rfl⟩, by decide +kernel⟩
theorem sv_X2_90 : zm_SV RX2 90 7 M_X7_nextByte 0 := ⟨sb_X7_nextByte, ⟨_, rfl, rfl⟩, by decide +kernel⟩
theorem sv_X2_93 : zm_SV RX2 93 6 M_X6_readFrom 3 := ⟨sb_X6_readFrom, ⟨_, rfl, rfl⟩, by decide +kernel⟩
theorem sv_X2_87 : zm_SV RX2 87 2 M_X2_enterText 1 := ⟨sb_X2_enterText, ⟨_, rfl, rfl⟩, by decide +kernel⟩
theorem ff_X2_99 : zm_FF RX2 99 6 0 := ⟨_, rfl, zi_X6, by decide, zm_inG (by decide +kernel) rfl⟩
theorem sv_X2_100 : zm_SV RX2 100 2 M_X2_copyText 3 := ⟨sb_X2_copyText, ⟨_, rfl, rfl⟩, by decide +kernel⟩
theorem sv_X2_106 : zm_SV RX2 106 7 M_X7_holds 1 := ⟨sb_X7_holds, ⟨_, rfl, rfl⟩, by decide +kernel⟩
theorem ff_X2_109 : zm_FF RX2 109 7 2 := ⟨_, rfl, zi_X7, by decide, zm_inG (by decide +kernel) rfl⟩
theorem ff_X2_112 : zm_FF RX2 112 7 1 := ⟨_, rfl, zi_X7, by decide, zm_inG (by decide +kernel) rfl⟩
theorem fp_X2_7_2 : zm_FP RX2 7 2 .int false := ⟨_, rfl, rfl, by decide +kernel, fun z => by cases z⟩
theorem sv_X2_115 : zm_SV RX2 115 1 M_X1_readFrom 1 := ⟨sb_X1_readFrom, ⟨_, rfl, rfl⟩, by decide +kernel⟩
theorem ff_X2_118 : zm_FF RX2 118 1 2 := ⟨_, rfl, zi_X1, by decide, zm_inG (by decide +kernel) rfl⟩
theorem sv_X2_121 : zm_SV RX2 121 5 M_X5_holdsMore 1 := ⟨sb_X5_holdsMore, ⟨_, rfl, rfl⟩, by decide +kernel⟩
theorem ff_X2_125 : zm_FF RX2 125 7 0 := ⟨_, rfl, zi_X7, by decide, zm_inG (by decide +kernel) rfl⟩
theorem sv_X2_129 : zm_SV RX2 129 5 M_X5_append 4 := ⟨sb_X5_append, ⟨_, rfl, rfl⟩, by decide +kernel⟩
theorem fp_X2_7_1 : zm_FP RX2 7 1 .int false := ⟨_, rfl, rfl, by decide +kernel, fun z => by cases z⟩
theorem fn_X3_9 : zm_FN RX3 9 4 [.null, .null, .int 0] 3 := ⟨_, tyX4, rfl, rfl, zi_X4, tyX4_ok, zm_inG (by decide +kernel) rfl, zm_inG (by decide +kernel) rfl, zm_inG (by decide +kernel) rfl, by decide +kernel⟩
theorem sn_X3_11 : zm_SNi RX3 11 RX8 M_X4_init 0 := ⟨sb_X4_init, by decide, rfl, rfl, zm_inG (by decide +kernel) rfl⟩
theorem ff_X3_12 : zm_FF RX3 12 3 3 := ⟨_, rfl, zi_X3, by decide, zm_inG (by decide +kernel) rfl⟩
theorem fp_X3_3_3 : zm_FP RX3 3 3 (.object "TextRows$Lexicon") true := ⟨_, rfl, rfl, by decide +kernel, fun _ => rfl⟩
theorem fn_X3_18 : zm_FN RX3 18 0 [.null, .int 0] 2 := ⟨_, tyX0, rfl, rfl, zi_X0, tyX0_ok, zm_inG (by decide +kernel) rfl, zm_inG (by decide +kernel) rfl, zm_inG (by decide +kernel) rfl, by decide +kernel⟩
theorem si_X3_20 : zm_SI RX3 20 M_X0_init 1 := ⟨sb_X0_init, rfl, rfl, by decide +kernel⟩
theorem ff_X3_23 : zm_FF RX3 23 3 4 := ⟨_, rfl, zi_X3, by decide, zm_inG (by decide +kernel) rfl⟩
theorem fp_X3_3_4 : zm_FP RX3 3 4 (.object "TextRows$Bytes") true := ⟨_, rfl, rfl, by decide +kernel, fun _ => rfl⟩
theorem ff_X3_27 : zm_FF RX3 27 3 0 := ⟨_, rfl, zi_X3, by decide, zm_inG (by decide +kernel) rfl⟩
theorem fp_X3_3_0 : zm_FP RX3 3 0 (.object "TextRows$Code") true := ⟨_, rfl, rfl, by decide +kernel, fun _ => rfl⟩
theorem ff_X3_31 : zm_FF RX3 31 3 1 := ⟨_, rfl, zi_X3, by decide, zm_inG (by decide +kernel) rfl⟩
theorem fp_X3_3_1 : zm_FP RX3 3 1 (.object "TextRows$Code") true := ⟨_, rfl, rfl, by decide +kernel, fun _ => rfl⟩
theorem ff_X3_34 : zm_FF RX3 34 3 2 := ⟨_, rfl, zi_X3, by decide, zm_inG (by decide +kernel) rfl⟩
theorem fp_X3_3_2 : zm_FP RX3 3 2 (.object "TextRows$Runs") true := ⟨_, rfl, rfl, by decide +kernel, fun _ => rfl⟩
theorem ff_X3_38 : zm_FF RX3 38 5 2 := ⟨_, rfl, zi_X5, by decide, zm_inG (by decide +kernel) rfl⟩
theorem sv_X3_44 : zm_SV RX3 44 3 M_X3_putText 3 := ⟨sb_X3_putText, ⟨_, rfl, rfl⟩, by decide +kernel⟩
theorem ff_X3_48 : zm_FF RX3 48 1 2 := ⟨_, rfl, zi_X1, by decide, zm_inG (by decide +kernel) rfl⟩
theorem fp_X3_1_2 : zm_FP RX3 1 2 .int false := ⟨_, rfl, rfl, by decide +kernel, fun z => by cases z⟩
theorem sv_X3_59 : zm_SV RX3 59 3 M_X3_putCode 2 := ⟨sb_X3_putCode, ⟨_, rfl, rfl⟩, by decide +kernel⟩
theorem ff_X3_63 : zm_FF RX3 63 5 0 := ⟨_, rfl, zi_X5, by decide, zm_inG (by decide +kernel) rfl⟩
theorem sv_X3_67 : zm_SV RX3 67 5 M_X5_total 0 := ⟨sb_X5_total, ⟨_, rfl, rfl⟩, by decide +kernel⟩
theorem sv_X3_71 : zm_SV RX3 71 0 M_X0_putAll 3 := ⟨sb_X0_putAll, ⟨_, rfl, rfl⟩, by decide +kernel⟩
theorem ff_X3_51 : zm_FF RX3 51 1 0 := ⟨_, rfl, zi_X1, by decide, zm_inG (by decide +kernel) rfl⟩
theorem sv_X3_55 : zm_SV RX3 55 5 M_X5_lengthOf 1 := ⟨sb_X5_lengthOf, ⟨_, rfl, rfl⟩, by decide +kernel⟩
theorem sv_X3_75 : zm_SV RX3 75 5 M_X5_commonWithLast 1 := ⟨sb_X5_commonWithLast, ⟨_, rfl, rfl⟩, by decide +kernel⟩
theorem ff_X3_78 : zm_FF RX3 78 5 1 := ⟨_, rfl, zi_X5, by decide, zm_inG (by decide +kernel) rfl⟩
theorem sv_X3_82 : zm_SV RX3 82 4 M_X4_empty 0 := ⟨sb_X4_empty, ⟨_, rfl, rfl⟩, by decide +kernel⟩
theorem ff_X3_85 : zm_FF RX3 85 6 1 := ⟨_, rfl, zi_X6, by decide, zm_inG (by decide +kernel) rfl⟩
theorem fp_X3_6_1 : zm_FP RX3 6 1 .int false := ⟨_, rfl, rfl, by decide +kernel, fun z => by cases z⟩
theorem ff_X3_93 : zm_FF RX3 93 4 2 := ⟨_, rfl, zi_X4, by decide, zm_inG (by decide +kernel) rfl⟩
theorem sv_X3_94 : zm_SV RX3 94 0 M_X0_putVarint 1 := ⟨sb_X0_putVarint, ⟨_, rfl, rfl⟩, by decide +kernel⟩
theorem ff_X3_88 : zm_FF RX3 88 6 0 := ⟨_, rfl, zi_X6, by decide, zm_inG (by decide +kernel) rfl⟩
theorem sv_X3_89 : zm_SV RX3 89 4 M_X4_numberOf 2 := ⟨sb_X4_numberOf, ⟨_, rfl, rfl⟩, by decide +kernel⟩
theorem sn_X3_107 : zm_SNs RX3 107 RX8 M_X8_bitsOf 1 := ⟨sb_X8_bitsOf, by decide, zm_inG (by decide +kernel) rfl⟩
theorem sv_X3_111 : zm_SV RX3 111 0 M_X0_put 1 := ⟨sb_X0_put, ⟨_, rfl, rfl⟩, by decide +kernel⟩
theorem sv_X3_114 : zm_SV RX3 114 6 M_X6_writeOn 2 := ⟨sb_X6_writeOn, ⟨_, rfl, rfl⟩, by decide +kernel⟩
theorem ff_X3_98 : zm_FF RX3 98 4 1 := ⟨_, rfl, zi_X4, by decide, zm_inG (by decide +kernel) rfl⟩
theorem ff_X3_118 : zm_FF RX3 118 0 1 := ⟨_, rfl, zi_X0, by decide, zm_inG (by decide +kernel) rfl⟩
theorem fp_X3_0_1 : zm_FP RX3 0 1 .int false := ⟨_, rfl, rfl, by decide +kernel, fun z => by cases z⟩
theorem sv_X3_121 : zm_SV RX3 121 1 M_X1_writeOn 1 := ⟨sb_X1_writeOn, ⟨_, rfl, rfl⟩, by decide +kernel⟩
theorem ff_X3_124 : zm_FF RX3 124 0 0 := ⟨_, rfl, zi_X0, by decide, zm_inG (by decide +kernel) rfl⟩
theorem ff_X4_9 : zm_FF RX4 9 4 0 := ⟨_, rfl, zi_X4, by decide, zm_inG (by decide +kernel) rfl⟩
theorem fp_X4_4_0 : zm_FP RX4 4 0 (.array .int) true := ⟨_, rfl, rfl, by decide +kernel, fun _ => rfl⟩
theorem ff_X4_15 : zm_FF RX4 15 4 1 := ⟨_, rfl, zi_X4, by decide, zm_inG (by decide +kernel) rfl⟩
theorem fp_X4_4_1 : zm_FP RX4 4 1 (.array .int) true := ⟨_, rfl, rfl, by decide +kernel, fun _ => rfl⟩
theorem ff_X4_18 : zm_FF RX4 18 4 2 := ⟨_, rfl, zi_X4, by decide, zm_inG (by decide +kernel) rfl⟩
theorem fp_X4_4_2 : zm_FP RX4 4 2 .int false := ⟨_, rfl, rfl, by decide +kernel, fun z => by cases z⟩
theorem ss_X4_22 : zm_SS RX4 22 M_X4_slotOf 2 := ⟨sb_X4_slotOf, rfl, by decide +kernel⟩
theorem sv_X4_30 : zm_SV RX4 30 5 M_X5_areSame 2 := ⟨sb_X5_areSame, ⟨_, rfl, rfl⟩, by decide +kernel⟩
theorem sv_X4_26 : zm_SV RX4 26 4 M_X4_enter 2 := ⟨sb_X4_enter, ⟨_, rfl, rfl⟩, by decide +kernel⟩
theorem sv_X4_36 : zm_SV RX4 36 5 M_X5_lengthOf 1 := ⟨sb_X5_lengthOf, ⟨_, rfl, rfl⟩, by decide +kernel⟩
theorem ff_X4_40 : zm_FF RX4 40 5 0 := ⟨_, rfl, zi_X5, by decide, zm_inG (by decide +kernel) rfl⟩
theorem ff_X4_44 : zm_FF RX4 44 5 1 := ⟨_, rfl, zi_X5, by decide, zm_inG (by decide +kernel) rfl⟩
theorem ff_X5_9 : zm_FF RX5 9 5 0 := ⟨_, rfl, zi_X5, by decide, zm_inG (by decide +kernel) rfl⟩
theorem fp_X5_5_0 : zm_FP RX5 5 0 (.array .byte) true := ⟨_, rfl, rfl, by decide +kernel, fun _ => rfl⟩
theorem ff_X5_15 : zm_FF RX5 15 5 1 := ⟨_, rfl, zi_X5, by decide, zm_inG (by decide +kernel) rfl⟩
theorem fp_X5_5_1 : zm_FP RX5 5 1 (.array .int) true := ⟨_, rfl, rfl, by decide +kernel, fun _ => rfl⟩
theorem ff_X5_19 : zm_FF RX5 19 5 2 := ⟨_, rfl, zi_X5, by decide, zm_inG (by decide +kernel) rfl⟩
theorem sv_X5_23 : zm_SV RX5 23 5 M_X5_has 1 := ⟨sb_X5_has, ⟨_, rfl, rfl⟩, by decide +kernel⟩
theorem sv_X5_27 : zm_SV RX5 27 5 M_X5_total 0 := ⟨sb_X5_total, ⟨_, rfl, rfl⟩, by decide +kernel⟩
theorem sv_X5_31 : zm_SV RX5 31 5 M_X5_lengthOf 1 := ⟨sb_X5_lengthOf, ⟨_, rfl, rfl⟩, by decide +kernel⟩
theorem sv_X5_35 : zm_SV RX5 35 5 M_X5_holdsMore 1 := ⟨sb_X5_holdsMore, ⟨_, rfl, rfl⟩, by decide +kernel⟩
theorem fp_X5_5_2 : zm_FP RX5 5 2 .int false := ⟨_, rfl, rfl, by decide +kernel, fun z => by cases z⟩
theorem ff_X6_9 : zm_FF RX6 9 6 0 := ⟨_, rfl, zi_X6, by decide, zm_inG (by decide +kernel) rfl⟩
theorem fp_X6_6_0 : zm_FP RX6 6 0 (.array .long) true := ⟨_, rfl, rfl, by decide +kernel, fun _ => rfl⟩
theorem ff_X6_15 : zm_FF RX6 15 6 1 := ⟨_, rfl, zi_X6, by decide, zm_inG (by decide +kernel) rfl⟩
theorem sv_X6_19 : zm_SV RX6 19 6 M_X6_sameFrom 1 := ⟨sb_X6_sameFrom, ⟨_, rfl, rfl⟩, by decide +kernel⟩
theorem sv_X6_27 : zm_SV RX6 27 6 M_X6_groupsFrom 1 := ⟨sb_X6_groupsFrom, ⟨_, rfl, rfl⟩, by decide +kernel⟩
theorem sv_X6_30 : zm_SV RX6 30 6 M_X6_writeGroups 4 := ⟨sb_X6_writeGroups, ⟨_, rfl, rfl⟩, by decide +kernel⟩
theorem sv_X6_23 : zm_SV RX6 23 6 M_X6_writeOne 4 := ⟨sb_X6_writeOne, ⟨_, rfl, rfl⟩, by decide +kernel⟩
theorem sv_X6_35 : zm_SV RX6 35 0 M_X0_putVarint 1 := ⟨sb_X0_putVarint, ⟨_, rfl, rfl⟩, by decide +kernel⟩
theorem ff_X6_41 : zm_FF RX6 41 0 1 := ⟨_, rfl, zi_X0, by decide, zm_inG (by decide +kernel) rfl⟩
theorem sv_X6_44 : zm_SV RX6 44 0 M_X0_putZeros 1 := ⟨sb_X0_putZeros, ⟨_, rfl, rfl⟩, by decide +kernel⟩
theorem sv_X6_48 : zm_SV RX6 48 0 M_X0_setBits 4 := ⟨sb_X0_setBits, ⟨_, rfl, rfl⟩, by decide +kernel⟩
theorem fp_X6_6_1 : zm_FP RX6 6 1 .int false := ⟨_, rfl, rfl, by decide +kernel, fun z => by cases z⟩
theorem sv_X6_58 : zm_SV RX6 58 7 M_X7_failed 0 := ⟨sb_X7_failed, ⟨_, rfl, rfl⟩, by decide +kernel⟩
theorem sv_X6_64 : zm_SV RX6 64 6 M_X6_readRun 3 := ⟨sb_X6_readRun, ⟨_, rfl, rfl⟩, by decide +kernel⟩
theorem sv_X6_68 : zm_SV RX6 68 7 M_X7_varint 0 := ⟨sb_X7_varint, ⟨_, rfl, rfl⟩, by decide +kernel⟩
theorem sv_X6_78 : zm_SV RX6 78 6 M_X6_readGroups 4 := ⟨sb_X6_readGroups, ⟨_, rfl, rfl⟩, by decide +kernel⟩
theorem sv_X6_75 : zm_SV RX6 75 6 M_X6_readOne 3 := ⟨sb_X6_readOne, ⟨_, rfl, rfl⟩, by decide +kernel⟩
theorem sv_X6_72 : zm_SV RX6 72 7 M_X7_fail 1 := ⟨sb_X7_fail, ⟨_, rfl, rfl⟩, by decide +kernel⟩
theorem sv_X6_82 : zm_SV RX6 82 7 M_X7_holds 1 := ⟨sb_X7_holds, ⟨_, rfl, rfl⟩, by decide +kernel⟩
theorem sv_X6_86 : zm_SV RX6 86 7 M_X7_bitsAt 2 := ⟨sb_X7_bitsAt, ⟨_, rfl, rfl⟩, by decide +kernel⟩
theorem ff_X6_90 : zm_FF RX6 90 7 1 := ⟨_, rfl, zi_X7, by decide, zm_inG (by decide +kernel) rfl⟩
theorem fp_X6_7_1 : zm_FP RX6 7 1 .int false := ⟨_, rfl, rfl, by decide +kernel, fun z => by cases z⟩
theorem ff_X7_9 : zm_FF RX7 9 7 0 := ⟨_, rfl, zi_X7, by decide, zm_inG (by decide +kernel) rfl⟩
theorem fp_X7_7_0 : zm_FP RX7 7 0 (.array .byte) false := ⟨_, rfl, rfl, by decide +kernel, fun z => by cases z⟩
theorem ff_X7_15 : zm_FF RX7 15 0 0 := ⟨_, rfl, zi_X0, by decide, zm_inG (by decide +kernel) rfl⟩
theorem ff_X7_18 : zm_FF RX7 18 7 1 := ⟨_, rfl, zi_X7, by decide, zm_inG (by decide +kernel) rfl⟩
theorem fp_X7_7_1 : zm_FP RX7 7 1 .int false := ⟨_, rfl, rfl, by decide +kernel, fun z => by cases z⟩
theorem ff_X7_22 : zm_FF RX7 22 0 1 := ⟨_, rfl, zi_X0, by decide, zm_inG (by decide +kernel) rfl⟩
theorem ff_X7_25 : zm_FF RX7 25 7 2 := ⟨_, rfl, zi_X7, by decide, zm_inG (by decide +kernel) rfl⟩
theorem fp_X7_7_2 : zm_FP RX7 7 2 .int false := ⟨_, rfl, rfl, by decide +kernel, fun z => by cases z⟩
theorem ff_X7_28 : zm_FF RX7 28 7 3 := ⟨_, rfl, zi_X7, by decide, zm_inG (by decide +kernel) rfl⟩
theorem fp_X7_7_3 : zm_FP RX7 7 3 .int false := ⟨_, rfl, rfl, by decide +kernel, fun z => by cases z⟩
theorem sv_X7_31 : zm_SV RX7 31 7 M_X7_fail 1 := ⟨sb_X7_fail, ⟨_, rfl, rfl⟩, by decide +kernel⟩
theorem sv_X7_35 : zm_SV RX7 35 7 M_X7_failed 0 := ⟨sb_X7_failed, ⟨_, rfl, rfl⟩, by decide +kernel⟩
theorem sv_X7_39 : zm_SV RX7 39 7 M_X7_nextByte 0 := ⟨sb_X7_nextByte, ⟨_, rfl, rfl⟩, by decide +kernel⟩
theorem fn_X8_7 : zm_FN RX8 7 0 [.null, .int 0] 2 := ⟨_, tyX0, rfl, rfl, zi_X0, tyX0_ok, zm_inG (by decide +kernel) rfl, zm_inG (by decide +kernel) rfl, zm_inG (by decide +kernel) rfl, by decide +kernel⟩
theorem si_X8_11 : zm_SI RX8 11 M_X0_init 1 := ⟨sb_X0_init, rfl, rfl, by decide +kernel⟩
theorem ff_X8_14 : zm_FF RX8 14 8 0 := ⟨_, rfl, zi_X8, by decide, zm_inG (by decide +kernel) rfl⟩
theorem fp_X8_8_0 : zm_FP RX8 8 0 (.object "TextRows$Bytes") true := ⟨_, rfl, rfl, by decide +kernel, fun _ => rfl⟩
theorem ff_X8_18 : zm_FF RX8 18 8 3 := ⟨_, rfl, zi_X8, by decide, zm_inG (by decide +kernel) rfl⟩
theorem fp_X8_8_3 : zm_FP RX8 8 3 (.object "TextRows$Bytes") false := ⟨_, rfl, rfl, by decide +kernel, fun z => by cases z⟩
theorem ff_X8_21 : zm_FF RX8 21 8 4 := ⟨_, rfl, zi_X8, by decide, zm_inG (by decide +kernel) rfl⟩
theorem fp_X8_8_4 : zm_FP RX8 8 4 (.object "TextRows$Bytes") false := ⟨_, rfl, rfl, by decide +kernel, fun z => by cases z⟩
theorem fn_X8_24 : zm_FN RX8 24 5 [.null, .null, .int 0] 3 := ⟨_, tyX5, rfl, rfl, zi_X5, tyX5_ok, zm_inG (by decide +kernel) rfl, zm_inG (by decide +kernel) rfl, zm_inG (by decide +kernel) rfl, by decide +kernel⟩
theorem sn_X8_26 : zm_SNi RX8 26 RX8 M_X5_init 0 := ⟨sb_X5_init, by decide, rfl, rfl, zm_inG (by decide +kernel) rfl⟩
theorem ff_X8_27 : zm_FF RX8 27 8 5 := ⟨_, rfl, zi_X8, by decide, zm_inG (by decide +kernel) rfl⟩
theorem fp_X8_8_5 : zm_FP RX8 8 5 (.object "TextRows$Row") false := ⟨_, rfl, rfl, by decide +kernel, fun z => by cases z⟩
theorem ff_X8_31 : zm_FF RX8 31 8 6 := ⟨_, rfl, zi_X8, by decide, zm_inG (by decide +kernel) rfl⟩
theorem fp_X8_8_6 : zm_FP RX8 8 6 (.object "TextRows$Row") false := ⟨_, rfl, rfl, by decide +kernel, fun z => by cases z⟩
theorem fn_X8_34 : zm_FN RX8 34 1 [.null, .null, .int 0] 3 := ⟨_, tyX1, rfl, rfl, zi_X1, tyX1_ok, zm_inG (by decide +kernel) rfl, zm_inG (by decide +kernel) rfl, zm_inG (by decide +kernel) rfl, by decide +kernel⟩
theorem sn_X8_36 : zm_SNi RX8 36 RX8 M_X1_init 0 := ⟨sb_X1_init, by decide, rfl, rfl, zm_inG (by decide +kernel) rfl⟩
theorem fn_X8_37 : zm_FN RX8 37 6 [.null, .int 0] 2 := ⟨_, tyX6, rfl, rfl, zi_X6, tyX6_ok, zm_inG (by decide +kernel) rfl, zm_inG (by decide +kernel) rfl, zm_inG (by decide +kernel) rfl, by decide +kernel⟩
theorem sn_X8_39 : zm_SNi RX8 39 RX8 M_X6_init 0 := ⟨sb_X6_init, by decide, rfl, rfl, zm_inG (by decide +kernel) rfl⟩
theorem fn_X8_40 : zm_FN RX8 40 3 [.null, .null, .null, .null, .null] 5 := ⟨_, tyX3, rfl, rfl, zi_X3, tyX3_ok, zm_inG (by decide +kernel) rfl, zm_inG (by decide +kernel) rfl, zm_inG (by decide +kernel) rfl, by decide +kernel⟩
theorem si_X8_42 : zm_SI RX8 42 M_X3_init 3 := ⟨sb_X3_init, rfl, rfl, by decide +kernel⟩
theorem ff_X8_45 : zm_FF RX8 45 8 1 := ⟨_, rfl, zi_X8, by decide, zm_inG (by decide +kernel) rfl⟩
theorem fp_X8_8_1 : zm_FP RX8 8 1 (.object "TextRows$FormWriter") true := ⟨_, rfl, rfl, by decide +kernel, fun _ => rfl⟩
theorem fn_X8_49 : zm_FN RX8 49 2 [.null, .null, .null, .null, .null, .null] 6 := ⟨_, tyX2, rfl, rfl, zi_X2, tyX2_ok, zm_inG (by decide +kernel) rfl, zm_inG (by decide +kernel) rfl, zm_inG (by decide +kernel) rfl, by decide +kernel⟩
theorem si_X8_51 : zm_SI RX8 51 M_X2_init 3 := ⟨sb_X2_init, rfl, rfl, by decide +kernel⟩
theorem ff_X8_52 : zm_FF RX8 52 8 2 := ⟨_, rfl, zi_X8, by decide, zm_inG (by decide +kernel) rfl⟩
theorem fp_X8_8_2 : zm_FP RX8 8 2 (.object "TextRows$FormReader") true := ⟨_, rfl, rfl, by decide +kernel, fun _ => rfl⟩
theorem ff_X8_56 : zm_FF RX8 56 0 1 := ⟨_, rfl, zi_X0, by decide, zm_inG (by decide +kernel) rfl⟩
theorem sv_X8_60 : zm_SV RX8 60 0 M_X0_putInt 1 := ⟨sb_X0_putInt, ⟨_, rfl, rfl⟩, by decide +kernel⟩
theorem fp_X8_0_1 : zm_FP RX8 0 1 .int false := ⟨_, rfl, rfl, by decide +kernel, fun z => by cases z⟩
theorem ff_X8_63 : zm_FF RX8 63 5 2 := ⟨_, rfl, zi_X5, by decide, zm_inG (by decide +kernel) rfl⟩
theorem sv_X8_66 : zm_SV RX8 66 5 M_X5_total 0 := ⟨sb_X5_total, ⟨_, rfl, rfl⟩, by decide +kernel⟩
theorem ff_X8_70 : zm_FF RX8 70 0 0 := ⟨_, rfl, zi_X0, by decide, zm_inG (by decide +kernel) rfl⟩
theorem sv_X8_74 : zm_SV RX8 74 5 M_X5_append 4 := ⟨sb_X5_append, ⟨_, rfl, rfl⟩, by decide +kernel⟩
theorem fp_X8_5_2 : zm_FP RX8 5 2 .int false := ⟨_, rfl, rfl, by decide +kernel, fun z => by cases z⟩
theorem sv_X8_78 : zm_SV RX8 78 3 M_X3_plain 2 := ⟨sb_X3_plain, ⟨_, rfl, rfl⟩, by decide +kernel⟩
theorem sv_X8_82 : zm_SV RX8 82 3 M_X3_lengths 2 := ⟨sb_X3_lengths, ⟨_, rfl, rfl⟩, by decide +kernel⟩
theorem sv_X8_85 : zm_SV RX8 85 3 M_X3_front 2 := ⟨sb_X3_front, ⟨_, rfl, rfl⟩, by decide +kernel⟩
theorem sv_X8_88 : zm_SV RX8 88 3 M_X3_dictionary 2 := ⟨sb_X3_dictionary, ⟨_, rfl, rfl⟩, by decide +kernel⟩
theorem sv_X8_91 : zm_SV RX8 91 2 M_X2_open 1 := ⟨sb_X2_open, ⟨_, rfl, rfl⟩, by decide +kernel⟩
theorem sv_X8_95 : zm_SV RX8 95 2 M_X2_plain 2 := ⟨sb_X2_plain, ⟨_, rfl, rfl⟩, by decide +kernel⟩
theorem sv_X8_104 : zm_SV RX8 104 2 M_X2_fault 0 := ⟨sb_X2_fault, ⟨_, rfl, rfl⟩, by decide +kernel⟩
theorem sv_X8_98 : zm_SV RX8 98 2 M_X2_lengths 2 := ⟨sb_X2_lengths, ⟨_, rfl, rfl⟩, by decide +kernel⟩
theorem sv_X8_100 : zm_SV RX8 100 2 M_X2_front 2 := ⟨sb_X2_front, ⟨_, rfl, rfl⟩, by decide +kernel⟩
theorem sv_X8_102 : zm_SV RX8 102 2 M_X2_dictionary 2 := ⟨sb_X2_dictionary, ⟨_, rfl, rfl⟩, by decide +kernel⟩
theorem sv_X8_107 : zm_SV RX8 107 0 M_X0_putAll 3 := ⟨sb_X0_putAll, ⟨_, rfl, rfl⟩, by decide +kernel⟩
theorem sv_X8_111 : zm_SV RX8 111 5 M_X5_has 1 := ⟨sb_X5_has, ⟨_, rfl, rfl⟩, by decide +kernel⟩
theorem sv_X8_115 : zm_SV RX8 115 5 M_X5_lengthOf 1 := ⟨sb_X5_lengthOf, ⟨_, rfl, rfl⟩, by decide +kernel⟩
theorem ff_X8_119 : zm_FF RX8 119 5 0 := ⟨_, rfl, zi_X5, by decide, zm_inG (by decide +kernel) rfl⟩
theorem ff_X8_120 : zm_FF RX8 120 5 1 := ⟨_, rfl, zi_X5, by decide, zm_inG (by decide +kernel) rfl⟩
theorem ff_X9_7 : zm_FF RX9 7 9 1 := ⟨_, rfl, zi_X9, by decide, zm_inG (by decide +kernel) rfl⟩
theorem fp_X9_9_1 : zm_FP RX9 9 1 (.array .int) true := ⟨_, rfl, rfl, by decide +kernel, fun _ => rfl⟩
theorem ff_X9_13 : zm_FF RX9 13 9 2 := ⟨_, rfl, zi_X9, by decide, zm_inG (by decide +kernel) rfl⟩
theorem fp_X9_9_2 : zm_FP RX9 9 2 (.array .int) true := ⟨_, rfl, rfl, by decide +kernel, fun _ => rfl⟩
theorem ff_X9_16 : zm_FF RX9 16 9 3 := ⟨_, rfl, zi_X9, by decide, zm_inG (by decide +kernel) rfl⟩
theorem fp_X9_9_3 : zm_FP RX9 9 3 (.array .int) true := ⟨_, rfl, rfl, by decide +kernel, fun _ => rfl⟩
theorem ff_X9_19 : zm_FF RX9 19 9 4 := ⟨_, rfl, zi_X9, by decide, zm_inG (by decide +kernel) rfl⟩
theorem fp_X9_9_4 : zm_FP RX9 9 4 (.array .int) true := ⟨_, rfl, rfl, by decide +kernel, fun _ => rfl⟩
theorem ff_X9_22 : zm_FF RX9 22 9 5 := ⟨_, rfl, zi_X9, by decide, zm_inG (by decide +kernel) rfl⟩
theorem fp_X9_9_5 : zm_FP RX9 9 5 (.array .int) true := ⟨_, rfl, rfl, by decide +kernel, fun _ => rfl⟩
theorem ff_X9_25 : zm_FF RX9 25 9 6 := ⟨_, rfl, zi_X9, by decide, zm_inG (by decide +kernel) rfl⟩
theorem fp_X9_9_6 : zm_FP RX9 9 6 (.array .int) true := ⟨_, rfl, rfl, by decide +kernel, fun _ => rfl⟩
theorem ff_X9_28 : zm_FF RX9 28 9 10 := ⟨_, rfl, zi_X9, by decide, zm_inG (by decide +kernel) rfl⟩
theorem fp_X9_9_10 : zm_FP RX9 9 10 (.array .int) true := ⟨_, rfl, rfl, by decide +kernel, fun _ => rfl⟩
theorem ff_X9_31 : zm_FF RX9 31 9 11 := ⟨_, rfl, zi_X9, by decide, zm_inG (by decide +kernel) rfl⟩
theorem fp_X9_9_11 : zm_FP RX9 9 11 (.array .int) true := ⟨_, rfl, rfl, by decide +kernel, fun _ => rfl⟩
theorem ff_X9_35 : zm_FF RX9 35 9 12 := ⟨_, rfl, zi_X9, by decide, zm_inG (by decide +kernel) rfl⟩
theorem fp_X9_9_12 : zm_FP RX9 9 12 (.array .int) true := ⟨_, rfl, rfl, by decide +kernel, fun _ => rfl⟩
theorem ff_X9_38 : zm_FF RX9 38 9 18 := ⟨_, rfl, zi_X9, by decide, zm_inG (by decide +kernel) rfl⟩
theorem fp_X9_9_18 : zm_FP RX9 9 18 (.array .long) true := ⟨_, rfl, rfl, by decide +kernel, fun _ => rfl⟩
theorem ff_X9_42 : zm_FF RX9 42 9 20 := ⟨_, rfl, zi_X9, by decide, zm_inG (by decide +kernel) rfl⟩
theorem fp_X9_9_20 : zm_FP RX9 9 20 (.array .int) true := ⟨_, rfl, rfl, by decide +kernel, fun _ => rfl⟩
theorem ff_X9_45 : zm_FF RX9 45 9 21 := ⟨_, rfl, zi_X9, by decide, zm_inG (by decide +kernel) rfl⟩
theorem fp_X9_9_21 : zm_FP RX9 9 21 (.array .int) true := ⟨_, rfl, rfl, by decide +kernel, fun _ => rfl⟩
theorem ff_X9_48 : zm_FF RX9 48 9 22 := ⟨_, rfl, zi_X9, by decide, zm_inG (by decide +kernel) rfl⟩
theorem fp_X9_9_22 : zm_FP RX9 9 22 (.array .int) true := ⟨_, rfl, rfl, by decide +kernel, fun _ => rfl⟩
theorem ff_X9_55 : zm_FF RX9 55 9 15 := ⟨_, rfl, zi_X9, by decide, zm_inG (by decide +kernel) rfl⟩
theorem fp_X9_9_15 : zm_FP RX9 9 15 .int false := ⟨_, rfl, rfl, by decide +kernel, fun z => by cases z⟩
theorem ff_X9_58 : zm_FF RX9 58 9 17 := ⟨_, rfl, zi_X9, by decide, zm_inG (by decide +kernel) rfl⟩
theorem ff_X9_61 : zm_FF RX9 61 9 16 := ⟨_, rfl, zi_X9, by decide, zm_inG (by decide +kernel) rfl⟩
theorem fp_X9_9_16 : zm_FP RX9 9 16 .int false := ⟨_, rfl, rfl, by decide +kernel, fun z => by cases z⟩
theorem fp_X9_9_17 : zm_FP RX9 9 17 .int false := ⟨_, rfl, rfl, by decide +kernel, fun z => by cases z⟩
theorem sv_X9_66 : zm_SV RX9 66 9 M_X9_put 1 := ⟨sb_X9_put, ⟨_, rfl, rfl⟩, by decide +kernel⟩
theorem ss_X9_70 : zm_SS RX9 70 M_X9_alike 3 := ⟨sb_X9_alike, rfl, by decide +kernel⟩
theorem sv_X9_76 : zm_SV RX9 76 9 M_X9_putVarint 1 := ⟨sb_X9_putVarint, ⟨_, rfl, rfl⟩, by decide +kernel⟩
theorem sv_X9_80 : zm_SV RX9 80 9 M_X9_varint 1 := ⟨sb_X9_varint, ⟨_, rfl, rfl⟩, by decide +kernel⟩
theorem sv_X9_88 : zm_SV RX9 88 9 M_X9_readGroups 6 := ⟨sb_X9_readGroups, ⟨_, rfl, rfl⟩, by decide +kernel⟩
theorem sv_X9_84 : zm_SV RX9 84 9 M_X9_readOne 6 := ⟨sb_X9_readOne, ⟨_, rfl, rfl⟩, by decide +kernel⟩
theorem sv_X9_91 : zm_SV RX9 91 9 M_X9_bitsAt 3 := ⟨sb_X9_bitsAt, ⟨_, rfl, rfl⟩, by decide +kernel⟩
theorem sv_X9_99 : zm_SV RX9 99 9 M_X9_writeLongs 0 := ⟨sb_X9_writeLongs, ⟨_, rfl, rfl⟩, by decide +kernel⟩
theorem ff_X9_102 : zm_FF RX9 102 9 19 := ⟨_, rfl, zi_X9, by decide, zm_inG (by decide +kernel) rfl⟩
theorem ss_X9_105 : zm_SS RX9 105 M_X9_zigzag 1 := ⟨sb_X9_zigzag, rfl, by decide +kernel⟩
theorem sv_X9_109 : zm_SV RX9 109 9 M_X9_difference 1 := ⟨sb_X9_difference, ⟨_, rfl, rfl⟩, by decide +kernel⟩
theorem sv_X9_112 : zm_SV RX9 112 9 M_X9_widthOf 3 := ⟨sb_X9_widthOf, ⟨_, rfl, rfl⟩, by decide +kernel⟩
theorem sv_X9_116 : zm_SV RX9 116 9 M_X9_writePart 4 := ⟨sb_X9_writePart, ⟨_, rfl, rfl⟩, by decide +kernel⟩
theorem ff_X9_120 : zm_FF RX9 120 9 14 := ⟨_, rfl, zi_X9, by decide, zm_inG (by decide +kernel) rfl⟩
theorem fp_X9_9_19 : zm_FP RX9 9 19 .int false := ⟨_, rfl, rfl, by decide +kernel, fun z => by cases z⟩
theorem ss_X9_125 : zm_SS RX9 125 M_X9_unzigzag 1 := ⟨sb_X9_unzigzag, rfl, by decide +kernel⟩
theorem sv_X9_128 : zm_SV RX9 128 9 M_X9_readBlock 3 := ⟨sb_X9_readBlock, ⟨_, rfl, rfl⟩, by decide +kernel⟩
theorem ff_X9_51 : zm_FF RX9 51 9 0 := ⟨_, rfl, zi_X9, by decide, zm_inG (by decide +kernel) rfl⟩
theorem fp_X9_9_0 : zm_FP RX9 9 0 .int false := ⟨_, rfl, rfl, by decide +kernel, fun z => by cases z⟩
theorem ff_X9_132 : zm_FF RX9 132 9 13 := ⟨_, rfl, zi_X9, by decide, zm_inG (by decide +kernel) rfl⟩
theorem fp_X9_9_13 : zm_FP RX9 9 13 .int false := ⟨_, rfl, rfl, by decide +kernel, fun z => by cases z⟩
theorem fp_X9_9_14 : zm_FP RX9 9 14 .int false := ⟨_, rfl, rfl, by decide +kernel, fun z => by cases z⟩
theorem ff_X9_135 : zm_FF RX9 135 9 7 := ⟨_, rfl, zi_X9, by decide, zm_inG (by decide +kernel) rfl⟩
theorem fp_X9_9_7 : zm_FP RX9 9 7 .int false := ⟨_, rfl, rfl, by decide +kernel, fun z => by cases z⟩
theorem sv_X9_138 : zm_SV RX9 138 9 M_X9_lengthOf 1 := ⟨sb_X9_lengthOf, ⟨_, rfl, rfl⟩, by decide +kernel⟩
theorem sv_X9_142 : zm_SV RX9 142 9 M_X9_same 2 := ⟨sb_X9_same, ⟨_, rfl, rfl⟩, by decide +kernel⟩
theorem sv_X9_146 : zm_SV RX9 146 9 M_X9_writeCode 0 := ⟨sb_X9_writeCode, ⟨_, rfl, rfl⟩, by decide +kernel⟩
theorem sv_X9_149 : zm_SV RX9 149 9 M_X9_inCommon 1 := ⟨sb_X9_inCommon, ⟨_, rfl, rfl⟩, by decide +kernel⟩
theorem sv_X9_152 : zm_SV RX9 152 9 M_X9_firstLike 1 := ⟨sb_X9_firstLike, ⟨_, rfl, rfl⟩, by decide +kernel⟩
theorem sv_X9_155 : zm_SV RX9 155 9 M_X9_putText 1 := ⟨sb_X9_putText, ⟨_, rfl, rfl⟩, by decide +kernel⟩
theorem sv_X9_158 : zm_SV RX9 158 9 M_X9_writeRuns 3 := ⟨sb_X9_writeRuns, ⟨_, rfl, rfl⟩, by decide +kernel⟩
theorem sv_X9_168 : zm_SV RX9 168 9 M_X9_writeDictionary 0 := ⟨sb_X9_writeDictionary, ⟨_, rfl, rfl⟩, by decide +kernel⟩
theorem sv_X9_165 : zm_SV RX9 165 9 M_X9_writeFront 0 := ⟨sb_X9_writeFront, ⟨_, rfl, rfl⟩, by decide +kernel⟩
theorem sv_X9_162 : zm_SV RX9 162 9 M_X9_writeLengths 0 := ⟨sb_X9_writeLengths, ⟨_, rfl, rfl⟩, by decide +kernel⟩
theorem ff_X9_171 : zm_FF RX9 171 9 8 := ⟨_, rfl, zi_X9, by decide, zm_inG (by decide +kernel) rfl⟩
theorem fp_X9_9_8 : zm_FP RX9 9 8 .int false := ⟨_, rfl, rfl, by decide +kernel, fun z => by cases z⟩
theorem sv_X9_176 : zm_SV RX9 176 9 M_X9_take 2 := ⟨sb_X9_take, ⟨_, rfl, rfl⟩, by decide +kernel⟩
theorem sv_X9_180 : zm_SV RX9 180 9 M_X9_readCode 1 := ⟨sb_X9_readCode, ⟨_, rfl, rfl⟩, by decide +kernel⟩
theorem ss_X9_183 : zm_SS RX9 183 M_X9_told 1 := ⟨sb_X9_told, rfl, by decide +kernel⟩
theorem sv_X9_187 : zm_SV RX9 187 9 M_X9_readPlain 1 := ⟨sb_X9_readPlain, ⟨_, rfl, rfl⟩, by decide +kernel⟩
theorem ff_X9_190 : zm_FF RX9 190 9 9 := ⟨_, rfl, zi_X9, by decide, zm_inG (by decide +kernel) rfl⟩
theorem fp_X9_9_9 : zm_FP RX9 9 9 .int false := ⟨_, rfl, rfl, by decide +kernel, fun z => by cases z⟩
theorem sv_X9_193 : zm_SV RX9 193 9 M_X9_readRuns 4 := ⟨sb_X9_readRuns, ⟨_, rfl, rfl⟩, by decide +kernel⟩
theorem sv_X9_203 : zm_SV RX9 203 9 M_X9_readDictionary 1 := ⟨sb_X9_readDictionary, ⟨_, rfl, rfl⟩, by decide +kernel⟩
theorem sv_X9_200 : zm_SV RX9 200 9 M_X9_readFront 1 := ⟨sb_X9_readFront, ⟨_, rfl, rfl⟩, by decide +kernel⟩
theorem sv_X9_197 : zm_SV RX9 197 9 M_X9_readLengths 1 := ⟨sb_X9_readLengths, ⟨_, rfl, rfl⟩, by decide +kernel⟩
