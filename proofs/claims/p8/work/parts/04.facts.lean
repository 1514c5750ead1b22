theorem zi_X0 : ∀ w ∈ u_ws RX0 TX0 2, w ∈ wG := by decide +kernel
theorem ft_X0 : zm_FT 0 := ⟨_, tyX0, rfl, tyX0_ok, nmX0⟩
theorem zi_X1 : ∀ w ∈ u_ws RX1 TX1 3, w ∈ wG := by decide +kernel
theorem ft_X1 : zm_FT 1 := ⟨_, tyX1, rfl, tyX1_ok, nmX1⟩
theorem zi_X2 : ∀ w ∈ u_ws RX2 TX2 6, w ∈ wG := by decide +kernel
theorem ft_X2 : zm_FT 2 := ⟨_, tyX2, rfl, tyX2_ok, nmX2⟩
theorem zi_X3 : ∀ w ∈ u_ws RX3 TX3 5, w ∈ wG := by decide +kernel
theorem ft_X3 : zm_FT 3 := ⟨_, tyX3, rfl, tyX3_ok, nmX3⟩
theorem zi_X4 : ∀ w ∈ u_ws RX4 TX4 3, w ∈ wG := by decide +kernel
theorem ft_X4 : zm_FT 4 := ⟨_, tyX4, rfl, tyX4_ok, nmX4⟩
theorem zi_X5 : ∀ w ∈ u_ws RX5 TX5 3, w ∈ wG := by decide +kernel
theorem ft_X5 : zm_FT 5 := ⟨_, tyX5, rfl, tyX5_ok, nmX5⟩
theorem zi_X6 : ∀ w ∈ u_ws RX6 TX6 2, w ∈ wG := by decide +kernel
theorem ft_X6 : zm_FT 6 := ⟨_, tyX6, rfl, tyX6_ok, nmX6⟩
theorem zi_X7 : ∀ w ∈ u_ws RX7 TX7 4, w ∈ wG := by decide +kernel
theorem ft_X7 : zm_FT 7 := ⟨_, tyX7, rfl, tyX7_ok, nmX7⟩
theorem zi_X8 : ∀ w ∈ u_ws RX8 TX8 7, w ∈ wG := by decide +kernel
theorem ft_X8 : zm_FT 8 := ⟨_, tyX8, rfl, tyX8_ok, nmX8⟩
theorem zi_X9 : ∀ w ∈ u_ws RX9 TX9 23, w ∈ wG := by decide +kernel
theorem ft_X9 : zm_FT 9 := ⟨_, tyX9, rfl, tyX9_ok, nmX9⟩
theorem zi_objInit : Cond.code objectInit ⟨#[0xb1]⟩ 1 none ∈ wG := zm_inG (List.mem_of_getElem? (i := 69) rfl) rfl
theorem zi_max : Cond.code Lib.Math.max.name Lib.Math.max.code 2 (some .int) ∈ wG := zm_inG (List.mem_of_getElem? (i := 78) rfl) rfl
theorem zi_min : Cond.code Lib.Math.min.name Lib.Math.min.code 2 (some .int) ∈ wG := zm_inG (List.mem_of_getElem? (i := 360) rfl) rfl
theorem zi_minL : Cond.code Lib.MathLoose.min_long.x Lib.MathLoose.min_long.code 4 (some .long) ∈ wG := zm_inG (List.mem_of_getElem? (i := 372) rfl) rfl
theorem zm_outN {x : Int32} {hi : Nat} (hh : hi < 2 ^ 31) (h : ∀ k, k ≤ hi → ¬ x = nI k) : x.toInt < 0 ∨ (hi : Int) < x.toInt := by
  by_cases h0 : x.toInt < 0
  · exact Or.inl h0
  · refine Or.inr ?_
    rcases Int.lt_or_le (hi : Int) x.toInt with h1 | h1
    · exact h1
    · exact absurd (Int32.toInt_inj.mp (by rw [nI_toInt (by omega)]; omega)) (h x.toInt.toNat (by omega))
abbrev M_X0_init : zm_M := (yX0_init, cX0_init, 2, none, 1, 26, 1, 24000)
set_option maxRecDepth 20000 in
theorem sb_X0_init : zm_SB M_X0_init 1 := ⟨zm_inG (List.mem_of_getElem? (i := 74) rfl) rfl, zm_inG (by decide +kernel) rfl, by decide +kernel⟩
abbrev M_X0_put : zm_M := (yX0_put, cX0_put, 2, none, 1, 0, 0, 0)
set_option maxRecDepth 20000 in
theorem sb_X0_put : zm_SB M_X0_put 1 := ⟨zm_inG (List.mem_of_getElem? (i := 282) rfl) rfl, zm_inG (by decide +kernel) rfl, by decide +kernel⟩
abbrev M_X0_putInt : zm_M := (yX0_putInt, cX0_putInt, 2, none, 2, 21, 0, 0)
set_option maxRecDepth 20000 in
theorem sb_X0_putInt : zm_SB M_X0_putInt 1 := ⟨zm_inG (List.mem_of_getElem? (i := 278) rfl) rfl, zm_inG (by decide +kernel) rfl, by decide +kernel⟩
abbrev M_X0_putAll : zm_M := (yX0_putAll, cX0_putAll, 4, none, 1, 26, 0, 0)
set_option maxRecDepth 20000 in
theorem sb_X0_putAll : zm_SB M_X0_putAll 3 := ⟨zm_inG (List.mem_of_getElem? (i := 340) rfl) rfl, zm_inG (by decide +kernel) rfl, by decide +kernel⟩
abbrev M_X0_putVarint : zm_M := (yX0_putVarint, cX0_putVarint, 6, none, 2, 21, 0, 0)
set_option maxRecDepth 20000 in
theorem sb_X0_putVarint : zm_SB M_X0_putVarint 1 := ⟨zm_inG (List.mem_of_getElem? (i := 335) rfl) rfl, zm_inG (by decide +kernel) rfl, by decide +kernel⟩
abbrev M_X0_putZeros : zm_M := (yX0_putZeros, cX0_putZeros, 3, none, 1, 0, 0, 0)
set_option maxRecDepth 20000 in
theorem sb_X0_putZeros : zm_SB M_X0_putZeros 1 := ⟨zm_inG (List.mem_of_getElem? (i := 388) rfl) rfl, zm_inG (by decide +kernel) rfl, by decide +kernel⟩
abbrev M_X0_setBits : zm_M := (yX0_setBits, cX0_setBits, 11, none, 1, 0, 0, 0)
set_option maxRecDepth 20000 in
theorem sb_X0_setBits : zm_SB M_X0_setBits 4 := ⟨zm_inG (List.mem_of_getElem? (i := 392) rfl) rfl, zm_inG (by decide +kernel) rfl, by decide +kernel⟩
abbrev M_X1_init : zm_M := (yX1_init, cX1_init, 1, none, 1, 26, 2, 2004)
set_option maxRecDepth 20000 in
theorem sb_X1_init : zm_SB M_X1_init 0 := ⟨zm_inG (List.mem_of_getElem? (i := 124) rfl) rfl, zm_inG (by decide +kernel) rfl, by decide +kernel⟩
abbrev M_X1_writeOn : zm_M := (yX1_writeOn, cX1_writeOn, 3, none, 4, 87, 0, 0)
set_option maxRecDepth 20000 in
theorem sb_X1_writeOn : zm_SB M_X1_writeOn 1 := ⟨zm_inG (List.mem_of_getElem? (i := 353) rfl) rfl, zm_inG (by decide +kernel) rfl, by decide +kernel⟩
abbrev M_X1_writeBlock : zm_M := (yX1_writeBlock, cX1_writeBlock, 8, none, 3, 60, 0, 0)
set_option maxRecDepth 20000 in
theorem sb_X1_writeBlock : zm_SB M_X1_writeBlock 3 := ⟨zm_inG (List.mem_of_getElem? (i := 364) rfl) rfl, zm_inG (by decide +kernel) rfl, by decide +kernel⟩
abbrev M_X1_leastDifference : zm_M := (yX1_leastDifference, cX1_leastDifference, 6, some .long, 1, 26, 0, 0)
set_option maxRecDepth 20000 in
theorem sb_X1_leastDifference : zm_SB M_X1_leastDifference 2 := ⟨zm_inG (List.mem_of_getElem? (i := 368) rfl) rfl, zm_inG (by decide +kernel) rfl, by decide +kernel⟩
abbrev M_X1_widthOf : zm_M := (yX1_widthOf, cX1_widthOf, 8, some .int, 2, 22, 0, 0)
set_option maxRecDepth 20000 in
theorem sb_X1_widthOf : zm_SB M_X1_widthOf 3 := ⟨zm_inG (List.mem_of_getElem? (i := 376) rfl) rfl, zm_inG (by decide +kernel) rfl, by decide +kernel⟩
abbrev M_X1_writePart : zm_M := (yX1_writePart, cX1_writePart, 11, none, 2, 30, 0, 0)
set_option maxRecDepth 20000 in
theorem sb_X1_writePart : zm_SB M_X1_writePart 5 := ⟨zm_inG (List.mem_of_getElem? (i := 384) rfl) rfl, zm_inG (by decide +kernel) rfl, by decide +kernel⟩
abbrev M_X1_readFrom : zm_M := (yX1_readFrom, cX1_readFrom, 6, none, 5, 96, 0, 0)
set_option maxRecDepth 20000 in
theorem sb_X1_readFrom : zm_SB M_X1_readFrom 1 := ⟨zm_inG (List.mem_of_getElem? (i := 523) rfl) rfl, zm_inG (by decide +kernel) rfl, by decide +kernel⟩
abbrev M_X1_readBlock : zm_M := (yX1_readBlock, cX1_readBlock, 9, none, 4, 68, 0, 0)
set_option maxRecDepth 20000 in
theorem sb_X1_readBlock : zm_SB M_X1_readBlock 3 := ⟨zm_inG (List.mem_of_getElem? (i := 534) rfl) rfl, zm_inG (by decide +kernel) rfl, by decide +kernel⟩
abbrev M_X1_readPart : zm_M := (yX1_readPart, cX1_readPart, 8, none, 2, 29, 0, 0)
set_option maxRecDepth 20000 in
theorem sb_X1_readPart : zm_SB M_X1_readPart 5 := ⟨zm_inG (List.mem_of_getElem? (i := 539) rfl) rfl, zm_inG (by decide +kernel) rfl, by decide +kernel⟩
abbrev M_X1_zigzag : zm_M := (yX1_zigzag, cX1_zigzag, 2, some .long, 1, 0, 0, 0)
set_option maxRecDepth 20000 in
theorem sb_X1_zigzag : zm_SB M_X1_zigzag 1 := ⟨zm_inG (List.mem_of_getElem? (i := 357) rfl) rfl, zm_inG (by decide +kernel) rfl, by decide +kernel⟩
abbrev M_X1_unzigzag : zm_M := (yX1_unzigzag, cX1_unzigzag, 2, some .long, 1, 0, 0, 0)
set_option maxRecDepth 20000 in
theorem sb_X1_unzigzag : zm_SB M_X1_unzigzag 1 := ⟨zm_inG (List.mem_of_getElem? (i := 530) rfl) rfl, zm_inG (by decide +kernel) rfl, by decide +kernel⟩
abbrev M_X2_init : zm_M := (yX2_init, cX2_init, 4, none, 2, 46, 4, 2004)
set_option maxRecDepth 20000 in
theorem sb_X2_init : zm_SB M_X2_init 3 := ⟨zm_inG (List.mem_of_getElem? (i := 203) rfl) rfl, zm_inG (by decide +kernel) rfl, by decide +kernel⟩
abbrev M_X2_open : zm_M := (yX2_open, cX2_open, 2, none, 2, 21, 0, 0)
set_option maxRecDepth 20000 in
theorem sb_X2_open : zm_SB M_X2_open 1 := ⟨zm_inG (List.mem_of_getElem? (i := 463) rfl) rfl, zm_inG (by decide +kernel) rfl, by decide +kernel⟩
abbrev M_X2_fault : zm_M := (yX2_fault, cX2_fault, 1, some .int, 1, 0, 0, 0)
set_option maxRecDepth 20000 in
theorem sb_X2_fault : zm_SB M_X2_fault 0 := ⟨zm_inG (List.mem_of_getElem? (i := 589) rfl) rfl, zm_inG (by decide +kernel) rfl, by decide +kernel⟩
abbrev M_X2_plain : zm_M := (yX2_plain, cX2_plain, 5, none, 5, 90, 0, 0)
set_option maxRecDepth 20000 in
theorem sb_X2_plain : zm_SB M_X2_plain 2 := ⟨zm_inG (List.mem_of_getElem? (i := 471) rfl) rfl, zm_inG (by decide +kernel) rfl, by decide +kernel⟩
abbrev M_X2_lengths : zm_M := (yX2_lengths, cX2_lengths, 4, none, 7, 146, 0, 0)
set_option maxRecDepth 20000 in
theorem sb_X2_lengths : zm_SB M_X2_lengths 2 := ⟨zm_inG (List.mem_of_getElem? (i := 515) rfl) rfl, zm_inG (by decide +kernel) rfl, by decide +kernel⟩
abbrev M_X2_front : zm_M := (yX2_front, cX2_front, 8, none, 7, 146, 0, 0)
set_option maxRecDepth 20000 in
theorem sb_X2_front : zm_SB M_X2_front 2 := ⟨zm_inG (List.mem_of_getElem? (i := 550) rfl) rfl, zm_inG (by decide +kernel) rfl, by decide +kernel⟩
abbrev M_X2_dictionary : zm_M := (yX2_dictionary, cX2_dictionary, 7, none, 6, 122, 0, 0)
set_option maxRecDepth 20000 in
theorem sb_X2_dictionary : zm_SB M_X2_dictionary 2 := ⟨zm_inG (List.mem_of_getElem? (i := 555) rfl) rfl, zm_inG (by decide +kernel) rfl, by decide +kernel⟩
abbrev M_X2_isLength : zm_M := (yX2_isLength, cX2_isLength, 2, some .boolean, 1, 0, 0, 0)
set_option maxRecDepth 20000 in
theorem sb_X2_isLength : zm_SB M_X2_isLength 1 := ⟨zm_inG (List.mem_of_getElem? (i := 495) rfl) rfl, zm_inG (by decide +kernel) rfl, by decide +kernel⟩
abbrev M_X2_textLength : zm_M := (yX2_textLength, cX2_textLength, 3, some .int, 4, 68, 0, 0)
set_option maxRecDepth 20000 in
theorem sb_X2_textLength : zm_SB M_X2_textLength 0 := ⟨zm_inG (List.mem_of_getElem? (i := 479) rfl) rfl, zm_inG (by decide +kernel) rfl, by decide +kernel⟩
abbrev M_X2_takeCode : zm_M := (yX2_takeCode, cX2_takeCode, 6, none, 6, 121, 0, 0)
set_option maxRecDepth 20000 in
theorem sb_X2_takeCode : zm_SB M_X2_takeCode 2 := ⟨zm_inG (List.mem_of_getElem? (i := 519) rfl) rfl, zm_inG (by decide +kernel) rfl, by decide +kernel⟩
abbrev M_X2_takeText : zm_M := (yX2_takeText, cX2_takeText, 4, none, 4, 67, 0, 0)
set_option maxRecDepth 20000 in
theorem sb_X2_takeText : zm_SB M_X2_takeText 3 := ⟨zm_inG (List.mem_of_getElem? (i := 501) rfl) rfl, zm_inG (by decide +kernel) rfl, by decide +kernel⟩
abbrev M_X2_enterText : zm_M := (yX2_enterText, cX2_enterText, 3, none, 5, 90, 0, 0)
set_option maxRecDepth 20000 in
theorem sb_X2_enterText : zm_SB M_X2_enterText 1 := ⟨zm_inG (List.mem_of_getElem? (i := 559) rfl) rfl, zm_inG (by decide +kernel) rfl, by decide +kernel⟩
abbrev M_X2_copyText : zm_M := (yX2_copyText, cX2_copyText, 7, none, 4, 67, 0, 0)
set_option maxRecDepth 20000 in
theorem sb_X2_copyText : zm_SB M_X2_copyText 3 := ⟨zm_inG (List.mem_of_getElem? (i := 585) rfl) rfl, zm_inG (by decide +kernel) rfl, by decide +kernel⟩
abbrev M_X3_init : zm_M := (yX3_init, cX3_init, 4, none, 2, 47, 5, 27053)
set_option maxRecDepth 20000 in
theorem sb_X3_init : zm_SB M_X3_init 3 := ⟨zm_inG (List.mem_of_getElem? (i := 161) rfl) rfl, zm_inG (by decide +kernel) rfl, by decide +kernel⟩
abbrev M_X3_plain : zm_M := (yX3_plain, cX3_plain, 4, none, 4, 72, 0, 0)
set_option maxRecDepth 20000 in
theorem sb_X3_plain : zm_SB M_X3_plain 2 := ⟨zm_inG (List.mem_of_getElem? (i := 326) rfl) rfl, zm_inG (by decide +kernel) rfl, by decide +kernel⟩
abbrev M_X3_lengths : zm_M := (yX3_lengths, cX3_lengths, 4, none, 6, 131, 0, 0)
set_option maxRecDepth 20000 in
theorem sb_X3_lengths : zm_SB M_X3_lengths 2 := ⟨zm_inG (List.mem_of_getElem? (i := 345) rfl) rfl, zm_inG (by decide +kernel) rfl, by decide +kernel⟩
abbrev M_X3_front : zm_M := (yX3_front, cX3_front, 5, none, 6, 131, 0, 0)
set_option maxRecDepth 20000 in
theorem sb_X3_front : zm_SB M_X3_front 2 := ⟨zm_inG (List.mem_of_getElem? (i := 397) rfl) rfl, zm_inG (by decide +kernel) rfl, by decide +kernel⟩
abbrev M_X3_dictionary : zm_M := (yX3_dictionary, cX3_dictionary, 4, none, 5, 99, 0, 0)
set_option maxRecDepth 20000 in
theorem sb_X3_dictionary : zm_SB M_X3_dictionary 2 := ⟨zm_inG (List.mem_of_getElem? (i := 406) rfl) rfl, zm_inG (by decide +kernel) rfl, by decide +kernel⟩
abbrev M_X3_putText : zm_M := (yX3_putText, cX3_putText, 4, none, 3, 49, 0, 0)
set_option maxRecDepth 20000 in
theorem sb_X3_putText : zm_SB M_X3_putText 3 := ⟨zm_inG (List.mem_of_getElem? (i := 330) rfl) rfl, zm_inG (by decide +kernel) rfl, by decide +kernel⟩
abbrev M_X3_putCode : zm_M := (yX3_putCode, cX3_putCode, 3, none, 5, 109, 0, 0)
set_option maxRecDepth 20000 in
theorem sb_X3_putCode : zm_SB M_X3_putCode 2 := ⟨zm_inG (List.mem_of_getElem? (i := 349) rfl) rfl, zm_inG (by decide +kernel) rfl, by decide +kernel⟩
abbrev M_X4_init : zm_M := (yX4_init, cX4_init, 1, none, 1, 26, 2, 3048)
set_option maxRecDepth 20000 in
theorem sb_X4_init : zm_SB M_X4_init 0 := ⟨zm_inG (List.mem_of_getElem? (i := 167) rfl) rfl, zm_inG (by decide +kernel) rfl, by decide +kernel⟩
abbrev M_X4_empty : zm_M := (yX4_empty, cX4_empty, 2, none, 1, 0, 0, 0)
set_option maxRecDepth 20000 in
theorem sb_X4_empty : zm_SB M_X4_empty 0 := ⟨zm_inG (List.mem_of_getElem? (i := 410) rfl) rfl, zm_inG (by decide +kernel) rfl, by decide +kernel⟩
abbrev M_X4_numberOf : zm_M := (yX4_numberOf, cX4_numberOf, 6, some .int, 4, 66, 0, 0)
set_option maxRecDepth 20000 in
theorem sb_X4_numberOf : zm_SB M_X4_numberOf 2 := ⟨zm_inG (List.mem_of_getElem? (i := 414) rfl) rfl, zm_inG (by decide +kernel) rfl, by decide +kernel⟩
abbrev M_X4_enter : zm_M := (yX4_enter, cX4_enter, 3, some .int, 1, 0, 0, 0)
set_option maxRecDepth 20000 in
theorem sb_X4_enter : zm_SB M_X4_enter 2 := ⟨zm_inG (List.mem_of_getElem? (i := 423) rfl) rfl, zm_inG (by decide +kernel) rfl, by decide +kernel⟩
abbrev M_X4_slotOf : zm_M := (yX4_slotOf, cX4_slotOf, 5, some .int, 3, 42, 0, 0)
set_option maxRecDepth 20000 in
theorem sb_X4_slotOf : zm_SB M_X4_slotOf 2 := ⟨zm_inG (List.mem_of_getElem? (i := 417) rfl) rfl, zm_inG (by decide +kernel) rfl, by decide +kernel⟩
abbrev M_X5_init : zm_M := (yX5_init, cX5_init, 1, none, 1, 26, 2, 21001)
set_option maxRecDepth 20000 in
theorem sb_X5_init : zm_SB M_X5_init 0 := ⟨zm_inG (List.mem_of_getElem? (i := 99) rfl) rfl, zm_inG (by decide +kernel) rfl, by decide +kernel⟩
abbrev M_X5_has : zm_M := (yX5_has, cX5_has, 2, some .boolean, 1, 0, 0, 0)
set_option maxRecDepth 20000 in
theorem sb_X5_has : zm_SB M_X5_has 1 := ⟨zm_inG (List.mem_of_getElem? (i := 306) rfl) rfl, zm_inG (by decide +kernel) rfl, by decide +kernel⟩
abbrev M_X5_total : zm_M := (yX5_total, cX5_total, 1, some .int, 1, 0, 0, 0)
set_option maxRecDepth 20000 in
theorem sb_X5_total : zm_SB M_X5_total 0 := ⟨zm_inG (List.mem_of_getElem? (i := 294) rfl) rfl, zm_inG (by decide +kernel) rfl, by decide +kernel⟩
abbrev M_X5_lengthOf : zm_M := (yX5_lengthOf, cX5_lengthOf, 2, some .int, 2, 21, 0, 0)
set_option maxRecDepth 20000 in
theorem sb_X5_lengthOf : zm_SB M_X5_lengthOf 1 := ⟨zm_inG (List.mem_of_getElem? (i := 302) rfl) rfl, zm_inG (by decide +kernel) rfl, by decide +kernel⟩
abbrev M_X5_holdsMore : zm_M := (yX5_holdsMore, cX5_holdsMore, 2, some .boolean, 2, 20, 0, 0)
set_option maxRecDepth 20000 in
theorem sb_X5_holdsMore : zm_SB M_X5_holdsMore 1 := ⟨zm_inG (List.mem_of_getElem? (i := 310) rfl) rfl, zm_inG (by decide +kernel) rfl, by decide +kernel⟩
abbrev M_X5_append : zm_M := (yX5_append, cX5_append, 6, none, 3, 42, 0, 0)
set_option maxRecDepth 20000 in
theorem sb_X5_append : zm_SB M_X5_append 4 := ⟨zm_inG (List.mem_of_getElem? (i := 298) rfl) rfl, zm_inG (by decide +kernel) rfl, by decide +kernel⟩
abbrev M_X5_commonWithLast : zm_M := (yX5_commonWithLast, cX5_commonWithLast, 4, some .int, 3, 42, 0, 0)
set_option maxRecDepth 20000 in
theorem sb_X5_commonWithLast : zm_SB M_X5_commonWithLast 1 := ⟨zm_inG (List.mem_of_getElem? (i := 401) rfl) rfl, zm_inG (by decide +kernel) rfl, by decide +kernel⟩
abbrev M_X5_areSame : zm_M := (yX5_areSame, cX5_areSame, 5, some .boolean, 3, 42, 0, 0)
set_option maxRecDepth 20000 in
theorem sb_X5_areSame : zm_SB M_X5_areSame 2 := ⟨zm_inG (List.mem_of_getElem? (i := 427) rfl) rfl, zm_inG (by decide +kernel) rfl, by decide +kernel⟩
abbrev M_X6_init : zm_M := (yX6_init, cX6_init, 1, none, 1, 26, 1, 1000)
set_option maxRecDepth 20000 in
theorem sb_X6_init : zm_SB M_X6_init 0 := ⟨zm_inG (List.mem_of_getElem? (i := 145) rfl) rfl, zm_inG (by decide +kernel) rfl, by decide +kernel⟩
abbrev M_X6_writeOn : zm_M := (yX6_writeOn, cX6_writeOn, 7, none, 4, 73, 0, 0)
set_option maxRecDepth 20000 in
theorem sb_X6_writeOn : zm_SB M_X6_writeOn 2 := ⟨zm_inG (List.mem_of_getElem? (i := 434) rfl) rfl, zm_inG (by decide +kernel) rfl, by decide +kernel⟩
abbrev M_X6_sameFrom : zm_M := (yX6_sameFrom, cX6_sameFrom, 3, some .int, 1, 0, 0, 0)
set_option maxRecDepth 20000 in
theorem sb_X6_sameFrom : zm_SB M_X6_sameFrom 1 := ⟨zm_inG (List.mem_of_getElem? (i := 438) rfl) rfl, zm_inG (by decide +kernel) rfl, by decide +kernel⟩
abbrev M_X6_groupsFrom : zm_M := (yX6_groupsFrom, cX6_groupsFrom, 3, some .int, 2, 22, 0, 0)
set_option maxRecDepth 20000 in
theorem sb_X6_groupsFrom : zm_SB M_X6_groupsFrom 1 := ⟨zm_inG (List.mem_of_getElem? (i := 450) rfl) rfl, zm_inG (by decide +kernel) rfl, by decide +kernel⟩
abbrev M_X6_writeOne : zm_M := (yX6_writeOne, cX6_writeOne, 6, none, 3, 46, 0, 0)
set_option maxRecDepth 20000 in
theorem sb_X6_writeOne : zm_SB M_X6_writeOne 4 := ⟨zm_inG (List.mem_of_getElem? (i := 442) rfl) rfl, zm_inG (by decide +kernel) rfl, by decide +kernel⟩
abbrev M_X6_writeGroups : zm_M := (yX6_writeGroups, cX6_writeGroups, 8, none, 3, 46, 0, 0)
set_option maxRecDepth 20000 in
theorem sb_X6_writeGroups : zm_SB M_X6_writeGroups 4 := ⟨zm_inG (List.mem_of_getElem? (i := 454) rfl) rfl, zm_inG (by decide +kernel) rfl, by decide +kernel⟩
abbrev M_X6_readFrom : zm_M := (yX6_readFrom, cX6_readFrom, 5, none, 5, 98, 0, 0)
set_option maxRecDepth 20000 in
theorem sb_X6_readFrom : zm_SB M_X6_readFrom 3 := ⟨zm_inG (List.mem_of_getElem? (i := 564) rfl) rfl, zm_inG (by decide +kernel) rfl, by decide +kernel⟩
abbrev M_X6_readRun : zm_M := (yX6_readRun, cX6_readRun, 11, none, 4, 68, 0, 0)
set_option maxRecDepth 20000 in
theorem sb_X6_readRun : zm_SB M_X6_readRun 3 := ⟨zm_inG (List.mem_of_getElem? (i := 569) rfl) rfl, zm_inG (by decide +kernel) rfl, by decide +kernel⟩
abbrev M_X6_readOne : zm_M := (yX6_readOne, cX6_readOne, 8, none, 2, 29, 0, 0)
set_option maxRecDepth 20000 in
theorem sb_X6_readOne : zm_SB M_X6_readOne 3 := ⟨zm_inG (List.mem_of_getElem? (i := 575) rfl) rfl, zm_inG (by decide +kernel) rfl, by decide +kernel⟩
abbrev M_X6_readGroups : zm_M := (yX6_readGroups, cX6_readGroups, 8, none, 2, 29, 0, 0)
set_option maxRecDepth 20000 in
theorem sb_X6_readGroups : zm_SB M_X6_readGroups 4 := ⟨zm_inG (List.mem_of_getElem? (i := 581) rfl) rfl, zm_inG (by decide +kernel) rfl, by decide +kernel⟩
abbrev M_X7_init : zm_M := (yX7_init, cX7_init, 1, none, 1, 26, 1, 0)
set_option maxRecDepth 20000 in
theorem sb_X7_init : zm_SB M_X7_init 0 := ⟨zm_inG (List.mem_of_getElem? (i := 209) rfl) rfl, zm_inG (by decide +kernel) rfl, by decide +kernel⟩
abbrev M_X7_open : zm_M := (yX7_open, cX7_open, 2, none, 1, 0, 0, 0)
set_option maxRecDepth 20000 in
theorem sb_X7_open : zm_SB M_X7_open 1 := ⟨zm_inG (List.mem_of_getElem? (i := 467) rfl) rfl, zm_inG (by decide +kernel) rfl, by decide +kernel⟩
abbrev M_X7_failed : zm_M := (yX7_failed, cX7_failed, 1, some .boolean, 1, 0, 0, 0)
set_option maxRecDepth 20000 in
theorem sb_X7_failed : zm_SB M_X7_failed 0 := ⟨zm_inG (List.mem_of_getElem? (i := 475) rfl) rfl, zm_inG (by decide +kernel) rfl, by decide +kernel⟩
abbrev M_X7_fail : zm_M := (yX7_fail, cX7_fail, 2, none, 1, 0, 0, 0)
set_option maxRecDepth 20000 in
theorem sb_X7_fail : zm_SB M_X7_fail 1 := ⟨zm_inG (List.mem_of_getElem? (i := 492) rfl) rfl, zm_inG (by decide +kernel) rfl, by decide +kernel⟩
abbrev M_X7_holds : zm_M := (yX7_holds, cX7_holds, 3, some .boolean, 1, 0, 0, 0)
set_option maxRecDepth 20000 in
theorem sb_X7_holds : zm_SB M_X7_holds 1 := ⟨zm_inG (List.mem_of_getElem? (i := 506) rfl) rfl, zm_inG (by decide +kernel) rfl, by decide +kernel⟩
abbrev M_X7_nextByte : zm_M := (yX7_nextByte, cX7_nextByte, 2, some .int, 2, 21, 0, 0)
set_option maxRecDepth 20000 in
theorem sb_X7_nextByte : zm_SB M_X7_nextByte 0 := ⟨zm_inG (List.mem_of_getElem? (i := 488) rfl) rfl, zm_inG (by decide +kernel) rfl, by decide +kernel⟩
abbrev M_X7_varint : zm_M := (yX7_varint, cX7_varint, 7, some .long, 3, 42, 0, 0)
set_option maxRecDepth 20000 in
theorem sb_X7_varint : zm_SB M_X7_varint 0 := ⟨zm_inG (List.mem_of_getElem? (i := 483) rfl) rfl, zm_inG (by decide +kernel) rfl, by decide +kernel⟩
abbrev M_X7_bitsAt : zm_M := (yX7_bitsAt, cX7_bitsAt, 10, some .long, 1, 0, 0, 0)
set_option maxRecDepth 20000 in
theorem sb_X7_bitsAt : zm_SB M_X7_bitsAt 2 := ⟨zm_inG (List.mem_of_getElem? (i := 544) rfl) rfl, zm_inG (by decide +kernel) rfl, by decide +kernel⟩
abbrev M_X7_expectEnd : zm_M := (yX7_expectEnd, cX7_expectEnd, 1, none, 2, 21, 0, 0)
set_option maxRecDepth 20000 in
theorem sb_X7_expectEnd : zm_SB M_X7_expectEnd 0 := ⟨zm_inG (List.mem_of_getElem? (i := 511) rfl) rfl, zm_inG (by decide +kernel) rfl, by decide +kernel⟩
abbrev M_X8_init : zm_M := (yX8_init, cX8_init, 4, none, 3, 70, 31, 148098)
set_option maxRecDepth 20000 in
theorem sb_X8_init : zm_SB M_X8_init 0 := ⟨zm_inG (List.mem_of_getElem? (i := 66) rfl) rfl, zm_inG (by decide +kernel) rfl, by decide +kernel⟩
abbrev M_X8_feed : zm_M := (yX8_feed, cX8_feed, 6, some .boolean, 3, 42, 0, 0)
set_option maxRecDepth 20000 in
theorem sb_X8_feed : zm_SB M_X8_feed 5 := ⟨zm_inG (List.mem_of_getElem? (i := 274) rfl) rfl, zm_inG (by decide +kernel) rfl, by decide +kernel⟩
abbrev M_X8_end : zm_M := (yX8_end, cX8_end, 3, some .boolean, 1, 0, 0, 0)
set_option maxRecDepth 20000 in
theorem sb_X8_end : zm_SB M_X8_end 1 := ⟨zm_inG (List.mem_of_getElem? (i := 286) rfl) rfl, zm_inG (by decide +kernel) rfl, by decide +kernel⟩
abbrev M_X8_add : zm_M := (yX8_add, cX8_add, 3, some .boolean, 4, 67, 0, 0)
set_option maxRecDepth 20000 in
theorem sb_X8_add : zm_SB M_X8_add 1 := ⟨zm_inG (List.mem_of_getElem? (i := 290) rfl) rfl, zm_inG (by decide +kernel) rfl, by decide +kernel⟩
abbrev M_X8_clear : zm_M := (yX8_clear, cX8_clear, 1, none, 1, 0, 0, 0)
set_option maxRecDepth 20000 in
theorem sb_X8_clear : zm_SB M_X8_clear 0 := ⟨zm_inG (List.mem_of_getElem? (i := 318) rfl) rfl, zm_inG (by decide +kernel) rfl, by decide +kernel⟩
abbrev M_X8_write : zm_M := (yX8_write, cX8_write, 2, some .int, 7, 155, 0, 0)
set_option maxRecDepth 20000 in
theorem sb_X8_write : zm_SB M_X8_write 1 := ⟨zm_inG (List.mem_of_getElem? (i := 322) rfl) rfl, zm_inG (by decide +kernel) rfl, by decide +kernel⟩
abbrev M_X8_read : zm_M := (yX8_read, cX8_read, 4, some .int, 8, 173, 0, 0)
set_option maxRecDepth 20000 in
theorem sb_X8_read : zm_SB M_X8_read 2 := ⟨zm_inG (List.mem_of_getElem? (i := 459) rfl) rfl, zm_inG (by decide +kernel) rfl, by decide +kernel⟩
abbrev M_X8_turn : zm_M := (yX8_turn, cX8_turn, 1, some .boolean, 2, 49, 0, 0)
set_option maxRecDepth 20000 in
theorem sb_X8_turn : zm_SB M_X8_turn 0 := ⟨zm_inG (List.mem_of_getElem? (i := 593) rfl) rfl, zm_inG (by decide +kernel) rfl, by decide +kernel⟩
abbrev M_X8_size : zm_M := (yX8_size, cX8_size, 1, some .int, 1, 0, 0, 0)
set_option maxRecDepth 20000 in
theorem sb_X8_size : zm_SB M_X8_size 0 := ⟨zm_inG (List.mem_of_getElem? (i := 598) rfl) rfl, zm_inG (by decide +kernel) rfl, by decide +kernel⟩
abbrev M_X8_length : zm_M := (yX8_length, cX8_length, 2, some .int, 3, 42, 0, 0)
set_option maxRecDepth 20000 in
theorem sb_X8_length : zm_SB M_X8_length 1 := ⟨zm_inG (List.mem_of_getElem? (i := 602) rfl) rfl, zm_inG (by decide +kernel) rfl, by decide +kernel⟩
abbrev M_X8_byteOf : zm_M := (yX8_byteOf, cX8_byteOf, 3, some .int, 3, 42, 0, 0)
set_option maxRecDepth 20000 in
theorem sb_X8_byteOf : zm_SB M_X8_byteOf 2 := ⟨zm_inG (List.mem_of_getElem? (i := 608) rfl) rfl, zm_inG (by decide +kernel) rfl, by decide +kernel⟩
abbrev M_X8_output : zm_M := (yX8_output, cX8_output, 2, some .int, 1, 0, 0, 0)
set_option maxRecDepth 20000 in
theorem sb_X8_output : zm_SB M_X8_output 1 := ⟨zm_inG (List.mem_of_getElem? (i := 612) rfl) rfl, zm_inG (by decide +kernel) rfl, by decide +kernel⟩
abbrev M_X8_bitsOf : zm_M := (yX8_bitsOf, cX8_bitsOf, 3, some .int, 1, 0, 0, 0)
set_option maxRecDepth 20000 in
theorem sb_X8_bitsOf : zm_SB M_X8_bitsOf 1 := ⟨zm_inG (List.mem_of_getElem? (i := 379) rfl) rfl, zm_inG (by decide +kernel) rfl, by decide +kernel⟩
abbrev M_X9_init : zm_M := (yX9_init, cX9_init, 1, none, 1, 26, 13, 176011)
set_option maxRecDepth 20000 in
theorem sb_X9_init : zm_SB M_X9_init 0 := ⟨zm_inG (List.mem_of_getElem? (i := 617) rfl) rfl, zm_inG (by decide +kernel) rfl, by decide +kernel⟩
abbrev M_X9_put : zm_M := (yX9_put, cX9_put, 2, none, 1, 0, 0, 0)
set_option maxRecDepth 20000 in
theorem sb_X9_put : zm_SB M_X9_put 1 := ⟨zm_inG (List.mem_of_getElem? (i := 734) rfl) rfl, zm_inG (by decide +kernel) rfl, by decide +kernel⟩
abbrev M_X9_varint : zm_M := (yX9_varint, cX9_varint, 6, some .long, 1, 0, 0, 0)
set_option maxRecDepth 20000 in
theorem sb_X9_varint : zm_SB M_X9_varint 1 := ⟨zm_inG (List.mem_of_getElem? (i := 794) rfl) rfl, zm_inG (by decide +kernel) rfl, by decide +kernel⟩
abbrev M_X9_putVarint : zm_M := (yX9_putVarint, cX9_putVarint, 5, none, 2, 21, 0, 0)
set_option maxRecDepth 20000 in
theorem sb_X9_putVarint : zm_SB M_X9_putVarint 1 := ⟨zm_inG (List.mem_of_getElem? (i := 729) rfl) rfl, zm_inG (by decide +kernel) rfl, by decide +kernel⟩
abbrev M_X9_alike : zm_M := (yX9_alike, cX9_alike, 4, some .int, 1, 0, 0, 0)
set_option maxRecDepth 20000 in
theorem sb_X9_alike : zm_SB M_X9_alike 3 := ⟨zm_inG (List.mem_of_getElem? (i := 782) rfl) rfl, zm_inG (by decide +kernel) rfl, by decide +kernel⟩
abbrev M_X9_writeRuns : zm_M := (yX9_writeRuns, cX9_writeRuns, 11, none, 3, 45, 0, 0)
set_option maxRecDepth 20000 in
theorem sb_X9_writeRuns : zm_SB M_X9_writeRuns 3 := ⟨zm_inG (List.mem_of_getElem? (i := 779) rfl) rfl, zm_inG (by decide +kernel) rfl, by decide +kernel⟩
abbrev M_X9_bitsAt : zm_M := (yX9_bitsAt, cX9_bitsAt, 6, some .int, 1, 0, 0, 0)
set_option maxRecDepth 20000 in
theorem sb_X9_bitsAt : zm_SB M_X9_bitsAt 3 := ⟨zm_inG (List.mem_of_getElem? (i := 838) rfl) rfl, zm_inG (by decide +kernel) rfl, by decide +kernel⟩
abbrev M_X9_readRuns : zm_M := (yX9_readRuns, cX9_readRuns, 10, none, 3, 55, 0, 0)
set_option maxRecDepth 20000 in
theorem sb_X9_readRuns : zm_SB M_X9_readRuns 4 := ⟨zm_inG (List.mem_of_getElem? (i := 830) rfl) rfl, zm_inG (by decide +kernel) rfl, by decide +kernel⟩
abbrev M_X9_readOne : zm_M := (yX9_readOne, cX9_readOne, 11, some .int, 2, 25, 0, 0)
set_option maxRecDepth 20000 in
theorem sb_X9_readOne : zm_SB M_X9_readOne 6 := ⟨zm_inG (List.mem_of_getElem? (i := 834) rfl) rfl, zm_inG (by decide +kernel) rfl, by decide +kernel⟩
abbrev M_X9_readGroups : zm_M := (yX9_readGroups, cX9_readGroups, 10, some .int, 2, 25, 0, 0)
set_option maxRecDepth 20000 in
theorem sb_X9_readGroups : zm_SB M_X9_readGroups 6 := ⟨zm_inG (List.mem_of_getElem? (i := 842) rfl) rfl, zm_inG (by decide +kernel) rfl, by decide +kernel⟩
abbrev M_X9_zigzag : zm_M := (yX9_zigzag, cX9_zigzag, 2, some .long, 1, 0, 0, 0)
set_option maxRecDepth 20000 in
theorem sb_X9_zigzag : zm_SB M_X9_zigzag 1 := ⟨zm_inG (List.mem_of_getElem? (i := 737) rfl) rfl, zm_inG (by decide +kernel) rfl, by decide +kernel⟩
abbrev M_X9_unzigzag : zm_M := (yX9_unzigzag, cX9_unzigzag, 2, some .long, 1, 0, 0, 0)
set_option maxRecDepth 20000 in
theorem sb_X9_unzigzag : zm_SB M_X9_unzigzag 1 := ⟨zm_inG (List.mem_of_getElem? (i := 811) rfl) rfl, zm_inG (by decide +kernel) rfl, by decide +kernel⟩
abbrev M_X9_writeCode : zm_M := (yX9_writeCode, cX9_writeCode, 3, none, 4, 75, 0, 0)
set_option maxRecDepth 20000 in
theorem sb_X9_writeCode : zm_SB M_X9_writeCode 0 := ⟨zm_inG (List.mem_of_getElem? (i := 721) rfl) rfl, zm_inG (by decide +kernel) rfl, by decide +kernel⟩
abbrev M_X9_difference : zm_M := (yX9_difference, cX9_difference, 2, some .long, 1, 0, 0, 0)
set_option maxRecDepth 20000 in
theorem sb_X9_difference : zm_SB M_X9_difference 1 := ⟨zm_inG (List.mem_of_getElem? (i := 743) rfl) rfl, zm_inG (by decide +kernel) rfl, by decide +kernel⟩
abbrev M_X9_writeLongs : zm_M := (yX9_writeLongs, cX9_writeLongs, 6, none, 3, 50, 0, 0)
set_option maxRecDepth 20000 in
theorem sb_X9_writeLongs : zm_SB M_X9_writeLongs 0 := ⟨zm_inG (List.mem_of_getElem? (i := 725) rfl) rfl, zm_inG (by decide +kernel) rfl, by decide +kernel⟩
abbrev M_X9_widthOf : zm_M := (yX9_widthOf, cX9_widthOf, 7, some .int, 2, 21, 0, 0)
set_option maxRecDepth 20000 in
theorem sb_X9_widthOf : zm_SB M_X9_widthOf 3 := ⟨zm_inG (List.mem_of_getElem? (i := 747) rfl) rfl, zm_inG (by decide +kernel) rfl, by decide +kernel⟩
abbrev M_X9_writePart : zm_M := (yX9_writePart, cX9_writePart, 10, none, 2, 21, 0, 0)
set_option maxRecDepth 20000 in
theorem sb_X9_writePart : zm_SB M_X9_writePart 4 := ⟨zm_inG (List.mem_of_getElem? (i := 751) rfl) rfl, zm_inG (by decide +kernel) rfl, by decide +kernel⟩
abbrev M_X9_readCode : zm_M := (yX9_readCode, cX9_readCode, 8, none, 3, 57, 0, 0)
set_option maxRecDepth 20000 in
theorem sb_X9_readCode : zm_SB M_X9_readCode 1 := ⟨zm_inG (List.mem_of_getElem? (i := 807) rfl) rfl, zm_inG (by decide +kernel) rfl, by decide +kernel⟩
abbrev M_X9_readBlock : zm_M := (yX9_readBlock, cX9_readBlock, 13, none, 2, 25, 0, 0)
set_option maxRecDepth 20000 in
theorem sb_X9_readBlock : zm_SB M_X9_readBlock 3 := ⟨zm_inG (List.mem_of_getElem? (i := 815) rfl) rfl, zm_inG (by decide +kernel) rfl, by decide +kernel⟩
abbrev M_X9_feed : zm_M := (yX9_feed, cX9_feed, 8, some .boolean, 1, 0, 0, 0)
set_option maxRecDepth 20000 in
theorem sb_X9_feed : zm_SB M_X9_feed 5 := ⟨zm_inG (List.mem_of_getElem? (i := 693) rfl) rfl, zm_inG (by decide +kernel) rfl, by decide +kernel⟩
abbrev M_X9_end : zm_M := (yX9_end, cX9_end, 3, some .boolean, 1, 0, 0, 0)
set_option maxRecDepth 20000 in
theorem sb_X9_end : zm_SB M_X9_end 1 := ⟨zm_inG (List.mem_of_getElem? (i := 697) rfl) rfl, zm_inG (by decide +kernel) rfl, by decide +kernel⟩
abbrev M_X9_add : zm_M := (yX9_add, cX9_add, 4, some .boolean, 1, 0, 0, 0)
set_option maxRecDepth 20000 in
theorem sb_X9_add : zm_SB M_X9_add 1 := ⟨zm_inG (List.mem_of_getElem? (i := 701) rfl) rfl, zm_inG (by decide +kernel) rfl, by decide +kernel⟩
abbrev M_X9_clear : zm_M := (yX9_clear, cX9_clear, 1, none, 1, 0, 0, 0)
set_option maxRecDepth 20000 in
theorem sb_X9_clear : zm_SB M_X9_clear 0 := ⟨zm_inG (List.mem_of_getElem? (i := 705) rfl) rfl, zm_inG (by decide +kernel) rfl, by decide +kernel⟩
abbrev M_X9_lengthOf : zm_M := (yX9_lengthOf, cX9_lengthOf, 2, some .int, 1, 0, 0, 0)
set_option maxRecDepth 20000 in
theorem sb_X9_lengthOf : zm_SB M_X9_lengthOf 1 := ⟨zm_inG (List.mem_of_getElem? (i := 717) rfl) rfl, zm_inG (by decide +kernel) rfl, by decide +kernel⟩
abbrev M_X9_same : zm_M := (yX9_same, cX9_same, 5, some .boolean, 2, 21, 0, 0)
set_option maxRecDepth 20000 in
theorem sb_X9_same : zm_SB M_X9_same 2 := ⟨zm_inG (List.mem_of_getElem? (i := 771) rfl) rfl, zm_inG (by decide +kernel) rfl, by decide +kernel⟩
abbrev M_X9_firstLike : zm_M := (yX9_firstLike, cX9_firstLike, 3, some .int, 3, 45, 0, 0)
set_option maxRecDepth 20000 in
theorem sb_X9_firstLike : zm_SB M_X9_firstLike 1 := ⟨zm_inG (List.mem_of_getElem? (i := 767) rfl) rfl, zm_inG (by decide +kernel) rfl, by decide +kernel⟩
abbrev M_X9_putText : zm_M := (yX9_putText, cX9_putText, 3, none, 3, 45, 0, 0)
set_option maxRecDepth 20000 in
theorem sb_X9_putText : zm_SB M_X9_putText 1 := ⟨zm_inG (List.mem_of_getElem? (i := 775) rfl) rfl, zm_inG (by decide +kernel) rfl, by decide +kernel⟩
abbrev M_X9_writeLengths : zm_M := (yX9_writeLengths, cX9_writeLengths, 2, none, 5, 97, 0, 0)
set_option maxRecDepth 20000 in
theorem sb_X9_writeLengths : zm_SB M_X9_writeLengths 0 := ⟨zm_inG (List.mem_of_getElem? (i := 713) rfl) rfl, zm_inG (by decide +kernel) rfl, by decide +kernel⟩
abbrev M_X9_inCommon : zm_M := (yX9_inCommon, cX9_inCommon, 3, some .int, 2, 21, 0, 0)
set_option maxRecDepth 20000 in
theorem sb_X9_inCommon : zm_SB M_X9_inCommon 1 := ⟨zm_inG (List.mem_of_getElem? (i := 759) rfl) rfl, zm_inG (by decide +kernel) rfl, by decide +kernel⟩
abbrev M_X9_writeFront : zm_M := (yX9_writeFront, cX9_writeFront, 3, none, 5, 97, 0, 0)
set_option maxRecDepth 20000 in
theorem sb_X9_writeFront : zm_SB M_X9_writeFront 0 := ⟨zm_inG (List.mem_of_getElem? (i := 755) rfl) rfl, zm_inG (by decide +kernel) rfl, by decide +kernel⟩
abbrev M_X9_writeDictionary : zm_M := (yX9_writeDictionary, cX9_writeDictionary, 4, none, 4, 75, 0, 0)
set_option maxRecDepth 20000 in
theorem sb_X9_writeDictionary : zm_SB M_X9_writeDictionary 0 := ⟨zm_inG (List.mem_of_getElem? (i := 763) rfl) rfl, zm_inG (by decide +kernel) rfl, by decide +kernel⟩
abbrev M_X9_write : zm_M := (yX9_write, cX9_write, 3, some .int, 6, 119, 0, 0)
set_option maxRecDepth 20000 in
theorem sb_X9_write : zm_SB M_X9_write 1 := ⟨zm_inG (List.mem_of_getElem? (i := 709) rfl) rfl, zm_inG (by decide +kernel) rfl, by decide +kernel⟩
abbrev M_X9_take : zm_M := (yX9_take, cX9_take, 5, none, 1, 0, 0, 0)
set_option maxRecDepth 20000 in
theorem sb_X9_take : zm_SB M_X9_take 2 := ⟨zm_inG (List.mem_of_getElem? (i := 799) rfl) rfl, zm_inG (by decide +kernel) rfl, by decide +kernel⟩
abbrev M_X9_readPlain : zm_M := (yX9_readPlain, cX9_readPlain, 5, none, 2, 25, 0, 0)
set_option maxRecDepth 20000 in
theorem sb_X9_readPlain : zm_SB M_X9_readPlain 1 := ⟨zm_inG (List.mem_of_getElem? (i := 790) rfl) rfl, zm_inG (by decide +kernel) rfl, by decide +kernel⟩
abbrev M_X9_readLengths : zm_M := (yX9_readLengths, cX9_readLengths, 3, none, 4, 84, 0, 0)
set_option maxRecDepth 20000 in
theorem sb_X9_readLengths : zm_SB M_X9_readLengths 1 := ⟨zm_inG (List.mem_of_getElem? (i := 803) rfl) rfl, zm_inG (by decide +kernel) rfl, by decide +kernel⟩
abbrev M_X9_told : zm_M := (yX9_told, cX9_told, 2, some .int, 1, 0, 0, 0)
set_option maxRecDepth 20000 in
theorem sb_X9_told : zm_SB M_X9_told 1 := ⟨zm_inG (List.mem_of_getElem? (i := 822) rfl) rfl, zm_inG (by decide +kernel) rfl, by decide +kernel⟩
abbrev M_X9_readFront : zm_M := (yX9_readFront, cX9_readFront, 4, none, 4, 84, 0, 0)
set_option maxRecDepth 20000 in
theorem sb_X9_readFront : zm_SB M_X9_readFront 1 := ⟨zm_inG (List.mem_of_getElem? (i := 819) rfl) rfl, zm_inG (by decide +kernel) rfl, by decide +kernel⟩
abbrev M_X9_readDictionary : zm_M := (yX9_readDictionary, cX9_readDictionary, 10, none, 4, 84, 0, 0)
set_option maxRecDepth 20000 in
theorem sb_X9_readDictionary : zm_SB M_X9_readDictionary 1 := ⟨zm_inG (List.mem_of_getElem? (i := 826) rfl) rfl, zm_inG (by decide +kernel) rfl, by decide +kernel⟩
abbrev M_X9_read : zm_M := (yX9_read, cX9_read, 4, some .int, 5, 113, 0, 0)
set_option maxRecDepth 20000 in
theorem sb_X9_read : zm_SB M_X9_read 2 := ⟨zm_inG (List.mem_of_getElem? (i := 786) rfl) rfl, zm_inG (by decide +kernel) rfl, by decide +kernel⟩
abbrev M_X9_turn : zm_M := (yX9_turn, cX9_turn, 2, some .boolean, 1, 0, 0, 0)
set_option maxRecDepth 20000 in
theorem sb_X9_turn : zm_SB M_X9_turn 0 := ⟨zm_inG (List.mem_of_getElem? (i := 847) rfl) rfl, zm_inG (by decide +kernel) rfl, by decide +kernel⟩
abbrev M_X9_size : zm_M := (yX9_size, cX9_size, 1, some .int, 1, 0, 0, 0)
set_option maxRecDepth 20000 in
theorem sb_X9_size : zm_SB M_X9_size 0 := ⟨zm_inG (List.mem_of_getElem? (i := 851) rfl) rfl, zm_inG (by decide +kernel) rfl, by decide +kernel⟩
abbrev M_X9_length : zm_M := (yX9_length, cX9_length, 2, some .int, 2, 21, 0, 0)
set_option maxRecDepth 20000 in
theorem sb_X9_length : zm_SB M_X9_length 1 := ⟨zm_inG (List.mem_of_getElem? (i := 855) rfl) rfl, zm_inG (by decide +kernel) rfl, by decide +kernel⟩
abbrev M_X9_byteOf : zm_M := (yX9_byteOf, cX9_byteOf, 3, some .int, 2, 21, 0, 0)
set_option maxRecDepth 20000 in
theorem sb_X9_byteOf : zm_SB M_X9_byteOf 2 := ⟨zm_inG (List.mem_of_getElem? (i := 859) rfl) rfl, zm_inG (by decide +kernel) rfl, by decide +kernel⟩
abbrev M_X9_output : zm_M := (yX9_output, cX9_output, 2, some .int, 1, 0, 0, 0)
set_option maxRecDepth 20000 in
theorem sb_X9_output : zm_SB M_X9_output 1 := ⟨zm_inG (List.mem_of_getElem? (i := 863) rfl) rfl, zm_inG (by decide +kernel) rfl, by decide +kernel⟩
