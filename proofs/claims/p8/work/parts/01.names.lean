-- ===== PART A: goes FIRST, ahead of the names: the tables' words, and 'selects' of the private methods out of them =====
/-- a private method of a class that the tables say can be made, by its rows of tables_1 -/
def lw_okq (q : MethodName × Nat) : Prop := (q.1.cls ≠ "java/lang/invoke/MethodHandle" ∧ q.1.cls ≠ "java/lang/invoke/VarHandle") ∧ Cond.instantiable q.1.cls q.2 ∈ tables_1 ∧ Cond.privateMethod q.1 ∈ tables_1 ∧ Cond.instanceMethod q.1 ∈ tables_1
theorem lw_p0 : lw_okq (⟨"TextRows$FormWriter", "putText", "(LTextRows$Row;ILTextRows$Bytes;)V"⟩, 5) := ⟨⟨by decide +kernel, by decide +kernel⟩, List.mem_of_getElem? (i := 109) (by decide +kernel), List.mem_of_getElem? (i := 279) (by decide +kernel), List.mem_of_getElem? (i := 280) (by decide +kernel)⟩
theorem lw_p1 : lw_okq (⟨"TextRows$FormWriter", "putCode", "(LTextRows$Code;LTextRows$Bytes;)V"⟩, 5) := ⟨⟨by decide +kernel, by decide +kernel⟩, List.mem_of_getElem? (i := 109) (by decide +kernel), List.mem_of_getElem? (i := 298) (by decide +kernel), List.mem_of_getElem? (i := 299) (by decide +kernel)⟩
theorem lw_p2 : lw_okq (⟨"TextRows$Code", "writeBlock", "(LTextRows$Bytes;II)V"⟩, 3) := ⟨⟨by decide +kernel, by decide +kernel⟩, List.mem_of_getElem? (i := 72) (by decide +kernel), List.mem_of_getElem? (i := 313) (by decide +kernel), List.mem_of_getElem? (i := 314) (by decide +kernel)⟩
theorem lw_p3 : lw_okq (⟨"TextRows$Code", "leastDifference", "(II)J"⟩, 3) := ⟨⟨by decide +kernel, by decide +kernel⟩, List.mem_of_getElem? (i := 72) (by decide +kernel), List.mem_of_getElem? (i := 317) (by decide +kernel), List.mem_of_getElem? (i := 318) (by decide +kernel)⟩
theorem lw_p4 : lw_okq (⟨"TextRows$Code", "widthOf", "(IIJ)I"⟩, 3) := ⟨⟨by decide +kernel, by decide +kernel⟩, List.mem_of_getElem? (i := 72) (by decide +kernel), List.mem_of_getElem? (i := 325) (by decide +kernel), List.mem_of_getElem? (i := 326) (by decide +kernel)⟩
theorem lw_p5 : lw_okq (⟨"TextRows$Code", "writePart", "(LTextRows$Bytes;IIIJ)V"⟩, 3) := ⟨⟨by decide +kernel, by decide +kernel⟩, List.mem_of_getElem? (i := 72) (by decide +kernel), List.mem_of_getElem? (i := 333) (by decide +kernel), List.mem_of_getElem? (i := 334) (by decide +kernel)⟩
theorem lw_p6 : lw_okq (⟨"TextRows$Lexicon", "enter", "(II)I"⟩, 3) := ⟨⟨by decide +kernel, by decide +kernel⟩, List.mem_of_getElem? (i := 115) (by decide +kernel), List.mem_of_getElem? (i := 372) (by decide +kernel), List.mem_of_getElem? (i := 373) (by decide +kernel)⟩
theorem lw_p7 : lw_okq (⟨"TextRows$Runs", "sameFrom", "(I)I"⟩, 2) := ⟨⟨by decide +kernel, by decide +kernel⟩, List.mem_of_getElem? (i := 93) (by decide +kernel), List.mem_of_getElem? (i := 387) (by decide +kernel), List.mem_of_getElem? (i := 388) (by decide +kernel)⟩
theorem lw_p8 : lw_okq (⟨"TextRows$Runs", "writeOne", "(LTextRows$Bytes;III)V"⟩, 2) := ⟨⟨by decide +kernel, by decide +kernel⟩, List.mem_of_getElem? (i := 93) (by decide +kernel), List.mem_of_getElem? (i := 391) (by decide +kernel), List.mem_of_getElem? (i := 392) (by decide +kernel)⟩
theorem lw_p9 : lw_okq (⟨"TextRows$Runs", "groupsFrom", "(I)I"⟩, 2) := ⟨⟨by decide +kernel, by decide +kernel⟩, List.mem_of_getElem? (i := 93) (by decide +kernel), List.mem_of_getElem? (i := 399) (by decide +kernel), List.mem_of_getElem? (i := 400) (by decide +kernel)⟩
theorem lw_p10 : lw_okq (⟨"TextRows$Runs", "writeGroups", "(LTextRows$Bytes;III)V"⟩, 2) := ⟨⟨by decide +kernel, by decide +kernel⟩, List.mem_of_getElem? (i := 93) (by decide +kernel), List.mem_of_getElem? (i := 403) (by decide +kernel), List.mem_of_getElem? (i := 404) (by decide +kernel)⟩
theorem lw_p11 : lw_okq (⟨"TextRows$FormReader", "textLength", "()I"⟩, 6) := ⟨⟨by decide +kernel, by decide +kernel⟩, List.mem_of_getElem? (i := 151) (by decide +kernel), List.mem_of_getElem? (i := 428) (by decide +kernel), List.mem_of_getElem? (i := 429) (by decide +kernel)⟩
theorem lw_p12 : lw_okq (⟨"TextRows$FormReader", "takeText", "(LTextRows$Row;II)V"⟩, 6) := ⟨⟨by decide +kernel, by decide +kernel⟩, List.mem_of_getElem? (i := 151) (by decide +kernel), List.mem_of_getElem? (i := 450) (by decide +kernel), List.mem_of_getElem? (i := 451) (by decide +kernel)⟩
theorem lw_p13 : lw_okq (⟨"TextRows$FormReader", "takeCode", "(LTextRows$Code;I)V"⟩, 6) := ⟨⟨by decide +kernel, by decide +kernel⟩, List.mem_of_getElem? (i := 151) (by decide +kernel), List.mem_of_getElem? (i := 468) (by decide +kernel), List.mem_of_getElem? (i := 469) (by decide +kernel)⟩
theorem lw_p14 : lw_okq (⟨"TextRows$Code", "readBlock", "(LTextRows$Scan;II)V"⟩, 3) := ⟨⟨by decide +kernel, by decide +kernel⟩, List.mem_of_getElem? (i := 72) (by decide +kernel), List.mem_of_getElem? (i := 483) (by decide +kernel), List.mem_of_getElem? (i := 484) (by decide +kernel)⟩
theorem lw_p15 : lw_okq (⟨"TextRows$Code", "readPart", "(LTextRows$Scan;IIIJ)V"⟩, 3) := ⟨⟨by decide +kernel, by decide +kernel⟩, List.mem_of_getElem? (i := 72) (by decide +kernel), List.mem_of_getElem? (i := 488) (by decide +kernel), List.mem_of_getElem? (i := 489) (by decide +kernel)⟩
def lw_privs_1 : List (MethodName × Nat) := [(⟨"TextRows$FormWriter", "putText", "(LTextRows$Row;ILTextRows$Bytes;)V"⟩, 5), (⟨"TextRows$FormWriter", "putCode", "(LTextRows$Code;LTextRows$Bytes;)V"⟩, 5), (⟨"TextRows$Code", "writeBlock", "(LTextRows$Bytes;II)V"⟩, 3), (⟨"TextRows$Code", "leastDifference", "(II)J"⟩, 3), (⟨"TextRows$Code", "widthOf", "(IIJ)I"⟩, 3), (⟨"TextRows$Code", "writePart", "(LTextRows$Bytes;IIIJ)V"⟩, 3), (⟨"TextRows$Lexicon", "enter", "(II)I"⟩, 3), (⟨"TextRows$Runs", "sameFrom", "(I)I"⟩, 2), (⟨"TextRows$Runs", "writeOne", "(LTextRows$Bytes;III)V"⟩, 2), (⟨"TextRows$Runs", "groupsFrom", "(I)I"⟩, 2), (⟨"TextRows$Runs", "writeGroups", "(LTextRows$Bytes;III)V"⟩, 2), (⟨"TextRows$FormReader", "textLength", "()I"⟩, 6), (⟨"TextRows$FormReader", "takeText", "(LTextRows$Row;II)V"⟩, 6), (⟨"TextRows$FormReader", "takeCode", "(LTextRows$Code;I)V"⟩, 6), (⟨"TextRows$Code", "readBlock", "(LTextRows$Scan;II)V"⟩, 3), (⟨"TextRows$Code", "readPart", "(LTextRows$Scan;IIIJ)V"⟩, 3)]
theorem lw_r1 : ∀ q ∈ lw_privs_1, lw_okq q := List.forall_mem_cons.mpr ⟨lw_p0, List.forall_mem_cons.mpr ⟨lw_p1, List.forall_mem_cons.mpr ⟨lw_p2, List.forall_mem_cons.mpr ⟨lw_p3, List.forall_mem_cons.mpr ⟨lw_p4, List.forall_mem_cons.mpr ⟨lw_p5, List.forall_mem_cons.mpr ⟨lw_p6, List.forall_mem_cons.mpr ⟨lw_p7, List.forall_mem_cons.mpr ⟨lw_p8, List.forall_mem_cons.mpr ⟨lw_p9, List.forall_mem_cons.mpr ⟨lw_p10, List.forall_mem_cons.mpr ⟨lw_p11, List.forall_mem_cons.mpr ⟨lw_p12, List.forall_mem_cons.mpr ⟨lw_p13, List.forall_mem_cons.mpr ⟨lw_p14, List.forall_mem_cons.mpr ⟨lw_p15, fun _ h => absurd h List.not_mem_nil⟩⟩⟩⟩⟩⟩⟩⟩⟩⟩⟩⟩⟩⟩⟩⟩
theorem lw_p16 : lw_okq (⟨"TextRows$FormReader", "enterText", "(I)V"⟩, 6) := ⟨⟨by decide +kernel, by decide +kernel⟩, List.mem_of_getElem? (i := 151) (by decide +kernel), List.mem_of_getElem? (i := 508) (by decide +kernel), List.mem_of_getElem? (i := 509) (by decide +kernel)⟩
theorem lw_p17 : lw_okq (⟨"TextRows$Runs", "readRun", "(LTextRows$Scan;II)V"⟩, 2) := ⟨⟨by decide +kernel, by decide +kernel⟩, List.mem_of_getElem? (i := 93) (by decide +kernel), List.mem_of_getElem? (i := 518) (by decide +kernel), List.mem_of_getElem? (i := 519) (by decide +kernel)⟩
theorem lw_p18 : lw_okq (⟨"TextRows$Runs", "readOne", "(LTextRows$Scan;II)V"⟩, 2) := ⟨⟨by decide +kernel, by decide +kernel⟩, List.mem_of_getElem? (i := 93) (by decide +kernel), List.mem_of_getElem? (i := 524) (by decide +kernel), List.mem_of_getElem? (i := 525) (by decide +kernel)⟩
theorem lw_p19 : lw_okq (⟨"TextRows$Runs", "readGroups", "(LTextRows$Scan;III)V"⟩, 2) := ⟨⟨by decide +kernel, by decide +kernel⟩, List.mem_of_getElem? (i := 93) (by decide +kernel), List.mem_of_getElem? (i := 530) (by decide +kernel), List.mem_of_getElem? (i := 531) (by decide +kernel)⟩
theorem lw_p20 : lw_okq (⟨"TextRows$FormReader", "copyText", "(LTextRows$Row;JJ)V"⟩, 6) := ⟨⟨by decide +kernel, by decide +kernel⟩, List.mem_of_getElem? (i := 151) (by decide +kernel), List.mem_of_getElem? (i := 534) (by decide +kernel), List.mem_of_getElem? (i := 535) (by decide +kernel)⟩
theorem lw_p21 : lw_okq (⟨"TextRowsModel", "writeLengths", "()V"⟩, 23) := ⟨⟨by decide +kernel, by decide +kernel⟩, List.mem_of_getElem? (i := 565) (by decide +kernel), List.mem_of_getElem? (i := 662) (by decide +kernel), List.mem_of_getElem? (i := 663) (by decide +kernel)⟩
theorem lw_p22 : lw_okq (⟨"TextRowsModel", "lengthOf", "(I)I"⟩, 23) := ⟨⟨by decide +kernel, by decide +kernel⟩, List.mem_of_getElem? (i := 565) (by decide +kernel), List.mem_of_getElem? (i := 666) (by decide +kernel), List.mem_of_getElem? (i := 667) (by decide +kernel)⟩
theorem lw_p23 : lw_okq (⟨"TextRowsModel", "writeCode", "()V"⟩, 23) := ⟨⟨by decide +kernel, by decide +kernel⟩, List.mem_of_getElem? (i := 565) (by decide +kernel), List.mem_of_getElem? (i := 670) (by decide +kernel), List.mem_of_getElem? (i := 671) (by decide +kernel)⟩
theorem lw_p24 : lw_okq (⟨"TextRowsModel", "writeLongs", "()V"⟩, 23) := ⟨⟨by decide +kernel, by decide +kernel⟩, List.mem_of_getElem? (i := 565) (by decide +kernel), List.mem_of_getElem? (i := 674) (by decide +kernel), List.mem_of_getElem? (i := 675) (by decide +kernel)⟩
theorem lw_p25 : lw_okq (⟨"TextRowsModel", "putVarint", "(J)V"⟩, 23) := ⟨⟨by decide +kernel, by decide +kernel⟩, List.mem_of_getElem? (i := 565) (by decide +kernel), List.mem_of_getElem? (i := 678) (by decide +kernel), List.mem_of_getElem? (i := 679) (by decide +kernel)⟩
theorem lw_p26 : lw_okq (⟨"TextRowsModel", "put", "(I)V"⟩, 23) := ⟨⟨by decide +kernel, by decide +kernel⟩, List.mem_of_getElem? (i := 565) (by decide +kernel), List.mem_of_getElem? (i := 683) (by decide +kernel), List.mem_of_getElem? (i := 684) (by decide +kernel)⟩
theorem lw_p27 : lw_okq (⟨"TextRowsModel", "difference", "(I)J"⟩, 23) := ⟨⟨by decide +kernel, by decide +kernel⟩, List.mem_of_getElem? (i := 565) (by decide +kernel), List.mem_of_getElem? (i := 692) (by decide +kernel), List.mem_of_getElem? (i := 693) (by decide +kernel)⟩
theorem lw_p28 : lw_okq (⟨"TextRowsModel", "widthOf", "(IIJ)I"⟩, 23) := ⟨⟨by decide +kernel, by decide +kernel⟩, List.mem_of_getElem? (i := 565) (by decide +kernel), List.mem_of_getElem? (i := 696) (by decide +kernel), List.mem_of_getElem? (i := 697) (by decide +kernel)⟩
theorem lw_p29 : lw_okq (⟨"TextRowsModel", "writePart", "(IIJI)V"⟩, 23) := ⟨⟨by decide +kernel, by decide +kernel⟩, List.mem_of_getElem? (i := 565) (by decide +kernel), List.mem_of_getElem? (i := 700) (by decide +kernel), List.mem_of_getElem? (i := 701) (by decide +kernel)⟩
theorem lw_p30 : lw_okq (⟨"TextRowsModel", "writeFront", "()V"⟩, 23) := ⟨⟨by decide +kernel, by decide +kernel⟩, List.mem_of_getElem? (i := 565) (by decide +kernel), List.mem_of_getElem? (i := 704) (by decide +kernel), List.mem_of_getElem? (i := 705) (by decide +kernel)⟩
theorem lw_p31 : lw_okq (⟨"TextRowsModel", "inCommon", "(I)I"⟩, 23) := ⟨⟨by decide +kernel, by decide +kernel⟩, List.mem_of_getElem? (i := 565) (by decide +kernel), List.mem_of_getElem? (i := 708) (by decide +kernel), List.mem_of_getElem? (i := 709) (by decide +kernel)⟩
def lw_privs_2 : List (MethodName × Nat) := [(⟨"TextRows$FormReader", "enterText", "(I)V"⟩, 6), (⟨"TextRows$Runs", "readRun", "(LTextRows$Scan;II)V"⟩, 2), (⟨"TextRows$Runs", "readOne", "(LTextRows$Scan;II)V"⟩, 2), (⟨"TextRows$Runs", "readGroups", "(LTextRows$Scan;III)V"⟩, 2), (⟨"TextRows$FormReader", "copyText", "(LTextRows$Row;JJ)V"⟩, 6), (⟨"TextRowsModel", "writeLengths", "()V"⟩, 23), (⟨"TextRowsModel", "lengthOf", "(I)I"⟩, 23), (⟨"TextRowsModel", "writeCode", "()V"⟩, 23), (⟨"TextRowsModel", "writeLongs", "()V"⟩, 23), (⟨"TextRowsModel", "putVarint", "(J)V"⟩, 23), (⟨"TextRowsModel", "put", "(I)V"⟩, 23), (⟨"TextRowsModel", "difference", "(I)J"⟩, 23), (⟨"TextRowsModel", "widthOf", "(IIJ)I"⟩, 23), (⟨"TextRowsModel", "writePart", "(IIJI)V"⟩, 23), (⟨"TextRowsModel", "writeFront", "()V"⟩, 23), (⟨"TextRowsModel", "inCommon", "(I)I"⟩, 23)]
theorem lw_r2 : ∀ q ∈ lw_privs_2, lw_okq q := List.forall_mem_cons.mpr ⟨lw_p16, List.forall_mem_cons.mpr ⟨lw_p17, List.forall_mem_cons.mpr ⟨lw_p18, List.forall_mem_cons.mpr ⟨lw_p19, List.forall_mem_cons.mpr ⟨lw_p20, List.forall_mem_cons.mpr ⟨lw_p21, List.forall_mem_cons.mpr ⟨lw_p22, List.forall_mem_cons.mpr ⟨lw_p23, List.forall_mem_cons.mpr ⟨lw_p24, List.forall_mem_cons.mpr ⟨lw_p25, List.forall_mem_cons.mpr ⟨lw_p26, List.forall_mem_cons.mpr ⟨lw_p27, List.forall_mem_cons.mpr ⟨lw_p28, List.forall_mem_cons.mpr ⟨lw_p29, List.forall_mem_cons.mpr ⟨lw_p30, List.forall_mem_cons.mpr ⟨lw_p31, fun _ h => absurd h List.not_mem_nil⟩⟩⟩⟩⟩⟩⟩⟩⟩⟩⟩⟩⟩⟩⟩⟩
theorem lw_p32 : lw_okq (⟨"TextRowsModel", "writeDictionary", "()V"⟩, 23) := ⟨⟨by decide +kernel, by decide +kernel⟩, List.mem_of_getElem? (i := 565) (by decide +kernel), List.mem_of_getElem? (i := 712) (by decide +kernel), List.mem_of_getElem? (i := 713) (by decide +kernel)⟩
theorem lw_p33 : lw_okq (⟨"TextRowsModel", "firstLike", "(I)I"⟩, 23) := ⟨⟨by decide +kernel, by decide +kernel⟩, List.mem_of_getElem? (i := 565) (by decide +kernel), List.mem_of_getElem? (i := 716) (by decide +kernel), List.mem_of_getElem? (i := 717) (by decide +kernel)⟩
theorem lw_p34 : lw_okq (⟨"TextRowsModel", "same", "(II)Z"⟩, 23) := ⟨⟨by decide +kernel, by decide +kernel⟩, List.mem_of_getElem? (i := 565) (by decide +kernel), List.mem_of_getElem? (i := 720) (by decide +kernel), List.mem_of_getElem? (i := 721) (by decide +kernel)⟩
theorem lw_p35 : lw_okq (⟨"TextRowsModel", "putText", "(I)V"⟩, 23) := ⟨⟨by decide +kernel, by decide +kernel⟩, List.mem_of_getElem? (i := 565) (by decide +kernel), List.mem_of_getElem? (i := 724) (by decide +kernel), List.mem_of_getElem? (i := 725) (by decide +kernel)⟩
theorem lw_p36 : lw_okq (⟨"TextRowsModel", "writeRuns", "([III)V"⟩, 23) := ⟨⟨by decide +kernel, by decide +kernel⟩, List.mem_of_getElem? (i := 565) (by decide +kernel), List.mem_of_getElem? (i := 728) (by decide +kernel), List.mem_of_getElem? (i := 729) (by decide +kernel)⟩
theorem lw_p37 : lw_okq (⟨"TextRowsModel", "readPlain", "(I)V"⟩, 23) := ⟨⟨by decide +kernel, by decide +kernel⟩, List.mem_of_getElem? (i := 565) (by decide +kernel), List.mem_of_getElem? (i := 739) (by decide +kernel), List.mem_of_getElem? (i := 740) (by decide +kernel)⟩
theorem lw_p38 : lw_okq (⟨"TextRowsModel", "varint", "(I)J"⟩, 23) := ⟨⟨by decide +kernel, by decide +kernel⟩, List.mem_of_getElem? (i := 565) (by decide +kernel), List.mem_of_getElem? (i := 743) (by decide +kernel), List.mem_of_getElem? (i := 744) (by decide +kernel)⟩
theorem lw_p39 : lw_okq (⟨"TextRowsModel", "take", "(II)V"⟩, 23) := ⟨⟨by decide +kernel, by decide +kernel⟩, List.mem_of_getElem? (i := 565) (by decide +kernel), List.mem_of_getElem? (i := 748) (by decide +kernel), List.mem_of_getElem? (i := 749) (by decide +kernel)⟩
theorem lw_p40 : lw_okq (⟨"TextRowsModel", "readLengths", "(I)V"⟩, 23) := ⟨⟨by decide +kernel, by decide +kernel⟩, List.mem_of_getElem? (i := 565) (by decide +kernel), List.mem_of_getElem? (i := 752) (by decide +kernel), List.mem_of_getElem? (i := 753) (by decide +kernel)⟩
theorem lw_p41 : lw_okq (⟨"TextRowsModel", "readCode", "(I)V"⟩, 23) := ⟨⟨by decide +kernel, by decide +kernel⟩, List.mem_of_getElem? (i := 565) (by decide +kernel), List.mem_of_getElem? (i := 756) (by decide +kernel), List.mem_of_getElem? (i := 757) (by decide +kernel)⟩
theorem lw_p42 : lw_okq (⟨"TextRowsModel", "readBlock", "(III)V"⟩, 23) := ⟨⟨by decide +kernel, by decide +kernel⟩, List.mem_of_getElem? (i := 565) (by decide +kernel), List.mem_of_getElem? (i := 764) (by decide +kernel), List.mem_of_getElem? (i := 765) (by decide +kernel)⟩
theorem lw_p43 : lw_okq (⟨"TextRowsModel", "readFront", "(I)V"⟩, 23) := ⟨⟨by decide +kernel, by decide +kernel⟩, List.mem_of_getElem? (i := 565) (by decide +kernel), List.mem_of_getElem? (i := 768) (by decide +kernel), List.mem_of_getElem? (i := 769) (by decide +kernel)⟩
theorem lw_p44 : lw_okq (⟨"TextRowsModel", "readDictionary", "(I)V"⟩, 23) := ⟨⟨by decide +kernel, by decide +kernel⟩, List.mem_of_getElem? (i := 565) (by decide +kernel), List.mem_of_getElem? (i := 775) (by decide +kernel), List.mem_of_getElem? (i := 776) (by decide +kernel)⟩
theorem lw_p45 : lw_okq (⟨"TextRowsModel", "readRuns", "([IIII)V"⟩, 23) := ⟨⟨by decide +kernel, by decide +kernel⟩, List.mem_of_getElem? (i := 565) (by decide +kernel), List.mem_of_getElem? (i := 779) (by decide +kernel), List.mem_of_getElem? (i := 780) (by decide +kernel)⟩
theorem lw_p46 : lw_okq (⟨"TextRowsModel", "readOne", "([IIIIIJ)I"⟩, 23) := ⟨⟨by decide +kernel, by decide +kernel⟩, List.mem_of_getElem? (i := 565) (by decide +kernel), List.mem_of_getElem? (i := 783) (by decide +kernel), List.mem_of_getElem? (i := 784) (by decide +kernel)⟩
theorem lw_p47 : lw_okq (⟨"TextRowsModel", "bitsAt", "(III)I"⟩, 23) := ⟨⟨by decide +kernel, by decide +kernel⟩, List.mem_of_getElem? (i := 565) (by decide +kernel), List.mem_of_getElem? (i := 787) (by decide +kernel), List.mem_of_getElem? (i := 788) (by decide +kernel)⟩
def lw_privs_3 : List (MethodName × Nat) := [(⟨"TextRowsModel", "writeDictionary", "()V"⟩, 23), (⟨"TextRowsModel", "firstLike", "(I)I"⟩, 23), (⟨"TextRowsModel", "same", "(II)Z"⟩, 23), (⟨"TextRowsModel", "putText", "(I)V"⟩, 23), (⟨"TextRowsModel", "writeRuns", "([III)V"⟩, 23), (⟨"TextRowsModel", "readPlain", "(I)V"⟩, 23), (⟨"TextRowsModel", "varint", "(I)J"⟩, 23), (⟨"TextRowsModel", "take", "(II)V"⟩, 23), (⟨"TextRowsModel", "readLengths", "(I)V"⟩, 23), (⟨"TextRowsModel", "readCode", "(I)V"⟩, 23), (⟨"TextRowsModel", "readBlock", "(III)V"⟩, 23), (⟨"TextRowsModel", "readFront", "(I)V"⟩, 23), (⟨"TextRowsModel", "readDictionary", "(I)V"⟩, 23), (⟨"TextRowsModel", "readRuns", "([IIII)V"⟩, 23), (⟨"TextRowsModel", "readOne", "([IIIIIJ)I"⟩, 23), (⟨"TextRowsModel", "bitsAt", "(III)I"⟩, 23)]
theorem lw_r3 : ∀ q ∈ lw_privs_3, lw_okq q := List.forall_mem_cons.mpr ⟨lw_p32, List.forall_mem_cons.mpr ⟨lw_p33, List.forall_mem_cons.mpr ⟨lw_p34, List.forall_mem_cons.mpr ⟨lw_p35, List.forall_mem_cons.mpr ⟨lw_p36, List.forall_mem_cons.mpr ⟨lw_p37, List.forall_mem_cons.mpr ⟨lw_p38, List.forall_mem_cons.mpr ⟨lw_p39, List.forall_mem_cons.mpr ⟨lw_p40, List.forall_mem_cons.mpr ⟨lw_p41, List.forall_mem_cons.mpr ⟨lw_p42, List.forall_mem_cons.mpr ⟨lw_p43, List.forall_mem_cons.mpr ⟨lw_p44, List.forall_mem_cons.mpr ⟨lw_p45, List.forall_mem_cons.mpr ⟨lw_p46, List.forall_mem_cons.mpr ⟨lw_p47, fun _ h => absurd h List.not_mem_nil⟩⟩⟩⟩⟩⟩⟩⟩⟩⟩⟩⟩⟩⟩⟩⟩
theorem lw_p48 : lw_okq (⟨"TextRowsModel", "readGroups", "([IIIIIJ)I"⟩, 23) := ⟨⟨by decide +kernel, by decide +kernel⟩, List.mem_of_getElem? (i := 565) (by decide +kernel), List.mem_of_getElem? (i := 791) (by decide +kernel), List.mem_of_getElem? (i := 792) (by decide +kernel)⟩
def lw_privs_4 : List (MethodName × Nat) := [(⟨"TextRowsModel", "readGroups", "([IIIIIJ)I"⟩, 23)]
theorem lw_r4 : ∀ q ∈ lw_privs_4, lw_okq q := List.forall_mem_cons.mpr ⟨lw_p48, fun _ h => absurd h List.not_mem_nil⟩
def lw_privs : List (MethodName × Nat) := lw_privs_1 ++ (lw_privs_2 ++ (lw_privs_3 ++ (lw_privs_4)))
def lw_tbl : List Cond := k2_sels lw_privs ++ tables_1
theorem lw_privs_ok : ∀ q ∈ lw_privs, lw_okq q := by
  show ∀ q ∈ lw_privs_1 ++ (lw_privs_2 ++ (lw_privs_3 ++ (lw_privs_4))), lw_okq q
  exact List.forall_mem_append.mpr ⟨lw_r1, List.forall_mem_append.mpr ⟨lw_r2, List.forall_mem_append.mpr ⟨lw_r3, lw_r4⟩⟩⟩
def RX0 : String := "TextRows$Bytes"
def TX0 : u_T := fun k => match k with
  | 0 => ("TextRows$Bytes", "cells", "[B", true)
  | _ => ("TextRows$Bytes", "size", "I", false)
def tyX0 : Nat → FieldType := fun k => match k with
  | 0 => .array .byte
  | _ => .int
theorem nmX0 : ∀ a, a < 2 → ∀ b, b < 2 → a ≠ b → (TX0 a).2.1 ≠ (TX0 b).2.1 := by decide +kernel
theorem tyX0_ok : ∀ k, k < 2 → parseFieldDescriptor (TX0 k).2.2.1 = some (tyX0 k) := by decide +kernel
abbrev cX0_init : ByteArray := prog_2_method_1_code
def yX0_init : MethodName := ⟨RX0, "<init>", "(I)V"⟩
abbrev cX0_put : ByteArray := prog_2_method_2_code
def yX0_put : MethodName := ⟨RX0, "put", "(I)V"⟩
abbrev cX0_putInt : ByteArray := prog_2_method_3_code
def yX0_putInt : MethodName := ⟨RX0, "putInt", "(I)V"⟩
abbrev cX0_putAll : ByteArray := prog_2_method_4_code
def yX0_putAll : MethodName := ⟨RX0, "putAll", "([BII)V"⟩
abbrev cX0_putVarint : ByteArray := prog_2_method_5_code
def yX0_putVarint : MethodName := ⟨RX0, "putVarint", "(J)V"⟩
abbrev cX0_putZeros : ByteArray := prog_2_method_6_code
def yX0_putZeros : MethodName := ⟨RX0, "putZeros", "(I)V"⟩
abbrev cX0_setBits : ByteArray := prog_2_method_7_code
def yX0_setBits : MethodName := ⟨RX0, "setBits", "(IIIJ)V"⟩
def RX1 : String := "TextRows$Code"
def TX1 : u_T := fun k => match k with
  | 0 => ("TextRows$Code", "numbers", "[J", true)
  | 1 => ("TextRows$Code", "widths", "[I", true)
  | _ => ("TextRows$Code", "count", "I", false)
def tyX1 : Nat → FieldType := fun k => match k with
  | 0 => .array .long
  | 1 => .array .int
  | _ => .int
theorem nmX1 : ∀ a, a < 3 → ∀ b, b < 3 → a ≠ b → (TX1 a).2.1 ≠ (TX1 b).2.1 := by decide +kernel
theorem tyX1_ok : ∀ k, k < 3 → parseFieldDescriptor (TX1 k).2.2.1 = some (tyX1 k) := by decide +kernel
abbrev cX1_init : ByteArray := prog_3_method_1_code
def yX1_init : MethodName := ⟨RX1, "<init>", "()V"⟩
abbrev cX1_writeOn : ByteArray := prog_3_method_2_code
def yX1_writeOn : MethodName := ⟨RX1, "writeOn", "(LTextRows$Bytes;)V"⟩
abbrev cX1_writeBlock : ByteArray := prog_3_method_3_code
def yX1_writeBlock : MethodName := ⟨RX1, "writeBlock", "(LTextRows$Bytes;II)V"⟩
abbrev cX1_leastDifference : ByteArray := prog_3_method_4_code
def yX1_leastDifference : MethodName := ⟨RX1, "leastDifference", "(II)J"⟩
abbrev cX1_widthOf : ByteArray := prog_3_method_5_code
def yX1_widthOf : MethodName := ⟨RX1, "widthOf", "(IIJ)I"⟩
abbrev cX1_writePart : ByteArray := prog_3_method_6_code
def yX1_writePart : MethodName := ⟨RX1, "writePart", "(LTextRows$Bytes;IIIJ)V"⟩
abbrev cX1_readFrom : ByteArray := prog_3_method_7_code
def yX1_readFrom : MethodName := ⟨RX1, "readFrom", "(LTextRows$Scan;)V"⟩
abbrev cX1_readBlock : ByteArray := prog_3_method_8_code
def yX1_readBlock : MethodName := ⟨RX1, "readBlock", "(LTextRows$Scan;II)V"⟩
abbrev cX1_readPart : ByteArray := prog_3_method_9_code
def yX1_readPart : MethodName := ⟨RX1, "readPart", "(LTextRows$Scan;IIIJ)V"⟩
abbrev cX1_zigzag : ByteArray := prog_3_method_10_code
def yX1_zigzag : MethodName := ⟨RX1, "zigzag", "(J)J"⟩
abbrev cX1_unzigzag : ByteArray := prog_3_method_11_code
def yX1_unzigzag : MethodName := ⟨RX1, "unzigzag", "(J)J"⟩
def RX2 : String := "TextRows$FormReader"
def TX2 : u_T := fun k => match k with
  | 0 => ("TextRows$FormReader", "scan", "LTextRows$Scan;", true)
  | 1 => ("TextRows$FormReader", "first", "LTextRows$Code;", true)
  | 2 => ("TextRows$FormReader", "second", "LTextRows$Code;", true)
  | 3 => ("TextRows$FormReader", "runs", "LTextRows$Runs;", true)
  | 4 => ("TextRows$FormReader", "starts", "[I", true)
  | _ => ("TextRows$FormReader", "lengths", "[I", true)
def tyX2 : Nat → FieldType := fun k => match k with
  | 0 => .object "TextRows$Scan"
  | 1 => .object "TextRows$Code"
  | 2 => .object "TextRows$Code"
  | 3 => .object "TextRows$Runs"
  | 4 => .array .int
  | _ => .array .int
theorem nmX2 : ∀ a, a < 6 → ∀ b, b < 6 → a ≠ b → (TX2 a).2.1 ≠ (TX2 b).2.1 := by decide +kernel
theorem tyX2_ok : ∀ k, k < 6 → parseFieldDescriptor (TX2 k).2.2.1 = some (tyX2 k) := by decide +kernel
abbrev cX2_init : ByteArray := prog_4_method_1_code
def yX2_init : MethodName := ⟨RX2, "<init>", "(LTextRows$Code;LTextRows$Code;LTextRows$Runs;)V"⟩
abbrev cX2_open : ByteArray := prog_4_method_2_code
def yX2_open : MethodName := ⟨RX2, "open", "(LTextRows$Bytes;)V"⟩
abbrev cX2_fault : ByteArray := prog_4_method_3_code
def yX2_fault : MethodName := ⟨RX2, "fault", "()I"⟩
abbrev cX2_plain : ByteArray := prog_4_method_4_code
def yX2_plain : MethodName := ⟨RX2, "plain", "(LTextRows$Row;I)V"⟩
abbrev cX2_lengths : ByteArray := prog_4_method_5_code
def yX2_lengths : MethodName := ⟨RX2, "lengths", "(LTextRows$Row;I)V"⟩
abbrev cX2_front : ByteArray := prog_4_method_6_code
def yX2_front : MethodName := ⟨RX2, "front", "(LTextRows$Row;I)V"⟩
abbrev cX2_dictionary : ByteArray := prog_4_method_7_code
def yX2_dictionary : MethodName := ⟨RX2, "dictionary", "(LTextRows$Row;I)V"⟩
abbrev cX2_isLength : ByteArray := prog_4_method_8_code
def yX2_isLength : MethodName := ⟨RX2, "isLength", "(J)Z"⟩
abbrev cX2_textLength : ByteArray := prog_4_method_9_code
def yX2_textLength : MethodName := ⟨RX2, "textLength", "()I"⟩
abbrev cX2_takeCode : ByteArray := prog_4_method_10_code
def yX2_takeCode : MethodName := ⟨RX2, "takeCode", "(LTextRows$Code;I)V"⟩
abbrev cX2_takeText : ByteArray := prog_4_method_11_code
def yX2_takeText : MethodName := ⟨RX2, "takeText", "(LTextRows$Row;II)V"⟩
abbrev cX2_enterText : ByteArray := prog_4_method_12_code
def yX2_enterText : MethodName := ⟨RX2, "enterText", "(I)V"⟩
abbrev cX2_copyText : ByteArray := prog_4_method_13_code
def yX2_copyText : MethodName := ⟨RX2, "copyText", "(LTextRows$Row;JJ)V"⟩
def RX3 : String := "TextRows$FormWriter"
def TX3 : u_T := fun k => match k with
  | 0 => ("TextRows$FormWriter", "first", "LTextRows$Code;", true)
  | 1 => ("TextRows$FormWriter", "second", "LTextRows$Code;", true)
  | 2 => ("TextRows$FormWriter", "runs", "LTextRows$Runs;", true)
  | 3 => ("TextRows$FormWriter", "lexicon", "LTextRows$Lexicon;", true)
  | _ => ("TextRows$FormWriter", "coded", "LTextRows$Bytes;", true)
def tyX3 : Nat → FieldType := fun k => match k with
  | 0 => .object "TextRows$Code"
  | 1 => .object "TextRows$Code"
  | 2 => .object "TextRows$Runs"
  | 3 => .object "TextRows$Lexicon"
  | _ => .object "TextRows$Bytes"
theorem nmX3 : ∀ a, a < 5 → ∀ b, b < 5 → a ≠ b → (TX3 a).2.1 ≠ (TX3 b).2.1 := by decide +kernel
theorem tyX3_ok : ∀ k, k < 5 → parseFieldDescriptor (TX3 k).2.2.1 = some (tyX3 k) := by decide +kernel
abbrev cX3_init : ByteArray := prog_5_method_1_code
def yX3_init : MethodName := ⟨RX3, "<init>", "(LTextRows$Code;LTextRows$Code;LTextRows$Runs;)V"⟩
abbrev cX3_plain : ByteArray := prog_5_method_2_code
def yX3_plain : MethodName := ⟨RX3, "plain", "(LTextRows$Row;LTextRows$Bytes;)V"⟩
abbrev cX3_lengths : ByteArray := prog_5_method_3_code
def yX3_lengths : MethodName := ⟨RX3, "lengths", "(LTextRows$Row;LTextRows$Bytes;)V"⟩
abbrev cX3_front : ByteArray := prog_5_method_4_code
def yX3_front : MethodName := ⟨RX3, "front", "(LTextRows$Row;LTextRows$Bytes;)V"⟩
abbrev cX3_dictionary : ByteArray := prog_5_method_5_code
def yX3_dictionary : MethodName := ⟨RX3, "dictionary", "(LTextRows$Row;LTextRows$Bytes;)V"⟩
abbrev cX3_putText : ByteArray := prog_5_method_6_code
def yX3_putText : MethodName := ⟨RX3, "putText", "(LTextRows$Row;ILTextRows$Bytes;)V"⟩
abbrev cX3_putCode : ByteArray := prog_5_method_7_code
def yX3_putCode : MethodName := ⟨RX3, "putCode", "(LTextRows$Code;LTextRows$Bytes;)V"⟩
def RX4 : String := "TextRows$Lexicon"
def TX4 : u_T := fun k => match k with
  | 0 => ("TextRows$Lexicon", "slots", "[I", true)
  | 1 => ("TextRows$Lexicon", "firsts", "[I", true)
  | _ => ("TextRows$Lexicon", "count", "I", false)
def tyX4 : Nat → FieldType := fun k => match k with
  | 0 => .array .int
  | 1 => .array .int
  | _ => .int
theorem nmX4 : ∀ a, a < 3 → ∀ b, b < 3 → a ≠ b → (TX4 a).2.1 ≠ (TX4 b).2.1 := by decide +kernel
theorem tyX4_ok : ∀ k, k < 3 → parseFieldDescriptor (TX4 k).2.2.1 = some (tyX4 k) := by decide +kernel
abbrev cX4_init : ByteArray := prog_6_method_1_code
def yX4_init : MethodName := ⟨RX4, "<init>", "()V"⟩
abbrev cX4_empty : ByteArray := prog_6_method_2_code
def yX4_empty : MethodName := ⟨RX4, "empty", "()V"⟩
abbrev cX4_numberOf : ByteArray := prog_6_method_3_code
def yX4_numberOf : MethodName := ⟨RX4, "numberOf", "(LTextRows$Row;I)I"⟩
abbrev cX4_enter : ByteArray := prog_6_method_4_code
def yX4_enter : MethodName := ⟨RX4, "enter", "(II)I"⟩
abbrev cX4_slotOf : ByteArray := prog_6_method_5_code
def yX4_slotOf : MethodName := ⟨RX4, "slotOf", "(LTextRows$Row;I)I"⟩
def RX5 : String := "TextRows$Row"
def TX5 : u_T := fun k => match k with
  | 0 => ("TextRows$Row", "cells", "[B", true)
  | 1 => ("TextRows$Row", "starts", "[I", true)
  | _ => ("TextRows$Row", "count", "I", false)
def tyX5 : Nat → FieldType := fun k => match k with
  | 0 => .array .byte
  | 1 => .array .int
  | _ => .int
theorem nmX5 : ∀ a, a < 3 → ∀ b, b < 3 → a ≠ b → (TX5 a).2.1 ≠ (TX5 b).2.1 := by decide +kernel
theorem tyX5_ok : ∀ k, k < 3 → parseFieldDescriptor (TX5 k).2.2.1 = some (tyX5 k) := by decide +kernel
abbrev cX5_init : ByteArray := prog_7_method_1_code
def yX5_init : MethodName := ⟨RX5, "<init>", "()V"⟩
abbrev cX5_has : ByteArray := prog_7_method_2_code
def yX5_has : MethodName := ⟨RX5, "has", "(I)Z"⟩
abbrev cX5_total : ByteArray := prog_7_method_3_code
def yX5_total : MethodName := ⟨RX5, "total", "()I"⟩
abbrev cX5_lengthOf : ByteArray := prog_7_method_4_code
def yX5_lengthOf : MethodName := ⟨RX5, "lengthOf", "(I)I"⟩
abbrev cX5_holdsMore : ByteArray := prog_7_method_5_code
def yX5_holdsMore : MethodName := ⟨RX5, "holdsMore", "(I)Z"⟩
abbrev cX5_append : ByteArray := prog_7_method_6_code
def yX5_append : MethodName := ⟨RX5, "append", "(I[BII)V"⟩
abbrev cX5_commonWithLast : ByteArray := prog_7_method_7_code
def yX5_commonWithLast : MethodName := ⟨RX5, "commonWithLast", "(I)I"⟩
abbrev cX5_areSame : ByteArray := prog_7_method_8_code
def yX5_areSame : MethodName := ⟨RX5, "areSame", "(II)Z"⟩
def RX6 : String := "TextRows$Runs"
def TX6 : u_T := fun k => match k with
  | 0 => ("TextRows$Runs", "numbers", "[J", true)
  | _ => ("TextRows$Runs", "count", "I", false)
def tyX6 : Nat → FieldType := fun k => match k with
  | 0 => .array .long
  | _ => .int
theorem nmX6 : ∀ a, a < 2 → ∀ b, b < 2 → a ≠ b → (TX6 a).2.1 ≠ (TX6 b).2.1 := by decide +kernel
theorem tyX6_ok : ∀ k, k < 2 → parseFieldDescriptor (TX6 k).2.2.1 = some (tyX6 k) := by decide +kernel
abbrev cX6_init : ByteArray := prog_8_method_1_code
def yX6_init : MethodName := ⟨RX6, "<init>", "()V"⟩
abbrev cX6_writeOn : ByteArray := prog_8_method_2_code
def yX6_writeOn : MethodName := ⟨RX6, "writeOn", "(LTextRows$Bytes;I)V"⟩
abbrev cX6_sameFrom : ByteArray := prog_8_method_3_code
def yX6_sameFrom : MethodName := ⟨RX6, "sameFrom", "(I)I"⟩
abbrev cX6_groupsFrom : ByteArray := prog_8_method_4_code
def yX6_groupsFrom : MethodName := ⟨RX6, "groupsFrom", "(I)I"⟩
abbrev cX6_writeOne : ByteArray := prog_8_method_5_code
def yX6_writeOne : MethodName := ⟨RX6, "writeOne", "(LTextRows$Bytes;III)V"⟩
abbrev cX6_writeGroups : ByteArray := prog_8_method_6_code
def yX6_writeGroups : MethodName := ⟨RX6, "writeGroups", "(LTextRows$Bytes;III)V"⟩
abbrev cX6_readFrom : ByteArray := prog_8_method_7_code
def yX6_readFrom : MethodName := ⟨RX6, "readFrom", "(LTextRows$Scan;II)V"⟩
abbrev cX6_readRun : ByteArray := prog_8_method_8_code
def yX6_readRun : MethodName := ⟨RX6, "readRun", "(LTextRows$Scan;II)V"⟩
abbrev cX6_readOne : ByteArray := prog_8_method_9_code
def yX6_readOne : MethodName := ⟨RX6, "readOne", "(LTextRows$Scan;II)V"⟩
abbrev cX6_readGroups : ByteArray := prog_8_method_10_code
def yX6_readGroups : MethodName := ⟨RX6, "readGroups", "(LTextRows$Scan;III)V"⟩
def RX7 : String := "TextRows$Scan"
def TX7 : u_T := fun k => match k with
  | 0 => ("TextRows$Scan", "cells", "[B", false)
  | 1 => ("TextRows$Scan", "at", "I", false)
  | 2 => ("TextRows$Scan", "limit", "I", false)
  | _ => ("TextRows$Scan", "fault", "I", false)
def tyX7 : Nat → FieldType := fun k => match k with
  | 0 => .array .byte
  | 1 => .int
  | 2 => .int
  | _ => .int
theorem nmX7 : ∀ a, a < 4 → ∀ b, b < 4 → a ≠ b → (TX7 a).2.1 ≠ (TX7 b).2.1 := by decide +kernel
theorem tyX7_ok : ∀ k, k < 4 → parseFieldDescriptor (TX7 k).2.2.1 = some (tyX7 k) := by decide +kernel
abbrev cX7_init : ByteArray := prog_9_method_1_code
def yX7_init : MethodName := ⟨RX7, "<init>", "()V"⟩
abbrev cX7_open : ByteArray := prog_9_method_2_code
def yX7_open : MethodName := ⟨RX7, "open", "(LTextRows$Bytes;)V"⟩
abbrev cX7_failed : ByteArray := prog_9_method_3_code
def yX7_failed : MethodName := ⟨RX7, "failed", "()Z"⟩
abbrev cX7_fail : ByteArray := prog_9_method_4_code
def yX7_fail : MethodName := ⟨RX7, "fail", "(I)V"⟩
abbrev cX7_holds : ByteArray := prog_9_method_5_code
def yX7_holds : MethodName := ⟨RX7, "holds", "(J)Z"⟩
abbrev cX7_nextByte : ByteArray := prog_9_method_6_code
def yX7_nextByte : MethodName := ⟨RX7, "nextByte", "()I"⟩
abbrev cX7_varint : ByteArray := prog_9_method_7_code
def yX7_varint : MethodName := ⟨RX7, "varint", "()J"⟩
abbrev cX7_bitsAt : ByteArray := prog_9_method_8_code
def yX7_bitsAt : MethodName := ⟨RX7, "bitsAt", "(II)J"⟩
abbrev cX7_expectEnd : ByteArray := prog_9_method_9_code
def yX7_expectEnd : MethodName := ⟨RX7, "expectEnd", "()V"⟩
def RX8 : String := "TextRows"
def TX8 : u_T := fun k => match k with
  | 0 => ("TextRows", "written", "LTextRows$Bytes;", true)
  | 1 => ("TextRows", "writer", "LTextRows$FormWriter;", true)
  | 2 => ("TextRows", "reader", "LTextRows$FormReader;", true)
  | 3 => ("TextRows", "tape", "LTextRows$Bytes;", false)
  | 4 => ("TextRows", "input", "LTextRows$Bytes;", false)
  | 5 => ("TextRows", "row", "LTextRows$Row;", false)
  | _ => ("TextRows", "spare", "LTextRows$Row;", false)
def tyX8 : Nat → FieldType := fun k => match k with
  | 0 => .object "TextRows$Bytes"
  | 1 => .object "TextRows$FormWriter"
  | 2 => .object "TextRows$FormReader"
  | 3 => .object "TextRows$Bytes"
  | 4 => .object "TextRows$Bytes"
  | 5 => .object "TextRows$Row"
  | _ => .object "TextRows$Row"
theorem nmX8 : ∀ a, a < 7 → ∀ b, b < 7 → a ≠ b → (TX8 a).2.1 ≠ (TX8 b).2.1 := by decide +kernel
theorem tyX8_ok : ∀ k, k < 7 → parseFieldDescriptor (TX8 k).2.2.1 = some (tyX8 k) := by decide +kernel
abbrev cX8_init : ByteArray := prog_1_method_1_code
def yX8_init : MethodName := ⟨RX8, "<init>", "()V"⟩
abbrev cX8_feed : ByteArray := prog_1_method_2_code
def yX8_feed : MethodName := ⟨RX8, "feed", "(IIIII)Z"⟩
abbrev cX8_end : ByteArray := prog_1_method_3_code
def yX8_end : MethodName := ⟨RX8, "end", "(I)Z"⟩
abbrev cX8_add : ByteArray := prog_1_method_4_code
def yX8_add : MethodName := ⟨RX8, "add", "(I)Z"⟩
abbrev cX8_clear : ByteArray := prog_1_method_5_code
def yX8_clear : MethodName := ⟨RX8, "clear", "()V"⟩
abbrev cX8_write : ByteArray := prog_1_method_6_code
def yX8_write : MethodName := ⟨RX8, "write", "(I)I"⟩
abbrev cX8_read : ByteArray := prog_1_method_7_code
def yX8_read : MethodName := ⟨RX8, "read", "(II)I"⟩
abbrev cX8_turn : ByteArray := prog_1_method_8_code
def yX8_turn : MethodName := ⟨RX8, "turn", "()Z"⟩
abbrev cX8_size : ByteArray := prog_1_method_9_code
def yX8_size : MethodName := ⟨RX8, "size", "()I"⟩
abbrev cX8_length : ByteArray := prog_1_method_10_code
def yX8_length : MethodName := ⟨RX8, "length", "(I)I"⟩
abbrev cX8_byteOf : ByteArray := prog_1_method_11_code
def yX8_byteOf : MethodName := ⟨RX8, "byteOf", "(II)I"⟩
abbrev cX8_output : ByteArray := prog_1_method_12_code
def yX8_output : MethodName := ⟨RX8, "output", "(I)I"⟩
abbrev cX8_bitsOf : ByteArray := prog_1_method_13_code
def yX8_bitsOf : MethodName := ⟨RX8, "bitsOf", "(J)I"⟩
def RX9 : String := "TextRowsModel"
def TX9 : u_T := fun k => match k with
  | 0 => ("TextRowsModel", "code", "I", false)
  | 1 => ("TextRowsModel", "from", "[I", true)
  | 2 => ("TextRowsModel", "newFrom", "[I", true)
  | 3 => ("TextRowsModel", "wordFrom", "[I", true)
  | 4 => ("TextRowsModel", "bytes", "[I", true)
  | 5 => ("TextRowsModel", "newBytes", "[I", true)
  | 6 => ("TextRowsModel", "wordBytes", "[I", true)
  | 7 => ("TextRowsModel", "count", "I", false)
  | 8 => ("TextRowsModel", "newCount", "I", false)
  | 9 => ("TextRowsModel", "words", "I", false)
  | 10 => ("TextRowsModel", "tape", "[I", true)
  | 11 => ("TextRowsModel", "input", "[I", true)
  | 12 => ("TextRowsModel", "out", "[I", true)
  | 13 => ("TextRowsModel", "taped", "I", false)
  | 14 => ("TextRowsModel", "inputSize", "I", false)
  | 15 => ("TextRowsModel", "outSize", "I", false)
  | 16 => ("TextRowsModel", "at", "I", false)
  | 17 => ("TextRowsModel", "fault", "I", false)
  | 18 => ("TextRowsModel", "longs", "[J", true)
  | 19 => ("TextRowsModel", "longCount", "I", false)
  | 20 => ("TextRowsModel", "numbers", "[I", true)
  | 21 => ("TextRowsModel", "common", "[I", true)
  | _ => ("TextRowsModel", "more", "[I", true)
def tyX9 : Nat → FieldType := fun k => match k with
  | 0 => .int
  | 1 => .array .int
  | 2 => .array .int
  | 3 => .array .int
  | 4 => .array .int
  | 5 => .array .int
  | 6 => .array .int
  | 7 => .int
  | 8 => .int
  | 9 => .int
  | 10 => .array .int
  | 11 => .array .int
  | 12 => .array .int
  | 13 => .int
  | 14 => .int
  | 15 => .int
  | 16 => .int
  | 17 => .int
  | 18 => .array .long
  | 19 => .int
  | 20 => .array .int
  | 21 => .array .int
  | _ => .array .int
theorem nmX9 : ∀ a, a < 23 → ∀ b, b < 23 → a ≠ b → (TX9 a).2.1 ≠ (TX9 b).2.1 := by decide +kernel
theorem tyX9_ok : ∀ k, k < 23 → parseFieldDescriptor (TX9 k).2.2.1 = some (tyX9 k) := by decide +kernel
abbrev cX9_init : ByteArray := prog_11_method_1_code
def yX9_init : MethodName := ⟨RX9, "<init>", "()V"⟩
abbrev cX9_put : ByteArray := prog_11_method_3_code
def yX9_put : MethodName := ⟨RX9, "put", "(I)V"⟩
abbrev cX9_varint : ByteArray := prog_11_method_4_code
def yX9_varint : MethodName := ⟨RX9, "varint", "(I)J"⟩
abbrev cX9_putVarint : ByteArray := prog_11_method_5_code
def yX9_putVarint : MethodName := ⟨RX9, "putVarint", "(J)V"⟩
abbrev cX9_alike : ByteArray := prog_11_method_6_code
def yX9_alike : MethodName := ⟨RX9, "alike", "([III)I"⟩
abbrev cX9_writeRuns : ByteArray := prog_11_method_7_code
def yX9_writeRuns : MethodName := ⟨RX9, "writeRuns", "([III)V"⟩
abbrev cX9_bitsAt : ByteArray := prog_11_method_8_code
def yX9_bitsAt : MethodName := ⟨RX9, "bitsAt", "(III)I"⟩
abbrev cX9_readRuns : ByteArray := prog_11_method_9_code
def yX9_readRuns : MethodName := ⟨RX9, "readRuns", "([IIII)V"⟩
abbrev cX9_readOne : ByteArray := prog_11_method_10_code
def yX9_readOne : MethodName := ⟨RX9, "readOne", "([IIIIIJ)I"⟩
abbrev cX9_readGroups : ByteArray := prog_11_method_11_code
def yX9_readGroups : MethodName := ⟨RX9, "readGroups", "([IIIIIJ)I"⟩
abbrev cX9_zigzag : ByteArray := prog_11_method_12_code
def yX9_zigzag : MethodName := ⟨RX9, "zigzag", "(J)J"⟩
abbrev cX9_unzigzag : ByteArray := prog_11_method_13_code
def yX9_unzigzag : MethodName := ⟨RX9, "unzigzag", "(J)J"⟩
abbrev cX9_writeCode : ByteArray := prog_11_method_14_code
def yX9_writeCode : MethodName := ⟨RX9, "writeCode", "()V"⟩
abbrev cX9_difference : ByteArray := prog_11_method_15_code
def yX9_difference : MethodName := ⟨RX9, "difference", "(I)J"⟩
abbrev cX9_writeLongs : ByteArray := prog_11_method_16_code
def yX9_writeLongs : MethodName := ⟨RX9, "writeLongs", "()V"⟩
abbrev cX9_widthOf : ByteArray := prog_11_method_17_code
def yX9_widthOf : MethodName := ⟨RX9, "widthOf", "(IIJ)I"⟩
abbrev cX9_writePart : ByteArray := prog_11_method_18_code
def yX9_writePart : MethodName := ⟨RX9, "writePart", "(IIJI)V"⟩
abbrev cX9_readCode : ByteArray := prog_11_method_19_code
def yX9_readCode : MethodName := ⟨RX9, "readCode", "(I)V"⟩
abbrev cX9_readBlock : ByteArray := prog_11_method_20_code
def yX9_readBlock : MethodName := ⟨RX9, "readBlock", "(III)V"⟩
abbrev cX9_feed : ByteArray := prog_11_method_21_code
def yX9_feed : MethodName := ⟨RX9, "feed", "(IIIII)Z"⟩
abbrev cX9_end : ByteArray := prog_11_method_22_code
def yX9_end : MethodName := ⟨RX9, "end", "(I)Z"⟩
abbrev cX9_add : ByteArray := prog_11_method_23_code
def yX9_add : MethodName := ⟨RX9, "add", "(I)Z"⟩
abbrev cX9_clear : ByteArray := prog_11_method_24_code
def yX9_clear : MethodName := ⟨RX9, "clear", "()V"⟩
abbrev cX9_lengthOf : ByteArray := prog_11_method_25_code
def yX9_lengthOf : MethodName := ⟨RX9, "lengthOf", "(I)I"⟩
abbrev cX9_same : ByteArray := prog_11_method_26_code
def yX9_same : MethodName := ⟨RX9, "same", "(II)Z"⟩
abbrev cX9_firstLike : ByteArray := prog_11_method_27_code
def yX9_firstLike : MethodName := ⟨RX9, "firstLike", "(I)I"⟩
abbrev cX9_putText : ByteArray := prog_11_method_28_code
def yX9_putText : MethodName := ⟨RX9, "putText", "(I)V"⟩
abbrev cX9_writeLengths : ByteArray := prog_11_method_29_code
def yX9_writeLengths : MethodName := ⟨RX9, "writeLengths", "()V"⟩
abbrev cX9_inCommon : ByteArray := prog_11_method_30_code
def yX9_inCommon : MethodName := ⟨RX9, "inCommon", "(I)I"⟩
abbrev cX9_writeFront : ByteArray := prog_11_method_31_code
def yX9_writeFront : MethodName := ⟨RX9, "writeFront", "()V"⟩
abbrev cX9_writeDictionary : ByteArray := prog_11_method_32_code
def yX9_writeDictionary : MethodName := ⟨RX9, "writeDictionary", "()V"⟩
abbrev cX9_write : ByteArray := prog_11_method_33_code
def yX9_write : MethodName := ⟨RX9, "write", "(I)I"⟩
abbrev cX9_take : ByteArray := prog_11_method_34_code
def yX9_take : MethodName := ⟨RX9, "take", "(II)V"⟩
abbrev cX9_readPlain : ByteArray := prog_11_method_35_code
def yX9_readPlain : MethodName := ⟨RX9, "readPlain", "(I)V"⟩
abbrev cX9_readLengths : ByteArray := prog_11_method_36_code
def yX9_readLengths : MethodName := ⟨RX9, "readLengths", "(I)V"⟩
abbrev cX9_told : ByteArray := prog_11_method_37_code
def yX9_told : MethodName := ⟨RX9, "told", "(J)I"⟩
abbrev cX9_readFront : ByteArray := prog_11_method_38_code
def yX9_readFront : MethodName := ⟨RX9, "readFront", "(I)V"⟩
abbrev cX9_readDictionary : ByteArray := prog_11_method_39_code
def yX9_readDictionary : MethodName := ⟨RX9, "readDictionary", "(I)V"⟩
abbrev cX9_read : ByteArray := prog_11_method_40_code
def yX9_read : MethodName := ⟨RX9, "read", "(II)I"⟩
abbrev cX9_turn : ByteArray := prog_11_method_41_code
def yX9_turn : MethodName := ⟨RX9, "turn", "()Z"⟩
abbrev cX9_size : ByteArray := prog_11_method_42_code
def yX9_size : MethodName := ⟨RX9, "size", "()I"⟩
abbrev cX9_length : ByteArray := prog_11_method_43_code
def yX9_length : MethodName := ⟨RX9, "length", "(I)I"⟩
abbrev cX9_byteOf : ByteArray := prog_11_method_44_code
def yX9_byteOf : MethodName := ⟨RX9, "byteOf", "(II)I"⟩
abbrev cX9_output : ByteArray := prog_11_method_45_code
def yX9_output : MethodName := ⟨RX9, "output", "(I)I"⟩
def RL : String := "TextRowsLaw"
abbrev cL_law : ByteArray := code
abbrev vwCl : List vw_C := [(RX0, TX0, 2), (RX1, TX1, 3), (RX2, TX2, 6), (RX3, TX3, 5), (RX4, TX4, 3), (RX5, TX5, 3), (RX6, TX6, 2), (RX7, TX7, 4), (RX8, TX8, 7), (RX9, TX9, 23)]
def zm_nest : List (String × Nat × MethodName × String) := [(RX1, 66, yX8_bitsOf, RX8), (RX2, 11, yX7_init, RX8), (RX3, 11, yX4_init, RX8), (RX3, 107, yX8_bitsOf, RX8), (RX8, 26, yX5_init, RX8), (RX8, 36, yX1_init, RX8), (RX8, 39, yX6_init, RX8)]
