section
-- ===== PART A: goes FIRST, ahead of the names: the tables' words, and 'selects' of the private methods out of them =====
/-- a private method of a class that the tables say can be made, by its rows of tables_1 -/
def lw_okq (q : MethodName × Nat) : Prop := (q.1.cls ≠ "java/lang/invoke/MethodHandle" ∧ q.1.cls ≠ "java/lang/invoke/VarHandle") ∧ Cond.instantiable q.1.cls q.2 ∈ tables_1 ∧ Cond.privateMethod q.1 ∈ tables_1 ∧ Cond.instanceMethod q.1 ∈ tables_1
theorem lw_p0 : lw_okq (⟨"java/lang/Throwable", "fillInStackTrace", "(I)Ljava/lang/Throwable;"⟩, 6) := ⟨⟨by decide +kernel, by decide +kernel⟩, List.mem_of_getElem? (i := 312) (by decide +kernel), List.mem_of_getElem? (i := 310) (by decide +kernel), List.mem_of_getElem? (i := 311) (by decide +kernel)⟩
theorem lw_p1 : lw_okq (⟨"ConvolutionBench$TextReader", "passSpaces", "()V"⟩, 7) := ⟨⟨by decide +kernel, by decide +kernel⟩, List.mem_of_getElem? (i := 151) (by decide +kernel), List.mem_of_getElem? (i := 387) (by decide +kernel), List.mem_of_getElem? (i := 388) (by decide +kernel)⟩
theorem lw_p2 : lw_okq (⟨"ConvolutionBench$TextReader", "byteAt", "(I)I"⟩, 7) := ⟨⟨by decide +kernel, by decide +kernel⟩, List.mem_of_getElem? (i := 151) (by decide +kernel), List.mem_of_getElem? (i := 391) (by decide +kernel), List.mem_of_getElem? (i := 392) (by decide +kernel)⟩
theorem lw_p3 : lw_okq (⟨"ConvolutionBench$TextReader", "passWord", "(Ljava/lang/String;)Z"⟩, 7) := ⟨⟨by decide +kernel, by decide +kernel⟩, List.mem_of_getElem? (i := 151) (by decide +kernel), List.mem_of_getElem? (i := 396) (by decide +kernel), List.mem_of_getElem? (i := 397) (by decide +kernel)⟩
theorem lw_p4 : lw_okq (⟨"ConvolutionBench$TextReader", "readPrime", "(I)V"⟩, 7) := ⟨⟨by decide +kernel, by decide +kernel⟩, List.mem_of_getElem? (i := 151) (by decide +kernel), List.mem_of_getElem? (i := 451) (by decide +kernel), List.mem_of_getElem? (i := 452) (by decide +kernel)⟩
theorem lw_p5 : lw_okq (⟨"ConvolutionBench$TextReader", "fail", "(II)V"⟩, 7) := ⟨⟨by decide +kernel, by decide +kernel⟩, List.mem_of_getElem? (i := 151) (by decide +kernel), List.mem_of_getElem? (i := 455) (by decide +kernel), List.mem_of_getElem? (i := 456) (by decide +kernel)⟩
theorem lw_p6 : lw_okq (⟨"ConvolutionBench$TextReader", "passNumber", "()I"⟩, 7) := ⟨⟨by decide +kernel, by decide +kernel⟩, List.mem_of_getElem? (i := 151) (by decide +kernel), List.mem_of_getElem? (i := 459) (by decide +kernel), List.mem_of_getElem? (i := 460) (by decide +kernel)⟩
theorem lw_p7 : lw_okq (⟨"ConvolutionBench$Field", "findFactors", "()I"⟩, 4) := ⟨⟨by decide +kernel, by decide +kernel⟩, List.mem_of_getElem? (i := 478) (by decide +kernel), List.mem_of_getElem? (i := 487) (by decide +kernel), List.mem_of_getElem? (i := 488) (by decide +kernel)⟩
theorem lw_p8 : lw_okq (⟨"ConvolutionBench$Field", "leastGenerator", "()I"⟩, 4) := ⟨⟨by decide +kernel, by decide +kernel⟩, List.mem_of_getElem? (i := 478) (by decide +kernel), List.mem_of_getElem? (i := 491) (by decide +kernel), List.mem_of_getElem? (i := 492) (by decide +kernel)⟩
theorem lw_p9 : lw_okq (⟨"ConvolutionBench$TextReader", "readSequence", "()V"⟩, 7) := ⟨⟨by decide +kernel, by decide +kernel⟩, List.mem_of_getElem? (i := 151) (by decide +kernel), List.mem_of_getElem? (i := 521) (by decide +kernel), List.mem_of_getElem? (i := 522) (by decide +kernel)⟩
theorem lw_p10 : lw_okq (⟨"ConvolutionBench$TextReader", "readTerms", "(LConvolutionBench$Sequence;)V"⟩, 7) := ⟨⟨by decide +kernel, by decide +kernel⟩, List.mem_of_getElem? (i := 151) (by decide +kernel), List.mem_of_getElem? (i := 525) (by decide +kernel), List.mem_of_getElem? (i := 526) (by decide +kernel)⟩
theorem lw_p11 : lw_okq (⟨"ConvolutionBench$TextReader", "readTerm", "(LConvolutionBench$Sequence;)V"⟩, 7) := ⟨⟨by decide +kernel, by decide +kernel⟩, List.mem_of_getElem? (i := 151) (by decide +kernel), List.mem_of_getElem? (i := 529) (by decide +kernel), List.mem_of_getElem? (i := 530) (by decide +kernel)⟩
theorem lw_p12 : lw_okq (⟨"ConvolutionBench$TextReader", "passSemicolon", "()V"⟩, 7) := ⟨⟨by decide +kernel, by decide +kernel⟩, List.mem_of_getElem? (i := 151) (by decide +kernel), List.mem_of_getElem? (i := 542) (by decide +kernel), List.mem_of_getElem? (i := 543) (by decide +kernel)⟩
theorem lw_p13 : lw_okq (⟨"ConvolutionBench", "requirePrime", "(I)V"⟩, 6) := ⟨⟨by decide +kernel, by decide +kernel⟩, List.mem_of_getElem? (i := 26) (by decide +kernel), List.mem_of_getElem? (i := 587) (by decide +kernel), List.mem_of_getElem? (i := 588) (by decide +kernel)⟩
theorem lw_p14 : lw_okq (⟨"ConvolutionBench", "fieldAt", "(I)LConvolutionBench$Field;"⟩, 6) := ⟨⟨by decide +kernel, by decide +kernel⟩, List.mem_of_getElem? (i := 26) (by decide +kernel), List.mem_of_getElem? (i := 618) (by decide +kernel), List.mem_of_getElem? (i := 619) (by decide +kernel)⟩
theorem lw_p15 : lw_okq (⟨"ConvolutionBench$LogarithmTable", "fill", "(LConvolutionBench$Field;)V"⟩, 2) := ⟨⟨by decide +kernel, by decide +kernel⟩, List.mem_of_getElem? (i := 185) (by decide +kernel), List.mem_of_getElem? (i := 718) (by decide +kernel), List.mem_of_getElem? (i := 719) (by decide +kernel)⟩
def lw_privs_1 : List (MethodName × Nat) := [(⟨"java/lang/Throwable", "fillInStackTrace", "(I)Ljava/lang/Throwable;"⟩, 6), (⟨"ConvolutionBench$TextReader", "passSpaces", "()V"⟩, 7), (⟨"ConvolutionBench$TextReader", "byteAt", "(I)I"⟩, 7), (⟨"ConvolutionBench$TextReader", "passWord", "(Ljava/lang/String;)Z"⟩, 7), (⟨"ConvolutionBench$TextReader", "readPrime", "(I)V"⟩, 7), (⟨"ConvolutionBench$TextReader", "fail", "(II)V"⟩, 7), (⟨"ConvolutionBench$TextReader", "passNumber", "()I"⟩, 7), (⟨"ConvolutionBench$Field", "findFactors", "()I"⟩, 4), (⟨"ConvolutionBench$Field", "leastGenerator", "()I"⟩, 4), (⟨"ConvolutionBench$TextReader", "readSequence", "()V"⟩, 7), (⟨"ConvolutionBench$TextReader", "readTerms", "(LConvolutionBench$Sequence;)V"⟩, 7), (⟨"ConvolutionBench$TextReader", "readTerm", "(LConvolutionBench$Sequence;)V"⟩, 7), (⟨"ConvolutionBench$TextReader", "passSemicolon", "()V"⟩, 7), (⟨"ConvolutionBench", "requirePrime", "(I)V"⟩, 6), (⟨"ConvolutionBench", "fieldAt", "(I)LConvolutionBench$Field;"⟩, 6), (⟨"ConvolutionBench$LogarithmTable", "fill", "(LConvolutionBench$Field;)V"⟩, 2)]
theorem lw_r1 : ∀ q ∈ lw_privs_1, lw_okq q := List.forall_mem_cons.mpr ⟨lw_p0, List.forall_mem_cons.mpr ⟨lw_p1, List.forall_mem_cons.mpr ⟨lw_p2, List.forall_mem_cons.mpr ⟨lw_p3, List.forall_mem_cons.mpr ⟨lw_p4, List.forall_mem_cons.mpr ⟨lw_p5, List.forall_mem_cons.mpr ⟨lw_p6, List.forall_mem_cons.mpr ⟨lw_p7, List.forall_mem_cons.mpr ⟨lw_p8, List.forall_mem_cons.mpr ⟨lw_p9, List.forall_mem_cons.mpr ⟨lw_p10, List.forall_mem_cons.mpr ⟨lw_p11, List.forall_mem_cons.mpr ⟨lw_p12, List.forall_mem_cons.mpr ⟨lw_p13, List.forall_mem_cons.mpr ⟨lw_p14, List.forall_mem_cons.mpr ⟨lw_p15, fun _ h => absurd h List.not_mem_nil⟩⟩⟩⟩⟩⟩⟩⟩⟩⟩⟩⟩⟩⟩⟩⟩
theorem lw_p16 : lw_okq (⟨"ConvolutionBench$LogarithmTable", "placeOf", "(I)I"⟩, 2) := ⟨⟨by decide +kernel, by decide +kernel⟩, List.mem_of_getElem? (i := 185) (by decide +kernel), List.mem_of_getElem? (i := 722) (by decide +kernel), List.mem_of_getElem? (i := 723) (by decide +kernel)⟩
theorem lw_p17 : lw_okq (⟨"ConvolutionBench", "sequenceAt", "(I)LConvolutionBench$Sequence;"⟩, 6) := ⟨⟨by decide +kernel, by decide +kernel⟩, List.mem_of_getElem? (i := 26) (by decide +kernel), List.mem_of_getElem? (i := 769) (by decide +kernel), List.mem_of_getElem? (i := 770) (by decide +kernel)⟩
theorem lw_p18 : lw_okq (⟨"ConvolutionBench", "requireSlot", "(I)V"⟩, 6) := ⟨⟨by decide +kernel, by decide +kernel⟩, List.mem_of_getElem? (i := 26) (by decide +kernel), List.mem_of_getElem? (i := 773) (by decide +kernel), List.mem_of_getElem? (i := 774) (by decide +kernel)⟩
theorem lw_p19 : lw_okq (⟨"ConvolutionBench", "requireSet", "(I)V"⟩, 6) := ⟨⟨by decide +kernel, by decide +kernel⟩, List.mem_of_getElem? (i := 26) (by decide +kernel), List.mem_of_getElem? (i := 888) (by decide +kernel), List.mem_of_getElem? (i := 889) (by decide +kernel)⟩
theorem lw_p20 : lw_okq (⟨"ConvolutionBench", "requireTerms", "(II)V"⟩, 6) := ⟨⟨by decide +kernel, by decide +kernel⟩, List.mem_of_getElem? (i := 26) (by decide +kernel), List.mem_of_getElem? (i := 905) (by decide +kernel), List.mem_of_getElem? (i := 906) (by decide +kernel)⟩
theorem lw_p21 : lw_okq (⟨"ConvolutionBench$PlanFinder", "measureFields", "(LConvolutionBench$Bench;III)V"⟩, 5) := ⟨⟨by decide +kernel, by decide +kernel⟩, List.mem_of_getElem? (i := 208) (by decide +kernel), List.mem_of_getElem? (i := 977) (by decide +kernel), List.mem_of_getElem? (i := 978) (by decide +kernel)⟩
theorem lw_p22 : lw_okq (⟨"ConvolutionBench$PlanFinder", "compare", "(II)V"⟩, 5) := ⟨⟨by decide +kernel, by decide +kernel⟩, List.mem_of_getElem? (i := 208) (by decide +kernel), List.mem_of_getElem? (i := 983) (by decide +kernel), List.mem_of_getElem? (i := 984) (by decide +kernel)⟩
theorem lw_p23 : lw_okq (⟨"ConvolutionBench$Multiplier", "multiplySpectra", "(LConvolutionBench$Field;LConvolutionBench$Sequence;LConvolutionBench$Sequence;II)V"⟩, 1) := ⟨⟨by decide +kernel, by decide +kernel⟩, List.mem_of_getElem? (i := 198) (by decide +kernel), List.mem_of_getElem? (i := 1019) (by decide +kernel), List.mem_of_getElem? (i := 1020) (by decide +kernel)⟩
theorem lw_p24 : lw_okq (⟨"ConvolutionBench$Multiplier", "widen", "(LConvolutionBench$Product;LConvolutionBench$Field;IJ)V"⟩, 1) := ⟨⟨by decide +kernel, by decide +kernel⟩, List.mem_of_getElem? (i := 198) (by decide +kernel), List.mem_of_getElem? (i := 1025) (by decide +kernel), List.mem_of_getElem? (i := 1026) (by decide +kernel)⟩
theorem lw_p25 : lw_okq (⟨"ConvolutionBench", "presentProduct", "()LConvolutionBench$Product;"⟩, 6) := ⟨⟨by decide +kernel, by decide +kernel⟩, List.mem_of_getElem? (i := 26) (by decide +kernel), List.mem_of_getElem? (i := 1043) (by decide +kernel), List.mem_of_getElem? (i := 1044) (by decide +kernel)⟩
theorem lw_p26 : lw_okq (⟨"ConvolutionBenchModel", "becomes", "()V"⟩, 18) := ⟨⟨by decide +kernel, by decide +kernel⟩, List.mem_of_getElem? (i := 1132) (by decide +kernel), List.mem_of_getElem? (i := 1138) (by decide +kernel), List.mem_of_getElem? (i := 1139) (by decide +kernel)⟩
theorem lw_p27 : lw_okq (⟨"ConvolutionBenchModel", "next", "()V"⟩, 18) := ⟨⟨by decide +kernel, by decide +kernel⟩, List.mem_of_getElem? (i := 1132) (by decide +kernel), List.mem_of_getElem? (i := 1216) (by decide +kernel), List.mem_of_getElem? (i := 1217) (by decide +kernel)⟩
theorem lw_p28 : lw_okq (⟨"ConvolutionBenchModel", "see", "(I)I"⟩, 18) := ⟨⟨by decide +kernel, by decide +kernel⟩, List.mem_of_getElem? (i := 1132) (by decide +kernel), List.mem_of_getElem? (i := 1220) (by decide +kernel), List.mem_of_getElem? (i := 1221) (by decide +kernel)⟩
theorem lw_p29 : lw_okq (⟨"ConvolutionBenchModel", "isWord", "(Ljava/lang/String;)Z"⟩, 18) := ⟨⟨by decide +kernel, by decide +kernel⟩, List.mem_of_getElem? (i := 1132) (by decide +kernel), List.mem_of_getElem? (i := 1237) (by decide +kernel), List.mem_of_getElem? (i := 1238) (by decide +kernel)⟩
theorem lw_p30 : lw_okq (⟨"ConvolutionBenchModel", "readsPrime", "()V"⟩, 18) := ⟨⟨by decide +kernel, by decide +kernel⟩, List.mem_of_getElem? (i := 1132) (by decide +kernel), List.mem_of_getElem? (i := 1243) (by decide +kernel), List.mem_of_getElem? (i := 1244) (by decide +kernel)⟩
theorem lw_p31 : lw_okq (⟨"ConvolutionBenchModel", "fails", "(I)V"⟩, 18) := ⟨⟨by decide +kernel, by decide +kernel⟩, List.mem_of_getElem? (i := 1132) (by decide +kernel), List.mem_of_getElem? (i := 1247) (by decide +kernel), List.mem_of_getElem? (i := 1248) (by decide +kernel)⟩
def lw_privs_2 : List (MethodName × Nat) := [(⟨"ConvolutionBench$LogarithmTable", "placeOf", "(I)I"⟩, 2), (⟨"ConvolutionBench", "sequenceAt", "(I)LConvolutionBench$Sequence;"⟩, 6), (⟨"ConvolutionBench", "requireSlot", "(I)V"⟩, 6), (⟨"ConvolutionBench", "requireSet", "(I)V"⟩, 6), (⟨"ConvolutionBench", "requireTerms", "(II)V"⟩, 6), (⟨"ConvolutionBench$PlanFinder", "measureFields", "(LConvolutionBench$Bench;III)V"⟩, 5), (⟨"ConvolutionBench$PlanFinder", "compare", "(II)V"⟩, 5), (⟨"ConvolutionBench$Multiplier", "multiplySpectra", "(LConvolutionBench$Field;LConvolutionBench$Sequence;LConvolutionBench$Sequence;II)V"⟩, 1), (⟨"ConvolutionBench$Multiplier", "widen", "(LConvolutionBench$Product;LConvolutionBench$Field;IJ)V"⟩, 1), (⟨"ConvolutionBench", "presentProduct", "()LConvolutionBench$Product;"⟩, 6), (⟨"ConvolutionBenchModel", "becomes", "()V"⟩, 18), (⟨"ConvolutionBenchModel", "next", "()V"⟩, 18), (⟨"ConvolutionBenchModel", "see", "(I)I"⟩, 18), (⟨"ConvolutionBenchModel", "isWord", "(Ljava/lang/String;)Z"⟩, 18), (⟨"ConvolutionBenchModel", "readsPrime", "()V"⟩, 18), (⟨"ConvolutionBenchModel", "fails", "(I)V"⟩, 18)]
theorem lw_r2 : ∀ q ∈ lw_privs_2, lw_okq q := List.forall_mem_cons.mpr ⟨lw_p16, List.forall_mem_cons.mpr ⟨lw_p17, List.forall_mem_cons.mpr ⟨lw_p18, List.forall_mem_cons.mpr ⟨lw_p19, List.forall_mem_cons.mpr ⟨lw_p20, List.forall_mem_cons.mpr ⟨lw_p21, List.forall_mem_cons.mpr ⟨lw_p22, List.forall_mem_cons.mpr ⟨lw_p23, List.forall_mem_cons.mpr ⟨lw_p24, List.forall_mem_cons.mpr ⟨lw_p25, List.forall_mem_cons.mpr ⟨lw_p26, List.forall_mem_cons.mpr ⟨lw_p27, List.forall_mem_cons.mpr ⟨lw_p28, List.forall_mem_cons.mpr ⟨lw_p29, List.forall_mem_cons.mpr ⟨lw_p30, List.forall_mem_cons.mpr ⟨lw_p31, fun _ h => absurd h List.not_mem_nil⟩⟩⟩⟩⟩⟩⟩⟩⟩⟩⟩⟩⟩⟩⟩⟩
theorem lw_p32 : lw_okq (⟨"ConvolutionBenchModel", "must", "(Z)V"⟩, 18) := ⟨⟨by decide +kernel, by decide +kernel⟩, List.mem_of_getElem? (i := 1132) (by decide +kernel), List.mem_of_getElem? (i := 1251) (by decide +kernel), List.mem_of_getElem? (i := 1252) (by decide +kernel)⟩
theorem lw_p33 : lw_okq (⟨"ConvolutionBenchModel", "sees", "(II)I"⟩, 18) := ⟨⟨by decide +kernel, by decide +kernel⟩, List.mem_of_getElem? (i := 1132) (by decide +kernel), List.mem_of_getElem? (i := 1256) (by decide +kernel), List.mem_of_getElem? (i := 1257) (by decide +kernel)⟩
theorem lw_p34 : lw_okq (⟨"ConvolutionBenchModel", "isSign", "(I)Z"⟩, 18) := ⟨⟨by decide +kernel, by decide +kernel⟩, List.mem_of_getElem? (i := 1132) (by decide +kernel), List.mem_of_getElem? (i := 1263) (by decide +kernel), List.mem_of_getElem? (i := 1264) (by decide +kernel)⟩
theorem lw_p35 : lw_okq (⟨"ConvolutionBenchModel", "readsSequence", "()V"⟩, 18) := ⟨⟨by decide +kernel, by decide +kernel⟩, List.mem_of_getElem? (i := 1132) (by decide +kernel), List.mem_of_getElem? (i := 1268) (by decide +kernel), List.mem_of_getElem? (i := 1269) (by decide +kernel)⟩
theorem lw_p36 : lw_okq (⟨"ConvolutionBenchModel", "keeps", "()V"⟩, 18) := ⟨⟨by decide +kernel, by decide +kernel⟩, List.mem_of_getElem? (i := 1132) (by decide +kernel), List.mem_of_getElem? (i := 1272) (by decide +kernel), List.mem_of_getElem? (i := 1273) (by decide +kernel)⟩
theorem lw_p37 : lw_okq (⟨"ConvolutionBenchModel", "has", "(I)Z"⟩, 18) := ⟨⟨by decide +kernel, by decide +kernel⟩, List.mem_of_getElem? (i := 1132) (by decide +kernel), List.mem_of_getElem? (i := 1290) (by decide +kernel), List.mem_of_getElem? (i := 1291) (by decide +kernel)⟩
theorem lw_p38 : lw_okq (⟨"ConvolutionBenchModel", "isThere", "(I)Z"⟩, 18) := ⟨⟨by decide +kernel, by decide +kernel⟩, List.mem_of_getElem? (i := 1132) (by decide +kernel), List.mem_of_getElem? (i := 1299) (by decide +kernel), List.mem_of_getElem? (i := 1300) (by decide +kernel)⟩
theorem lw_p39 : lw_okq (⟨"ConvolutionBenchModel", "primeAt", "(I)I"⟩, 18) := ⟨⟨by decide +kernel, by decide +kernel⟩, List.mem_of_getElem? (i := 1132) (by decide +kernel), List.mem_of_getElem? (i := 1315) (by decide +kernel), List.mem_of_getElem? (i := 1316) (by decide +kernel)⟩
theorem lw_p40 : lw_okq (⟨"ConvolutionBenchModel", "noUnit", "(II)I"⟩, 18) := ⟨⟨by decide +kernel, by decide +kernel⟩, List.mem_of_getElem? (i := 1132) (by decide +kernel), List.mem_of_getElem? (i := 1352) (by decide +kernel), List.mem_of_getElem? (i := 1353) (by decide +kernel)⟩
theorem lw_p41 : lw_okq (⟨"ConvolutionBenchModel", "longOf", "(I)I"⟩, 18) := ⟨⟨by decide +kernel, by decide +kernel⟩, List.mem_of_getElem? (i := 1132) (by decide +kernel), List.mem_of_getElem? (i := 1374) (by decide +kernel), List.mem_of_getElem? (i := 1375) (by decide +kernel)⟩
theorem lw_p42 : lw_okq (⟨"ConvolutionBenchModel", "termOf", "(II)J"⟩, 18) := ⟨⟨by decide +kernel, by decide +kernel⟩, List.mem_of_getElem? (i := 1132) (by decide +kernel), List.mem_of_getElem? (i := 1382) (by decide +kernel), List.mem_of_getElem? (i := 1383) (by decide +kernel)⟩
theorem lw_p43 : lw_okq (⟨"ConvolutionBenchModel", "putTerm", "(IIJ)V"⟩, 18) := ⟨⟨by decide +kernel, by decide +kernel⟩, List.mem_of_getElem? (i := 1132) (by decide +kernel), List.mem_of_getElem? (i := 1398) (by decide +kernel), List.mem_of_getElem? (i := 1399) (by decide +kernel)⟩
theorem lw_p44 : lw_okq (⟨"ConvolutionBenchModel", "noTransform", "(IIZ)I"⟩, 18) := ⟨⟨by decide +kernel, by decide +kernel⟩, List.mem_of_getElem? (i := 1132) (by decide +kernel), List.mem_of_getElem? (i := 1418) (by decide +kernel), List.mem_of_getElem? (i := 1419) (by decide +kernel)⟩
theorem lw_p45 : lw_okq (⟨"ConvolutionBenchModel", "isSet", "(I)Z"⟩, 18) := ⟨⟨by decide +kernel, by decide +kernel⟩, List.mem_of_getElem? (i := 1132) (by decide +kernel), List.mem_of_getElem? (i := 1449) (by decide +kernel), List.mem_of_getElem? (i := 1450) (by decide +kernel)⟩
theorem lw_p46 : lw_okq (⟨"ConvolutionBenchModel", "allHave", "(II)Z"⟩, 18) := ⟨⟨by decide +kernel, by decide +kernel⟩, List.mem_of_getElem? (i := 1132) (by decide +kernel), List.mem_of_getElem? (i := 1453) (by decide +kernel), List.mem_of_getElem? (i := 1454) (by decide +kernel)⟩
theorem lw_p47 : lw_okq (⟨"ConvolutionBenchModel", "refusal", "(IIII)I"⟩, 18) := ⟨⟨by decide +kernel, by decide +kernel⟩, List.mem_of_getElem? (i := 1132) (by decide +kernel), List.mem_of_getElem? (i := 1461) (by decide +kernel), List.mem_of_getElem? (i := 1462) (by decide +kernel)⟩
def lw_privs_3 : List (MethodName × Nat) := [(⟨"ConvolutionBenchModel", "must", "(Z)V"⟩, 18), (⟨"ConvolutionBenchModel", "sees", "(II)I"⟩, 18), (⟨"ConvolutionBenchModel", "isSign", "(I)Z"⟩, 18), (⟨"ConvolutionBenchModel", "readsSequence", "()V"⟩, 18), (⟨"ConvolutionBenchModel", "keeps", "()V"⟩, 18), (⟨"ConvolutionBenchModel", "has", "(I)Z"⟩, 18), (⟨"ConvolutionBenchModel", "isThere", "(I)Z"⟩, 18), (⟨"ConvolutionBenchModel", "primeAt", "(I)I"⟩, 18), (⟨"ConvolutionBenchModel", "noUnit", "(II)I"⟩, 18), (⟨"ConvolutionBenchModel", "longOf", "(I)I"⟩, 18), (⟨"ConvolutionBenchModel", "termOf", "(II)J"⟩, 18), (⟨"ConvolutionBenchModel", "putTerm", "(IIJ)V"⟩, 18), (⟨"ConvolutionBenchModel", "noTransform", "(IIZ)I"⟩, 18), (⟨"ConvolutionBenchModel", "isSet", "(I)Z"⟩, 18), (⟨"ConvolutionBenchModel", "allHave", "(II)Z"⟩, 18), (⟨"ConvolutionBenchModel", "refusal", "(IIII)I"⟩, 18)]
theorem lw_r3 : ∀ q ∈ lw_privs_3, lw_okq q := List.forall_mem_cons.mpr ⟨lw_p32, List.forall_mem_cons.mpr ⟨lw_p33, List.forall_mem_cons.mpr ⟨lw_p34, List.forall_mem_cons.mpr ⟨lw_p35, List.forall_mem_cons.mpr ⟨lw_p36, List.forall_mem_cons.mpr ⟨lw_p37, List.forall_mem_cons.mpr ⟨lw_p38, List.forall_mem_cons.mpr ⟨lw_p39, List.forall_mem_cons.mpr ⟨lw_p40, List.forall_mem_cons.mpr ⟨lw_p41, List.forall_mem_cons.mpr ⟨lw_p42, List.forall_mem_cons.mpr ⟨lw_p43, List.forall_mem_cons.mpr ⟨lw_p44, List.forall_mem_cons.mpr ⟨lw_p45, List.forall_mem_cons.mpr ⟨lw_p46, List.forall_mem_cons.mpr ⟨lw_p47, fun _ h => absurd h List.not_mem_nil⟩⟩⟩⟩⟩⟩⟩⟩⟩⟩⟩⟩⟩⟩⟩⟩
theorem lw_p48 : lw_okq (⟨"ConvolutionBenchModel", "lacks", "(II)I"⟩, 18) := ⟨⟨by decide +kernel, by decide +kernel⟩, List.mem_of_getElem? (i := 1132) (by decide +kernel), List.mem_of_getElem? (i := 1465) (by decide +kernel), List.mem_of_getElem? (i := 1466) (by decide +kernel)⟩
theorem lw_p49 : lw_okq (⟨"ConvolutionBenchModel", "isKind", "(IIII)Z"⟩, 18) := ⟨⟨by decide +kernel, by decide +kernel⟩, List.mem_of_getElem? (i := 1132) (by decide +kernel), List.mem_of_getElem? (i := 1469) (by decide +kernel), List.mem_of_getElem? (i := 1470) (by decide +kernel)⟩
theorem lw_p50 : lw_okq (⟨"ConvolutionBenchModel", "sizeOf", "(IIII)I"⟩, 18) := ⟨⟨by decide +kernel, by decide +kernel⟩, List.mem_of_getElem? (i := 1132) (by decide +kernel), List.mem_of_getElem? (i := 1473) (by decide +kernel), List.mem_of_getElem? (i := 1474) (by decide +kernel)⟩
theorem lw_p51 : lw_okq (⟨"ConvolutionBenchModel", "boundOf", "(II)J"⟩, 18) := ⟨⟨by decide +kernel, by decide +kernel⟩, List.mem_of_getElem? (i := 1132) (by decide +kernel), List.mem_of_getElem? (i := 1481) (by decide +kernel), List.mem_of_getElem? (i := 1482) (by decide +kernel)⟩
theorem lw_p52 : lw_okq (⟨"ConvolutionBenchModel", "greatest", "(I)J"⟩, 18) := ⟨⟨by decide +kernel, by decide +kernel⟩, List.mem_of_getElem? (i := 1132) (by decide +kernel), List.mem_of_getElem? (i := 1485) (by decide +kernel), List.mem_of_getElem? (i := 1486) (by decide +kernel)⟩
theorem lw_p53 : lw_okq (⟨"ConvolutionBenchModel", "coefficientOf", "(IIIII)J"⟩, 18) := ⟨⟨by decide +kernel, by decide +kernel⟩, List.mem_of_getElem? (i := 1132) (by decide +kernel), List.mem_of_getElem? (i := 1493) (by decide +kernel), List.mem_of_getElem? (i := 1494) (by decide +kernel)⟩
theorem lw_p54 : lw_okq (⟨"ConvolutionBenchModel", "areEnough", "(IJ)Z"⟩, 18) := ⟨⟨by decide +kernel, by decide +kernel⟩, List.mem_of_getElem? (i := 1132) (by decide +kernel), List.mem_of_getElem? (i := 1501) (by decide +kernel), List.mem_of_getElem? (i := 1502) (by decide +kernel)⟩
theorem lw_p55 : lw_okq (⟨"ConvolutionBenchModel", "productOf", "(I)J"⟩, 18) := ⟨⟨by decide +kernel, by decide +kernel⟩, List.mem_of_getElem? (i := 1132) (by decide +kernel), List.mem_of_getElem? (i := 1505) (by decide +kernel), List.mem_of_getElem? (i := 1506) (by decide +kernel)⟩
theorem lw_p56 : lw_okq (⟨"ConvolutionBenchModel", "laysPlans", "(IIII)V"⟩, 18) := ⟨⟨by decide +kernel, by decide +kernel⟩, List.mem_of_getElem? (i := 1132) (by decide +kernel), List.mem_of_getElem? (i := 1515) (by decide +kernel), List.mem_of_getElem? (i := 1516) (by decide +kernel)⟩
theorem lw_p57 : lw_okq (⟨"ConvolutionBenchModel", "stepsOf", "(III)I"⟩, 18) := ⟨⟨by decide +kernel, by decide +kernel⟩, List.mem_of_getElem? (i := 1132) (by decide +kernel), List.mem_of_getElem? (i := 1519) (by decide +kernel), List.mem_of_getElem? (i := 1520) (by decide +kernel)⟩
theorem lw_p58 : lw_okq (⟨"ConvolutionBenchModel", "canMultiply", "(IIIII)Z"⟩, 18) := ⟨⟨by decide +kernel, by decide +kernel⟩, List.mem_of_getElem? (i := 1132) (by decide +kernel), List.mem_of_getElem? (i := 1531) (by decide +kernel), List.mem_of_getElem? (i := 1532) (by decide +kernel)⟩
theorem lw_p59 : lw_okq (⟨"ConvolutionBenchModel", "canStore", "()Z"⟩, 18) := ⟨⟨by decide +kernel, by decide +kernel⟩, List.mem_of_getElem? (i := 1132) (by decide +kernel), List.mem_of_getElem? (i := 1559) (by decide +kernel), List.mem_of_getElem? (i := 1560) (by decide +kernel)⟩
def lw_privs_4 : List (MethodName × Nat) := [(⟨"ConvolutionBenchModel", "lacks", "(II)I"⟩, 18), (⟨"ConvolutionBenchModel", "isKind", "(IIII)Z"⟩, 18), (⟨"ConvolutionBenchModel", "sizeOf", "(IIII)I"⟩, 18), (⟨"ConvolutionBenchModel", "boundOf", "(II)J"⟩, 18), (⟨"ConvolutionBenchModel", "greatest", "(I)J"⟩, 18), (⟨"ConvolutionBenchModel", "coefficientOf", "(IIIII)J"⟩, 18), (⟨"ConvolutionBenchModel", "areEnough", "(IJ)Z"⟩, 18), (⟨"ConvolutionBenchModel", "productOf", "(I)J"⟩, 18), (⟨"ConvolutionBenchModel", "laysPlans", "(IIII)V"⟩, 18), (⟨"ConvolutionBenchModel", "stepsOf", "(III)I"⟩, 18), (⟨"ConvolutionBenchModel", "canMultiply", "(IIIII)Z"⟩, 18), (⟨"ConvolutionBenchModel", "canStore", "()Z"⟩, 18)]
theorem lw_r4 : ∀ q ∈ lw_privs_4, lw_okq q := List.forall_mem_cons.mpr ⟨lw_p48, List.forall_mem_cons.mpr ⟨lw_p49, List.forall_mem_cons.mpr ⟨lw_p50, List.forall_mem_cons.mpr ⟨lw_p51, List.forall_mem_cons.mpr ⟨lw_p52, List.forall_mem_cons.mpr ⟨lw_p53, List.forall_mem_cons.mpr ⟨lw_p54, List.forall_mem_cons.mpr ⟨lw_p55, List.forall_mem_cons.mpr ⟨lw_p56, List.forall_mem_cons.mpr ⟨lw_p57, List.forall_mem_cons.mpr ⟨lw_p58, List.forall_mem_cons.mpr ⟨lw_p59, fun _ h => absurd h List.not_mem_nil⟩⟩⟩⟩⟩⟩⟩⟩⟩⟩⟩⟩
def lw_privs : List (MethodName × Nat) := lw_privs_1 ++ (lw_privs_2 ++ (lw_privs_3 ++ (lw_privs_4)))
def lw_tbl : List Cond := k2_sels lw_privs ++ tables_1
theorem lw_privs_ok : ∀ q ∈ lw_privs, lw_okq q := by
  show ∀ q ∈ lw_privs_1 ++ (lw_privs_2 ++ (lw_privs_3 ++ (lw_privs_4))), lw_okq q
  exact List.forall_mem_append.mpr ⟨lw_r1, List.forall_mem_append.mpr ⟨lw_r2, List.forall_mem_append.mpr ⟨lw_r3, lw_r4⟩⟩⟩
-- ===== end of PART A; then your names; then what follows =====
end
section
/-! ===== BEGIN words of one list among another's, by their places ===== -/
theorem goodIn_r {big : List Cond} (ws : List Cond) (ps : List Nat) (hp : ws = ps.filterMap (fun i => big[i]?)) (h : ws.all goodWord = true) : GoodIn big ws := by
  intro w hw
  have h1 := List.all_eq_true.mp h w hw
  rw [hp] at hw
  obtain ⟨i, -, hi⟩ := List.mem_filterMap.mp hw
  have hm : w ∈ big := by first | exact List.mem_of_getElem? hi | exact List.getElem?_mem hi
  exact ⟨hm, good_of_word h1⟩
theorem goodIn_app {big a b : List Cond} (ha : GoodIn big a) (hb : GoodIn big b) : GoodIn big (a ++ b) := fun w h => (List.mem_append.mp h).elim (ha w) (hb w)
theorem goodIn_ca {big a b : List Cond} {c : Cond} (ha : GoodIn big (c :: a)) (hb : GoodIn big b) : GoodIn big (c :: (a ++ b)) := fun w h => (List.mem_cons.mp h).elim (fun e => ha w (List.mem_cons.mpr (Or.inl e))) (fun h => (List.mem_append.mp h).elim (fun h => ha w (List.mem_cons.mpr (Or.inr h))) (hb w))
theorem goodIn_sub {big ws : List Cond} (hm : ∀ w ∈ ws, w ∈ big) (h : ws.all goodWord = true) : GoodIn big ws := fun w hw => ⟨hm w hw, good_of_word (List.all_eq_true.mp h w hw)⟩
/-! ===== END ===== -/

/-! ===== BEGIN exceptions that leave a method, and their catching by the caller (launches without stack traces) ===== -/
section VXA
/-! The laws vx_back, vx_callV, vx_callS, vx_callSW, vx_throw0, vx_throwS follow proofs of the library, with one case more: JvmDerived/Free/Laws.lean (Back.of_free), Shelf42/LK1.lean (callV, callS), Shelf/KitTraced.lean (throwNew0V, throwNewS). -/
/-- where a method has thrown q: the class by its name, the cell, what was written, the world -/
def vx_T (XC : String → State → State → Prop) (st : State) (q : Addr) (t : State) (mc ms : Nat) (free : Addr → Prop) : Prop :=
  ∃ (E : String) (ce : Cell) (L : List Loc), XC E st t ∧ t.heap[q]? = some ce ∧ ce.vm = .none ∧ st.vm.findClass E = some ce.cls ∧ st.WarmedH t.vm ∧ st.sameButNew ({ t with vm := st.vm } : State) L mc ms ∧ ∀ z ∈ L, free z.base
def vx_Q (Qc : Array Value → State → Outcome → State → Prop) (XC : String → State → State → Prop) (mc ms : Nat) (free : Addr → Prop) : Array Value → State → Outcome → State → Prop := fun a st o t =>
  (Qc a st o t ∧ ∃ L, FrameEnd st o t L mc ms ∧ ∀ q ∈ L, free q.base) ∨ ∃ q, o = .threw q ∧ vx_T XC st q t mc ms free
/-- a callee that returns or throws -/
def vx_Met (l : Launch) (y : MethodName) (ws : List Cond) (rm : Room) (Pc : Array Value → State → Prop) (Qc : Array Value → State → Outcome → State → Prop) (XC : String → State → State → Prop) (mc ms : Nat) (free : Addr → Prop) : Prop :=
  MetFree l y (headSpec ws rm) Pc (fun _ _ _ _ _ => True) (vx_Q Qc XC mc ms free)
def vx_Post (XC : String → State → State → Prop) (mc ms : Nat) (free : Addr → Prop) : Pt → Array Value → Addr → Pt → Prop := fun A a q B =>
  ∃ (g : JFrame) (mk : MethodId) (t : State) (L : List Loc) (E : String) (ce : Cell), B.U.heap = t.heap ∧ B.U.vm = t.vm ∧ XC E (A.U.calling g mk a) t ∧ t.heap[q]? = some ce ∧ ce.vm = .none ∧ A.U.vm.findClass E = some ce.cls ∧ B.locs = A.locs ++ L ∧ (∀ z ∈ L, free z.base) ∧ B.cells = A.cells + mc ∧ B.slots = A.slots + ms
def vx_Back (l : Launch) (R : Room) (p : Program) (e : Env) (below : List Frame) (s : State) (sargs : Array Value) (y : MethodName) (len W9 : Nat)
    (Pre : Pt → Array Value → Prop) (Post : Pt → Array Value → Option Value → Pt → Prop) (PostX : Pt → Array Value → Addr → Pt → Prop) : Prop :=
  ∀ (m : MethodId) (meth : Method) (c : Code) (A : Pt) (g : JFrame) (ig : Instr) (mk : MethodId) (a : Array Value),
    Stand p l e R s m sargs below meth c A.U A.locs A.cells A.slots → g.method = m → g.locals.size = c.maxLocals → decode c.code g.pc = .ok (ig, len) →
    2 * g.monitorRoom + (g.stack.map fun v => v.category).sum ≤ W9 → A.U.methodNamed? y = some mk → Pre A a →
    (∃ (v : Option Value) (B : Pt), Stand p l e R s m sargs below meth c B.U B.locs B.cells B.slots ∧ Post A a v B ∧
      Steps p.tables e below (doInvoke e (A.U.setTop g) [] mk a).1 (B.U.setTop { g with pc := g.pc + len, stack := v.toList ++ g.stack })) ∨
    (∃ (q : Addr) (B : Pt), Stand p l e R s m sargs below meth c B.U B.locs B.cells B.slots ∧ PostX A a q B ∧
      Steps p.tables e below (doInvoke e (A.U.setTop g) [] mk a).1 ((B.U.setTop g).pushFrame (.throwing q)))
section Payer
variable {l : Launch} {R : Room} {p : Program} {e : Env} {below : List Frame} {s : State} {sargs : Array Value} {y : MethodName} {len W9 : Nat}
theorem vx_back {ws : List Cond} {rm : Room} {Pc : Array Value → State → Prop} {Qc : Array Value → State → Outcome → State → Prop} {XC : String → State → State → Prop} {mc ms : Nat} {free : Addr → Prop} {bytes : ByteArray} {maxL : Nat} {ret : Option FieldType}
    (hM : vx_Met l y ws rm Pc Qc XC mc ms free) (hblind : FrameBlind Pc) (hrc : rm.cells = mc) (hrs : rm.slots = ms)
    (hframes : rm.frames + 1 ≤ R.frames) (hlocals : W9 + (maxL + 11) + rm.locals ≤ R.locals)
    (hws : ∀ w ∈ ws, ∀ a' U, s.WarmedH U.vm → w.before a' U = true) (hcode : Cond.code y bytes maxL ret ∈ ws) (hinit : ∀ a' U, s.WarmedH U.vm → (Cond.initialized y.cls).before a' U = true) :
    vx_Back l R p e below s sargs y len W9 (PreOf R mc ms Pc) (PostOf Qc mc ms free) (vx_Post XC mc ms free) := by
  intro m meth c A g ig mk a X hg hsize hdg hW hn hp
  have h1 : (headSpec ws rm).pre.before a A.U = true := atoms_intro fun w hw => hws w hw _ _ X.warmed
  have h2 : (Cond.code y bytes maxL ret).before a A.U = true := hws _ hcode _ _ X.warmed
  have h3 : (Cond.initialized y.cls).before a A.U = true := hinit _ _ X.warmed
  have h4 : A.cells + (headSpec ws rm).room.cells ≤ R.cells := by rw [show (headSpec ws rm).room.cells = mc from hrc]; exact hp.1
  have h5 : A.slots + (headSpec ws rm).room.slots ≤ R.slots := by rw [show (headSpec ws rm).room.slots = ms from hrs]; exact hp.2.1
  have hPc : Pc a (A.U.calling g mk a) := hblind _ _ _ _ hp.2.2
  obtain ⟨U, Ls, c0, s0⟩ := A
  dsimp only [Pt.U, Pt.locs, Pt.cells, Pt.slots] at h1 h2 h3 h4 h5 X hn hPc ⊢
  obtain ⟨methY, cY, hmY, hcY, -, hlY, -, -, -, -⟩ := Cond.code_spec hn h2
  obtain ⟨kY, hkY, -⟩ := className_of_methodNamed hn
  have hinitY : kY.init = .initialized := Cond.initialized_spec (findClass_of_methodNamed hn) hkY h3
  have h : At U g.method c below := by rw [hg]; exact X.here
  have hlocals9 : W9 + (maxL + 11) + (headSpec ws rm).room.locals ≤ R.locals := hlocals
  have happ : (headSpec ws rm).appliesLoose y e.platform (U.calling g mk a) = true :=
    Spec.appliesLoose_calling (g := g) h hdg hn hkY hinitY
      (X.room_calling (g := g) (R' := (headSpec ws rm).room) hsize hmY hcY hframes (by rw [hlY]; omega) h4 h5) h1
  obtain ⟨mid, hmid⟩ := h.above
  have hfr : (U.setTop g).frames = (.java g :: mid) ++ below := by rw [State.frames_setTop' g h.top, hmid]; rfl
  obtain ⟨o, s₂, hsteps, -, hend, hq⟩ := Steps.callFree hM p X.admits X.cas X.clock (acts := []) hfr happ hPc trivial
  have hq' : vx_Q Qc XC mc ms free a (U.calling g mk a) o s₂ := hq
  rw [State.frames_setTop' g h.top] at hend
  obtain ⟨g₀, hg0⟩ := Option.isSome_iff_exists.mp h.top
  obtain ⟨r, hr⟩ := State.topJava?_eq_some.mp hg0
  have hr' : (({ U with heap := s₂.heap, slotsUsed := s₂.slotsUsed } : State).setVm s₂.vm).frames = .java g₀ :: r := hr
  rcases hq' with ⟨hqc, L, hfe, hL⟩ | ⟨q, rfl, E, ce, L, hx, hce, hcv, hcl, hW₂, hsm, hL⟩
  · obtain ⟨⟨v, rfl⟩, hW₂, e2, q2, q3, q4, q5, q6⟩ := id hfe
    have e3 : s₂ = ({ (U.calling g mk a).setFrames s₂.frames with heap := s₂.heap, slotsUsed := s₂.slotsUsed } : State).setVm s₂.vm := by
      have : s₂ = ({ s₂ with vm := (U.calling g mk a).vm } : State).setVm s₂.vm := rfl
      rw [e2] at this
      exact this
    obtain ⟨c₂, i₂, len₂, hc₂, hd₂, hf₂⟩ := hend
    have hW' : U.WarmedH s₂.vm := hW₂
    have hcc : c₂ = c := by
      have h1 : s₂.code? g.method = U.code? g.method := by
        rw [State.code?_eq, State.code?_eq, hW'.alike.method?]
      exact Option.some.inj (hc₂.symm.trans (h1.trans h.code))
    subst hcc
    have hlen : len₂ = len := by rw [hdg] at hd₂; cases hd₂; rfl
    subst hlen
    have hs₂ : s₂ = (({ U with heap := s₂.heap, slotsUsed := s₂.slotsUsed } : State).setVm s₂.vm).setTop { g with pc := g.pc + len₂, stack := v.toList ++ g.stack } := by
      refine e3.trans ?_
      rw [hf₂, State.calling_eq h.top, State.setFrames_setFrames, State.setTop_of_frames _ hr', hr]
      rfl
    have hsame : U.sameButNew ({ U with heap := s₂.heap, slotsUsed := s₂.slotsUsed } : State) L mc ms := by
      refine ⟨?_, q2, q3, q4, q5, q6⟩
      obtain ⟨t, ht, -⟩ := State.frames_cons hr
      show ({ U with heap := s₂.heap, slotsUsed := s₂.slotsUsed } : State) = { U.setFrames U.frames with heap := s₂.heap, slotsUsed := s₂.slotsUsed }
      rw [State.setFrames_self ht]
    subst hg
    refine Or.inl ⟨v, ⟨(({ U with heap := s₂.heap, slotsUsed := s₂.slotsUsed } : State).setVm s₂.vm), Ls ++ L, c0 + mc, s0 + ms⟩,
      ⟨X.admits, X.cas, X.clock, X.frames, X.room, X.hears, X.method, X.code, (X.here.setHeapUsed s₂.heap s₂.slotsUsed).setVm hW'.alike, X.tail, State.WarmedH.trans X.warmed hW', X.limits, X.bytes, X.same.trans (hsame.setVm s.vm)⟩,
      ⟨g, mk, s₂, L, rfl, rfl, hqc, rfl, hL, rfl, rfl⟩, ?_⟩
    show Steps p.tables e below _ ((({ U with heap := s₂.heap, slotsUsed := s₂.slotsUsed } : State).setVm s₂.vm).setTop { g with pc := g.pc + len₂, stack := v.toList ++ g.stack })
    rw [← hs₂]
    exact hsteps
  · obtain ⟨e2, q2, q3, q4, q5, q6⟩ := id hsm
    have e3 : s₂ = ({ (U.calling g mk a).setFrames s₂.frames with heap := s₂.heap, slotsUsed := s₂.slotsUsed } : State).setVm s₂.vm := by
      have : s₂ = ({ s₂ with vm := (U.calling g mk a).vm } : State).setVm s₂.vm := rfl
      rw [e2] at this
      exact this
    have hf₂ : s₂.frames = .throwing q :: .java g :: U.frames.tail := hend
    have hW' : U.WarmedH s₂.vm := hW₂
    have hs₂ : s₂ = ((({ U with heap := s₂.heap, slotsUsed := s₂.slotsUsed } : State).setVm s₂.vm).setTop g).pushFrame (.throwing q) := by
      refine e3.trans ?_
      rw [hf₂, State.calling_eq h.top, State.setFrames_setFrames, State.pushFrame, State.frames_setTop _ hr', State.setTop_of_frames _ hr', State.setFrames_setFrames, hr]
      rfl
    have hsame : U.sameButNew ({ U with heap := s₂.heap, slotsUsed := s₂.slotsUsed } : State) L mc ms := by
      refine ⟨?_, q2, q3, q4, q5, q6⟩
      obtain ⟨t, ht, -⟩ := State.frames_cons hr
      show ({ U with heap := s₂.heap, slotsUsed := s₂.slotsUsed } : State) = { U.setFrames U.frames with heap := s₂.heap, slotsUsed := s₂.slotsUsed }
      rw [State.setFrames_self ht]
    subst hg
    refine Or.inr ⟨q, ⟨(({ U with heap := s₂.heap, slotsUsed := s₂.slotsUsed } : State).setVm s₂.vm), Ls ++ L, c0 + mc, s0 + ms⟩,
      ⟨X.admits, X.cas, X.clock, X.frames, X.room, X.hears, X.method, X.code, (X.here.setHeapUsed s₂.heap s₂.slotsUsed).setVm hW'.alike, X.tail, State.WarmedH.trans X.warmed hW', X.limits, X.bytes, X.same.trans (hsame.setVm s.vm)⟩,
      ⟨g, mk, s₂, L, E, ce, rfl, rfl, hx, hce, hcv, hcl, rfl, hL, rfl, rfl⟩, ?_⟩
    show Steps p.tables e below _ (((({ U with heap := s₂.heap, slotsUsed := s₂.slotsUsed } : State).setVm s₂.vm).setTop g).pushFrame (.throwing q))
    rw [← hs₂]
    exact hsteps
end Payer
section Calls
variable {p : Program} {l : Launch} {e : Env} {R : Room} {s : State} {m : MethodId} {args : Array Value} {below : List Frame} {meth : Method} {c : Code} {T : State} {locs : List Loc} {cells slots : Nat}
theorem vx_callV (X : Stand p l e R s m args below meth c T locs cells slots) (hexec : p.tables.exec = Jvm.exec) {own C : String} {index : Nat} {y : MethodName} {bytes : ByteArray} {maxL : Nat} {ret : Option FieldType}
    (hown : s.vm.findClass own = some m.cls) (hlink : (Cond.methodLink own index y).before args s = true) (hinst : (Cond.instanceMethod y).before args s = true) (hsel : (Cond.selects C y y).before args s = true)
    (hcode : (Cond.code y bytes maxL ret).before args s = true) (hy : y.cls ≠ "java/lang/invoke/MethodHandle" ∧ y.cls ≠ "java/lang/invoke/VarHandle")
    {W9 : Nat} {Pre : Pt → Array Value → Prop} {Post : Pt → Array Value → Option Value → Pt → Prop} {PostX : Pt → Array Value → Addr → Pt → Prop} (hK : vx_Back l R p e below s args y 3 W9 Pre Post PostX)
    {b : Addr} {cellB : Cell} (hcell : T.heap[b]? = some cellB) (hobj : cellB.vm.isStatics = false) (hcls : s.vm.findClass C = some cellB.cls)
    {g : JFrame} (hg : g.method = m) (hsize : g.locals.size = c.maxLocals) {argsL rest : List Value} (hlen : ∀ sig, parseMethodDescriptor y.desc = some sig → argsL.length = sig.parameters.length)
    (hstack : g.stack = argsL.reverse ++ .ref b :: rest) (hW : 2 * g.monitorRoom + (rest.map fun v => v.category).sum ≤ W9) (hdg : decode c.code g.pc = .ok (.invokevirtual index, 3))
    (hpre : ∀ vm₁, s.WarmedH vm₁ → Pre ⟨T.setVm vm₁, locs, cells, slots⟩ (Value.ref b :: argsL).toArray) :
    (∃ (v : Option Value) (vm₁ : Vm) (B : Pt), s.WarmedH vm₁ ∧ Stand p l e R s m args below meth c B.U B.locs B.cells B.slots ∧ Post ⟨T.setVm vm₁, locs, cells, slots⟩ (Value.ref b :: argsL).toArray v B ∧
      ∀ target, Steps p.tables e below (B.U.setTop { g with pc := g.pc + 3, stack := v.toList ++ rest }) target → Steps p.tables e below (T.setTop g) target) ∨
    (∃ (q : Addr) (vm₁ : Vm) (B : Pt), s.WarmedH vm₁ ∧ Stand p l e R s m args below meth c B.U B.locs B.cells B.slots ∧ PostX ⟨T.setVm vm₁, locs, cells, slots⟩ (Value.ref b :: argsL).toArray q B ∧
      Steps p.tables e below (T.setTop g) ((B.U.setTop { g with stack := rest }).pushFrame (.throwing q))) := by
  obtain ⟨mk, methM, hnamed, hmethM, hstM, habM⟩ := Cond.instanceMethod_spec hinst
  obtain ⟨methM', cM, hmethM', -, -, -, -, -, -, hsigM⟩ := Cond.code_spec hnamed hcode
  cases hmethM.symm.trans hmethM'
  obtain ⟨c2, r2, m2, q1, q2, q3, q4, kP, hkP, hkPi⟩ := Cond.selects_spec hsel
  cases hcls.symm.trans q1
  cases (State.methodFound?_of_named hnamed hy).symm.trans q2
  cases hnamed.symm.trans q3
  have hselP : selectMethod e.platform s.vm cellB.cls mk = .method mk := by rw [Launch.admits_selectMethod X.admits]; exact q4
  obtain ⟨vm₁, X₁, hstep₁⟩ := X.invokevirtual hexec hown hlink hnamed hmethM hstM hkP hkPi hy (a := b) (cell := cellB) hcell
    (fun z h => by rw [h] at hobj; cases hobj) hselP hmethM habM hkP hkPi (g := g) hg (argsL := argsL) (rest := rest) (hlen _ hsigM) hstack hdg
  rcases hK m meth c ⟨T.setVm vm₁, locs, cells, slots⟩ { g with stack := rest } (.invokevirtual index) mk (Value.ref b :: argsL).toArray X₁ hg hsize hdg hW (X₁.named hnamed) (hpre vm₁ X₁.warmed) with ⟨v, B, X', hpost, hsteps⟩ | ⟨q, B, X', hpost, hsteps⟩
  · exact Or.inl ⟨v, vm₁, B, X₁.warmed, X', hpost, fun target h => hstep₁ _ fun acts => by rw [doInvoke_state]; exact hsteps.trans h⟩
  · exact Or.inr ⟨q, vm₁, B, X₁.warmed, X', hpost, hstep₁ _ fun acts => by rw [doInvoke_state]; exact hsteps⟩
theorem vx_callS (X : Stand p l e R s m args below meth c T locs cells slots) (hexec : p.tables.exec = Jvm.exec) {own : String} {index : Nat} {y : MethodName} {bytes : ByteArray} {maxL : Nat} {ret : Option FieldType}
    (hown : s.vm.findClass own = some m.cls) (hlink : (Cond.methodLink own index y).before args s = true) (hstat : (Cond.static y).before args s = true) (hinit : (Cond.initialized y.cls).before args s = true)
    (hcode : (Cond.code y bytes maxL ret).before args s = true) (hy : y.cls ≠ "java/lang/invoke/MethodHandle" ∧ y.cls ≠ "java/lang/invoke/VarHandle")
    {W9 : Nat} {Pre : Pt → Array Value → Prop} {Post : Pt → Array Value → Option Value → Pt → Prop} {PostX : Pt → Array Value → Addr → Pt → Prop} (hK : vx_Back l R p e below s args y 3 W9 Pre Post PostX)
    {g : JFrame} (hg : g.method = m) (hsize : g.locals.size = c.maxLocals) {argsL rest : List Value} (hlen : ∀ sig, parseMethodDescriptor y.desc = some sig → argsL.length = sig.parameters.length)
    (hstack : g.stack = argsL.reverse ++ rest) (hW : 2 * g.monitorRoom + (rest.map fun v => v.category).sum ≤ W9) (hdg : decode c.code g.pc = .ok (.invokestatic index, 3))
    (hpre : ∀ vm₁, s.WarmedH vm₁ → Pre ⟨T.setVm vm₁, locs, cells, slots⟩ argsL.toArray) :
    (∃ (v : Option Value) (vm₁ : Vm) (B : Pt), s.WarmedH vm₁ ∧ Stand p l e R s m args below meth c B.U B.locs B.cells B.slots ∧ Post ⟨T.setVm vm₁, locs, cells, slots⟩ argsL.toArray v B ∧
      ∀ target, Steps p.tables e below (B.U.setTop { g with pc := g.pc + 3, stack := v.toList ++ rest }) target → Steps p.tables e below (T.setTop g) target) ∨
    (∃ (q : Addr) (vm₁ : Vm) (B : Pt), s.WarmedH vm₁ ∧ Stand p l e R s m args below meth c B.U B.locs B.cells B.slots ∧ PostX ⟨T.setVm vm₁, locs, cells, slots⟩ argsL.toArray q B ∧
      Steps p.tables e below (T.setTop g) ((B.U.setTop { g with stack := rest }).pushFrame (.throwing q))) := by
  obtain ⟨mk, hnamed⟩ := Cond.code_named hcode
  obtain ⟨methM, cM, hmethM, -, -, -, -, -, -, hsigM⟩ := Cond.code_spec hnamed hcode
  have hstatic : methM.isStatic = true := Cond.static_spec hnamed hmethM hstat
  obtain ⟨kP, hkP, -⟩ := className_of_methodNamed hnamed
  have hinitP : kP.init = .initialized := Cond.initialized_spec (findClass_of_methodNamed hnamed) hkP hinit
  obtain ⟨vm₁, X₁, hstep₁⟩ := X.invokestatic hexec hown hlink hnamed hmethM hstatic hkP hinitP hy (g := g) hg (argsL := argsL) (rest := rest) (hlen _ hsigM) hstack hdg
  rcases hK m meth c ⟨T.setVm vm₁, locs, cells, slots⟩ { g with stack := rest } (.invokestatic index) mk argsL.toArray X₁ hg hsize hdg hW (X₁.named hnamed) (hpre vm₁ X₁.warmed) with ⟨v, B, X', hpost, hsteps⟩ | ⟨q, B, X', hpost, hsteps⟩
  · exact Or.inl ⟨v, vm₁, B, X₁.warmed, X', hpost, fun target h => hstep₁ _ fun acts => by rw [doInvoke_state]; exact hsteps.trans h⟩
  · exact Or.inr ⟨q, vm₁, B, X₁.warmed, X', hpost, hstep₁ _ fun acts => by rw [doInvoke_state]; exact hsteps⟩
end Calls
theorem vx_cls {s : State} {T : State} {vm₁ : Vm} {E : String} {k : ClassId} (hW : s.WarmedH vm₁) (h : (T.setVm vm₁).vm.findClass E = some k) : s.vm.findClass E = some k := by
  have h1 : vm₁.findClass E = some k := h
  rw [hW.alike.findClass] at h1
  exact h1
/-- the method's frame g, with q thrown over it -/
def vx_W (p : Program) (l : Launch) (e : Env) (R : Room) (s : State) (m : MethodId) (args : Array Value) (below : List Frame) (meth : Method) (c : Code) (H : Heap) (locs : List Loc) (cells slots : Nat) (Q : State → Prop) (g : JFrame) (q : Addr) : Prop :=
  ∀ T : State, T.heap = H → Stand p l e R s m args below meth c T locs cells slots → ∃ t, Steps p.tables e below ((T.setTop g).pushFrame (.throwing q)) t ∧ Q t
def vx_Run (p : Program) (l : Launch) (e : Env) (R : Room) (s : State) (m : MethodId) (args : Array Value) (below : List Frame) (meth : Method) (c : Code) (H : Heap) (locs : List Loc) (cells slots mc ms : Nat) (g : JFrame) (rest : List Value) (Qa : State → Outcome → State → Prop) (XC : String → State → State → Prop) (free : Addr → Prop) : Prop :=
  ∀ T : State, T.heap = H → Stand p l e R s m args below meth c T locs cells slots →
    (∃ (v : Option Value) (st₀ t T' : State) (L : List Loc), st₀.heap = H ∧ Stand p l e R s m args below meth c T' (locs ++ L) (cells + mc) (slots + ms) ∧ (∀ q ∈ L, free q.base) ∧ T'.heap = t.heap ∧ T'.vm = t.vm ∧ Qa st₀ (.returned v) t ∧
      Goes p e below T g T' { g with pc := g.pc + 3, stack := v.toList ++ rest }) ∨
    (∃ (q : Addr) (st₀ t T' : State) (L : List Loc) (E : String) (ce : Cell), st₀.heap = H ∧ Stand p l e R s m args below meth c T' (locs ++ L) (cells + mc) (slots + ms) ∧ (∀ z ∈ L, free z.base) ∧ T'.heap = t.heap ∧ T'.vm = t.vm ∧ XC E st₀ t ∧ t.heap[q]? = some ce ∧ ce.vm = .none ∧ s.vm.findClass E = some ce.cls ∧
      Steps p.tables e below (T.setTop g) ((T'.setTop { g with stack := rest }).pushFrame (.throwing q)))
def vx_X {S : Type} (px : S → Prop) (B : String → S → State → Prop) (A : Nat → Prop) : String → State → State → Prop := fun E st t => ∃ u : S, px u ∧ B E u t ∧ va_F A st t
section Runs
variable {p : Program} {l : Launch} {e : Env} {R : Room} {s : State} {m : MethodId} {args : Array Value} {below : List Frame} {meth : Method} {c : Code} {H : Heap} {locs : List Loc} {cells slots : Nat}
variable {y : MethodName} {bytes cc : ByteArray} {maxL nL mc ms n index : Nat} {ret : Option FieldType} {ws : List Cond} {rm : Room} {Pc : Array Value → State → Prop} {Qc : Array Value → State → Outcome → State → Prop} {XC : String → State → State → Prop} {free : Addr → Prop} {Ts : List Cond} {own C : String} {b : Addr} {As rest : List Value} {g : JFrame}
theorem vx_callBack (cb : CallB R s args own index y bytes maxL ret ws rm mc ms n) (hM : vx_Met l y ws rm Pc Qc XC mc ms free) (hbl : FrameBlind Pc) : vx_Back l R p e below s args y 3 8 (PreOf R mc ms Pc) (PostOf Qc mc ms free) (vx_Post XC mc ms free) := by
  obtain ⟨hrc, hrs, hfr, hlo, hws, hcw, -, hini, -⟩ := cb
  exact vx_back (bytes := bytes) (maxL := maxL) (ret := ret) hM hbl hrc hrs hfr hlo hws hcw (fun a' U hW => word_at hW (Or.inl (by first | rfl | simp [Cond.onTables, Cond.keeps, Cond.steady])) hini)
theorem vx_runV (S : CallFix p m c cc nL s args Ts own) (hM : vx_Met l y ws rm Pc Qc XC mc ms free) (cw : CallW R s args own C index y bytes maxL ret ws rm mc ms n) (hp : PreV s H C b Pc As)
    (hg : g.method = m) (hn : As.length = n) (hsize : g.locals.size = nL) (hstack : g.stack = As.reverse ++ .ref b :: rest) (hW : 2 * g.monitorRoom + (rest.map fun v => v.category).sum ≤ 8) (hdg : decode cc g.pc = .ok (.invokevirtual index, 3)) (hf : cells + mc ≤ R.cells ∧ slots + ms ≤ R.slots) :
    vx_Run p l e R s m args below meth c H locs cells slots mc ms g rest (Qc (Value.ref b :: As).toArray) XC free := by
  have hK : vx_Back l R p e below s args y 3 8 (PreOf R mc ms Pc) (PostOf Qc mc ms free) (vx_Post XC mc ms free) := vx_callBack cw.1 hM hp.1
  obtain ⟨⟨-, -, -, -, -, -, hcode, -, hy, hlen, hl⟩, hin, hse⟩ := cw
  obtain ⟨hx, hb, hml, ho, -⟩ := S
  obtain ⟨-, ⟨cellB, hcB, hoB, hclB⟩, hPc⟩ := hp
  intro T hT X
  rcases vx_callV X hx (C := C) (bytes := bytes) (maxL := maxL) (ret := ret) ho hl hin hse hcode hy hK (by rw [hT]; exact hcB) hoB hclB hg (hsize.trans hml.symm) (argsL := As) (rest := rest) (fun sig h => hn.trans (hlen sig h)) hstack hW (by rw [hb]; exact hdg)
    (fun vm₁ hW₁ => ⟨hf.1, hf.2, hPc (T.setVm vm₁) hT hW₁⟩) with ⟨v, vm₁, ⟨U', l2, c2, s2⟩, hW₁, X', ⟨g', mk, t, L, e1, e2, hq, h1, hL, h2, h3⟩, st⟩ | ⟨q, vm₁, ⟨U', l2, c2, s2⟩, hW₁, X', ⟨g', mk, t, L, E, ce, e1, e2, hq, hce, hcv, hcl, h1, hL, h2, h3⟩, st⟩
  · dsimp only [Pt.U, Pt.locs, Pt.cells, Pt.slots] at X' e1 e2 h1 h2 h3 st
    subst h1; subst h2; subst h3
    exact Or.inl ⟨v, (T.setVm vm₁).calling g' mk (Value.ref b :: As).toArray, t, U', L, hT, X', hL, e1, e2, hq, st⟩
  · dsimp only [Pt.U, Pt.locs, Pt.cells, Pt.slots] at X' e1 e2 h1 h2 h3 st hcl
    subst h1; subst h2; subst h3
    exact Or.inr ⟨q, (T.setVm vm₁).calling g' mk (Value.ref b :: As).toArray, t, U', L, E, ce, hT, X', hL, e1, e2, hq, hce, hcv, vx_cls hW₁ hcl, st⟩
theorem vx_runS (S : CallFix p m c cc nL s args Ts own) (hM : vx_Met l y ws rm Pc Qc XC mc ms free) (cw : CallB R s args own index y bytes maxL ret ws rm mc ms n ∧ (Cond.static y).before args s = true) (hp : PreS s H Pc As)
    (hg : g.method = m) (hn : As.length = n) (hsize : g.locals.size = nL) (hstack : g.stack = As.reverse ++ rest) (hW : 2 * g.monitorRoom + (rest.map fun v => v.category).sum ≤ 8) (hdg : decode cc g.pc = .ok (.invokestatic index, 3)) (hf : cells + mc ≤ R.cells ∧ slots + ms ≤ R.slots) :
    vx_Run p l e R s m args below meth c H locs cells slots mc ms g rest (Qc As.toArray) XC free := by
  have hK : vx_Back l R p e below s args y 3 8 (PreOf R mc ms Pc) (PostOf Qc mc ms free) (vx_Post XC mc ms free) := vx_callBack cw.1 hM hp.1
  obtain ⟨⟨-, -, -, -, -, -, hcode, hini, hy, hlen, hl⟩, hstt⟩ := cw
  obtain ⟨hx, hb, hml, ho, -⟩ := S
  intro T hT X
  rcases vx_callS X hx (bytes := bytes) (maxL := maxL) (ret := ret) ho hl hstt hini hcode hy hK hg (hsize.trans hml.symm) (argsL := As) (rest := rest) (fun sig h => hn.trans (hlen sig h)) hstack hW (by rw [hb]; exact hdg)
    (fun vm₁ hW₁ => ⟨hf.1, hf.2, hp.2 (T.setVm vm₁) hT hW₁⟩) with ⟨v, vm₁, ⟨U', l2, c2, s2⟩, hW₁, X', ⟨g', mk, t, L, e1, e2, hq, h1, hL, h2, h3⟩, st⟩ | ⟨q, vm₁, ⟨U', l2, c2, s2⟩, hW₁, X', ⟨g', mk, t, L, E, ce, e1, e2, hq, hce, hcv, hcl, h1, hL, h2, h3⟩, st⟩
  · dsimp only [Pt.U, Pt.locs, Pt.cells, Pt.slots] at X' e1 e2 h1 h2 h3 st
    subst h1; subst h2; subst h3
    exact Or.inl ⟨v, (T.setVm vm₁).calling g' mk As.toArray, t, U', L, hT, X', hL, e1, e2, hq, st⟩
  · dsimp only [Pt.U, Pt.locs, Pt.cells, Pt.slots] at X' e1 e2 h1 h2 h3 st hcl
    subst h1; subst h2; subst h3
    exact Or.inr ⟨q, (T.setVm vm₁).calling g' mk As.toArray, t, U', L, E, ce, hT, X', hL, e1, e2, hq, hce, hcv, vx_cls hW₁ hcl, st⟩
end Runs
section Rows
variable {p : Program} {l : Launch} {e : Env} {R : Room} {s : State} {m : MethodId} {args : Array Value} {below : List Frame} {meth : Method} {c : Code} {H : Heap} {locs : List Loc} {cells slots : Nat} {Q : State → Prop}
variable {mc ms : Nat} {free : Addr → Prop} {A0 A1 : Nat → Prop} {H0 : Heap} {a : Array Value} {pc : Nat} {ls : Array Slot} {st0 rest : List Value}
theorem vx_keep {st₀ t T' : State} {L : List Loc} (h0 : st₀.heap = H) (e1 : T'.heap = t.heap) (hS : va_S A0 H0 H locs) (hA : ∀ q, q < H.size → A1 q → A0 q) (hf : ∀ q, free q → A0 q) (hL : ∀ q ∈ L, free q.base) (hF : va_F A1 st₀ t) :
    H.size ≤ T'.heap.size ∧ (∀ q : Nat, q < H.size → ¬ A1 q → T'.heap[q]? = H[q]?) ∧ va_S A0 H0 T'.heap (locs ++ L) := by
  obtain ⟨hz, hk⟩ := hF
  rw [h0] at hz hk
  exact ⟨by rw [e1]; exact hz, fun q h1 h2 => by rw [e1]; exact hk q h1 h2,
    ⟨Nat.le_trans hS.1 (by rw [e1]; exact hz), fun q h1 h2 => by rw [e1, hk q (Nat.lt_of_lt_of_le h1 hS.1) (fun z => h2 (hA q (Nat.lt_of_lt_of_le h1 hS.1) z))]; exact hS.2.1 q h1 h2, fun q hq => by
      rcases List.mem_append.mp hq with h | h
      · exact hS.2.2 q h
      · exact hf _ (hL q h)⟩⟩
theorem vx_calli {S SX : Type} {post : Int32 → S → Prop} {px : SX → Prop} {B : S → State → Prop} {BX : String → SX → State → Prop} {AX : Nat → Prop} (hr : vx_Run p l e R s m args below meth c H locs cells slots mc ms (F0 m pc ls st0) rest (va_Qi post B A1 a) (vx_X px BX AX) free) (hS : va_S A0 H0 H locs) (hA : ∀ q, q < H.size → A1 q → A0 q) (hf : ∀ q, free q → A0 q) (hAX : ∀ q, q < H.size → AX q → A0 q)
    (kx : ∀ (E : String) (ce : Cell) (q9 : Addr) (u : SX) (t : State) (H1 : Heap) (locs1 : List Loc), t.heap = H1 → s.vm.Alike t.vm → px u → BX E u t → H.size ≤ H1.size → (∀ q : Nat, q < H.size → ¬ AX q → H1[q]? = H[q]?) → va_S A0 H0 H1 locs1 → H1[q9]? = some ce → ce.vm = .none → s.vm.findClass E = some ce.cls → vx_W p l e R s m args below meth c H1 locs1 (cells + mc) (slots + ms) Q (F0 m pc ls rest) q9)
    (kk : ∀ (r : Int32) (u : S) (t : State) (H1 : Heap) (locs1 : List Loc), t.heap = H1 → s.vm.Alike t.vm → post r u → B u t → H.size ≤ H1.size → (∀ q : Nat, q < H.size → ¬ A1 q → H1[q]? = H[q]?) → va_S A0 H0 H1 locs1 → W p l e R s m args below meth c H1 locs1 (cells + mc) (slots + ms) Q (F0 m (pc + 3) ls (.int r :: rest))) : W p l e R s m args below meth c H locs cells slots Q (F0 m pc ls st0) := by
  intro T hT X
  rcases hr T hT X with ⟨v, st₀, t, T', L, h0, X', hL, e1, e2, ⟨⟨r, u, hv, hp, hb⟩, hF⟩, st⟩ | ⟨q, st₀, t, T', L, E, ce, h0, X', hL, e1, e2, ⟨u, hp, hb, hF⟩, hce, hcv, hcl, st⟩
  · cases hv
    obtain ⟨k1, k2, k3⟩ := vx_keep h0 e1 hS hA hf hL hF
    obtain ⟨t2, a1, b1⟩ := kk r u t T'.heap (locs ++ L) e1.symm (by rw [← e2]; exact X'.warmed.alike) hp hb k1 k2 k3 T' rfl X'
    exact ⟨t2, st t2 a1, b1⟩
  · obtain ⟨k1, k2, k3⟩ := vx_keep h0 e1 hS hAX hf hL hF
    obtain ⟨t2, a1, b1⟩ := kx E ce q u t T'.heap (locs ++ L) e1.symm (by rw [← e2]; exact X'.warmed.alike) hp hb k1 k2 k3 (by rw [e1]; exact hce) hcv hcl T' rfl X'
    exact ⟨t2, st.trans a1, b1⟩
theorem vx_calll {S SX : Type} {post : Int64 → S → Prop} {px : SX → Prop} {B : S → State → Prop} {BX : String → SX → State → Prop} {AX : Nat → Prop} (hr : vx_Run p l e R s m args below meth c H locs cells slots mc ms (F0 m pc ls st0) rest (va_Ql post B A1 a) (vx_X px BX AX) free) (hS : va_S A0 H0 H locs) (hA : ∀ q, q < H.size → A1 q → A0 q) (hf : ∀ q, free q → A0 q) (hAX : ∀ q, q < H.size → AX q → A0 q)
    (kx : ∀ (E : String) (ce : Cell) (q9 : Addr) (u : SX) (t : State) (H1 : Heap) (locs1 : List Loc), t.heap = H1 → s.vm.Alike t.vm → px u → BX E u t → H.size ≤ H1.size → (∀ q : Nat, q < H.size → ¬ AX q → H1[q]? = H[q]?) → va_S A0 H0 H1 locs1 → H1[q9]? = some ce → ce.vm = .none → s.vm.findClass E = some ce.cls → vx_W p l e R s m args below meth c H1 locs1 (cells + mc) (slots + ms) Q (F0 m pc ls rest) q9)
    (kk : ∀ (r : Int64) (u : S) (t : State) (H1 : Heap) (locs1 : List Loc), t.heap = H1 → s.vm.Alike t.vm → post r u → B u t → H.size ≤ H1.size → (∀ q : Nat, q < H.size → ¬ A1 q → H1[q]? = H[q]?) → va_S A0 H0 H1 locs1 → W p l e R s m args below meth c H1 locs1 (cells + mc) (slots + ms) Q (F0 m (pc + 3) ls (.long r :: rest))) : W p l e R s m args below meth c H locs cells slots Q (F0 m pc ls st0) := by
  intro T hT X
  rcases hr T hT X with ⟨v, st₀, t, T', L, h0, X', hL, e1, e2, ⟨⟨r, u, hv, hp, hb⟩, hF⟩, st⟩ | ⟨q, st₀, t, T', L, E, ce, h0, X', hL, e1, e2, ⟨u, hp, hb, hF⟩, hce, hcv, hcl, st⟩
  · cases hv
    obtain ⟨k1, k2, k3⟩ := vx_keep h0 e1 hS hA hf hL hF
    obtain ⟨t2, a1, b1⟩ := kk r u t T'.heap (locs ++ L) e1.symm (by rw [← e2]; exact X'.warmed.alike) hp hb k1 k2 k3 T' rfl X'
    exact ⟨t2, st t2 a1, b1⟩
  · obtain ⟨k1, k2, k3⟩ := vx_keep h0 e1 hS hAX hf hL hF
    obtain ⟨t2, a1, b1⟩ := kx E ce q u t T'.heap (locs ++ L) e1.symm (by rw [← e2]; exact X'.warmed.alike) hp hb k1 k2 k3 (by rw [e1]; exact hce) hcv hcl T' rfl X'
    exact ⟨t2, st.trans a1, b1⟩
theorem vx_callf {S SX : Type} {post : UInt32 → S → Prop} {px : SX → Prop} {B : S → State → Prop} {BX : String → SX → State → Prop} {AX : Nat → Prop} (hr : vx_Run p l e R s m args below meth c H locs cells slots mc ms (F0 m pc ls st0) rest (va_Qf post B A1 a) (vx_X px BX AX) free) (hS : va_S A0 H0 H locs) (hA : ∀ q, q < H.size → A1 q → A0 q) (hf : ∀ q, free q → A0 q) (hAX : ∀ q, q < H.size → AX q → A0 q)
    (kx : ∀ (E : String) (ce : Cell) (q9 : Addr) (u : SX) (t : State) (H1 : Heap) (locs1 : List Loc), t.heap = H1 → s.vm.Alike t.vm → px u → BX E u t → H.size ≤ H1.size → (∀ q : Nat, q < H.size → ¬ AX q → H1[q]? = H[q]?) → va_S A0 H0 H1 locs1 → H1[q9]? = some ce → ce.vm = .none → s.vm.findClass E = some ce.cls → vx_W p l e R s m args below meth c H1 locs1 (cells + mc) (slots + ms) Q (F0 m pc ls rest) q9)
    (kk : ∀ (r : UInt32) (u : S) (t : State) (H1 : Heap) (locs1 : List Loc), t.heap = H1 → s.vm.Alike t.vm → post r u → B u t → H.size ≤ H1.size → (∀ q : Nat, q < H.size → ¬ A1 q → H1[q]? = H[q]?) → va_S A0 H0 H1 locs1 → W p l e R s m args below meth c H1 locs1 (cells + mc) (slots + ms) Q (F0 m (pc + 3) ls (.float r :: rest))) : W p l e R s m args below meth c H locs cells slots Q (F0 m pc ls st0) := by
  intro T hT X
  rcases hr T hT X with ⟨v, st₀, t, T', L, h0, X', hL, e1, e2, ⟨⟨r, u, hv, hp, hb⟩, hF⟩, st⟩ | ⟨q, st₀, t, T', L, E, ce, h0, X', hL, e1, e2, ⟨u, hp, hb, hF⟩, hce, hcv, hcl, st⟩
  · cases hv
    obtain ⟨k1, k2, k3⟩ := vx_keep h0 e1 hS hA hf hL hF
    obtain ⟨t2, a1, b1⟩ := kk r u t T'.heap (locs ++ L) e1.symm (by rw [← e2]; exact X'.warmed.alike) hp hb k1 k2 k3 T' rfl X'
    exact ⟨t2, st t2 a1, b1⟩
  · obtain ⟨k1, k2, k3⟩ := vx_keep h0 e1 hS hAX hf hL hF
    obtain ⟨t2, a1, b1⟩ := kx E ce q u t T'.heap (locs ++ L) e1.symm (by rw [← e2]; exact X'.warmed.alike) hp hb k1 k2 k3 (by rw [e1]; exact hce) hcv hcl T' rfl X'
    exact ⟨t2, st.trans a1, b1⟩
theorem vx_calld {S SX : Type} {post : UInt64 → S → Prop} {px : SX → Prop} {B : S → State → Prop} {BX : String → SX → State → Prop} {AX : Nat → Prop} (hr : vx_Run p l e R s m args below meth c H locs cells slots mc ms (F0 m pc ls st0) rest (va_Qd post B A1 a) (vx_X px BX AX) free) (hS : va_S A0 H0 H locs) (hA : ∀ q, q < H.size → A1 q → A0 q) (hf : ∀ q, free q → A0 q) (hAX : ∀ q, q < H.size → AX q → A0 q)
    (kx : ∀ (E : String) (ce : Cell) (q9 : Addr) (u : SX) (t : State) (H1 : Heap) (locs1 : List Loc), t.heap = H1 → s.vm.Alike t.vm → px u → BX E u t → H.size ≤ H1.size → (∀ q : Nat, q < H.size → ¬ AX q → H1[q]? = H[q]?) → va_S A0 H0 H1 locs1 → H1[q9]? = some ce → ce.vm = .none → s.vm.findClass E = some ce.cls → vx_W p l e R s m args below meth c H1 locs1 (cells + mc) (slots + ms) Q (F0 m pc ls rest) q9)
    (kk : ∀ (r : UInt64) (u : S) (t : State) (H1 : Heap) (locs1 : List Loc), t.heap = H1 → s.vm.Alike t.vm → post r u → B u t → H.size ≤ H1.size → (∀ q : Nat, q < H.size → ¬ A1 q → H1[q]? = H[q]?) → va_S A0 H0 H1 locs1 → W p l e R s m args below meth c H1 locs1 (cells + mc) (slots + ms) Q (F0 m (pc + 3) ls (.double r :: rest))) : W p l e R s m args below meth c H locs cells slots Q (F0 m pc ls st0) := by
  intro T hT X
  rcases hr T hT X with ⟨v, st₀, t, T', L, h0, X', hL, e1, e2, ⟨⟨r, u, hv, hp, hb⟩, hF⟩, st⟩ | ⟨q, st₀, t, T', L, E, ce, h0, X', hL, e1, e2, ⟨u, hp, hb, hF⟩, hce, hcv, hcl, st⟩
  · cases hv
    obtain ⟨k1, k2, k3⟩ := vx_keep h0 e1 hS hA hf hL hF
    obtain ⟨t2, a1, b1⟩ := kk r u t T'.heap (locs ++ L) e1.symm (by rw [← e2]; exact X'.warmed.alike) hp hb k1 k2 k3 T' rfl X'
    exact ⟨t2, st t2 a1, b1⟩
  · obtain ⟨k1, k2, k3⟩ := vx_keep h0 e1 hS hAX hf hL hF
    obtain ⟨t2, a1, b1⟩ := kx E ce q u t T'.heap (locs ++ L) e1.symm (by rw [← e2]; exact X'.warmed.alike) hp hb k1 k2 k3 (by rw [e1]; exact hce) hcv hcl T' rfl X'
    exact ⟨t2, st.trans a1, b1⟩
theorem vx_callv {S SX : Type} {post : S → Prop} {px : SX → Prop} {B : S → State → Prop} {BX : String → SX → State → Prop} {AX : Nat → Prop} (hr : vx_Run p l e R s m args below meth c H locs cells slots mc ms (F0 m pc ls st0) rest (va_Qv post B A1 a) (vx_X px BX AX) free) (hS : va_S A0 H0 H locs) (hA : ∀ q, q < H.size → A1 q → A0 q) (hf : ∀ q, free q → A0 q) (hAX : ∀ q, q < H.size → AX q → A0 q)
    (kx : ∀ (E : String) (ce : Cell) (q9 : Addr) (u : SX) (t : State) (H1 : Heap) (locs1 : List Loc), t.heap = H1 → s.vm.Alike t.vm → px u → BX E u t → H.size ≤ H1.size → (∀ q : Nat, q < H.size → ¬ AX q → H1[q]? = H[q]?) → va_S A0 H0 H1 locs1 → H1[q9]? = some ce → ce.vm = .none → s.vm.findClass E = some ce.cls → vx_W p l e R s m args below meth c H1 locs1 (cells + mc) (slots + ms) Q (F0 m pc ls rest) q9)
    (kk : ∀ (u : S) (t : State) (H1 : Heap) (locs1 : List Loc), t.heap = H1 → s.vm.Alike t.vm → post u → B u t → H.size ≤ H1.size → (∀ q : Nat, q < H.size → ¬ A1 q → H1[q]? = H[q]?) → va_S A0 H0 H1 locs1 → W p l e R s m args below meth c H1 locs1 (cells + mc) (slots + ms) Q (F0 m (pc + 3) ls (rest))) : W p l e R s m args below meth c H locs cells slots Q (F0 m pc ls st0) := by
  intro T hT X
  rcases hr T hT X with ⟨v, st₀, t, T', L, h0, X', hL, e1, e2, ⟨⟨u, hv, hp, hb⟩, hF⟩, st⟩ | ⟨q, st₀, t, T', L, E, ce, h0, X', hL, e1, e2, ⟨u, hp, hb, hF⟩, hce, hcv, hcl, st⟩
  · cases hv
    obtain ⟨k1, k2, k3⟩ := vx_keep h0 e1 hS hA hf hL hF
    obtain ⟨t2, a1, b1⟩ := kk u t T'.heap (locs ++ L) e1.symm (by rw [← e2]; exact X'.warmed.alike) hp hb k1 k2 k3 T' rfl X'
    exact ⟨t2, st t2 a1, b1⟩
  · obtain ⟨k1, k2, k3⟩ := vx_keep h0 e1 hS hAX hf hL hF
    obtain ⟨t2, a1, b1⟩ := kx E ce q u t T'.heap (locs ++ L) e1.symm (by rw [← e2]; exact X'.warmed.alike) hp hb k1 k2 k3 (by rw [e1]; exact hce) hcv hcl T' rfl X'
    exact ⟨t2, st.trans a1, b1⟩
/-- caught by the row x of this method's table; the rows ahead don't take it -/
theorem vx_catch {own name : String} {E : String} {ce : Cell} {q : Addr} (hown : s.vm.findClass own = some m.cls) (pre : List ExceptionTableEntry) (x : ExceptionTableEntry) (suf : List ExceptionTableEntry) (hsplit : c.exceptionTable.toList = pre ++ x :: suf)
    (hpass : ∀ z ∈ pre, covers z pc = false ∨ (z.catchType ≠ 0 ∧ ∃ nm : String, (Cond.classLink own z.catchType nm).before args s = true ∧ va_Nc E nm s)) (hx : covers x pc = true) (h0 : x.catchType ≠ 0)
    (hlink : (Cond.classLink own x.catchType name).before args s = true) (hcast : (Cond.castable E name).before args s = true) (hcell : H[q]? = some ce) (hv : ce.vm = .none) (hcl : s.vm.findClass E = some ce.cls)
    (kk : W p l e R s m args below meth c H locs cells slots Q (F0 m x.handlerPc ls [.ref q])) : vx_W p l e R s m args below meth c H locs cells slots Q (F0 m pc ls rest) q := by
  intro T hT X
  have hpl : e.platform.magicAccessors = ({} : Platform).magicAccessors := by rw [X.admits.platform]
  obtain ⟨c3, c4, hc3, hc4, hasg⟩ := Cond.castable_spec hcast
  cases Option.some.inj (hc3.symm.trans hcl)
  obtain ⟨c5, hc5, hcl5⟩ := Cond.classLink_spec hown hlink e.platform hpl
  cases Option.some.inj (hc4.symm.trans hc5)
  obtain ⟨vm', X', st⟩ := X.thenCaughtThrough q (g := F0 m pc ls rest) rfl (Steps.refl _) (by rw [hT]; exact hcell) (by rw [hv]; rfl) (by obtain ⟨k9, h9, -⟩ := Vm.findClass_spec hcl; exact ⟨k9, h9⟩) pre x suf hsplit
    (fun z hz => by
      rcases hpass z hz with h | ⟨hz0, nm, hl1, hn1⟩
      · exact Or.inl h
      · obtain ⟨c6, hc6, hcl6⟩ := Cond.classLink_spec hown hl1 e.platform hpl
        obtain ⟨a8, b8, h1, h2, h3⟩ := hn1
        cases Option.some.inj (h1.symm.trans hcl)
        cases Option.some.inj (h2.symm.trans hc6)
        exact Or.inr ⟨hz0, _, hcl6, h3⟩) hx (Or.inr ⟨h0, c4, hcl5, hasg⟩)
  obtain ⟨t, a1, b1⟩ := kk (T.setVm vm') hT X'
  exact ⟨t, st.trans a1, b1⟩
end Rows
section Ends
variable {p : Program} {l : Launch} {e : Env} {R : Room} {s : State} {m : MethodId} {args : Array Value} {below : List Frame} {meth : Method} {c : Code} {H : Heap} {locs : List Loc} {cells slots : Nat} {Q : State → Prop}
variable {mc ms : Nat} {free : Addr → Prop} {A0 A1 : Nat → Prop} {H0 : Heap} {a : Array Value} {ls : Array Slot} {st0 rest : List Value}
variable {Qc : Array Value → State → Outcome → State → Prop} {XC : String → State → State → Prop}
/-- what a body that may throw owes at its end -/
def vx_MQ (below : List Frame) (Qc : Array Value → State → Outcome → State → Prop) (XC : String → State → State → Prop) (a : Array Value) (s : State) (mc ms : Nat) (free : Addr → Prop) : State → Prop := fun t =>
  ∃ o, t.status = .running ∧ Ended t below o ∧ vx_Q Qc XC mc ms free a s o t
theorem vx_ret {g : JFrame} {mc ms : Nat} (k : W p l e R s m args below meth c H locs cells slots (MQ below Qc args s mc ms free) g) : W p l e R s m args below meth c H locs cells slots (vx_MQ below Qc XC args s mc ms free) g := by
  intro T hT X
  obtain ⟨t, a1, o, b1, b2, b3, b4⟩ := k T hT X
  exact ⟨t, a1, o, b1, b2, Or.inl ⟨b3, b4⟩⟩
/-- not caught here: it goes on to the caller -/
theorem vx_widen {g : JFrame} {q : Addr} {k n : Nat} (h1 : cells ≤ k) (h2 : slots ≤ n) (kk : vx_W p l e R s m args below meth c H locs k n Q g q) : vx_W p l e R s m args below meth c H locs cells slots Q g q := fun T hT X => kk T hT (stand_widen X h1 h2)
theorem vx_out {pc : Nat} {E : String} {ce : Cell} {q : Addr} {mc ms : Nat} (hout : ∀ x ∈ c.exceptionTable.toList, covers x pc = false) (hlocks : meth.locks = false) (hcell : H[q]? = some ce) (hv : ce.vm = .none) (hcl : s.vm.findClass E = some ce.cls)
    (hx : ∀ t : State, t.heap = H → s.vm.Alike t.vm → XC E s t) (hf : ∀ z ∈ locs, free z.base) (hc : cells ≤ mc) (hs : slots ≤ ms) :
    vx_W p l e R s m args below meth c H locs cells slots (vx_MQ below Qc XC args s mc ms free) (F0 m pc ls rest) q := by
  intro T hT X
  obtain ⟨st1, hrun, hend, hW, hsm⟩ := X.leaveThrown q (g := F0 m pc ls rest) rfl rfl rfl hout hlocks
  have hcell9 : (T.setFrames (.throwing q :: below)).heap[q]? = some ce := by
    show T.heap[q]? = some ce
    rw [hT]; exact hcell
  exact ⟨_, st1, .threw q, hrun, hend, Or.inr ⟨q, rfl, E, ce, locs, hx _ hT hW.alike, hcell9, hv, hcl, hW, hsm.mono hc hs, hf⟩⟩
theorem vx_frame {U : State} {k n : Nat} (h : s.sameButNew ({ U with vm := s.vm } : State) locs k n) : s.heap.size ≤ U.heap.size ∧ ∀ q : Nat, q < s.heap.size → (∀ z ∈ locs, z.base ≠ q) → U.heap[q]? = s.heap[q]? := by
  obtain ⟨-, h2, -, -, -, h6⟩ := h
  refine ⟨h2, fun q hq hz => ?_⟩
  obtain ⟨c9, e1, e2, e3, e4⟩ := h6 q _ (Array.getElem?_eq_getElem hq)
  have hs : c9.slots = (s.heap[q]).slots := Array.ext_getElem? fun i => e4 i fun hm => hz _ hm rfl
  have h9 : c9 = s.heap[q] := by
    rw [hs] at e2
    exact e2
  have e5 : U.heap[q]? = some c9 := e1
  rw [e5, h9, Array.getElem?_eq_getElem hq]
/-- the words of a throw but the four that speak of the heap -/
def vx_no (w : Cond) : Bool := decide (w ≠ .isRef (.static Bundle.tN "UNASSIGNED_STACK" Bundle.steD)) && decide (w ≠ .isRef (.static Bundle.tN "SUPPRESSED_SENTINEL" Bundle.listD)) && decide (w ≠ .laysStatic Bundle.tN "UNASSIGNED_STACK" Bundle.steD) && decide (w ≠ .laysStatic Bundle.tN "SUPPRESSED_SENTINEL" Bundle.listD)
def vx_at0 (own : String) (ic : Nat) (X : String) (names : List String) : List Cond := (Bundle.ownAtoms0 own ic X names).filter vx_no
def vx_atS (own : String) (ic : Nat) (X : String) (names : List String) : List Cond := (Bundle.ownAtoms own ic X names).filter vx_no
/-- a word that the tables alone decide, or a good one -/
def vx_ot (w : Cond) : Bool := w.onTables || goodWord w
theorem vx_ot_at {args a' : Array Value} {s U : State} {w : Cond} (hW : s.WarmedH U.vm) (hvm : s.vm = U.vm) (hg : vx_ot w = true) (h : w.before args s = true) : w.before a' U = true := by
  simp only [vx_ot, Bool.or_eq_true] at hg
  rcases hg with hg | hg
  · exact va_tabs hg hvm h
  · exact word_at hW (good_of_word hg) h
/-- a list's words: the good ones out of the method's own list, the others by premises of their own -/
theorem vx_hat {args : Array Value} {s : State} {L B : List Cond} (h1 : ∀ w ∈ L.filter goodWord, w.before args s = true) (h2 : ∀ w ∈ L.filter (fun w => !goodWord w), w ∈ B) (h3 : ∀ w ∈ B, w.before args s = true) : ∀ w ∈ L, w.before args s = true := by
  intro w hw
  by_cases g : goodWord w = true
  · exact h1 w (List.mem_filter.mpr ⟨hw, g⟩)
  · refine h3 w (h2 w (List.mem_filter.mpr ⟨hw, ?_⟩))
    show (!goodWord w) = true
    cases hgw : goodWord w
    · rfl
    · exact absurd hgw g
theorem vx_c {args : Array Value} {s : State} {w : Cond} {B : List Cond} (h : w.before args s = true) (t : ∀ w ∈ B, w.before args s = true) : ∀ w' ∈ w :: B, w'.before args s = true := fun w' h' => (List.mem_cons.mp h').elim (fun e => by rw [e]; exact h) (t w')
theorem vx_n {args : Array Value} {s : State} : ∀ w ∈ ([] : List Cond), w.before args s = true := fun _ h => nomatch h
theorem vx_own {args : Array Value} {s : State} {L : List Cond} (h1 : ∀ w ∈ L.filter vx_no, w.before args s = true)
    (hU : (Cond.isRef (.static Bundle.tN "UNASSIGNED_STACK" Bundle.steD)).before args s = true) (hN : (Cond.isRef (.static Bundle.tN "SUPPRESSED_SENTINEL" Bundle.listD)).before args s = true)
    (lU : (Cond.laysStatic Bundle.tN "UNASSIGNED_STACK" Bundle.steD).before args s = true) (lN : (Cond.laysStatic Bundle.tN "SUPPRESSED_SENTINEL" Bundle.listD).before args s = true) : ∀ w ∈ L, w.before args s = true := by
  intro w hw
  by_cases e1 : w = .isRef (.static Bundle.tN "UNASSIGNED_STACK" Bundle.steD)
  · rw [e1]; exact hU
  · by_cases e2 : w = .isRef (.static Bundle.tN "SUPPRESSED_SENTINEL" Bundle.listD)
    · rw [e2]; exact hN
    · by_cases e3 : w = .laysStatic Bundle.tN "UNASSIGNED_STACK" Bundle.steD
      · rw [e3]; exact lU
      · by_cases e4 : w = .laysStatic Bundle.tN "SUPPRESSED_SENTINEL" Bundle.listD
        · rw [e4]; exact lN
        · exact h1 w (List.mem_filter.mpr ⟨hw, by unfold vx_no; rw [decide_eq_true e1, decide_eq_true e2, decide_eq_true e3, decide_eq_true e4]; rfl⟩)
/-- where a static field lies, its class's statics cell in H -/
def vx_L (C n d : String) (A : Nat → Prop) (U : State) (H : Heap) : Prop := ∃ (c : ClassId) (k : Class) (i : Nat) (f : Field) (a : Nat) (cell : Cell), U.vm.findClass C = some c ∧ U.fieldFound? C n d = some (c, k, i, f) ∧ f.isStatic = true ∧ k.statics = some a ∧ H[a]? = some cell ∧ cell.vm.isStatics = true ∧ cell.cls = c ∧ f.slot < cell.slots.size ∧ k.staticTypes[f.slot]? = some f.type ∧ ¬ A a
theorem vx_L.moved {C n d : String} {A : Nat → Prop} {u U : State} {H : Heap} (hvm : u.vm.Alike U.vm) (h : vx_L C n d A u H) : vx_L C n d A U H := by
  obtain ⟨c, k, i, f, a, cell, h1, h2, h3, h4, h5, h6, h7, h8, h9, h10⟩ := h
  obtain ⟨k', hi', he⟩ := State.fieldFound?_setVm hvm h2
  exact ⟨c, k', i, f, a, cell, by rw [hvm.findClass]; exact h1, hi', h3, by rw [he]; exact h4, h5, h6, h7, h8, by rw [he]; exact h9, h10⟩
theorem vx_L.kept {C n d : String} {A : Nat → Prop} {U : State} {H H1 : Heap} (h : vx_L C n d A U H) (hq : ∀ a : Nat, a < H.size → ¬ A a → H1[a]? = H[a]?) : vx_L C n d A U H1 := by
  obtain ⟨c, k, i, f, a, cell, h1, h2, h3, h4, h5, h6, h7, h8, h9, h10⟩ := h
  exact ⟨c, k, i, f, a, cell, h1, h2, h3, h4, by rw [hq a (Array.getElem?_eq_some_iff.mp h5).1 h10]; exact h5, h6, h7, h8, h9, h10⟩
theorem vx_L.narrow {C n d : String} {A B : Nat → Prop} {U : State} {H : Heap} (h : vx_L C n d A U H) (hAB : ∀ q, B q → A q) : vx_L C n d B U H := by
  obtain ⟨c, k, i, f, a, cell, h1, h2, h3, h4, h5, h6, h7, h8, h9, h10⟩ := h
  exact ⟨c, k, i, f, a, cell, h1, h2, h3, h4, h5, h6, h7, h8, h9, fun z => h10 (hAB _ z)⟩
theorem vx_L.word {C n d : String} {A : Nat → Prop} {s : State} {args : Array Value} (h : vx_L C n d A s s.heap) : (Cond.laysStatic C n d).before args s = true := by
  obtain ⟨c, k, i, f, a, cell, h1, h2, h3, h4, h5, h6, h7, h8, h9, -⟩ := h
  show (Cond.laysStatic C n d).holds args s none s [] = true
  exact Cond.laysStatic_of h1 h2 h3 h4 h5 h6 h7 h8 h9
/-- .. and what it holds: null or some reference -/
def vx_Zq (C n d : String) (A : Nat → Prop) (U : State) (H : Heap) : Prop := va_Zq C n d A U H ∧ vx_L C n d A U H
theorem vx_Zq.moved {C n d : String} {A : Nat → Prop} {u U : State} {H : Heap} (hvm : u.vm.Alike U.vm) (h : vx_Zq C n d A u H) : vx_Zq C n d A U H := ⟨va_Zq.moved hvm h.1, vx_L.moved hvm h.2⟩
theorem vx_Zq.kept {C n d : String} {A : Nat → Prop} {U : State} {H H1 : Heap} (h : vx_Zq C n d A U H) (hq : ∀ a : Nat, a < H.size → ¬ A a → H1[a]? = H[a]?) : vx_Zq C n d A U H1 := ⟨va_Zq.kept h.1 hq, vx_L.kept h.2 hq⟩
theorem vx_Zq.narrow {C n d : String} {A B : Nat → Prop} {U : State} {H : Heap} (h : vx_Zq C n d A U H) (hAB : ∀ q, B q → A q) : vx_Zq C n d B U H := ⟨va_Zq.narrow h.1 hAB, vx_L.narrow h.2 hAB⟩
theorem vx_Zqof {args : Array Value} {s : State} {C n d : String} {A : Nat → Prop} (hl : (Cond.laysStatic C n d).before args s = true) (hini : (Cond.initialized C).before args s = true) (h : (Cond.isRef (.static C n d)).before args s = true) (hA : ∀ a : Nat, a < s.heap.size → ¬ A a) : vx_Zq C n d A s s.heap := by
  refine ⟨va_Zqof hl hini h hA, ?_⟩
  obtain ⟨c, k, i, f, a, cell, h1, h2, h3, h4, h5, h6, h7, h8, h9⟩ := Cond.laysStatic_spec hl
  exact ⟨c, k, i, f, a, cell, h1, h2, h3, h4, h5, h6, h7, h8, h9, hA a (Array.getElem?_eq_some_iff.mp h5).1⟩
theorem vx_isRef {C n d : String} {v : Value} {A : Nat → Prop} {s : State} {args : Array Value} (h : va_Z C n d v A s s.heap) (hv : v.isRef = true) : (Cond.isRef (.static C n d)).before args s = true := by
  obtain ⟨cf, kf, fi, f, a, cell, h1, h2, h3, h4, h5, h6, h7, -⟩ := h
  have he : (Term.static C n d).eval args s none [] s = some v := by
    simp [Term.eval, State.fieldNamed?, h1, h2, h4, h5, h6, h7]
  simp only [Cond.before, Cond.holds, Cond.value, he]
  cases v <;> simp_all [Value.isRef]
theorem vx_isRefq {C n d : String} {A : Nat → Prop} {s : State} {args : Array Value} (h : va_Zq C n d A s s.heap) : (Cond.isRef (.static C n d)).before args s = true := by
  rcases h with h | ⟨t, h⟩
  · exact vx_isRef h rfl
  · exact vx_isRef h rfl
/-- the same frame, seen from here: as if the method were called anew in this heap -/
theorem vx_rebase {T : State} (X : Stand p l e R s m args below meth c T locs cells slots) {R' : Room} (hf : R'.frames ≤ R.frames) (hl : R'.locals ≤ R.locals) (hc : cells + R'.cells ≤ R.cells) (hs : slots + R'.slots ≤ R.slots) :
    Stand p l e R' ((T.setVm s.vm).setFrames (.invoking m args :: below)) m args below meth c T [] 0 0 := by
  have htop : (T.setVm s.vm).topJava?.isSome := X.here.top
  have hF : ((T.setVm s.vm).setFrames (.invoking m args :: below)).frames = .invoking m args :: below := State.frames_setFrames _ (State.cur_lt_of_top htop)
  obtain ⟨g₀, hg0⟩ := Option.isSome_iff_exists.mp htop
  obtain ⟨r, hr⟩ := State.topJava?_eq_some.mp hg0
  have hl9 : e.platform.stackLimits (T.setVm s.vm).me = e.platform.stackLimits s.me := X.limits
  have hb9 : (T.setVm s.vm).me.stackBytes = s.me.stackBytes := X.bytes
  refine ⟨X.admits, X.cas, X.clock, hF, ?_, X.hears, X.method, X.code, X.here, X.tail, X.warmed, ?_, ?_, ?_⟩
  · have h := X.room
    have hU : ((T.setVm s.vm).setFrames (.invoking m args :: below)).localsInUse = s.localsInUse := by
      rw [State.localsInUse_invoking hF (meth := meth) (c := c) X.method X.code, State.localsInUse_invoking X.frames X.method X.code]
    simp only [State.hasRoom, Bool.and_eq_true, decide_eq_true_eq] at h ⊢
    obtain ⟨⟨⟨⟨h1, h2, h3, h4, h5, h6⟩, h7⟩, h8⟩, h9⟩ := h
    rw [X.frames, List.length_cons] at h2 h3
    have q1 := X.heapSize
    have q2 := X.used
    simp only [hF, hU, List.length_cons, State.stackLimits_setFrames, State.stackBytes_setFrames, hl9, hb9]
    refine ⟨⟨⟨⟨by omega, by omega, by omega, by omega, by omega, h6⟩, ?_⟩, ?_⟩, X.book⟩
    · show T.heap.size + R'.cells ≤ e.platform.maxCells
      omega
    · show T.slotsUsed + R'.slots ≤ e.platform.maxSlots
      omega
  · rw [State.stackLimits_setFrames]; rfl
  · rw [State.stackBytes_setFrames]; rfl
  · refine ⟨?_, Nat.le_refl _, Nat.le_refl _, ?_, ?_, fun a c9 h9 => ⟨c9, h9, rfl, rfl, fun _ _ => rfl⟩⟩
    · obtain ⟨t, ht, -⟩ := State.frames_cons hr
      show T.setVm s.vm = { ((T.setVm s.vm).setFrames (.invoking m args :: below)).setFrames (T.setVm s.vm).frames with heap := T.heap, slotsUsed := T.slotsUsed }
      rw [State.setFrames_setFrames, State.setFrames_self ht]
      rfl
    · show T.slotsUsed = T.slotsUsed + ((T.heap.toList.drop T.heap.size).map (·.slots.size)).sum
      rw [List.drop_eq_nil_of_le (Nat.le_of_eq Array.length_toList)]
      rfl
    · show ((T.heap.toList.drop T.heap.size).map (·.slots.size)).sum ≤ 0
      rw [List.drop_eq_nil_of_le (Nat.le_of_eq Array.length_toList)]
      exact Nat.le_refl _
/-- 'throw new E()': new; dup; invokespecial; athrow -/
theorem vx_throw0 {cc : ByteArray} {pc : Nat} (hexec : p.tables.exec = Jvm.exec) (hb : c.code = cc) (hl : l.stackTraces = false) {own cls : String} {names : List String} {ik ic mc ms : Nat} {A : Nat → Prop}
    (hown : s.vm.findClass own = some m.cls) (hcls : Bundle.fit cls = true) (hnames : ∀ n ∈ names, Bundle.fit n = true)
    (hk : (Cond.classLink own ik cls).before args s = true) (hini : (Cond.initialized cls).before args s = true) (hat : ∀ w ∈ vx_at0 own ic cls names, w.before args s = true)
    (hgood : ∀ w ∈ Cond.classLink own ik cls :: Cond.initialized cls :: vx_at0 own ic cls names, vx_ot w = true)
    (hU : vx_Zq Bundle.tN "UNASSIGNED_STACK" Bundle.steD A s s.heap) (hN : vx_Zq Bundle.tN "SUPPRESSED_SENTINEL" Bundle.listD A s s.heap) (hS : va_S A s.heap H locs) (hsize : ls.size = c.maxLocals)
    (d0 : decode cc pc = .ok (.new ik, 3)) (d3 : decode cc (pc + 3) = .ok (.dup, 1)) (d4 : decode cc (pc + 4) = .ok (.invokespecial ic, 3)) (d7 : decode cc (pc + 7) = .ok (.athrow, 1))
    (hout : ∀ x ∈ c.exceptionTable.toList, covers x (pc + 7) = false)
    (hRframes : names.length + 3 < R.frames) (hRlocals : (rest.map fun v => v.category).sum + (13 * (names.length + 1) + 42) ≤ R.locals) (hRcells : cells + 1 ≤ R.cells) (hRslots : slots + 6 ≤ R.slots) (hlocks : meth.locks = false)
    (hx : ∀ t : State, s.vm.Alike t.vm → H.size ≤ t.heap.size → (∀ q : Nat, q < H.size → t.heap[q]? = H[q]?) → XC cls s t)
    (hf : ∀ z ∈ locs, free z.base) (hc : cells + 1 ≤ mc) (hs : slots + 6 ≤ ms) :
    W p l e R s m args below meth c H locs cells slots (vx_MQ below Qc XC args s mc ms free) (F0 m pc ls rest) := by
  intro T hT X
  have htr : e.platform.stackTraces = false := (show e.platform.stackTraces = l.stackTraces by rw [X.admits.platform]).trans hl
  have Y := vx_rebase X (R' := { frames := R.frames, locals := R.locals, cells := 1, slots := 6 }) (Nat.le_refl _) (Nat.le_refl _) hRcells hRslots
  obtain ⟨s', hA⟩ : ∃ z, z = (T.setVm s.vm).setFrames (.invoking m args :: below) := ⟨_, rfl⟩
  rw [← hA] at Y
  have hvm : s'.vm = s.vm := by rw [hA]; rfl
  have hhp : s'.heap = H := by rw [hA]; exact hT
  have hW0 : s.WarmedH s'.vm := by rw [hvm]; exact State.WarmedH.refl s
  have hat' : ∀ w ∈ vx_at0 own ic cls names, w.before args s' = true := fun w hw => vx_ot_at hW0 hvm.symm (hgood w (List.mem_cons_of_mem _ (List.mem_cons_of_mem _ hw))) (hat w hw)
  have hk' : (Cond.classLink own ik cls).before args s' = true := vx_ot_at hW0 hvm.symm (hgood _ List.mem_cons_self) hk
  have hini' : (Cond.initialized cls).before args s' = true := vx_ot_at hW0 hvm.symm (hgood _ (List.mem_cons_of_mem _ List.mem_cons_self)) hini
  have hU' : vx_Zq Bundle.tN "UNASSIGNED_STACK" Bundle.steD A s' s'.heap := by rw [hhp]; exact vx_Zq.moved hW0.alike (hU.kept hS.2.1)
  have hN' : vx_Zq Bundle.tN "SUPPRESSED_SENTINEL" Bundle.listD A s' s'.heap := by rw [hhp]; exact vx_Zq.moved hW0.alike (hN.kept hS.2.1)
  have h : ∀ w ∈ Bundle.ownAtoms0 own ic cls names, w.before args s' = true := vx_own hat' (vx_isRefq hU'.1) (vx_isRefq hN'.1) hU'.2.word hN'.2.word
  have hown' : s'.vm.findClass own = some m.cls := by rw [hvm]; exact hown
  have hins : (Cond.instantiable cls 6).before args s' = true := h _ (by simp [Bundle.ownAtoms0])
  obtain ⟨vm₁, cX, kX, hfX, hkX, -, -, X₁, st1⟩ := Y.newCold hexec (own := own) (C := cls) (index := ik) (n := 6) hown' hk' hins hini'
    (g := F0 m pc ls rest) rfl (by rw [hb]; exact d0) (Nat.le_refl _) (Nat.le_refl _)
  generalize hT1 : (T.setVm vm₁).pushCell { cls := cX, slots := kX.instanceTypes.map defaultValue, vm := .none } = T1 at X₁ st1
  have hcat : (Value.ref T.heap.size).category = 1 := rfl
  have hcellA : T1.heap[T.heap.size]? = some (freshCell cX kX) := by rw [← hT1]; exact State.heap_pushCell_size _ _
  have d3' : decode c.code (pc + 3) = .ok (.dup, 1) := by rw [hb]; exact d3
  obtain ⟨U, hsteps, hrun, hend, hW, hsame, ce, hce, hO⟩ := X₁.ctorThrow0 hexec htr (own := own) (cls := cls) (names := names) (ic := ic) hown' hcls hnames h (fun x hx => nomatch hx) hfX hkX hcellA (by rw [hhp, hT]; exact Nat.le_refl _)
    (g := { method := m, pc := pc + 4, locals := ls, stack := .ref T.heap.size :: .ref T.heap.size :: rest, locked := none }) rfl hsize rfl rfl (rest := rest) rfl
    (by rw [hb]; exact d4) (by rw [hb]; exact d7) hout hRframes (by simp only [List.map_cons, List.sum_cons, hcat]; omega) hlocks
  obtain ⟨f1, f2⟩ := vx_frame hsame
  rw [hhp] at f1 f2
  have hWs : s.WarmedH U.vm := State.WarmedH.trans hW0 hW
  have hcl : s.vm.findClass cls = some ce.cls := by
    have h9 := hO.cls
    rw [hvm] at h9
    exact h9
  have hall : s.sameButNew ({ U with vm := s.vm } : State) locs mc ms := by
    subst hA
    obtain ⟨e1, e2⟩ := hsame
    rw [State.setFrames_setFrames] at e1
    have h2 : (T.setVm s.vm).sameButNew ({ U with vm := s.vm } : State) [] (0 + 1) (0 + 6) := ⟨e1, e2⟩
    have h3 := X.same.trans h2
    rw [List.append_nil] at h3
    exact h3.mono hc hs
  refine ⟨U, ?_, .threw T.heap.size, hrun, hend, Or.inr ⟨T.heap.size, rfl, cls, ce, locs, hx U hWs.alike f1 (fun q hq => f2 q hq (fun z hz => nomatch hz)), hce, hO.vm, hcl, hWs, hall, hf⟩⟩
  refine st1 _ ?_
  show Steps p.tables e below (T1.setTop { method := m, pc := pc + 3, locals := ls, stack := .ref T.heap.size :: rest, locked := none }) _
  jvm_step X₁.here [X₁.here.top, hexec, d3', Value.category]
  exact hsteps
/-- 'throw new E("text")': new; dup; ldc; invokespecial; athrow -/
theorem vx_throwS {cc : ByteArray} {pc : Nat} (hexec : p.tables.exec = Jvm.exec) (hb : c.code = cc) (hl : l.stackTraces = false) {own cls text : String} {names : List String} {ik is ic mc ms sa : Nat} {A : Nat → Prop}
    (hown : s.vm.findClass own = some m.cls) (hcls : Bundle.fit cls = true) (hnames : ∀ n ∈ names, Bundle.fit n = true)
    (hk : (Cond.classLink own ik cls).before args s = true) (hini : (Cond.initialized cls).before args s = true) (hstr : vk_R own is text sa s) (hat : ∀ w ∈ vx_atS own ic cls names, w.before args s = true)
    (hgood : ∀ w ∈ Cond.classLink own ik cls :: Cond.initialized cls :: vx_atS own ic cls names, vx_ot w = true)
    (hU : vx_Zq Bundle.tN "UNASSIGNED_STACK" Bundle.steD A s s.heap) (hN : vx_Zq Bundle.tN "SUPPRESSED_SENTINEL" Bundle.listD A s s.heap) (hS : va_S A s.heap H locs) (hsize : ls.size = c.maxLocals)
    (d0 : decode cc pc = .ok (.new ik, 3)) (d3 : decode cc (pc + 3) = .ok (.dup, 1)) (d4 : decode cc (pc + 4) = .ok (.ldc is, 2)) (d6 : decode cc (pc + 6) = .ok (.invokespecial ic, 3)) (d9 : decode cc (pc + 9) = .ok (.athrow, 1))
    (hout : ∀ x ∈ c.exceptionTable.toList, covers x (pc + 9) = false)
    (hRframes : names.length + 3 < R.frames) (hRlocals : (rest.map fun v => v.category).sum + (13 * (names.length + 1) + 43) ≤ R.locals) (hRcells : cells + 1 ≤ R.cells) (hRslots : slots + 6 ≤ R.slots) (hlocks : meth.locks = false)
    (hx : ∀ t : State, s.vm.Alike t.vm → H.size ≤ t.heap.size → (∀ q : Nat, q < H.size → t.heap[q]? = H[q]?) → XC cls s t)
    (hf : ∀ z ∈ locs, free z.base) (hc : cells + 1 ≤ mc) (hs : slots + 6 ≤ ms) :
    W p l e R s m args below meth c H locs cells slots (vx_MQ below Qc XC args s mc ms free) (F0 m pc ls rest) := by
  intro T hT X
  have htr : e.platform.stackTraces = false := (show e.platform.stackTraces = l.stackTraces by rw [X.admits.platform]).trans hl
  have Y := vx_rebase X (R' := { frames := R.frames, locals := R.locals, cells := 1, slots := 6 }) (Nat.le_refl _) (Nat.le_refl _) hRcells hRslots
  obtain ⟨s', hA⟩ : ∃ z, z = (T.setVm s.vm).setFrames (.invoking m args :: below) := ⟨_, rfl⟩
  rw [← hA] at Y
  have hvm : s'.vm = s.vm := by rw [hA]; rfl
  have hhp : s'.heap = H := by rw [hA]; exact hT
  have hW0 : s.WarmedH s'.vm := by rw [hvm]; exact State.WarmedH.refl s
  have hat' : ∀ w ∈ vx_atS own ic cls names, w.before args s' = true := fun w hw => vx_ot_at hW0 hvm.symm (hgood w (List.mem_cons_of_mem _ (List.mem_cons_of_mem _ hw))) (hat w hw)
  have hk' : (Cond.classLink own ik cls).before args s' = true := vx_ot_at hW0 hvm.symm (hgood _ List.mem_cons_self) hk
  have hini' : (Cond.initialized cls).before args s' = true := vx_ot_at hW0 hvm.symm (hgood _ (List.mem_cons_of_mem _ List.mem_cons_self)) hini
  have hU' : vx_Zq Bundle.tN "UNASSIGNED_STACK" Bundle.steD A s' s'.heap := by rw [hhp]; exact vx_Zq.moved hW0.alike (hU.kept hS.2.1)
  have hN' : vx_Zq Bundle.tN "SUPPRESSED_SENTINEL" Bundle.listD A s' s'.heap := by rw [hhp]; exact vx_Zq.moved hW0.alike (hN.kept hS.2.1)
  have h : ∀ w ∈ Bundle.ownAtoms own ic cls names, w.before args s' = true := vx_own hat' (vx_isRefq hU'.1) (vx_isRefq hN'.1) hU'.2.word hN'.2.word
  have hown' : s'.vm.findClass own = some m.cls := by rw [hvm]; exact hown
  have hins : (Cond.instantiable cls 6).before args s' = true := h _ (by simp [Bundle.ownAtoms])
  obtain ⟨vm₁, cX, kX, hfX, hkX, -, -, X₁, st1⟩ := Y.newCold hexec (own := own) (C := cls) (index := ik) (n := 6) hown' hk' hins hini'
    (g := F0 m pc ls rest) rfl (by rw [hb]; exact d0) (Nat.le_refl _) (Nat.le_refl _)
  generalize hT1 : (T.setVm vm₁).pushCell { cls := cX, slots := kX.instanceTypes.map defaultValue, vm := .none } = T1 at X₁ st1
  have hcat : (Value.ref T.heap.size).category = 1 := rfl
  have hcellA : T1.heap[T.heap.size]? = some (freshCell cX kX) := by rw [← hT1]; exact State.heap_pushCell_size _ _
  have d3' : decode c.code (pc + 3) = .ok (.dup, 1) := by rw [hb]; exact d3
  have d4' : decode c.code (pc + 4) = .ok (.ldc is, 2) := by rw [hb]; exact d4
  have hstr' : vk_R own is text sa s' := vk_R.warm hW0 hstr
  obtain ⟨U, hsteps, hrun, hend, hW, hsame, ce, hce, hO⟩ := X₁.ctorThrowS hexec htr (own := own) (cls := cls) (names := names) (ic := ic) hown' hcls hnames h (fun x hx => nomatch hx) hfX hkX hcellA (by rw [hhp, hT]; exact Nat.le_refl _) (msg := .ref sa) rfl
    (g := { method := m, pc := pc + 6, locals := ls, stack := .ref sa :: .ref T.heap.size :: .ref T.heap.size :: rest, locked := none }) rfl hsize rfl rfl (rest := rest) rfl
    (by rw [hb]; exact d6) (by rw [hb]; exact d9) hout hRframes (by simp only [List.map_cons, List.sum_cons, hcat]; omega) hlocks
  obtain ⟨f1, f2⟩ := vx_frame hsame
  rw [hhp] at f1 f2
  have hWs : s.WarmedH U.vm := State.WarmedH.trans hW0 hW
  have hcl : s.vm.findClass cls = some ce.cls := by
    have h9 := hO.cls
    rw [hvm] at h9
    exact h9
  have hall : s.sameButNew ({ U with vm := s.vm } : State) locs mc ms := by
    subst hA
    obtain ⟨e1, e2⟩ := hsame
    rw [State.setFrames_setFrames] at e1
    have h2 : (T.setVm s.vm).sameButNew ({ U with vm := s.vm } : State) [] (0 + 1) (0 + 6) := ⟨e1, e2⟩
    have h3 := X.same.trans h2
    rw [List.append_nil] at h3
    exact h3.mono hc hs
  refine ⟨U, ?_, .threw T.heap.size, hrun, hend, Or.inr ⟨T.heap.size, rfl, cls, ce, locs, hx U hWs.alike f1 (fun q hq => f2 q hq (fun z hz => nomatch hz)), hce, hO.vm, hcl, hWs, hall, hf⟩⟩
  refine st1 _ ?_
  show Steps p.tables e below (T1.setTop { method := m, pc := pc + 3, locals := ls, stack := .ref T.heap.size :: rest, locked := none }) _
  jvm_step X₁.here [X₁.here.top, hexec, d3', Value.category]
  exact X₁.ldcString hexec (own := own) (text := text) (index := is) (a := sa) hown' hstr'.1 hstr'.2
    (g := { method := m, pc := pc + 4, locals := ls, stack := .ref T.heap.size :: .ref T.heap.size :: rest, locked := none }) rfl d4' _ hsteps
/-- 'throw new E("text")', the text by a wide index -/
theorem vx_throwSW {cc : ByteArray} {pc : Nat} (hexec : p.tables.exec = Jvm.exec) (hb : c.code = cc) (hl : l.stackTraces = false) {own cls text : String} {names : List String} {ik is ic mc ms sa : Nat} {A : Nat → Prop}
    (hown : s.vm.findClass own = some m.cls) (hcls : Bundle.fit cls = true) (hnames : ∀ n ∈ names, Bundle.fit n = true)
    (hk : (Cond.classLink own ik cls).before args s = true) (hini : (Cond.initialized cls).before args s = true) (hstr : vk_R own is text sa s) (hat : ∀ w ∈ vx_atS own ic cls names, w.before args s = true)
    (hgood : ∀ w ∈ Cond.classLink own ik cls :: Cond.initialized cls :: vx_atS own ic cls names, vx_ot w = true)
    (hU : vx_Zq Bundle.tN "UNASSIGNED_STACK" Bundle.steD A s s.heap) (hN : vx_Zq Bundle.tN "SUPPRESSED_SENTINEL" Bundle.listD A s s.heap) (hS : va_S A s.heap H locs) (hsize : ls.size = c.maxLocals)
    (d0 : decode cc pc = .ok (.new ik, 3)) (d3 : decode cc (pc + 3) = .ok (.dup, 1)) (d4 : decode cc (pc + 4) = .ok (.ldc_w is, 3)) (d7 : decode cc (pc + 7) = .ok (.invokespecial ic, 3)) (d10 : decode cc (pc + 10) = .ok (.athrow, 1))
    (hout : ∀ x ∈ c.exceptionTable.toList, covers x (pc + 10) = false)
    (hRframes : names.length + 3 < R.frames) (hRlocals : (rest.map fun v => v.category).sum + (13 * (names.length + 1) + 43) ≤ R.locals) (hRcells : cells + 1 ≤ R.cells) (hRslots : slots + 6 ≤ R.slots) (hlocks : meth.locks = false)
    (hx : ∀ t : State, s.vm.Alike t.vm → H.size ≤ t.heap.size → (∀ q : Nat, q < H.size → t.heap[q]? = H[q]?) → XC cls s t)
    (hf : ∀ z ∈ locs, free z.base) (hc : cells + 1 ≤ mc) (hs : slots + 6 ≤ ms) :
    W p l e R s m args below meth c H locs cells slots (vx_MQ below Qc XC args s mc ms free) (F0 m pc ls rest) := by
  intro T hT X
  have htr : e.platform.stackTraces = false := (show e.platform.stackTraces = l.stackTraces by rw [X.admits.platform]).trans hl
  have Y := vx_rebase X (R' := { frames := R.frames, locals := R.locals, cells := 1, slots := 6 }) (Nat.le_refl _) (Nat.le_refl _) hRcells hRslots
  obtain ⟨s', hA⟩ : ∃ z, z = (T.setVm s.vm).setFrames (.invoking m args :: below) := ⟨_, rfl⟩
  rw [← hA] at Y
  have hvm : s'.vm = s.vm := by rw [hA]; rfl
  have hhp : s'.heap = H := by rw [hA]; exact hT
  have hW0 : s.WarmedH s'.vm := by rw [hvm]; exact State.WarmedH.refl s
  have hat' : ∀ w ∈ vx_atS own ic cls names, w.before args s' = true := fun w hw => vx_ot_at hW0 hvm.symm (hgood w (List.mem_cons_of_mem _ (List.mem_cons_of_mem _ hw))) (hat w hw)
  have hk' : (Cond.classLink own ik cls).before args s' = true := vx_ot_at hW0 hvm.symm (hgood _ List.mem_cons_self) hk
  have hini' : (Cond.initialized cls).before args s' = true := vx_ot_at hW0 hvm.symm (hgood _ (List.mem_cons_of_mem _ List.mem_cons_self)) hini
  have hU' : vx_Zq Bundle.tN "UNASSIGNED_STACK" Bundle.steD A s' s'.heap := by rw [hhp]; exact vx_Zq.moved hW0.alike (hU.kept hS.2.1)
  have hN' : vx_Zq Bundle.tN "SUPPRESSED_SENTINEL" Bundle.listD A s' s'.heap := by rw [hhp]; exact vx_Zq.moved hW0.alike (hN.kept hS.2.1)
  have h : ∀ w ∈ Bundle.ownAtoms own ic cls names, w.before args s' = true := vx_own hat' (vx_isRefq hU'.1) (vx_isRefq hN'.1) hU'.2.word hN'.2.word
  have hown' : s'.vm.findClass own = some m.cls := by rw [hvm]; exact hown
  have hins : (Cond.instantiable cls 6).before args s' = true := h _ (by simp [Bundle.ownAtoms])
  obtain ⟨vm₁, cX, kX, hfX, hkX, -, -, X₁, st1⟩ := Y.newCold hexec (own := own) (C := cls) (index := ik) (n := 6) hown' hk' hins hini'
    (g := F0 m pc ls rest) rfl (by rw [hb]; exact d0) (Nat.le_refl _) (Nat.le_refl _)
  generalize hT1 : (T.setVm vm₁).pushCell { cls := cX, slots := kX.instanceTypes.map defaultValue, vm := .none } = T1 at X₁ st1
  have hcat : (Value.ref T.heap.size).category = 1 := rfl
  have hcellA : T1.heap[T.heap.size]? = some (freshCell cX kX) := by rw [← hT1]; exact State.heap_pushCell_size _ _
  have d3' : decode c.code (pc + 3) = .ok (.dup, 1) := by rw [hb]; exact d3
  have d4' : decode c.code (pc + 4) = .ok (.ldc_w is, 3) := by rw [hb]; exact d4
  have hstr' : vk_R own is text sa s' := vk_R.warm hW0 hstr
  obtain ⟨U, hsteps, hrun, hend, hW, hsame, ce, hce, hO⟩ := X₁.ctorThrowS hexec htr (own := own) (cls := cls) (names := names) (ic := ic) hown' hcls hnames h (fun x hx => nomatch hx) hfX hkX hcellA (by rw [hhp, hT]; exact Nat.le_refl _) (msg := .ref sa) rfl
    (g := { method := m, pc := pc + 7, locals := ls, stack := .ref sa :: .ref T.heap.size :: .ref T.heap.size :: rest, locked := none }) rfl hsize rfl rfl (rest := rest) rfl
    (by rw [hb]; exact d7) (by rw [hb]; exact d10) hout hRframes (by simp only [List.map_cons, List.sum_cons, hcat]; omega) hlocks
  obtain ⟨f1, f2⟩ := vx_frame hsame
  rw [hhp] at f1 f2
  have hWs : s.WarmedH U.vm := State.WarmedH.trans hW0 hW
  have hcl : s.vm.findClass cls = some ce.cls := by
    have h9 := hO.cls
    rw [hvm] at h9
    exact h9
  have hall : s.sameButNew ({ U with vm := s.vm } : State) locs mc ms := by
    subst hA
    obtain ⟨e1, e2⟩ := hsame
    rw [State.setFrames_setFrames] at e1
    have h2 : (T.setVm s.vm).sameButNew ({ U with vm := s.vm } : State) [] (0 + 1) (0 + 6) := ⟨e1, e2⟩
    have h3 := X.same.trans h2
    rw [List.append_nil] at h3
    exact h3.mono hc hs
  refine ⟨U, ?_, .threw T.heap.size, hrun, hend, Or.inr ⟨T.heap.size, rfl, cls, ce, locs, hx U hWs.alike f1 (fun q hq => f2 q hq (fun z hz => nomatch hz)), hce, hO.vm, hcl, hWs, hall, hf⟩⟩
  refine st1 _ ?_
  show Steps p.tables e below (T1.setTop { method := m, pc := pc + 3, locals := ls, stack := .ref T.heap.size :: rest, locked := none }) _
  jvm_step X₁.here [X₁.here.top, hexec, d3', Value.category]
  exact X₁.ldcStringW hexec (own := own) (text := text) (index := is) (a := sa) hown' hstr'.1 hstr'.2
    (g := { method := m, pc := pc + 4, locals := ls, stack := .ref T.heap.size :: .ref T.heap.size :: rest, locked := none }) rfl d4' _ hsteps
end Ends
section Bodies
variable {l : Launch}
theorem vx_ofW {y : MethodName} {ws ws' : List Cond} {rm : Room} {Pc : Array Value → State → Prop} {Qc : Array Value → State → Outcome → State → Prop} {XC : String → State → State → Prop} {mc ms : Nat} {free : Addr → Prop} {cc : ByteArray} {maxL : Nat} {ret : Option FieldType}
    (hy : plainName y.cls = true) (hw : ws = Cond.code y cc maxL ret :: ws')
    (body : ∀ p e s m args below meth c s₁, BodyLoose p l y (headSpec ws rm) cc maxL ret e s m args below meth c s₁ → c.maxLocals = maxL → (∀ x ∈ c.exceptionTable.toList, False) → Pc args s →
      W p l e (headSpec ws rm).room s m args below meth c s.heap [] 0 0 (vx_MQ below Qc XC args s mc ms free) (entryFrame m args maxL)) : vx_Met l y ws rm Pc Qc XC mc ms free := by
  refine MetFree.of_bodyS (code := cc) (maxLocals := maxL) (ret := ret) hy ?_ ?_
  · intro args s m h hn
    obtain ⟨meth, c, h1, h2, h3, h4, h5, h6, -, -⟩ := Cond.code_spec hn (atoms_spec (ws := ws) h _ (by rw [hw]; exact List.mem_cons_self))
    exact ⟨meth, c, h1, h2, h3, h4, h5, h6⟩
  · intro p e s m args below meth c s₁ B hml hP _
    have hh0 : s₁.heap = s.heap := by rw [B.state]; rfl
    have ht : ∀ x ∈ c.exceptionTable.toList, False := by
      obtain ⟨meth9, c9, h1, h2, -, -, -, -, h7, -⟩ := Cond.code_spec B.named (atoms_spec (ws := ws) B.pre _ (by rw [hw]; exact List.mem_cons_self))
      cases Option.some.inj (h1.symm.trans B.method)
      cases Option.some.inj (h2.symm.trans (Stand.of_body B).code)
      intro x hx
      rw [Array.isEmpty_iff.mp h7] at hx
      cases hx
    obtain ⟨t, a1, o, b1, b2, b3⟩ := body p e s m args below meth c s₁ B hml ht hP s₁ hh0 (Stand.of_body B)
    exact ⟨t, o, a1, b1, b2, b3⟩
/-- the table of a body with handlers -/
theorem vx_table {p : Program} {x y : MethodName} {S : Spec} {cc bytes : ByteArray} {maxL maxL' : Nat} {ret ret' : Option FieldType} {e : Env} {s s₁ : State} {m : MethodId} {args : Array Value} {below : List Frame} {meth : Method} {c : Code} {hh : List (Nat × Nat × Nat × Nat)}
    (B : BodyLoose p l y S cc maxL ret e s m args below meth c s₁) (h : (Cond.codeWith y bytes maxL' ret' hh).before args s = true) : c.exceptionTable.toList = tableOf hh := by
  obtain ⟨m9, meth9, c9, hn9, h1, h2, -, -, h6, -⟩ := Cond.codeWith_spec h
  cases Option.some.inj (hn9.symm.trans B.named)
  cases Option.some.inj (h1.symm.trans B.method)
  cases Option.some.inj (h2.symm.trans (Stand.of_body B).code)
  rw [← h6, table_eq]
end Bodies
end VXA
/-! ===== END ===== -/
/-! ===== BEGIN a static call of a method with an exception table ===== -/
section VXS
variable {p : Program} {l : Launch} {e : Env} {R : Room} {s : State} {m : MethodId} {args : Array Value} {below : List Frame} {meth : Method} {c : Code} {T : State} {H : Heap} {locs : List Loc} {cells slots : Nat}
abbrev vx_CSW (R : Room) (s : State) (args : Array Value) (own : String) (index : Nat) (y : MethodName) (bytes : ByteArray) (maxL : Nat) (ret : Option FieldType) (hh : List (Nat × Nat × Nat × Nat)) (ws : List Cond) (rm : Room) (mc ms n : Nat) : Prop :=
  (rm.cells = mc ∧ rm.slots = ms ∧ rm.frames + 1 ≤ R.frames ∧ 8 + (maxL + 11) + rm.locals ≤ R.locals ∧ (∀ w ∈ ws, ∀ (a' : Array Value) (U : State), s.WarmedH U.vm → w.before a' U = true) ∧ Cond.codeWith y bytes maxL ret hh ∈ ws) ∧
  (Cond.codeWith y bytes maxL ret hh).before args s = true ∧ (Cond.initialized y.cls).before args s = true ∧ (y.cls ≠ "java/lang/invoke/MethodHandle" ∧ y.cls ≠ "java/lang/invoke/VarHandle") ∧
  (∀ sig, parseMethodDescriptor y.desc = some sig → n = sig.parameters.length) ∧ (Cond.methodLink own index y).before args s = true ∧ (Cond.static y).before args s = true
theorem vx_cwSW {own : String} {index maxL mc ms : Nat} {y : MethodName} {bytes : ByteArray} {ret : Option FieldType} {hh : List (Nat × Nat × Nat × Nat)} {Ts ws ws' : List Cond} {rm : Room} (n : Nat) (ht : ∀ w ∈ Ts, w.before args s = true) (hT : GoodIn Ts (va_wsS own index y ws)) (hw : ws = Cond.codeWith y bytes maxL ret hh :: ws') (hrc : rm.cells = mc) (hrs : rm.slots = ms)
    (hd : y.cls ≠ "java/lang/invoke/MethodHandle" ∧ y.cls ≠ "java/lang/invoke/VarHandle" ∧ (parseMethodDescriptor y.desc).map (fun d => d.parameters.length) = some n) (hR : rm.frames + 1 ≤ R.frames ∧ 8 + (maxL + 11) + rm.locals ≤ R.locals) :
    vx_CSW R s args own index y bytes maxL ret hh ws rm mc ms n := by
  have ok : ∀ w ∈ va_wsS own index y ws, w.before args s = true := fun w h => ht w (hT w h).1
  have hG : GoodIn Ts ws := fun w h => hT w (by unfold va_wsS; exact List.mem_append_right _ h)
  have hc : Cond.codeWith y bytes maxL ret hh ∈ ws := by rw [hw]; exact List.mem_cons_self
  refine ⟨⟨hrc, hrs, hR.1, hR.2, pay_in ht hG, hc⟩, ht _ (hG _ hc).1, ok _ (by simp [va_wsS]), ⟨hd.1, hd.2.1⟩, fun sig h => ?_, ok _ (by simp [va_wsS]), ok _ (by simp [va_wsS])⟩
  have h2 := hd.2.2
  rw [h] at h2
  exact (Option.some.inj h2).symm
theorem vx_callSW (X : Stand p l e R s m args below meth c T locs cells slots) (hexec : p.tables.exec = Jvm.exec) {own : String} {index : Nat} {y : MethodName} {bytes : ByteArray} {maxL : Nat} {ret : Option FieldType} {hh : List (Nat × Nat × Nat × Nat)}
    (hown : s.vm.findClass own = some m.cls) (hlink : (Cond.methodLink own index y).before args s = true) (hstat : (Cond.static y).before args s = true) (hinit : (Cond.initialized y.cls).before args s = true)
    (hcode : (Cond.codeWith y bytes maxL ret hh).before args s = true) (hy : y.cls ≠ "java/lang/invoke/MethodHandle" ∧ y.cls ≠ "java/lang/invoke/VarHandle")
    {W9 : Nat} {Pre : Pt → Array Value → Prop} {Post : Pt → Array Value → Option Value → Pt → Prop} (hK : Back l R p e below s args y 3 W9 Pre Post)
    {g : JFrame} (hg : g.method = m) (hsize : g.locals.size = c.maxLocals) {argsL rest : List Value} (hlen : ∀ sig, parseMethodDescriptor y.desc = some sig → argsL.length = sig.parameters.length)
    (hstack : g.stack = argsL.reverse ++ rest) (hW : 2 * g.monitorRoom + (rest.map fun v => v.category).sum ≤ W9) (hdg : decode c.code g.pc = .ok (.invokestatic index, 3))
    (hpre : ∀ vm₁, s.WarmedH vm₁ → Pre ⟨T.setVm vm₁, locs, cells, slots⟩ argsL.toArray) :
    ∃ (v : Option Value) (vm₁ : Vm) (B : Pt), s.WarmedH vm₁ ∧ Stand p l e R s m args below meth c B.U B.locs B.cells B.slots ∧ Post ⟨T.setVm vm₁, locs, cells, slots⟩ argsL.toArray v B ∧
      ∀ target, Steps p.tables e below (B.U.setTop { g with pc := g.pc + 3, stack := v.toList ++ rest }) target → Steps p.tables e below (T.setTop g) target := by
  obtain ⟨mk, methM, cM, hnamed, hmethM, -, -, -, -, -, -, hsigM⟩ := Cond.codeWith_spec hcode
  have hstatic : methM.isStatic = true := Cond.static_spec hnamed hmethM hstat
  obtain ⟨kP, hkP, -⟩ := className_of_methodNamed hnamed
  have hinitP : kP.init = .initialized := Cond.initialized_spec (findClass_of_methodNamed hnamed) hkP hinit
  obtain ⟨vm₁, X₁, hstep₁⟩ := X.invokestatic hexec hown hlink hnamed hmethM hstatic hkP hinitP hy (g := g) hg (argsL := argsL) (rest := rest) (hlen _ hsigM) hstack hdg
  obtain ⟨v, B, X', hpost, hsteps⟩ := hK m meth c ⟨T.setVm vm₁, locs, cells, slots⟩ { g with stack := rest } (.invokestatic index) mk argsL.toArray X₁ hg hsize hdg hW (X₁.named hnamed) (hpre vm₁ X₁.warmed)
  exact ⟨v, vm₁, B, X₁.warmed, X', hpost, fun target h => hstep₁ _ fun acts => by rw [doInvoke_state]; exact hsteps.trans h⟩
theorem vx_runSW {y : MethodName} {bytes cc : ByteArray} {maxL nL mc ms n index : Nat} {ret : Option FieldType} {hh : List (Nat × Nat × Nat × Nat)} {ws : List Cond} {rm : Room} {Pc : Array Value → State → Prop} {Qc : Array Value → State → Outcome → State → Prop} {free : Addr → Prop} {Ts : List Cond} {own : String} {As rest : List Value} {g : JFrame}
    (S : CallFix p m c cc nL s args Ts own) (hM : Met l y ws rm Pc Qc mc ms free) (cw : vx_CSW R s args own index y bytes maxL ret hh ws rm mc ms n) (hp : PreS s H Pc As)
    (hg : g.method = m) (hn : As.length = n) (hsize : g.locals.size = nL) (hstack : g.stack = As.reverse ++ rest) (hW : 2 * g.monitorRoom + (rest.map fun v => v.category).sum ≤ 8) (hdg : decode cc g.pc = .ok (.invokestatic index, 3)) (hf : cells + mc ≤ R.cells ∧ slots + ms ≤ R.slots) :
    va_Run p l e R s m args below meth c H locs cells slots mc ms g rest (Qc As.toArray) (free) := by
  obtain ⟨⟨hrc, hrs, hfr, hlo, hws, hcw⟩, hcode, hini, hy, hlen, hl, hstt⟩ := cw
  have hK : Back l R p e below s args y 3 8 (PreOf R mc ms Pc) (PostOf Qc mc ms free) := va_backW (hh := hh) (bytes := bytes) (maxL := maxL) (ret := ret) hM hp.1 hrc hrs hfr hlo hws hcw (fun a' U hW => word_at hW (Or.inl (by first | rfl | simp [Cond.onTables, Cond.keeps, Cond.steady])) hini)
  obtain ⟨hx, hb, hml, ho, -⟩ := S
  intro T hT X
  obtain ⟨v, vm₁, ⟨U', l2, c2, s2⟩, hW₁, X', ⟨g', mk, t, L, e1, e2, hq, h1, hL, h2, h3⟩, st⟩ := vx_callSW X hx (hh := hh) (bytes := bytes) (maxL := maxL) (ret := ret) ho hl hstt hini hcode hy hK hg (hsize.trans hml.symm) (argsL := As) (rest := rest) (fun sig h => hn.trans (hlen sig h)) hstack hW (by rw [hb]; exact hdg)
    (fun vm₁ hW₁ => ⟨hf.1, hf.2, hp.2 (T.setVm vm₁) hT hW₁⟩)
  dsimp only [Pt.U, Pt.locs, Pt.cells, Pt.slots] at X' e1 e2 h1 h2 h3 st
  subst h1; subst h2; subst h3
  exact ⟨v, (T.setVm vm₁).calling g' mk As.toArray, t, U', L, hT, X', hL, e1, e2, hq, st⟩
/-- not caught here, past rows that name other classes: it goes on to the caller -/
theorem vx_outP {p : Program} {l : Launch} {e : Env} {R : Room} {s : State} {m : MethodId} {args : Array Value} {below : List Frame} {meth : Method} {c : Code} {H : Heap} {locs : List Loc} {cells slots : Nat} {free : Addr → Prop} {ls : Array Slot} {rest : List Value} {Qc : Array Value → State → Outcome → State → Prop} {XC : String → State → State → Prop}
    {pc : Nat} {own E : String} {ce : Cell} {q : Addr} {mc ms : Nat} (hown : s.vm.findClass own = some m.cls) (hlocks : meth.locks = false)
    (hpass : ∀ z ∈ c.exceptionTable.toList, covers z pc = false ∨ (z.catchType ≠ 0 ∧ ∃ nm : String, (Cond.classLink own z.catchType nm).before args s = true ∧ va_Nc E nm s)) (hcell : H[q]? = some ce) (hv : ce.vm = .none) (hcl : s.vm.findClass E = some ce.cls)
    (hx : ∀ t : State, t.heap = H → s.vm.Alike t.vm → XC E s t) (hf : ∀ z ∈ locs, free z.base) (hc : cells ≤ mc) (hs : slots ≤ ms) :
    vx_W p l e R s m args below meth c H locs cells slots (vx_MQ below Qc XC args s mc ms free) (F0 m pc ls rest) q := by
  intro T hT X
  have hpl : e.platform.magicAccessors = ({} : Platform).magicAccessors := by rw [X.admits.platform]
  obtain ⟨vm', hW', X', st⟩ := X.outThrough hlocks q (g := F0 m pc ls rest) rfl rfl rfl (cell := ce) (by rw [hT]; exact hcell) (by rw [hv]; rfl)
    (by obtain ⟨k9, h9, -⟩ := Vm.findClass_spec hcl; exact ⟨k9, h9⟩) (fun z hz => by
      rcases hpass z hz with h | ⟨hz0, nm, hl1, hn1⟩
      · exact Or.inl h
      · obtain ⟨c6, hc6, hcl6⟩ := Cond.classLink_spec hown hl1 e.platform hpl
        obtain ⟨a8, b8, h1, h2, h3⟩ := hn1
        cases Option.some.inj (h1.symm.trans hcl)
        cases Option.some.inj (h2.symm.trans hc6)
        exact Or.inr ⟨hz0, _, hcl6, h3⟩)
  obtain ⟨g₀, hfr⟩ := X'.frames_eq
  have hcell9 : ((T.setVm vm').setFrames (.throwing q :: below)).heap[q]? = some ce := by
    show T.heap[q]? = some ce
    rw [hT]; exact hcell
  have hend : Ended ((T.setVm vm').setFrames (.throwing q :: below)) below (.threw q) := State.frames_setFrames _ (State.cur_lt_of_frames hfr)
  refine ⟨(T.setVm vm').setFrames (.throwing q :: below), ?_, .threw q, X'.here.running, hend, Or.inr ⟨q, rfl, E, ce, locs, hx _ hT (X'.ends _).1.alike, hcell9, hv, hcl, (X'.ends _).1, (X'.ends _).2.mono hc hs, hf⟩⟩
  rw [X.pushThrowing_eq]
  exact st
/-- a thing of a world lies in the heap -/
theorem vx_lt {D : va_G} {cl : List vw_C} {ws : va_W} {H1 : Heap} (h : va_P D cl ws H1) {k : Nat} {q : Nat × va_E} (hk : ws[k]? = some q) : q.1 < H1.size := (h k q hk).lt
end VXS
/-! ===== END ===== -/
/-! ===== BEGIN methods with a table of their own: called by a name, returning or throwing ===== -/
section VXH
/-! vx_backW, vx_callVX, vx_callSX, vx_callVW, vx_runVW, vx_runVX, vx_runSX, vx_ofWH follow the same proofs as their sisters above (Free/Laws.lean, Shelf42/LK1.lean); vx_outP calls Shelf42/NT130.lean (outThrough). -/
section
variable {l : Launch} {R : Room} {p : Program} {e : Env} {below : List Frame} {s : State} {sargs : Array Value} {y : MethodName} {len W9 : Nat}
theorem vx_backW {ws : List Cond} {rm : Room} {Pc : Array Value → State → Prop} {Qc : Array Value → State → Outcome → State → Prop} {XC : String → State → State → Prop} {mc ms : Nat} {free : Addr → Prop} {bytes : ByteArray} {maxL : Nat} {ret : Option FieldType} {hh : List (Nat × Nat × Nat × Nat)}
    (hM : vx_Met l y ws rm Pc Qc XC mc ms free) (hblind : FrameBlind Pc) (hrc : rm.cells = mc) (hrs : rm.slots = ms)
    (hframes : rm.frames + 1 ≤ R.frames) (hlocals : W9 + (maxL + 11) + rm.locals ≤ R.locals)
    (hws : ∀ w ∈ ws, ∀ a' U, s.WarmedH U.vm → w.before a' U = true) (hcode : Cond.codeWith y bytes maxL ret hh ∈ ws) (hinit : ∀ a' U, s.WarmedH U.vm → (Cond.initialized y.cls).before a' U = true) :
    vx_Back l R p e below s sargs y len W9 (PreOf R mc ms Pc) (PostOf Qc mc ms free) (vx_Post XC mc ms free) := by
  intro m meth c A g ig mk a X hg hsize hdg hW hn hp
  have h1 : (headSpec ws rm).pre.before a A.U = true := atoms_intro fun w hw => hws w hw _ _ X.warmed
  have h2 : (Cond.codeWith y bytes maxL ret hh).before a A.U = true := hws _ hcode _ _ X.warmed
  have h3 : (Cond.initialized y.cls).before a A.U = true := hinit _ _ X.warmed
  have h4 : A.cells + (headSpec ws rm).room.cells ≤ R.cells := by rw [show (headSpec ws rm).room.cells = mc from hrc]; exact hp.1
  have h5 : A.slots + (headSpec ws rm).room.slots ≤ R.slots := by rw [show (headSpec ws rm).room.slots = ms from hrs]; exact hp.2.1
  have hPc : Pc a (A.U.calling g mk a) := hblind _ _ _ _ hp.2.2
  obtain ⟨U, Ls, c0, s0⟩ := A
  dsimp only [Pt.U, Pt.locs, Pt.cells, Pt.slots] at h1 h2 h3 h4 h5 X hn hPc ⊢
  obtain ⟨m9, methY, cY, hn9, hmY, hcY, -, hlY, -⟩ := Cond.codeWith_spec h2
  cases Option.some.inj (hn9.symm.trans hn)
  obtain ⟨kY, hkY, -⟩ := className_of_methodNamed hn
  have hinitY : kY.init = .initialized := Cond.initialized_spec (findClass_of_methodNamed hn) hkY h3
  have h : At U g.method c below := by rw [hg]; exact X.here
  have hlocals9 : W9 + (maxL + 11) + (headSpec ws rm).room.locals ≤ R.locals := hlocals
  have happ : (headSpec ws rm).appliesLoose y e.platform (U.calling g mk a) = true :=
    Spec.appliesLoose_calling (g := g) h hdg hn hkY hinitY
      (X.room_calling (g := g) (R' := (headSpec ws rm).room) hsize hmY hcY hframes (by rw [hlY]; omega) h4 h5) h1
  obtain ⟨mid, hmid⟩ := h.above
  have hfr : (U.setTop g).frames = (.java g :: mid) ++ below := by rw [State.frames_setTop' g h.top, hmid]; rfl
  obtain ⟨o, s₂, hsteps, -, hend, hq⟩ := Steps.callFree hM p X.admits X.cas X.clock (acts := []) hfr happ hPc trivial
  have hq' : vx_Q Qc XC mc ms free a (U.calling g mk a) o s₂ := hq
  rw [State.frames_setTop' g h.top] at hend
  obtain ⟨g₀, hg0⟩ := Option.isSome_iff_exists.mp h.top
  obtain ⟨r, hr⟩ := State.topJava?_eq_some.mp hg0
  have hr' : (({ U with heap := s₂.heap, slotsUsed := s₂.slotsUsed } : State).setVm s₂.vm).frames = .java g₀ :: r := hr
  rcases hq' with ⟨hqc, L, hfe, hL⟩ | ⟨q, rfl, E, ce, L, hx, hce, hcv, hcl, hW₂, hsm, hL⟩
  · obtain ⟨⟨v, rfl⟩, hW₂, e2, q2, q3, q4, q5, q6⟩ := id hfe
    have e3 : s₂ = ({ (U.calling g mk a).setFrames s₂.frames with heap := s₂.heap, slotsUsed := s₂.slotsUsed } : State).setVm s₂.vm := by
      have : s₂ = ({ s₂ with vm := (U.calling g mk a).vm } : State).setVm s₂.vm := rfl
      rw [e2] at this
      exact this
    obtain ⟨c₂, i₂, len₂, hc₂, hd₂, hf₂⟩ := hend
    have hW' : U.WarmedH s₂.vm := hW₂
    have hcc : c₂ = c := by
      have h1 : s₂.code? g.method = U.code? g.method := by
        rw [State.code?_eq, State.code?_eq, hW'.alike.method?]
      exact Option.some.inj (hc₂.symm.trans (h1.trans h.code))
    subst hcc
    have hlen : len₂ = len := by rw [hdg] at hd₂; cases hd₂; rfl
    subst hlen
    have hs₂ : s₂ = (({ U with heap := s₂.heap, slotsUsed := s₂.slotsUsed } : State).setVm s₂.vm).setTop { g with pc := g.pc + len₂, stack := v.toList ++ g.stack } := by
      refine e3.trans ?_
      rw [hf₂, State.calling_eq h.top, State.setFrames_setFrames, State.setTop_of_frames _ hr', hr]
      rfl
    have hsame : U.sameButNew ({ U with heap := s₂.heap, slotsUsed := s₂.slotsUsed } : State) L mc ms := by
      refine ⟨?_, q2, q3, q4, q5, q6⟩
      obtain ⟨t, ht, -⟩ := State.frames_cons hr
      show ({ U with heap := s₂.heap, slotsUsed := s₂.slotsUsed } : State) = { U.setFrames U.frames with heap := s₂.heap, slotsUsed := s₂.slotsUsed }
      rw [State.setFrames_self ht]
    subst hg
    refine Or.inl ⟨v, ⟨(({ U with heap := s₂.heap, slotsUsed := s₂.slotsUsed } : State).setVm s₂.vm), Ls ++ L, c0 + mc, s0 + ms⟩,
      ⟨X.admits, X.cas, X.clock, X.frames, X.room, X.hears, X.method, X.code, (X.here.setHeapUsed s₂.heap s₂.slotsUsed).setVm hW'.alike, X.tail, State.WarmedH.trans X.warmed hW', X.limits, X.bytes, X.same.trans (hsame.setVm s.vm)⟩,
      ⟨g, mk, s₂, L, rfl, rfl, hqc, rfl, hL, rfl, rfl⟩, ?_⟩
    show Steps p.tables e below _ ((({ U with heap := s₂.heap, slotsUsed := s₂.slotsUsed } : State).setVm s₂.vm).setTop { g with pc := g.pc + len₂, stack := v.toList ++ g.stack })
    rw [← hs₂]
    exact hsteps
  · obtain ⟨e2, q2, q3, q4, q5, q6⟩ := id hsm
    have e3 : s₂ = ({ (U.calling g mk a).setFrames s₂.frames with heap := s₂.heap, slotsUsed := s₂.slotsUsed } : State).setVm s₂.vm := by
      have : s₂ = ({ s₂ with vm := (U.calling g mk a).vm } : State).setVm s₂.vm := rfl
      rw [e2] at this
      exact this
    have hf₂ : s₂.frames = .throwing q :: .java g :: U.frames.tail := hend
    have hW' : U.WarmedH s₂.vm := hW₂
    have hs₂ : s₂ = ((({ U with heap := s₂.heap, slotsUsed := s₂.slotsUsed } : State).setVm s₂.vm).setTop g).pushFrame (.throwing q) := by
      refine e3.trans ?_
      rw [hf₂, State.calling_eq h.top, State.setFrames_setFrames, State.pushFrame, State.frames_setTop _ hr', State.setTop_of_frames _ hr', State.setFrames_setFrames, hr]
      rfl
    have hsame : U.sameButNew ({ U with heap := s₂.heap, slotsUsed := s₂.slotsUsed } : State) L mc ms := by
      refine ⟨?_, q2, q3, q4, q5, q6⟩
      obtain ⟨t, ht, -⟩ := State.frames_cons hr
      show ({ U with heap := s₂.heap, slotsUsed := s₂.slotsUsed } : State) = { U.setFrames U.frames with heap := s₂.heap, slotsUsed := s₂.slotsUsed }
      rw [State.setFrames_self ht]
    subst hg
    refine Or.inr ⟨q, ⟨(({ U with heap := s₂.heap, slotsUsed := s₂.slotsUsed } : State).setVm s₂.vm), Ls ++ L, c0 + mc, s0 + ms⟩,
      ⟨X.admits, X.cas, X.clock, X.frames, X.room, X.hears, X.method, X.code, (X.here.setHeapUsed s₂.heap s₂.slotsUsed).setVm hW'.alike, X.tail, State.WarmedH.trans X.warmed hW', X.limits, X.bytes, X.same.trans (hsame.setVm s.vm)⟩,
      ⟨g, mk, s₂, L, E, ce, rfl, rfl, hx, hce, hcv, hcl, rfl, hL, rfl, rfl⟩, ?_⟩
    show Steps p.tables e below _ (((({ U with heap := s₂.heap, slotsUsed := s₂.slotsUsed } : State).setVm s₂.vm).setTop g).pushFrame (.throwing q))
    rw [← hs₂]
    exact hsteps
end
variable {p : Program} {l : Launch} {e : Env} {R : Room} {s : State} {m : MethodId} {args : Array Value} {below : List Frame} {meth : Method} {c : Code} {T : State} {H : Heap} {locs : List Loc} {cells slots : Nat}
theorem vx_callVX (X : Stand p l e R s m args below meth c T locs cells slots) (hexec : p.tables.exec = Jvm.exec) {own C : String} {index : Nat} {y : MethodName} {bytes : ByteArray} {maxL : Nat} {ret : Option FieldType} {hh : List (Nat × Nat × Nat × Nat)}
    (hown : s.vm.findClass own = some m.cls) (hlink : (Cond.methodLink own index y).before args s = true) (hinst : (Cond.instanceMethod y).before args s = true) (hsel : (Cond.selects C y y).before args s = true)
    (hcode : (Cond.codeWith y bytes maxL ret hh).before args s = true) (hy : y.cls ≠ "java/lang/invoke/MethodHandle" ∧ y.cls ≠ "java/lang/invoke/VarHandle")
    {W9 : Nat} {Pre : Pt → Array Value → Prop} {Post : Pt → Array Value → Option Value → Pt → Prop} {PostX : Pt → Array Value → Addr → Pt → Prop} (hK : vx_Back l R p e below s args y 3 W9 Pre Post PostX)
    {b : Addr} {cellB : Cell} (hcell : T.heap[b]? = some cellB) (hobj : cellB.vm.isStatics = false) (hcls : s.vm.findClass C = some cellB.cls)
    {g : JFrame} (hg : g.method = m) (hsize : g.locals.size = c.maxLocals) {argsL rest : List Value} (hlen : ∀ sig, parseMethodDescriptor y.desc = some sig → argsL.length = sig.parameters.length)
    (hstack : g.stack = argsL.reverse ++ .ref b :: rest) (hW : 2 * g.monitorRoom + (rest.map fun v => v.category).sum ≤ W9) (hdg : decode c.code g.pc = .ok (.invokevirtual index, 3))
    (hpre : ∀ vm₁, s.WarmedH vm₁ → Pre ⟨T.setVm vm₁, locs, cells, slots⟩ (Value.ref b :: argsL).toArray) :
    (∃ (v : Option Value) (vm₁ : Vm) (B : Pt), s.WarmedH vm₁ ∧ Stand p l e R s m args below meth c B.U B.locs B.cells B.slots ∧ Post ⟨T.setVm vm₁, locs, cells, slots⟩ (Value.ref b :: argsL).toArray v B ∧
      ∀ target, Steps p.tables e below (B.U.setTop { g with pc := g.pc + 3, stack := v.toList ++ rest }) target → Steps p.tables e below (T.setTop g) target) ∨
    (∃ (q : Addr) (vm₁ : Vm) (B : Pt), s.WarmedH vm₁ ∧ Stand p l e R s m args below meth c B.U B.locs B.cells B.slots ∧ PostX ⟨T.setVm vm₁, locs, cells, slots⟩ (Value.ref b :: argsL).toArray q B ∧
      Steps p.tables e below (T.setTop g) ((B.U.setTop { g with stack := rest }).pushFrame (.throwing q))) := by
  obtain ⟨mk, methM, hnamed, hmethM, hstM, habM⟩ := Cond.instanceMethod_spec hinst
  obtain ⟨m8, methM', cM, hn8, hmethM', -, -, -, -, -, -, hsigM⟩ := Cond.codeWith_spec hcode
  cases Option.some.inj (hn8.symm.trans hnamed)
  cases hmethM.symm.trans hmethM'
  obtain ⟨c2, r2, m2, q1, q2, q3, q4, kP, hkP, hkPi⟩ := Cond.selects_spec hsel
  cases hcls.symm.trans q1
  cases (State.methodFound?_of_named hnamed hy).symm.trans q2
  cases hnamed.symm.trans q3
  have hselP : selectMethod e.platform s.vm cellB.cls mk = .method mk := by rw [Launch.admits_selectMethod X.admits]; exact q4
  obtain ⟨vm₁, X₁, hstep₁⟩ := X.invokevirtual hexec hown hlink hnamed hmethM hstM hkP hkPi hy (a := b) (cell := cellB) hcell
    (fun z h => by rw [h] at hobj; cases hobj) hselP hmethM habM hkP hkPi (g := g) hg (argsL := argsL) (rest := rest) (hlen _ hsigM) hstack hdg
  rcases hK m meth c ⟨T.setVm vm₁, locs, cells, slots⟩ { g with stack := rest } (.invokevirtual index) mk (Value.ref b :: argsL).toArray X₁ hg hsize hdg hW (X₁.named hnamed) (hpre vm₁ X₁.warmed) with ⟨v, B, X', hpost, hsteps⟩ | ⟨q, B, X', hpost, hsteps⟩
  · exact Or.inl ⟨v, vm₁, B, X₁.warmed, X', hpost, fun target h => hstep₁ _ fun acts => by rw [doInvoke_state]; exact hsteps.trans h⟩
  · exact Or.inr ⟨q, vm₁, B, X₁.warmed, X', hpost, hstep₁ _ fun acts => by rw [doInvoke_state]; exact hsteps⟩
theorem vx_callSX (X : Stand p l e R s m args below meth c T locs cells slots) (hexec : p.tables.exec = Jvm.exec) {own : String} {index : Nat} {y : MethodName} {bytes : ByteArray} {maxL : Nat} {ret : Option FieldType} {hh : List (Nat × Nat × Nat × Nat)}
    (hown : s.vm.findClass own = some m.cls) (hlink : (Cond.methodLink own index y).before args s = true) (hstat : (Cond.static y).before args s = true) (hinit : (Cond.initialized y.cls).before args s = true)
    (hcode : (Cond.codeWith y bytes maxL ret hh).before args s = true) (hy : y.cls ≠ "java/lang/invoke/MethodHandle" ∧ y.cls ≠ "java/lang/invoke/VarHandle")
    {W9 : Nat} {Pre : Pt → Array Value → Prop} {Post : Pt → Array Value → Option Value → Pt → Prop} {PostX : Pt → Array Value → Addr → Pt → Prop} (hK : vx_Back l R p e below s args y 3 W9 Pre Post PostX)
    {g : JFrame} (hg : g.method = m) (hsize : g.locals.size = c.maxLocals) {argsL rest : List Value} (hlen : ∀ sig, parseMethodDescriptor y.desc = some sig → argsL.length = sig.parameters.length)
    (hstack : g.stack = argsL.reverse ++ rest) (hW : 2 * g.monitorRoom + (rest.map fun v => v.category).sum ≤ W9) (hdg : decode c.code g.pc = .ok (.invokestatic index, 3))
    (hpre : ∀ vm₁, s.WarmedH vm₁ → Pre ⟨T.setVm vm₁, locs, cells, slots⟩ argsL.toArray) :
    (∃ (v : Option Value) (vm₁ : Vm) (B : Pt), s.WarmedH vm₁ ∧ Stand p l e R s m args below meth c B.U B.locs B.cells B.slots ∧ Post ⟨T.setVm vm₁, locs, cells, slots⟩ argsL.toArray v B ∧
      ∀ target, Steps p.tables e below (B.U.setTop { g with pc := g.pc + 3, stack := v.toList ++ rest }) target → Steps p.tables e below (T.setTop g) target) ∨
    (∃ (q : Addr) (vm₁ : Vm) (B : Pt), s.WarmedH vm₁ ∧ Stand p l e R s m args below meth c B.U B.locs B.cells B.slots ∧ PostX ⟨T.setVm vm₁, locs, cells, slots⟩ argsL.toArray q B ∧
      Steps p.tables e below (T.setTop g) ((B.U.setTop { g with stack := rest }).pushFrame (.throwing q))) := by
  obtain ⟨mk, methM, cM, hnamed, hmethM, -, -, -, -, -, -, hsigM⟩ := Cond.codeWith_spec hcode
  have hstatic : methM.isStatic = true := Cond.static_spec hnamed hmethM hstat
  obtain ⟨kP, hkP, -⟩ := className_of_methodNamed hnamed
  have hinitP : kP.init = .initialized := Cond.initialized_spec (findClass_of_methodNamed hnamed) hkP hinit
  obtain ⟨vm₁, X₁, hstep₁⟩ := X.invokestatic hexec hown hlink hnamed hmethM hstatic hkP hinitP hy (g := g) hg (argsL := argsL) (rest := rest) (hlen _ hsigM) hstack hdg
  rcases hK m meth c ⟨T.setVm vm₁, locs, cells, slots⟩ { g with stack := rest } (.invokestatic index) mk argsL.toArray X₁ hg hsize hdg hW (X₁.named hnamed) (hpre vm₁ X₁.warmed) with ⟨v, B, X', hpost, hsteps⟩ | ⟨q, B, X', hpost, hsteps⟩
  · exact Or.inl ⟨v, vm₁, B, X₁.warmed, X', hpost, fun target h => hstep₁ _ fun acts => by rw [doInvoke_state]; exact hsteps.trans h⟩
  · exact Or.inr ⟨q, vm₁, B, X₁.warmed, X', hpost, hstep₁ _ fun acts => by rw [doInvoke_state]; exact hsteps⟩
theorem vx_callVW (X : Stand p l e R s m args below meth c T locs cells slots) (hexec : p.tables.exec = Jvm.exec) {own C : String} {index : Nat} {y : MethodName} {bytes : ByteArray} {maxL : Nat} {ret : Option FieldType} {hh : List (Nat × Nat × Nat × Nat)}
    (hown : s.vm.findClass own = some m.cls) (hlink : (Cond.methodLink own index y).before args s = true) (hinst : (Cond.instanceMethod y).before args s = true) (hsel : (Cond.selects C y y).before args s = true)
    (hcode : (Cond.codeWith y bytes maxL ret hh).before args s = true) (hy : y.cls ≠ "java/lang/invoke/MethodHandle" ∧ y.cls ≠ "java/lang/invoke/VarHandle")
    {W9 : Nat} {Pre : Pt → Array Value → Prop} {Post : Pt → Array Value → Option Value → Pt → Prop} (hK : Back l R p e below s args y 3 W9 Pre Post)
    {b : Addr} {cellB : Cell} (hcell : T.heap[b]? = some cellB) (hobj : cellB.vm.isStatics = false) (hcls : s.vm.findClass C = some cellB.cls)
    {g : JFrame} (hg : g.method = m) (hsize : g.locals.size = c.maxLocals) {argsL rest : List Value} (hlen : ∀ sig, parseMethodDescriptor y.desc = some sig → argsL.length = sig.parameters.length)
    (hstack : g.stack = argsL.reverse ++ .ref b :: rest) (hW : 2 * g.monitorRoom + (rest.map fun v => v.category).sum ≤ W9) (hdg : decode c.code g.pc = .ok (.invokevirtual index, 3))
    (hpre : ∀ vm₁, s.WarmedH vm₁ → Pre ⟨T.setVm vm₁, locs, cells, slots⟩ (Value.ref b :: argsL).toArray) :
    ∃ (v : Option Value) (vm₁ : Vm) (B : Pt), s.WarmedH vm₁ ∧ Stand p l e R s m args below meth c B.U B.locs B.cells B.slots ∧ Post ⟨T.setVm vm₁, locs, cells, slots⟩ (Value.ref b :: argsL).toArray v B ∧
      ∀ target, Steps p.tables e below (B.U.setTop { g with pc := g.pc + 3, stack := v.toList ++ rest }) target → Steps p.tables e below (T.setTop g) target := by
  obtain ⟨mk, methM, hnamed, hmethM, hstM, habM⟩ := Cond.instanceMethod_spec hinst
  obtain ⟨m8, methM', cM, hn8, hmethM', -, -, -, -, -, -, hsigM⟩ := Cond.codeWith_spec hcode
  cases Option.some.inj (hn8.symm.trans hnamed)
  cases hmethM.symm.trans hmethM'
  obtain ⟨c2, r2, m2, q1, q2, q3, q4, kP, hkP, hkPi⟩ := Cond.selects_spec hsel
  cases hcls.symm.trans q1
  cases (State.methodFound?_of_named hnamed hy).symm.trans q2
  cases hnamed.symm.trans q3
  have hselP : selectMethod e.platform s.vm cellB.cls mk = .method mk := by rw [Launch.admits_selectMethod X.admits]; exact q4
  obtain ⟨vm₁, X₁, hstep₁⟩ := X.invokevirtual hexec hown hlink hnamed hmethM hstM hkP hkPi hy (a := b) (cell := cellB) hcell
    (fun z h => by rw [h] at hobj; cases hobj) hselP hmethM habM hkP hkPi (g := g) hg (argsL := argsL) (rest := rest) (hlen _ hsigM) hstack hdg
  obtain ⟨v, B, X', hpost, hsteps⟩ := hK m meth c ⟨T.setVm vm₁, locs, cells, slots⟩ { g with stack := rest } (.invokevirtual index) mk (Value.ref b :: argsL).toArray X₁ hg hsize hdg hW (X₁.named hnamed) (hpre vm₁ X₁.warmed)
  exact ⟨v, vm₁, B, X₁.warmed, X', hpost, fun target h => hstep₁ _ fun acts => by rw [doInvoke_state]; exact hsteps.trans h⟩
abbrev vx_CVW (R : Room) (s : State) (args : Array Value) (own C : String) (index : Nat) (y : MethodName) (bytes : ByteArray) (maxL : Nat) (ret : Option FieldType) (hh : List (Nat × Nat × Nat × Nat)) (ws : List Cond) (rm : Room) (mc ms n : Nat) : Prop :=
  (rm.cells = mc ∧ rm.slots = ms ∧ rm.frames + 1 ≤ R.frames ∧ 8 + (maxL + 11) + rm.locals ≤ R.locals ∧ (∀ w ∈ ws, ∀ (a' : Array Value) (U : State), s.WarmedH U.vm → w.before a' U = true) ∧ Cond.codeWith y bytes maxL ret hh ∈ ws) ∧
  (Cond.codeWith y bytes maxL ret hh).before args s = true ∧ (Cond.initialized y.cls).before args s = true ∧ (y.cls ≠ "java/lang/invoke/MethodHandle" ∧ y.cls ≠ "java/lang/invoke/VarHandle") ∧
  (∀ sig, parseMethodDescriptor y.desc = some sig → n = sig.parameters.length) ∧ (Cond.methodLink own index y).before args s = true ∧ (Cond.instanceMethod y).before args s = true ∧ (Cond.selects C y y).before args s = true
theorem vx_cwVW {own C : String} {index maxL mc ms : Nat} {y : MethodName} {bytes : ByteArray} {ret : Option FieldType} {hh : List (Nat × Nat × Nat × Nat)} {Ts ws ws' : List Cond} {rm : Room} (n : Nat) (ht : ∀ w ∈ Ts, w.before args s = true) (hT : GoodIn Ts (wsV own index C y ws)) (hw : ws = Cond.codeWith y bytes maxL ret hh :: ws') (hrc : rm.cells = mc) (hrs : rm.slots = ms)
    (hd : y.cls = C ∧ y.cls ≠ "java/lang/invoke/MethodHandle" ∧ y.cls ≠ "java/lang/invoke/VarHandle" ∧ (parseMethodDescriptor y.desc).map (fun d => d.parameters.length) = some n) (hR : rm.frames + 1 ≤ R.frames ∧ 8 + (maxL + 11) + rm.locals ≤ R.locals) :
    vx_CVW R s args own C index y bytes maxL ret hh ws rm mc ms n := by
  obtain ⟨hC, hd⟩ := hd
  subst hC
  have ok : ∀ w ∈ wsV own index y.cls y ws, w.before args s = true := fun w h => ht w (hT w h).1
  have hG : GoodIn Ts ws := fun w h => hT w (by unfold wsV; exact List.mem_append_right _ h)
  have hc : Cond.codeWith y bytes maxL ret hh ∈ ws := by rw [hw]; exact List.mem_cons_self
  refine ⟨⟨hrc, hrs, hR.1, hR.2, pay_in ht hG, hc⟩, ht _ (hG _ hc).1, ok _ (by simp [wsV]), ⟨hd.1, hd.2.1⟩, fun sig h => ?_, ok _ (by simp [wsV]), ok _ (by simp [wsV]), ok _ (by simp [wsV])⟩
  have h2 := hd.2.2
  rw [h] at h2
  exact (Option.some.inj h2).symm
theorem vx_runVW {y : MethodName} {bytes cc : ByteArray} {maxL nL mc ms n index : Nat} {ret : Option FieldType} {hh : List (Nat × Nat × Nat × Nat)} {ws : List Cond} {rm : Room} {Pc : Array Value → State → Prop} {Qc : Array Value → State → Outcome → State → Prop} {free : Addr → Prop} {Ts : List Cond} {own C : String} {b : Addr} {As rest : List Value} {g : JFrame}
    (S : CallFix p m c cc nL s args Ts own) (hM : Met l y ws rm Pc Qc mc ms free) (cw : vx_CVW R s args own C index y bytes maxL ret hh ws rm mc ms n) (hp : PreV s H C b Pc As)
    (hg : g.method = m) (hn : As.length = n) (hsize : g.locals.size = nL) (hstack : g.stack = As.reverse ++ .ref b :: rest) (hW : 2 * g.monitorRoom + (rest.map fun v => v.category).sum ≤ 8) (hdg : decode cc g.pc = .ok (.invokevirtual index, 3)) (hf : cells + mc ≤ R.cells ∧ slots + ms ≤ R.slots) :
    va_Run p l e R s m args below meth c H locs cells slots mc ms g rest (Qc (Value.ref b :: As).toArray) free := by
  obtain ⟨⟨hrc, hrs, hfr, hlo, hws, hcw⟩, hcode, hini, hy, hlen, hl, hin, hse⟩ := cw
  have hK : Back l R p e below s args y 3 8 (PreOf R mc ms Pc) (PostOf Qc mc ms free) := va_backW (hh := hh) (bytes := bytes) (maxL := maxL) (ret := ret) hM hp.1 hrc hrs hfr hlo hws hcw (fun a' U hW => word_at hW (Or.inl (by first | rfl | simp [Cond.onTables, Cond.keeps, Cond.steady])) hini)
  obtain ⟨hx, hb, hml, ho, -⟩ := S
  obtain ⟨-, ⟨cellB, hcB, hoB, hclB⟩, hPc⟩ := hp
  intro T hT X
  obtain ⟨v, vm₁, ⟨U', l2, c2, s2⟩, hW₁, X', ⟨g', mk, t, L, e1, e2, hq, h1, hL, h2, h3⟩, st⟩ := vx_callVW X hx (C := C) (hh := hh) (bytes := bytes) (maxL := maxL) (ret := ret) ho hl hin hse hcode hy hK (by rw [hT]; exact hcB) hoB hclB hg (hsize.trans hml.symm) (argsL := As) (rest := rest) (fun sig h => hn.trans (hlen sig h)) hstack hW (by rw [hb]; exact hdg)
    (fun vm₁ hW₁ => ⟨hf.1, hf.2, hPc (T.setVm vm₁) hT hW₁⟩)
  dsimp only [Pt.U, Pt.locs, Pt.cells, Pt.slots] at X' e1 e2 h1 h2 h3 st
  subst h1; subst h2; subst h3
  exact ⟨v, (T.setVm vm₁).calling g' mk (Value.ref b :: As).toArray, t, U', L, hT, X', hL, e1, e2, hq, st⟩
section
variable {y : MethodName} {bytes cc : ByteArray} {maxL nL mc ms n index : Nat} {ret : Option FieldType} {ws : List Cond} {rm : Room} {Pc : Array Value → State → Prop} {Qc : Array Value → State → Outcome → State → Prop} {XC : String → State → State → Prop} {free : Addr → Prop} {Ts : List Cond} {own C : String} {b : Addr} {As rest : List Value} {g : JFrame}
theorem vx_runVX {hh : List (Nat × Nat × Nat × Nat)} (S : CallFix p m c cc nL s args Ts own) (hM : vx_Met l y ws rm Pc Qc XC mc ms free) (cw : vx_CVW R s args own C index y bytes maxL ret hh ws rm mc ms n) (hp : PreV s H C b Pc As)
    (hg : g.method = m) (hn : As.length = n) (hsize : g.locals.size = nL) (hstack : g.stack = As.reverse ++ .ref b :: rest) (hW : 2 * g.monitorRoom + (rest.map fun v => v.category).sum ≤ 8) (hdg : decode cc g.pc = .ok (.invokevirtual index, 3)) (hf : cells + mc ≤ R.cells ∧ slots + ms ≤ R.slots) :
    vx_Run p l e R s m args below meth c H locs cells slots mc ms g rest (Qc (Value.ref b :: As).toArray) XC free := by
  obtain ⟨⟨hrc, hrs, hfr, hlo, hws, hcw⟩, hcode, hini, hy, hlen, hl, hin, hse⟩ := cw
  have hK : vx_Back l R p e below s args y 3 8 (PreOf R mc ms Pc) (PostOf Qc mc ms free) (vx_Post XC mc ms free) := vx_backW (hh := hh) (bytes := bytes) (maxL := maxL) (ret := ret) hM hp.1 hrc hrs hfr hlo hws hcw (fun a' U hW => word_at hW (Or.inl (by first | rfl | simp [Cond.onTables, Cond.keeps, Cond.steady])) hini)
  obtain ⟨hx, hb, hml, ho, -⟩ := S
  obtain ⟨-, ⟨cellB, hcB, hoB, hclB⟩, hPc⟩ := hp
  intro T hT X
  rcases vx_callVX X hx (C := C) (hh := hh) (bytes := bytes) (maxL := maxL) (ret := ret) ho hl hin hse hcode hy hK (by rw [hT]; exact hcB) hoB hclB hg (hsize.trans hml.symm) (argsL := As) (rest := rest) (fun sig h => hn.trans (hlen sig h)) hstack hW (by rw [hb]; exact hdg)
    (fun vm₁ hW₁ => ⟨hf.1, hf.2, hPc (T.setVm vm₁) hT hW₁⟩) with ⟨v, vm₁, ⟨U', l2, c2, s2⟩, hW₁, X', ⟨g', mk, t, L, e1, e2, hq, h1, hL, h2, h3⟩, st⟩ | ⟨q, vm₁, ⟨U', l2, c2, s2⟩, hW₁, X', ⟨g', mk, t, L, E, ce, e1, e2, hq, hce, hcv, hcl, h1, hL, h2, h3⟩, st⟩
  · dsimp only [Pt.U, Pt.locs, Pt.cells, Pt.slots] at X' e1 e2 h1 h2 h3 st
    subst h1; subst h2; subst h3
    exact Or.inl ⟨v, (T.setVm vm₁).calling g' mk (Value.ref b :: As).toArray, t, U', L, hT, X', hL, e1, e2, hq, st⟩
  · dsimp only [Pt.U, Pt.locs, Pt.cells, Pt.slots] at X' e1 e2 h1 h2 h3 st hcl
    subst h1; subst h2; subst h3
    exact Or.inr ⟨q, (T.setVm vm₁).calling g' mk (Value.ref b :: As).toArray, t, U', L, E, ce, hT, X', hL, e1, e2, hq, hce, hcv, vx_cls hW₁ hcl, st⟩
theorem vx_runSX {hh : List (Nat × Nat × Nat × Nat)} (S : CallFix p m c cc nL s args Ts own) (hM : vx_Met l y ws rm Pc Qc XC mc ms free) (cw : vx_CSW R s args own index y bytes maxL ret hh ws rm mc ms n) (hp : PreS s H Pc As)
    (hg : g.method = m) (hn : As.length = n) (hsize : g.locals.size = nL) (hstack : g.stack = As.reverse ++ rest) (hW : 2 * g.monitorRoom + (rest.map fun v => v.category).sum ≤ 8) (hdg : decode cc g.pc = .ok (.invokestatic index, 3)) (hf : cells + mc ≤ R.cells ∧ slots + ms ≤ R.slots) :
    vx_Run p l e R s m args below meth c H locs cells slots mc ms g rest (Qc As.toArray) XC free := by
  obtain ⟨⟨hrc, hrs, hfr, hlo, hws, hcw⟩, hcode, hini, hy, hlen, hl, hstt⟩ := cw
  have hK : vx_Back l R p e below s args y 3 8 (PreOf R mc ms Pc) (PostOf Qc mc ms free) (vx_Post XC mc ms free) := vx_backW (hh := hh) (bytes := bytes) (maxL := maxL) (ret := ret) hM hp.1 hrc hrs hfr hlo hws hcw (fun a' U hW => word_at hW (Or.inl (by first | rfl | simp [Cond.onTables, Cond.keeps, Cond.steady])) hini)
  obtain ⟨hx, hb, hml, ho, -⟩ := S
  intro T hT X
  rcases vx_callSX X hx (hh := hh) (bytes := bytes) (maxL := maxL) (ret := ret) ho hl hstt hini hcode hy hK hg (hsize.trans hml.symm) (argsL := As) (rest := rest) (fun sig h => hn.trans (hlen sig h)) hstack hW (by rw [hb]; exact hdg)
    (fun vm₁ hW₁ => ⟨hf.1, hf.2, hp.2 (T.setVm vm₁) hT hW₁⟩) with ⟨v, vm₁, ⟨U', l2, c2, s2⟩, hW₁, X', ⟨g', mk, t, L, e1, e2, hq, h1, hL, h2, h3⟩, st⟩ | ⟨q, vm₁, ⟨U', l2, c2, s2⟩, hW₁, X', ⟨g', mk, t, L, E, ce, e1, e2, hq, hce, hcv, hcl, h1, hL, h2, h3⟩, st⟩
  · dsimp only [Pt.U, Pt.locs, Pt.cells, Pt.slots] at X' e1 e2 h1 h2 h3 st
    subst h1; subst h2; subst h3
    exact Or.inl ⟨v, (T.setVm vm₁).calling g' mk As.toArray, t, U', L, hT, X', hL, e1, e2, hq, st⟩
  · dsimp only [Pt.U, Pt.locs, Pt.cells, Pt.slots] at X' e1 e2 h1 h2 h3 st hcl
    subst h1; subst h2; subst h3
    exact Or.inr ⟨q, (T.setVm vm₁).calling g' mk As.toArray, t, U', L, E, ce, hT, X', hL, e1, e2, hq, hce, hcv, vx_cls hW₁ hcl, st⟩
end
end VXH
theorem vx_ofWH {l : Launch} {y : MethodName} {ws ws' : List Cond} {rm : Room} {Pc : Array Value → State → Prop} {Qc : Array Value → State → Outcome → State → Prop} {XC : String → State → State → Prop} {mc ms : Nat} {free : Addr → Prop} {cc : ByteArray} {maxL : Nat} {ret : Option FieldType} {hh : List (Nat × Nat × Nat × Nat)}
    (hy : plainName y.cls = true) (hw : ws = Cond.codeWith y cc maxL ret hh :: ws')
    (body : ∀ p e s m args below meth c s₁, BodyLoose p l y (headSpec ws rm) cc maxL ret e s m args below meth c s₁ → c.maxLocals = maxL → Pc args s →
      W p l e (headSpec ws rm).room s m args below meth c s.heap [] 0 0 (vx_MQ below Qc XC args s mc ms free) (entryFrame m args maxL)) : vx_Met l y ws rm Pc Qc XC mc ms free := by
  refine MetFree.of_bodyS (code := cc) (maxLocals := maxL) (ret := ret) hy ?_ ?_
  · intro args s m h hn
    obtain ⟨m9, meth, c, hn9, h1, h2, h3, h4, -, h5, h6, -⟩ := Cond.codeWith_spec (atoms_spec (ws := ws) h _ (by rw [hw]; exact List.mem_cons_self))
    cases hn.symm.trans hn9
    exact ⟨meth, c, h1, h2, h3, h4, h5, h6⟩
  · intro p e s m args below meth c s₁ B hml hP _
    have hh0 : s₁.heap = s.heap := by rw [B.state]; rfl
    obtain ⟨t, a1, o, b1, b2, b3⟩ := body p e s m args below meth c s₁ B hml hP s₁ hh0 (Stand.of_body B)
    exact ⟨t, o, a1, b1, b2, b3⟩
/-! ===== END ===== -/
end
section
def RX0 : String := "ConvolutionBench$Bench"
def TX0 : u_T := fun k => match k with
  | 0 => ("ConvolutionBench$Bench", "fields", "[LConvolutionBench$Field;", true)
  | 1 => ("ConvolutionBench$Bench", "sequences", "[LConvolutionBench$Sequence;", true)
  | 2 => ("ConvolutionBench$Bench", "result", "LConvolutionBench$Product;", true)
  | _ => ("ConvolutionBench$Bench", "primeCount", "I", false)
def tyX0 : Nat → FieldType := fun k => match k with
  | 0 => .array (.object "ConvolutionBench$Field")
  | 1 => .array (.object "ConvolutionBench$Sequence")
  | 2 => .object "ConvolutionBench$Product"
  | _ => .int
abbrev wsX00 : List Cond := u_ws RX0 TX0 4
theorem nmX0 : ∀ a, a < 4 → ∀ b, b < 4 → a ≠ b → (TX0 a).2.1 ≠ (TX0 b).2.1 := by decide +kernel
theorem tyX0_ok : ∀ k, k < 4 → parseFieldDescriptor (TX0 k).2.2.1 = some (tyX0 k) := by decide +kernel
abbrev cX0_init : ByteArray := prog_2_method_1_code
def yX0_init : MethodName := ⟨RX0, "<init>", "()V"⟩
abbrev cX0_canBeAdded : ByteArray := prog_2_method_2_code
def yX0_canBeAdded : MethodName := ⟨RX0, "canBeAdded", "(I)Z"⟩
abbrev cX0_addField : ByteArray := prog_2_method_3_code
def yX0_addField : MethodName := ⟨RX0, "addField", "(I)V"⟩
abbrev cX0_removeField : ByteArray := prog_2_method_4_code
def yX0_removeField : MethodName := ⟨RX0, "removeField", "(I)V"⟩
abbrev cX0_exchange : ByteArray := prog_2_method_5_code
def yX0_exchange : MethodName := ⟨RX0, "exchange", "(II)V"⟩
abbrev cX0_usableFields : ByteArray := prog_2_method_6_code
def yX0_usableFields : MethodName := ⟨RX0, "usableFields", "(II)I"⟩
abbrev cX0_longestTransform : ByteArray := prog_2_method_7_code
def yX0_longestTransform : MethodName := ⟨RX0, "longestTransform", "(I)I"⟩
abbrev cX0_areEnough : ByteArray := prog_2_method_8_code
def yX0_areEnough : MethodName := ⟨RX0, "areEnough", "(IJ)Z"⟩
abbrev cX0_isProductGreater : ByteArray := prog_2_method_9_code
def yX0_isProductGreater : MethodName := ⟨RX0, "isProductGreater", "(IJ)Z"⟩
abbrev cX0_clear : ByteArray := prog_2_method_10_code
def yX0_clear : MethodName := ⟨RX0, "clear", "()V"⟩
abbrev cX0_copyFrom : ByteArray := prog_2_method_11_code
def yX0_copyFrom : MethodName := ⟨RX0, "copyFrom", "(LConvolutionBench$Bench;)V"⟩
def RX1 : String := "ConvolutionBench$Field"
def TX1 : u_T := fun k => match k with
  | 0 => ("ConvolutionBench$Field", "p", "I", true)
  | 1 => ("ConvolutionBench$Field", "factors", "[I", true)
  | 2 => ("ConvolutionBench$Field", "factorCount", "I", true)
  | _ => ("ConvolutionBench$Field", "generator", "I", true)
def tyX1 : Nat → FieldType := fun k => match k with
  | 0 => .int
  | 1 => .array .int
  | 2 => .int
  | _ => .int
abbrev wsX10 : List Cond := u_ws RX1 TX1 4
theorem nmX1 : ∀ a, a < 4 → ∀ b, b < 4 → a ≠ b → (TX1 a).2.1 ≠ (TX1 b).2.1 := by decide +kernel
theorem tyX1_ok : ∀ k, k < 4 → parseFieldDescriptor (TX1 k).2.2.1 = some (tyX1 k) := by decide +kernel
abbrev cX1_init : ByteArray := prog_3_method_1_code
def yX1_init : MethodName := ⟨RX1, "<init>", "(I)V"⟩
abbrev cX1_findFactors : ByteArray := prog_3_method_2_code
def yX1_findFactors : MethodName := ⟨RX1, "findFactors", "()I"⟩
abbrev cX1_leastGenerator : ByteArray := prog_3_method_3_code
def yX1_leastGenerator : MethodName := ⟨RX1, "leastGenerator", "()I"⟩
abbrev cX1_residueOf : ByteArray := prog_3_method_4_code
def yX1_residueOf : MethodName := ⟨RX1, "residueOf", "(J)I"⟩
abbrev cX1_times : ByteArray := prog_3_method_5_code
def yX1_times : MethodName := ⟨RX1, "times", "(II)I"⟩
abbrev cX1_raise : ByteArray := prog_3_method_6_code
def yX1_raise : MethodName := ⟨RX1, "raise", "(II)I"⟩
abbrev cX1_invert : ByteArray := prog_3_method_7_code
def yX1_invert : MethodName := ⟨RX1, "invert", "(I)I"⟩
abbrev cX1_orderOf : ByteArray := prog_3_method_8_code
def yX1_orderOf : MethodName := ⟨RX1, "orderOf", "(I)I"⟩
abbrev cX1_hasRoot : ByteArray := prog_3_method_9_code
def yX1_hasRoot : MethodName := ⟨RX1, "hasRoot", "(I)Z"⟩
abbrev cX1_rootOfOrder : ByteArray := prog_3_method_10_code
def yX1_rootOfOrder : MethodName := ⟨RX1, "rootOfOrder", "(I)I"⟩
abbrev cX1_greatestPowerOfTwo : ByteArray := prog_3_method_11_code
def yX1_greatestPowerOfTwo : MethodName := ⟨RX1, "greatestPowerOfTwo", "()I"⟩
abbrev cX1_transformLengths : ByteArray := prog_3_method_12_code
def yX1_transformLengths : MethodName := ⟨RX1, "transformLengths", "()I"⟩
abbrev cX1_evaluate : ByteArray := prog_3_method_13_code
def yX1_evaluate : MethodName := ⟨RX1, "evaluate", "([III)I"⟩
def RX2 : String := "ConvolutionBench$History"
def TX2 : u_T := fun k => match k with
  | 0 => ("ConvolutionBench$History", "kept", "[LConvolutionBench$Bench;", true)
  | 1 => ("ConvolutionBench$History", "next", "I", false)
  | _ => ("ConvolutionBench$History", "count", "I", false)
def tyX2 : Nat → FieldType := fun k => match k with
  | 0 => .array (.object "ConvolutionBench$Bench")
  | 1 => .int
  | _ => .int
abbrev wsX20 : List Cond := u_ws RX2 TX2 3
theorem nmX2 : ∀ a, a < 3 → ∀ b, b < 3 → a ≠ b → (TX2 a).2.1 ≠ (TX2 b).2.1 := by decide +kernel
theorem tyX2_ok : ∀ k, k < 3 → parseFieldDescriptor (TX2 k).2.2.1 = some (tyX2 k) := by decide +kernel
abbrev cX2_init : ByteArray := prog_4_method_1_code
def yX2_init : MethodName := ⟨RX2, "<init>", "()V"⟩
abbrev cX2_keep : ByteArray := prog_4_method_2_code
def yX2_keep : MethodName := ⟨RX2, "keep", "(LConvolutionBench$Bench;)V"⟩
abbrev cX2_giveBack : ByteArray := prog_4_method_3_code
def yX2_giveBack : MethodName := ⟨RX2, "giveBack", "(LConvolutionBench$Bench;)V"⟩
def RX3 : String := "ConvolutionBench$LogarithmTable"
def TX3 : u_T := fun k => match k with
  | 0 => ("ConvolutionBench$LogarithmTable", "powers", "[I", true)
  | _ => ("ConvolutionBench$LogarithmTable", "exponents", "[I", true)
def tyX3 : Nat → FieldType := fun k => match k with
  | 0 => .array .int
  | _ => .array .int
abbrev wsX30 : List Cond := u_ws RX3 TX3 2
theorem nmX3 : ∀ a, a < 2 → ∀ b, b < 2 → a ≠ b → (TX3 a).2.1 ≠ (TX3 b).2.1 := by decide +kernel
theorem tyX3_ok : ∀ k, k < 2 → parseFieldDescriptor (TX3 k).2.2.1 = some (tyX3 k) := by decide +kernel
abbrev cX3_init : ByteArray := prog_5_method_1_code
def yX3_init : MethodName := ⟨RX3, "<init>", "()V"⟩
abbrev cX3_find : ByteArray := prog_5_method_2_code
def yX3_find : MethodName := ⟨RX3, "find", "(LConvolutionBench$Field;I)I"⟩
abbrev cX3_fill : ByteArray := prog_5_method_3_code
def yX3_fill : MethodName := ⟨RX3, "fill", "(LConvolutionBench$Field;)V"⟩
abbrev cX3_placeOf : ByteArray := prog_5_method_4_code
def yX3_placeOf : MethodName := ⟨RX3, "placeOf", "(I)I"⟩
def RX4 : String := "ConvolutionBench$Multiplier"
def TX4 : u_T := fun k => match k with
  | _ => ("ConvolutionBench$Multiplier", "spectrum", "[I", true)
def tyX4 : Nat → FieldType := fun k => match k with
  | _ => .array .int
abbrev wsX40 : List Cond := u_ws RX4 TX4 1
theorem nmX4 : ∀ a, a < 1 → ∀ b, b < 1 → a ≠ b → (TX4 a).2.1 ≠ (TX4 b).2.1 := by decide +kernel
theorem tyX4_ok : ∀ k, k < 1 → parseFieldDescriptor (TX4 k).2.2.1 = some (tyX4 k) := by decide +kernel
abbrev cX4_init : ByteArray := prog_6_method_1_code
def yX4_init : MethodName := ⟨RX4, "<init>", "()V"⟩
abbrev cX4_convolve : ByteArray := prog_6_method_2_code
def yX4_convolve : MethodName := ⟨RX4, "convolve", "(LConvolutionBench$Sequence;LConvolutionBench$Sequence;LConvolutionBench$Product;)V"⟩
abbrev cX4_multiplySpectra : ByteArray := prog_6_method_3_code
def yX4_multiplySpectra : MethodName := ⟨RX4, "multiplySpectra", "(LConvolutionBench$Field;LConvolutionBench$Sequence;LConvolutionBench$Sequence;II)V"⟩
abbrev cX4_widen : ByteArray := prog_6_method_4_code
def yX4_widen : MethodName := ⟨RX4, "widen", "(LConvolutionBench$Product;LConvolutionBench$Field;IJ)V"⟩
def RX5 : String := "ConvolutionBench$PlanFinder"
def TX5 : u_T := fun k => match k with
  | 0 => ("ConvolutionBench$PlanFinder", "fieldSteps", "[I", true)
  | 1 => ("ConvolutionBench$PlanFinder", "isEnough", "[Z", true)
  | 2 => ("ConvolutionBench$PlanFinder", "steps", "I", false)
  | 3 => ("ConvolutionBench$PlanFinder", "length", "I", false)
  | _ => ("ConvolutionBench$PlanFinder", "set", "I", false)
def tyX5 : Nat → FieldType := fun k => match k with
  | 0 => .array .int
  | 1 => .array .boolean
  | 2 => .int
  | 3 => .int
  | _ => .int
abbrev wsX50 : List Cond := u_ws RX5 TX5 5
theorem nmX5 : ∀ a, a < 5 → ∀ b, b < 5 → a ≠ b → (TX5 a).2.1 ≠ (TX5 b).2.1 := by decide +kernel
theorem tyX5_ok : ∀ k, k < 5 → parseFieldDescriptor (TX5 k).2.2.1 = some (tyX5 k) := by decide +kernel
abbrev cX5_init : ByteArray := prog_7_method_1_code
def yX5_init : MethodName := ⟨RX5, "<init>", "()V"⟩
abbrev cX5_find : ByteArray := prog_7_method_2_code
def yX5_find : MethodName := ⟨RX5, "find", "(LConvolutionBench$Bench;IIJ)V"⟩
abbrev cX5_measureFields : ByteArray := prog_7_method_3_code
def yX5_measureFields : MethodName := ⟨RX5, "measureFields", "(LConvolutionBench$Bench;III)V"⟩
abbrev cX5_compare : ByteArray := prog_7_method_4_code
def yX5_compare : MethodName := ⟨RX5, "compare", "(II)V"⟩
def RX6 : String := "ConvolutionBench$Product"
def TX6 : u_T := fun k => match k with
  | 0 => ("ConvolutionBench$Product", "values", "[J", true)
  | 1 => ("ConvolutionBench$Product", "fields", "[LConvolutionBench$Field;", true)
  | 2 => ("ConvolutionBench$Product", "fieldCount", "I", false)
  | 3 => ("ConvolutionBench$Product", "count", "I", false)
  | 4 => ("ConvolutionBench$Product", "kind", "I", false)
  | 5 => ("ConvolutionBench$Product", "set", "I", false)
  | 6 => ("ConvolutionBench$Product", "length", "I", false)
  | _ => ("ConvolutionBench$Product", "modulus", "J", false)
def tyX6 : Nat → FieldType := fun k => match k with
  | 0 => .array .long
  | 1 => .array (.object "ConvolutionBench$Field")
  | 2 => .int
  | 3 => .int
  | 4 => .int
  | 5 => .int
  | 6 => .int
  | _ => .long
abbrev wsX60 : List Cond := u_ws RX6 TX6 8
theorem nmX6 : ∀ a, a < 8 → ∀ b, b < 8 → a ≠ b → (TX6 a).2.1 ≠ (TX6 b).2.1 := by decide +kernel
theorem tyX6_ok : ∀ k, k < 8 → parseFieldDescriptor (TX6 k).2.2.1 = some (tyX6 k) := by decide +kernel
abbrev cX6_init : ByteArray := prog_8_method_1_code
def yX6_init : MethodName := ⟨RX6, "<init>", "()V"⟩
abbrev cX6_isPresent : ByteArray := prog_8_method_2_code
def yX6_isPresent : MethodName := ⟨RX6, "isPresent", "()Z"⟩
abbrev cX6_hasCoefficient : ByteArray := prog_8_method_3_code
def yX6_hasCoefficient : MethodName := ⟨RX6, "hasCoefficient", "(I)Z"⟩
abbrev cX6_clear : ByteArray := prog_8_method_4_code
def yX6_clear : MethodName := ⟨RX6, "clear", "()V"⟩
abbrev cX6_prepare : ByteArray := prog_8_method_5_code
def yX6_prepare : MethodName := ⟨RX6, "prepare", "(III)V"⟩
abbrev cX6_takeFields : ByteArray := prog_8_method_6_code
def yX6_takeFields : MethodName := ⟨RX6, "takeFields", "(LConvolutionBench$Bench;I)V"⟩
abbrev cX6_centre : ByteArray := prog_8_method_7_code
def yX6_centre : MethodName := ⟨RX6, "centre", "()V"⟩
abbrev cX6_mixedDigit : ByteArray := prog_8_method_8_code
def yX6_mixedDigit : MethodName := ⟨RX6, "mixedDigit", "(II)I"⟩
abbrev cX6_evaluate : ByteArray := prog_8_method_9_code
def yX6_evaluate : MethodName := ⟨RX6, "evaluate", "(I)I"⟩
abbrev cX6_isSequence : ByteArray := prog_8_method_10_code
def yX6_isSequence : MethodName := ⟨RX6, "isSequence", "()Z"⟩
abbrev cX6_copyFrom : ByteArray := prog_8_method_11_code
def yX6_copyFrom : MethodName := ⟨RX6, "copyFrom", "(LConvolutionBench$Product;)V"⟩
def RX7 : String := "ConvolutionBench$Sequence"
def TX7 : u_T := fun k => match k with
  | 0 => ("ConvolutionBench$Sequence", "terms", "[I", true)
  | _ => ("ConvolutionBench$Sequence", "count", "I", false)
def tyX7 : Nat → FieldType := fun k => match k with
  | 0 => .array .int
  | _ => .int
abbrev wsX70 : List Cond := u_ws RX7 TX7 2
theorem nmX7 : ∀ a, a < 2 → ∀ b, b < 2 → a ≠ b → (TX7 a).2.1 ≠ (TX7 b).2.1 := by decide +kernel
theorem tyX7_ok : ∀ k, k < 2 → parseFieldDescriptor (TX7 k).2.2.1 = some (tyX7 k) := by decide +kernel
abbrev cX7_init : ByteArray := prog_9_method_1_code
def yX7_init : MethodName := ⟨RX7, "<init>", "()V"⟩
abbrev cX7_isFull : ByteArray := prog_9_method_2_code
def yX7_isFull : MethodName := ⟨RX7, "isFull", "()Z"⟩
abbrev cX7_add : ByteArray := prog_9_method_3_code
def yX7_add : MethodName := ⟨RX7, "add", "(I)V"⟩
abbrev cX7_fillEvenly : ByteArray := prog_9_method_4_code
def yX7_fillEvenly : MethodName := ⟨RX7, "fillEvenly", "(III)V"⟩
abbrev cX7_greatestSize : ByteArray := prog_9_method_5_code
def yX7_greatestSize : MethodName := ⟨RX7, "greatestSize", "()I"⟩
abbrev cX7_copyFrom : ByteArray := prog_9_method_6_code
def yX7_copyFrom : MethodName := ⟨RX7, "copyFrom", "(LConvolutionBench$Sequence;)V"⟩
def RX8 : String := "ConvolutionBench$TextReader"
def TX8 : u_T := fun k => match k with
  | 0 => ("ConvolutionBench$TextReader", "text", "[B", true)
  | 1 => ("ConvolutionBench$TextReader", "fresh", "LConvolutionBench$Bench;", true)
  | 2 => ("ConvolutionBench$TextReader", "fed", "I", false)
  | 3 => ("ConvolutionBench$TextReader", "end", "I", false)
  | 4 => ("ConvolutionBench$TextReader", "at", "I", false)
  | 5 => ("ConvolutionBench$TextReader", "error", "I", false)
  | _ => ("ConvolutionBench$TextReader", "errorAt", "I", false)
def tyX8 : Nat → FieldType := fun k => match k with
  | 0 => .array .byte
  | 1 => .object "ConvolutionBench$Bench"
  | 2 => .int
  | 3 => .int
  | 4 => .int
  | 5 => .int
  | _ => .int
abbrev wsX80 : List Cond := u_ws RX8 TX8 7
theorem nmX8 : ∀ a, a < 7 → ∀ b, b < 7 → a ≠ b → (TX8 a).2.1 ≠ (TX8 b).2.1 := by decide +kernel
theorem tyX8_ok : ∀ k, k < 7 → parseFieldDescriptor (TX8 k).2.2.1 = some (tyX8 k) := by decide +kernel
abbrev cX8_init : ByteArray := prog_10_method_1_code
def yX8_init : MethodName := ⟨RX8, "<init>", "()V"⟩
abbrev cX8_hasSpace : ByteArray := prog_10_method_2_code
def yX8_hasSpace : MethodName := ⟨RX8, "hasSpace", "()Z"⟩
abbrev cX8_takeBytes : ByteArray := prog_10_method_3_code
def yX8_takeBytes : MethodName := ⟨RX8, "takeBytes", "(I)V"⟩
abbrev cX8_read : ByteArray := prog_10_method_4_code
def yX8_read : MethodName := ⟨RX8, "read", "(I)I"⟩
abbrev cX8_readPrime : ByteArray := prog_10_method_5_code
def yX8_readPrime : MethodName := ⟨RX8, "readPrime", "(I)V"⟩
abbrev cX8_readSequence : ByteArray := prog_10_method_6_code
def yX8_readSequence : MethodName := ⟨RX8, "readSequence", "()V"⟩
abbrev cX8_readTerms : ByteArray := prog_10_method_7_code
def yX8_readTerms : MethodName := ⟨RX8, "readTerms", "(LConvolutionBench$Sequence;)V"⟩
abbrev cX8_readTerm : ByteArray := prog_10_method_8_code
def yX8_readTerm : MethodName := ⟨RX8, "readTerm", "(LConvolutionBench$Sequence;)V"⟩
abbrev cX8_passSemicolon : ByteArray := prog_10_method_9_code
def yX8_passSemicolon : MethodName := ⟨RX8, "passSemicolon", "()V"⟩
abbrev cX8_passSpaces : ByteArray := prog_10_method_10_code
def yX8_passSpaces : MethodName := ⟨RX8, "passSpaces", "()V"⟩
abbrev cX8_passWord : ByteArray := prog_10_method_11_code
def yX8_passWord : MethodName := ⟨RX8, "passWord", "(Ljava/lang/String;)Z"⟩
abbrev cX8_passNumber : ByteArray := prog_10_method_12_code
def yX8_passNumber : MethodName := ⟨RX8, "passNumber", "()I"⟩
abbrev cX8_byteAt : ByteArray := prog_10_method_13_code
def yX8_byteAt : MethodName := ⟨RX8, "byteAt", "(I)I"⟩
abbrev cX8_isDigit : ByteArray := prog_10_method_14_code
def yX8_isDigit : MethodName := ⟨RX8, "isDigit", "(I)Z"⟩
abbrev cX8_isLetter : ByteArray := prog_10_method_15_code
def yX8_isLetter : MethodName := ⟨RX8, "isLetter", "(I)Z"⟩
abbrev cX8_fail : ByteArray := prog_10_method_16_code
def yX8_fail : MethodName := ⟨RX8, "fail", "(II)V"⟩
def RX9 : String := "ConvolutionBench"
def TX9 : u_T := fun k => match k with
  | 0 => ("ConvolutionBench", "bench", "LConvolutionBench$Bench;", true)
  | 1 => ("ConvolutionBench", "history", "LConvolutionBench$History;", true)
  | 2 => ("ConvolutionBench", "reader", "LConvolutionBench$TextReader;", true)
  | 3 => ("ConvolutionBench", "logarithms", "LConvolutionBench$LogarithmTable;", true)
  | 4 => ("ConvolutionBench", "multiplier", "LConvolutionBench$Multiplier;", true)
  | _ => ("ConvolutionBench", "plans", "LConvolutionBench$PlanFinder;", true)
def tyX9 : Nat → FieldType := fun k => match k with
  | 0 => .object "ConvolutionBench$Bench"
  | 1 => .object "ConvolutionBench$History"
  | 2 => .object "ConvolutionBench$TextReader"
  | 3 => .object "ConvolutionBench$LogarithmTable"
  | 4 => .object "ConvolutionBench$Multiplier"
  | _ => .object "ConvolutionBench$PlanFinder"
abbrev wsX90 : List Cond := u_ws RX9 TX9 6
theorem nmX9 : ∀ a, a < 6 → ∀ b, b < 6 → a ≠ b → (TX9 a).2.1 ≠ (TX9 b).2.1 := by decide +kernel
theorem tyX9_ok : ∀ k, k < 6 → parseFieldDescriptor (TX9 k).2.2.1 = some (tyX9 k) := by decide +kernel
abbrev cX9_init : ByteArray := prog_1_method_1_code
def yX9_init : MethodName := ⟨RX9, "<init>", "()V"⟩
abbrev cX9_feed : ByteArray := prog_1_method_2_code
def yX9_feed : MethodName := ⟨RX9, "feed", "(IIIII)I"⟩
abbrev cX9_load : ByteArray := prog_1_method_3_code
def yX9_load : MethodName := ⟨RX9, "load", "(I)I"⟩
abbrev cX9_errorPosition : ByteArray := prog_1_method_4_code
def yX9_errorPosition : MethodName := ⟨RX9, "errorPosition", "()I"⟩
abbrev cX9_primes : ByteArray := prog_1_method_5_code
def yX9_primes : MethodName := ⟨RX9, "primes", "()I"⟩
abbrev cX9_addPrime : ByteArray := prog_1_method_6_code
def yX9_addPrime : MethodName := ⟨RX9, "addPrime", "(I)I"⟩
abbrev cX9_removePrime : ByteArray := prog_1_method_7_code
def yX9_removePrime : MethodName := ⟨RX9, "removePrime", "(I)I"⟩
abbrev cX9_prime : ByteArray := prog_1_method_8_code
def yX9_prime : MethodName := ⟨RX9, "prime", "(II)I"⟩
abbrev cX9_root : ByteArray := prog_1_method_9_code
def yX9_root : MethodName := ⟨RX9, "root", "(II)I"⟩
abbrev cX9_power : ByteArray := prog_1_method_10_code
def yX9_power : MethodName := ⟨RX9, "power", "(III)I"⟩
abbrev cX9_inverse : ByteArray := prog_1_method_11_code
def yX9_inverse : MethodName := ⟨RX9, "inverse", "(II)I"⟩
abbrev cX9_order : ByteArray := prog_1_method_12_code
def yX9_order : MethodName := ⟨RX9, "order", "(II)I"⟩
abbrev cX9_logarithm : ByteArray := prog_1_method_13_code
def yX9_logarithm : MethodName := ⟨RX9, "logarithm", "(II)I"⟩
abbrev cX9_primeFor : ByteArray := prog_1_method_14_code
def yX9_primeFor : MethodName := ⟨RX9, "primeFor", "(II)I"⟩
abbrev cX9_usable : ByteArray := prog_1_method_15_code
def yX9_usable : MethodName := ⟨RX9, "usable", "(II)I"⟩
abbrev cX9_length : ByteArray := prog_1_method_16_code
def yX9_length : MethodName := ⟨RX9, "length", "(I)I"⟩
abbrev cX9_term : ByteArray := prog_1_method_17_code
def yX9_term : MethodName := ⟨RX9, "term", "(II)I"⟩
abbrev cX9_setSequence : ByteArray := prog_1_method_18_code
def yX9_setSequence : MethodName := ⟨RX9, "setSequence", "(IIII)I"⟩
abbrev cX9_append : ByteArray := prog_1_method_19_code
def yX9_append : MethodName := ⟨RX9, "append", "(II)I"⟩
abbrev cX9_cut : ByteArray := prog_1_method_20_code
def yX9_cut : MethodName := ⟨RX9, "cut", "(II)I"⟩
abbrev cX9_swap : ByteArray := prog_1_method_21_code
def yX9_swap : MethodName := ⟨RX9, "swap", "(II)I"⟩
abbrev cX9_transform : ByteArray := prog_1_method_22_code
def yX9_transform : MethodName := ⟨RX9, "transform", "(IIII)I"⟩
abbrev cX9_cost : ByteArray := prog_1_method_23_code
def yX9_cost : MethodName := ⟨RX9, "cost", "(III)I"⟩
abbrev cX9_method : ByteArray := prog_1_method_24_code
def yX9_method : MethodName := ⟨RX9, "method", "(II)I"⟩
abbrev cX9_chirp : ByteArray := prog_1_method_25_code
def yX9_chirp : MethodName := ⟨RX9, "chirp", "(III)I"⟩
abbrev cX9_longest : ByteArray := prog_1_method_26_code
def yX9_longest : MethodName := ⟨RX9, "longest", "(I)I"⟩
abbrev cX9_size : ByteArray := prog_1_method_27_code
def yX9_size : MethodName := ⟨RX9, "size", "(IIII)I"⟩
abbrev cX9_bound : ByteArray := prog_1_method_28_code
def yX9_bound : MethodName := ⟨RX9, "bound", "(II)J"⟩
abbrev cX9_coefficient : ByteArray := prog_1_method_29_code
def yX9_coefficient : MethodName := ⟨RX9, "coefficient", "(IIIII)J"⟩
abbrev cX9_isEnough : ByteArray := prog_1_method_30_code
def yX9_isEnough : MethodName := ⟨RX9, "isEnough", "(III)Z"⟩
abbrev cX9_plan : ByteArray := prog_1_method_31_code
def yX9_plan : MethodName := ⟨RX9, "plan", "(IIIII)I"⟩
abbrev cX9_transformSteps : ByteArray := prog_1_method_32_code
def yX9_transformSteps : MethodName := ⟨RX9, "transformSteps", "(IIII)I"⟩
abbrev cX9_multiply : ByteArray := prog_1_method_33_code
def yX9_multiply : MethodName := ⟨RX9, "multiply", "(IIIII)I"⟩
abbrev cX9_product : ByteArray := prog_1_method_34_code
def yX9_product : MethodName := ⟨RX9, "product", "(I)I"⟩
abbrev cX9_value : ByteArray := prog_1_method_35_code
def yX9_value : MethodName := ⟨RX9, "value", "(I)J"⟩
abbrev cX9_digit : ByteArray := prog_1_method_36_code
def yX9_digit : MethodName := ⟨RX9, "digit", "(II)I"⟩
abbrev cX9_productAt : ByteArray := prog_1_method_37_code
def yX9_productAt : MethodName := ⟨RX9, "productAt", "(I)I"⟩
abbrev cX9_residue : ByteArray := prog_1_method_38_code
def yX9_residue : MethodName := ⟨RX9, "residue", "(II)I"⟩
abbrev cX9_agreeing : ByteArray := prog_1_method_39_code
def yX9_agreeing : MethodName := ⟨RX9, "agreeing", "(II)I"⟩
abbrev cX9_store : ByteArray := prog_1_method_40_code
def yX9_store : MethodName := ⟨RX9, "store", "(I)I"⟩
abbrev cX9_undo : ByteArray := prog_1_method_41_code
def yX9_undo : MethodName := ⟨RX9, "undo", "()I"⟩
abbrev cX9_require : ByteArray := prog_1_method_42_code
def yX9_require : MethodName := ⟨RX9, "require", "(Z)V"⟩
abbrev cX9_requirePrime : ByteArray := prog_1_method_43_code
def yX9_requirePrime : MethodName := ⟨RX9, "requirePrime", "(I)V"⟩
abbrev cX9_requireSet : ByteArray := prog_1_method_44_code
def yX9_requireSet : MethodName := ⟨RX9, "requireSet", "(I)V"⟩
abbrev cX9_requireSlot : ByteArray := prog_1_method_45_code
def yX9_requireSlot : MethodName := ⟨RX9, "requireSlot", "(I)V"⟩
abbrev cX9_requireTerms : ByteArray := prog_1_method_46_code
def yX9_requireTerms : MethodName := ⟨RX9, "requireTerms", "(II)V"⟩
abbrev cX9_requireRoot : ByteArray := prog_1_method_47_code
def yX9_requireRoot : MethodName := ⟨RX9, "requireRoot", "(LConvolutionBench$Field;I)V"⟩
abbrev cX9_requireCoefficient : ByteArray := prog_1_method_48_code
def yX9_requireCoefficient : MethodName := ⟨RX9, "requireCoefficient", "(LConvolutionBench$Product;I)V"⟩
abbrev cX9_fieldAt : ByteArray := prog_1_method_49_code
def yX9_fieldAt : MethodName := ⟨RX9, "fieldAt", "(I)LConvolutionBench$Field;"⟩
abbrev cX9_sequenceAt : ByteArray := prog_1_method_50_code
def yX9_sequenceAt : MethodName := ⟨RX9, "sequenceAt", "(I)LConvolutionBench$Sequence;"⟩
abbrev cX9_presentProduct : ByteArray := prog_1_method_51_code
def yX9_presentProduct : MethodName := ⟨RX9, "presentProduct", "()LConvolutionBench$Product;"⟩
abbrev cX9_unitOf : ByteArray := prog_1_method_52_code
def yX9_unitOf : MethodName := ⟨RX9, "unitOf", "(LConvolutionBench$Field;I)I"⟩
abbrev cX9_isKind : ByteArray := prog_1_method_53_code
def yX9_isKind : MethodName := ⟨RX9, "isKind", "(I)Z"⟩
abbrev cX9_isLength : ByteArray := prog_1_method_54_code
def yX9_isLength : MethodName := ⟨RX9, "isLength", "(I)Z"⟩
abbrev cX9_isTerm : ByteArray := prog_1_method_55_code
def yX9_isTerm : MethodName := ⟨RX9, "isTerm", "(J)Z"⟩
abbrev cX9_isPrime : ByteArray := prog_1_method_56_code
def yX9_isPrime : MethodName := ⟨RX9, "isPrime", "(I)Z"⟩
abbrev cX9_leastPrime : ByteArray := prog_1_method_57_code
def yX9_leastPrime : MethodName := ⟨RX9, "leastPrime", "(II)I"⟩
abbrev cX9_sizeOf : ByteArray := prog_1_method_58_code
def yX9_sizeOf : MethodName := ⟨RX9, "sizeOf", "(ILConvolutionBench$Sequence;LConvolutionBench$Sequence;I)I"⟩
abbrev cX9_isSizeOf : ByteArray := prog_1_method_59_code
def yX9_isSizeOf : MethodName := ⟨RX9, "isSizeOf", "(ILConvolutionBench$Sequence;LConvolutionBench$Sequence;I)Z"⟩
abbrev cX9_boundOf : ByteArray := prog_1_method_60_code
def yX9_boundOf : MethodName := ⟨RX9, "boundOf", "(LConvolutionBench$Sequence;LConvolutionBench$Sequence;)J"⟩
abbrev cX9_coefficientOf : ByteArray := prog_1_method_61_code
def yX9_coefficientOf : MethodName := ⟨RX9, "coefficientOf", "(ILConvolutionBench$Sequence;LConvolutionBench$Sequence;II)J"⟩
abbrev cX9_linearCoefficient : ByteArray := prog_1_method_62_code
def yX9_linearCoefficient : MethodName := ⟨RX9, "linearCoefficient", "(LConvolutionBench$Sequence;LConvolutionBench$Sequence;I)J"⟩
abbrev cX9_methodCost : ByteArray := prog_1_method_63_code
def yX9_methodCost : MethodName := ⟨RX9, "methodCost", "(LConvolutionBench$Field;II)I"⟩
abbrev cX9_splittingCost : ByteArray := prog_1_method_64_code
def yX9_splittingCost : MethodName := ⟨RX9, "splittingCost", "(I)I"⟩
abbrev cX9_chirpCost : ByteArray := prog_1_method_65_code
def yX9_chirpCost : MethodName := ⟨RX9, "chirpCost", "(LConvolutionBench$Field;I)I"⟩
abbrev cX9_cheapestMethod : ByteArray := prog_1_method_66_code
def yX9_cheapestMethod : MethodName := ⟨RX9, "cheapestMethod", "(LConvolutionBench$Field;I)I"⟩
def RX10 : String := "ConvolutionBenchModel"
def TX10 : u_T := fun k => match k with
  | 0 => ("ConvolutionBenchModel", "a", "[J", true)
  | 1 => ("ConvolutionBenchModel", "fresh", "[J", true)
  | 2 => ("ConvolutionBenchModel", "kept", "[J", true)
  | 3 => ("ConvolutionBenchModel", "keptMany", "I", false)
  | 4 => ("ConvolutionBenchModel", "thrown", "I", false)
  | 5 => ("ConvolutionBenchModel", "buffer", "[I", true)
  | 6 => ("ConvolutionBenchModel", "buffered", "I", false)
  | 7 => ("ConvolutionBenchModel", "size", "I", false)
  | 8 => ("ConvolutionBenchModel", "at", "I", false)
  | 9 => ("ConvolutionBenchModel", "behind", "I", false)
  | 10 => ("ConvolutionBenchModel", "kind", "I", false)
  | 11 => ("ConvolutionBenchModel", "wrong", "I", false)
  | 12 => ("ConvolutionBenchModel", "wrongAt", "I", false)
  | 13 => ("ConvolutionBenchModel", "errorAt", "I", false)
  | 14 => ("ConvolutionBenchModel", "number", "J", false)
  | 15 => ("ConvolutionBenchModel", "bestSteps", "I", false)
  | 16 => ("ConvolutionBenchModel", "bestWide", "I", false)
  | _ => ("ConvolutionBenchModel", "bestSet", "I", false)
def tyX10 : Nat → FieldType := fun k => match k with
  | 0 => .array .long
  | 1 => .array .long
  | 2 => .array .long
  | 3 => .int
  | 4 => .int
  | 5 => .array .int
  | 6 => .int
  | 7 => .int
  | 8 => .int
  | 9 => .int
  | 10 => .int
  | 11 => .int
  | 12 => .int
  | 13 => .int
  | 14 => .long
  | 15 => .int
  | 16 => .int
  | _ => .int
abbrev wsX100 : List Cond := u_ws RX10 TX10 18
theorem nmX10 : ∀ a, a < 18 → ∀ b, b < 18 → a ≠ b → (TX10 a).2.1 ≠ (TX10 b).2.1 := by decide +kernel
theorem tyX10_ok : ∀ k, k < 18 → parseFieldDescriptor (TX10 k).2.2.1 = some (tyX10 k) := by decide +kernel
abbrev cX10_init : ByteArray := prog_12_method_1_code
def yX10_init : MethodName := ⟨RX10, "<init>", "()V"⟩
abbrev cX10_becomes : ByteArray := prog_12_method_2_code
def yX10_becomes : MethodName := ⟨RX10, "becomes", "()V"⟩
abbrev cX10_thrown : ByteArray := prog_12_method_3_code
def yX10_thrown : MethodName := ⟨RX10, "thrown", "()I"⟩
abbrev cX10_isIn : ByteArray := prog_12_method_4_code
def yX10_isIn : MethodName := ⟨RX10, "isIn", "(JJJ)Z"⟩
abbrev cX10_keeps : ByteArray := prog_12_method_5_code
def yX10_keeps : MethodName := ⟨RX10, "keeps", "()V"⟩
abbrev cX10_undo : ByteArray := prog_12_method_6_code
def yX10_undo : MethodName := ⟨RX10, "undo", "()I"⟩
abbrev cX10_feed : ByteArray := prog_12_method_7_code
def yX10_feed : MethodName := ⟨RX10, "feed", "(IIIII)I"⟩
abbrev cX10_see : ByteArray := prog_12_method_8_code
def yX10_see : MethodName := ⟨RX10, "see", "(I)I"⟩
abbrev cX10_isLetter : ByteArray := prog_12_method_9_code
def yX10_isLetter : MethodName := ⟨RX10, "isLetter", "(I)Z"⟩
abbrev cX10_isDigit : ByteArray := prog_12_method_10_code
def yX10_isDigit : MethodName := ⟨RX10, "isDigit", "(I)Z"⟩
abbrev cX10_next : ByteArray := prog_12_method_11_code
def yX10_next : MethodName := ⟨RX10, "next", "()V"⟩
abbrev cX10_isWord : ByteArray := prog_12_method_12_code
def yX10_isWord : MethodName := ⟨RX10, "isWord", "(Ljava/lang/String;)Z"⟩
abbrev cX10_fails : ByteArray := prog_12_method_13_code
def yX10_fails : MethodName := ⟨RX10, "fails", "(I)V"⟩
abbrev cX10_isSign : ByteArray := prog_12_method_14_code
def yX10_isSign : MethodName := ⟨RX10, "isSign", "(I)Z"⟩
abbrev cX10_must : ByteArray := prog_12_method_15_code
def yX10_must : MethodName := ⟨RX10, "must", "(Z)V"⟩
abbrev cX10_sees : ByteArray := prog_12_method_16_code
def yX10_sees : MethodName := ⟨RX10, "sees", "(II)I"⟩
abbrev cX10_readsPrime : ByteArray := prog_12_method_17_code
def yX10_readsPrime : MethodName := ⟨RX10, "readsPrime", "()V"⟩
abbrev cX10_readsSequence : ByteArray := prog_12_method_18_code
def yX10_readsSequence : MethodName := ⟨RX10, "readsSequence", "()V"⟩
abbrev cX10_load : ByteArray := prog_12_method_19_code
def yX10_load : MethodName := ⟨RX10, "load", "(I)I"⟩
abbrev cX10_errorPosition : ByteArray := prog_12_method_20_code
def yX10_errorPosition : MethodName := ⟨RX10, "errorPosition", "()I"⟩
abbrev cX10_isPrime : ByteArray := prog_12_method_21_code
def yX10_isPrime : MethodName := ⟨RX10, "isPrime", "(I)Z"⟩
abbrev cX10_primeAt : ByteArray := prog_12_method_22_code
def yX10_primeAt : MethodName := ⟨RX10, "primeAt", "(I)I"⟩
abbrev cX10_isThere : ByteArray := prog_12_method_23_code
def yX10_isThere : MethodName := ⟨RX10, "isThere", "(I)Z"⟩
abbrev cX10_primes : ByteArray := prog_12_method_24_code
def yX10_primes : MethodName := ⟨RX10, "primes", "()I"⟩
abbrev cX10_has : ByteArray := prog_12_method_25_code
def yX10_has : MethodName := ⟨RX10, "has", "(I)Z"⟩
abbrev cX10_addPrime : ByteArray := prog_12_method_26_code
def yX10_addPrime : MethodName := ⟨RX10, "addPrime", "(I)I"⟩
abbrev cX10_removePrime : ByteArray := prog_12_method_27_code
def yX10_removePrime : MethodName := ⟨RX10, "removePrime", "(I)I"⟩
abbrev cX10_primeFor : ByteArray := prog_12_method_28_code
def yX10_primeFor : MethodName := ⟨RX10, "primeFor", "(II)I"⟩
abbrev cX10_powerOf : ByteArray := prog_12_method_29_code
def yX10_powerOf : MethodName := ⟨RX10, "powerOf", "(JJJ)J"⟩
abbrev cX10_makesAll : ByteArray := prog_12_method_30_code
def yX10_makesAll : MethodName := ⟨RX10, "makesAll", "(II)Z"⟩
abbrev cX10_generator : ByteArray := prog_12_method_31_code
def yX10_generator : MethodName := ⟨RX10, "generator", "(I)I"⟩
abbrev cX10_factors : ByteArray := prog_12_method_32_code
def yX10_factors : MethodName := ⟨RX10, "factors", "(I)I"⟩
abbrev cX10_twos : ByteArray := prog_12_method_33_code
def yX10_twos : MethodName := ⟨RX10, "twos", "(I)I"⟩
abbrev cX10_divisors : ByteArray := prog_12_method_34_code
def yX10_divisors : MethodName := ⟨RX10, "divisors", "(I)I"⟩
abbrev cX10_prime : ByteArray := prog_12_method_35_code
def yX10_prime : MethodName := ⟨RX10, "prime", "(II)I"⟩
abbrev cX10_rootOf : ByteArray := prog_12_method_36_code
def yX10_rootOf : MethodName := ⟨RX10, "rootOf", "(II)J"⟩
abbrev cX10_root : ByteArray := prog_12_method_37_code
def yX10_root : MethodName := ⟨RX10, "root", "(II)I"⟩
abbrev cX10_power : ByteArray := prog_12_method_38_code
def yX10_power : MethodName := ⟨RX10, "power", "(III)I"⟩
abbrev cX10_noUnit : ByteArray := prog_12_method_39_code
def yX10_noUnit : MethodName := ⟨RX10, "noUnit", "(II)I"⟩
abbrev cX10_inverse : ByteArray := prog_12_method_40_code
def yX10_inverse : MethodName := ⟨RX10, "inverse", "(II)I"⟩
abbrev cX10_modulo : ByteArray := prog_12_method_41_code
def yX10_modulo : MethodName := ⟨RX10, "modulo", "(JI)I"⟩
abbrev cX10_order : ByteArray := prog_12_method_42_code
def yX10_order : MethodName := ⟨RX10, "order", "(II)I"⟩
abbrev cX10_logarithm : ByteArray := prog_12_method_43_code
def yX10_logarithm : MethodName := ⟨RX10, "logarithm", "(II)I"⟩
abbrev cX10_isSlot : ByteArray := prog_12_method_44_code
def yX10_isSlot : MethodName := ⟨RX10, "isSlot", "(I)Z"⟩
abbrev cX10_longOf : ByteArray := prog_12_method_45_code
def yX10_longOf : MethodName := ⟨RX10, "longOf", "(I)I"⟩
abbrev cX10_termOf : ByteArray := prog_12_method_46_code
def yX10_termOf : MethodName := ⟨RX10, "termOf", "(II)J"⟩
abbrev cX10_putTerm : ByteArray := prog_12_method_47_code
def yX10_putTerm : MethodName := ⟨RX10, "putTerm", "(IIJ)V"⟩
abbrev cX10_length : ByteArray := prog_12_method_48_code
def yX10_length : MethodName := ⟨RX10, "length", "(I)I"⟩
abbrev cX10_term : ByteArray := prog_12_method_49_code
def yX10_term : MethodName := ⟨RX10, "term", "(II)I"⟩
abbrev cX10_isTerm : ByteArray := prog_12_method_50_code
def yX10_isTerm : MethodName := ⟨RX10, "isTerm", "(J)Z"⟩
abbrev cX10_setSequence : ByteArray := prog_12_method_51_code
def yX10_setSequence : MethodName := ⟨RX10, "setSequence", "(IIII)I"⟩
abbrev cX10_append : ByteArray := prog_12_method_52_code
def yX10_append : MethodName := ⟨RX10, "append", "(II)I"⟩
abbrev cX10_cut : ByteArray := prog_12_method_53_code
def yX10_cut : MethodName := ⟨RX10, "cut", "(II)I"⟩
abbrev cX10_swap : ByteArray := prog_12_method_54_code
def yX10_swap : MethodName := ⟨RX10, "swap", "(II)I"⟩
abbrev cX10_noTransform : ByteArray := prog_12_method_55_code
def yX10_noTransform : MethodName := ⟨RX10, "noTransform", "(IIZ)I"⟩
abbrev cX10_transform : ByteArray := prog_12_method_56_code
def yX10_transform : MethodName := ⟨RX10, "transform", "(IIII)I"⟩
abbrev cX10_costOf : ByteArray := prog_12_method_57_code
def yX10_costOf : MethodName := ⟨RX10, "costOf", "(III)I"⟩
abbrev cX10_cost : ByteArray := prog_12_method_58_code
def yX10_cost : MethodName := ⟨RX10, "cost", "(III)I"⟩
abbrev cX10_bestMethod : ByteArray := prog_12_method_59_code
def yX10_bestMethod : MethodName := ⟨RX10, "bestMethod", "(II)I"⟩
abbrev cX10_method : ByteArray := prog_12_method_60_code
def yX10_method : MethodName := ⟨RX10, "method", "(II)I"⟩
abbrev cX10_chirp : ByteArray := prog_12_method_61_code
def yX10_chirp : MethodName := ⟨RX10, "chirp", "(III)I"⟩
abbrev cX10_isSet : ByteArray := prog_12_method_62_code
def yX10_isSet : MethodName := ⟨RX10, "isSet", "(I)Z"⟩
abbrev cX10_allHave : ByteArray := prog_12_method_63_code
def yX10_allHave : MethodName := ⟨RX10, "allHave", "(II)Z"⟩
abbrev cX10_usable : ByteArray := prog_12_method_64_code
def yX10_usable : MethodName := ⟨RX10, "usable", "(II)I"⟩
abbrev cX10_longest : ByteArray := prog_12_method_65_code
def yX10_longest : MethodName := ⟨RX10, "longest", "(I)I"⟩
abbrev cX10_lacks : ByteArray := prog_12_method_66_code
def yX10_lacks : MethodName := ⟨RX10, "lacks", "(II)I"⟩
abbrev cX10_isKind : ByteArray := prog_12_method_67_code
def yX10_isKind : MethodName := ⟨RX10, "isKind", "(IIII)Z"⟩
abbrev cX10_refusal : ByteArray := prog_12_method_68_code
def yX10_refusal : MethodName := ⟨RX10, "refusal", "(IIII)I"⟩
abbrev cX10_sizeOf : ByteArray := prog_12_method_69_code
def yX10_sizeOf : MethodName := ⟨RX10, "sizeOf", "(IIII)I"⟩
abbrev cX10_size : ByteArray := prog_12_method_70_code
def yX10_size : MethodName := ⟨RX10, "size", "(IIII)I"⟩
abbrev cX10_greatest : ByteArray := prog_12_method_71_code
def yX10_greatest : MethodName := ⟨RX10, "greatest", "(I)J"⟩
abbrev cX10_boundOf : ByteArray := prog_12_method_72_code
def yX10_boundOf : MethodName := ⟨RX10, "boundOf", "(II)J"⟩
abbrev cX10_bound : ByteArray := prog_12_method_73_code
def yX10_bound : MethodName := ⟨RX10, "bound", "(II)J"⟩
abbrev cX10_coefficientOf : ByteArray := prog_12_method_74_code
def yX10_coefficientOf : MethodName := ⟨RX10, "coefficientOf", "(IIIII)J"⟩
abbrev cX10_coefficient : ByteArray := prog_12_method_75_code
def yX10_coefficient : MethodName := ⟨RX10, "coefficient", "(IIIII)J"⟩
abbrev cX10_productOf : ByteArray := prog_12_method_76_code
def yX10_productOf : MethodName := ⟨RX10, "productOf", "(I)J"⟩
abbrev cX10_areEnough : ByteArray := prog_12_method_77_code
def yX10_areEnough : MethodName := ⟨RX10, "areEnough", "(IJ)Z"⟩
abbrev cX10_isEnough : ByteArray := prog_12_method_78_code
def yX10_isEnough : MethodName := ⟨RX10, "isEnough", "(III)Z"⟩
abbrev cX10_stepsOf : ByteArray := prog_12_method_79_code
def yX10_stepsOf : MethodName := ⟨RX10, "stepsOf", "(III)I"⟩
abbrev cX10_laysPlans : ByteArray := prog_12_method_80_code
def yX10_laysPlans : MethodName := ⟨RX10, "laysPlans", "(IIII)V"⟩
abbrev cX10_plan : ByteArray := prog_12_method_81_code
def yX10_plan : MethodName := ⟨RX10, "plan", "(IIIII)I"⟩
abbrev cX10_transformSteps : ByteArray := prog_12_method_82_code
def yX10_transformSteps : MethodName := ⟨RX10, "transformSteps", "(IIII)I"⟩
abbrev cX10_canMultiply : ByteArray := prog_12_method_83_code
def yX10_canMultiply : MethodName := ⟨RX10, "canMultiply", "(IIIII)Z"⟩
abbrev cX10_multiply : ByteArray := prog_12_method_84_code
def yX10_multiply : MethodName := ⟨RX10, "multiply", "(IIIII)I"⟩
abbrev cX10_product : ByteArray := prog_12_method_85_code
def yX10_product : MethodName := ⟨RX10, "product", "(I)I"⟩
abbrev cX10_value : ByteArray := prog_12_method_86_code
def yX10_value : MethodName := ⟨RX10, "value", "(I)J"⟩
abbrev cX10_digit : ByteArray := prog_12_method_87_code
def yX10_digit : MethodName := ⟨RX10, "digit", "(II)I"⟩
abbrev cX10_residue : ByteArray := prog_12_method_88_code
def yX10_residue : MethodName := ⟨RX10, "residue", "(II)I"⟩
abbrev cX10_agreeing : ByteArray := prog_12_method_89_code
def yX10_agreeing : MethodName := ⟨RX10, "agreeing", "(II)I"⟩
abbrev cX10_canStore : ByteArray := prog_12_method_90_code
def yX10_canStore : MethodName := ⟨RX10, "canStore", "()Z"⟩
abbrev cX10_store : ByteArray := prog_12_method_91_code
def yX10_store : MethodName := ⟨RX10, "store", "(I)I"⟩
abbrev cX10_productAt : ByteArray := prog_12_method_92_code
def yX10_productAt : MethodName := ⟨RX10, "productAt", "(I)I"⟩
def RJx145de : String := "java/io/Serializable"
def TJx145de : u_T := fun k => match k with
  | _ => ("", "", "", false)
def tyJx145de : Nat → FieldType := fun k => match k with
  | _ => .int
abbrev wsJx145de0 : List Cond := u_ws RJx145de TJx145de 0
theorem nmJx145de : ∀ a, a < 0 → ∀ b, b < 0 → a ≠ b → (TJx145de a).2.1 ≠ (TJx145de b).2.1 := by decide +kernel
theorem tyJx145de_ok : ∀ k, k < 0 → parseFieldDescriptor (TJx145de k).2.2.1 = some (tyJx145de k) := by decide +kernel
def RJx9f9b0 : String := "java/lang/CharSequence"
def TJx9f9b0 : u_T := fun k => match k with
  | _ => ("", "", "", false)
def tyJx9f9b0 : Nat → FieldType := fun k => match k with
  | _ => .int
abbrev wsJx9f9b00 : List Cond := u_ws RJx9f9b0 TJx9f9b0 0
theorem nmJx9f9b0 : ∀ a, a < 0 → ∀ b, b < 0 → a ≠ b → (TJx9f9b0 a).2.1 ≠ (TJx9f9b0 b).2.1 := by decide +kernel
theorem tyJx9f9b0_ok : ∀ k, k < 0 → parseFieldDescriptor (TJx9f9b0 k).2.2.1 = some (tyJx9f9b0 k) := by decide +kernel
def RJxb160c : String := "java/lang/Comparable"
def TJxb160c : u_T := fun k => match k with
  | _ => ("", "", "", false)
def tyJxb160c : Nat → FieldType := fun k => match k with
  | _ => .int
abbrev wsJxb160c0 : List Cond := u_ws RJxb160c TJxb160c 0
theorem nmJxb160c : ∀ a, a < 0 → ∀ b, b < 0 → a ≠ b → (TJxb160c a).2.1 ≠ (TJxb160c b).2.1 := by decide +kernel
theorem tyJxb160c_ok : ∀ k, k < 0 → parseFieldDescriptor (TJxb160c k).2.2.1 = some (tyJxb160c k) := by decide +kernel
def RJ9 : String := "java/lang/Math"
def TJ9 : u_T := fun k => match k with
  | _ => ("", "", "", false)
def tyJ9 : Nat → FieldType := fun k => match k with
  | _ => .int
abbrev wsJ90 : List Cond := u_ws RJ9 TJ9 0
theorem nmJ9 : ∀ a, a < 0 → ∀ b, b < 0 → a ≠ b → (TJ9 a).2.1 ≠ (TJ9 b).2.1 := by decide +kernel
theorem tyJ9_ok : ∀ k, k < 0 → parseFieldDescriptor (TJ9 k).2.2.1 = some (tyJ9 k) := by decide +kernel
abbrev cJ9_floorMod_f86c9 : ByteArray := prog_20_method_52_code
def yJ9_floorMod_f86c9 : MethodName := ⟨RJ9, "floorMod", "(JJ)J"⟩
abbrev cJ9_abs_0f7a4 : ByteArray := prog_20_method_59_code
def yJ9_abs_0f7a4 : MethodName := ⟨RJ9, "abs", "(I)I"⟩
abbrev cJ9_abs_067f4 : ByteArray := prog_20_method_61_code
def yJ9_abs_067f4 : MethodName := ⟨RJ9, "abs", "(J)J"⟩
abbrev cJ9_max_7cf53 : ByteArray := prog_20_method_65_code
def yJ9_max_7cf53 : MethodName := ⟨RJ9, "max", "(II)I"⟩
abbrev cJ9_min_7cf53 : ByteArray := prog_20_method_69_code
def yJ9_min_7cf53 : MethodName := ⟨RJ9, "min", "(II)I"⟩
def RJ0 : String := "java/lang/String"
def TJ0 : u_T := fun k => match k with
  | _ => ("", "", "", false)
def tyJ0 : Nat → FieldType := fun k => match k with
  | _ => .int
abbrev wsJ00 : List Cond := u_ws RJ0 TJ0 0
theorem nmJ0 : ∀ a, a < 0 → ∀ b, b < 0 → a ≠ b → (TJ0 a).2.1 ≠ (TJ0 b).2.1 := by decide +kernel
theorem tyJ0_ok : ∀ k, k < 0 → parseFieldDescriptor (TJ0 k).2.2.1 = some (tyJ0 k) := by decide +kernel
abbrev cJ0_length_8abf5 : ByteArray := prog_22_method_54_code
def yJ0_length_8abf5 : MethodName := ⟨RJ0, "length", "()I"⟩
abbrev cJ0_charAt_5068e : ByteArray := prog_22_method_56_code
def yJ0_charAt_5068e : MethodName := ⟨RJ0, "charAt", "(I)C"⟩
abbrev cJ0_coder_7d493 : ByteArray := prog_22_method_152_code
def yJ0_coder_7d493 : MethodName := ⟨RJ0, "coder", "()B"⟩
abbrev cJ0_isLatin1_aae02 : ByteArray := prog_22_method_154_code
def yJ0_isLatin1_aae02 : MethodName := ⟨RJ0, "isLatin1", "()Z"⟩
abbrev cJ0_checkIndex_df160 : ByteArray := prog_22_method_155_code
def yJ0_checkIndex_df160 : MethodName := ⟨RJ0, "checkIndex", "(II)V"⟩
def RJ1 : String := "java/lang/StringLatin1"
def TJ1 : u_T := fun k => match k with
  | _ => ("", "", "", false)
def tyJ1 : Nat → FieldType := fun k => match k with
  | _ => .int
abbrev wsJ10 : List Cond := u_ws RJ1 TJ1 0
theorem nmJ1 : ∀ a, a < 0 → ∀ b, b < 0 → a ≠ b → (TJ1 a).2.1 ≠ (TJ1 b).2.1 := by decide +kernel
theorem tyJ1_ok : ∀ k, k < 0 → parseFieldDescriptor (TJ1 k).2.2.1 = some (tyJ1 k) := by decide +kernel
abbrev cJ1_charAt_3b067 : ByteArray := prog_23_method_2_code
def yJ1_charAt_3b067 : MethodName := ⟨RJ1, "charAt", "([BI)C"⟩
def RJ2 : String := "java/lang/StringUTF16"
def TJ2 : u_T := fun k => match k with
  | _ => ("", "", "", false)
def tyJ2 : Nat → FieldType := fun k => match k with
  | _ => .int
abbrev wsJ20 : List Cond := u_ws RJ2 TJ2 0
theorem nmJ2 : ∀ a, a < 0 → ∀ b, b < 0 → a ≠ b → (TJ2 a).2.1 ≠ (TJ2 b).2.1 := by decide +kernel
theorem tyJ2_ok : ∀ k, k < 0 → parseFieldDescriptor (TJ2 k).2.2.1 = some (tyJ2 k) := by decide +kernel
abbrev cJ2_getChar_3b067 : ByteArray := prog_24_method_5_code
def yJ2_getChar_3b067 : MethodName := ⟨RJ2, "getChar", "([BI)C"⟩
abbrev cJ2_length_9d52b : ByteArray := prog_24_method_6_code
def yJ2_length_9d52b : MethodName := ⟨RJ2, "length", "([B)I"⟩
abbrev cJ2_charAt_3b067 : ByteArray := prog_24_method_83_code
def yJ2_charAt_3b067 : MethodName := ⟨RJ2, "charAt", "([BI)C"⟩
abbrev cJ2_checkIndex_2214a : ByteArray := prog_24_method_91_code
def yJ2_checkIndex_2214a : MethodName := ⟨RJ2, "checkIndex", "(I[B)V"⟩
def RJ10 : String := "java/lang/System"
def TJ10 : u_T := fun k => match k with
  | _ => ("", "", "", false)
def tyJ10 : Nat → FieldType := fun k => match k with
  | _ => .int
abbrev wsJ100 : List Cond := u_ws RJ10 TJ10 0
theorem nmJ10 : ∀ a, a < 0 → ∀ b, b < 0 → a ≠ b → (TJ10 a).2.1 ≠ (TJ10 b).2.1 := by decide +kernel
theorem tyJ10_ok : ∀ k, k < 0 → parseFieldDescriptor (TJ10 k).2.2.1 = some (tyJ10 k) := by decide +kernel
def RJxfd54e : String := "java/lang/constant/Constable"
def TJxfd54e : u_T := fun k => match k with
  | _ => ("", "", "", false)
def tyJxfd54e : Nat → FieldType := fun k => match k with
  | _ => .int
abbrev wsJxfd54e0 : List Cond := u_ws RJxfd54e TJxfd54e 0
theorem nmJxfd54e : ∀ a, a < 0 → ∀ b, b < 0 → a ≠ b → (TJxfd54e a).2.1 ≠ (TJxfd54e b).2.1 := by decide +kernel
theorem tyJxfd54e_ok : ∀ k, k < 0 → parseFieldDescriptor (TJxfd54e k).2.2.1 = some (tyJxfd54e k) := by decide +kernel
def RJx3cf43 : String := "java/lang/constant/ConstantDesc"
def TJx3cf43 : u_T := fun k => match k with
  | _ => ("", "", "", false)
def tyJx3cf43 : Nat → FieldType := fun k => match k with
  | _ => .int
abbrev wsJx3cf430 : List Cond := u_ws RJx3cf43 TJx3cf43 0
theorem nmJx3cf43 : ∀ a, a < 0 → ∀ b, b < 0 → a ≠ b → (TJx3cf43 a).2.1 ≠ (TJx3cf43 b).2.1 := by decide +kernel
theorem tyJx3cf43_ok : ∀ k, k < 0 → parseFieldDescriptor (TJx3cf43 k).2.2.1 = some (tyJx3cf43 k) := by decide +kernel
def RJ3 : String := "jdk/internal/util/Preconditions"
def TJ3 : u_T := fun k => match k with
  | _ => ("", "", "", false)
def tyJ3 : Nat → FieldType := fun k => match k with
  | _ => .int
abbrev wsJ30 : List Cond := u_ws RJ3 TJ3 0
theorem nmJ3 : ∀ a, a < 0 → ∀ b, b < 0 → a ≠ b → (TJ3 a).2.1 ≠ (TJ3 b).2.1 := by decide +kernel
theorem tyJ3_ok : ∀ k, k < 0 → parseFieldDescriptor (TJ3 k).2.2.1 = some (tyJ3 k) := by decide +kernel
abbrev cJ3_checkIndex_8e157 : ByteArray := prog_30_method_11_code
def yJ3_checkIndex_8e157 : MethodName := ⟨RJ3, "checkIndex", "(IILjava/util/function/BiFunction;)I"⟩
def RL : String := "ConvolutionBenchLaw"
abbrev cL_feed : ByteArray := method_3_code
def yL_feed : MethodName := ⟨RL, "feed", "(LConvolutionBench;IIIII[J)I"⟩
abbrev cL_load : ByteArray := method_4_code
def yL_load : MethodName := ⟨RL, "load", "(LConvolutionBench;I[J)I"⟩
abbrev cL_addPrime : ByteArray := method_5_code
def yL_addPrime : MethodName := ⟨RL, "addPrime", "(LConvolutionBench;I[J)I"⟩
abbrev cL_removePrime : ByteArray := method_6_code
def yL_removePrime : MethodName := ⟨RL, "removePrime", "(LConvolutionBench;I[J)I"⟩
abbrev cL_prime : ByteArray := method_7_code
def yL_prime : MethodName := ⟨RL, "prime", "(LConvolutionBench;II[J)I"⟩
abbrev cL_root : ByteArray := method_8_code
def yL_root : MethodName := ⟨RL, "root", "(LConvolutionBench;II[J)I"⟩
abbrev cL_power : ByteArray := method_9_code
def yL_power : MethodName := ⟨RL, "power", "(LConvolutionBench;III[J)I"⟩
abbrev cL_inverse : ByteArray := method_10_code
def yL_inverse : MethodName := ⟨RL, "inverse", "(LConvolutionBench;II[J)I"⟩
abbrev cL_order : ByteArray := method_11_code
def yL_order : MethodName := ⟨RL, "order", "(LConvolutionBench;II[J)I"⟩
abbrev cL_logarithm : ByteArray := method_12_code
def yL_logarithm : MethodName := ⟨RL, "logarithm", "(LConvolutionBench;II[J)I"⟩
abbrev cL_primeFor : ByteArray := method_13_code
def yL_primeFor : MethodName := ⟨RL, "primeFor", "(LConvolutionBench;II[J)I"⟩
abbrev cL_usable : ByteArray := method_14_code
def yL_usable : MethodName := ⟨RL, "usable", "(LConvolutionBench;II[J)I"⟩
abbrev cL_length : ByteArray := method_15_code
def yL_length : MethodName := ⟨RL, "length", "(LConvolutionBench;I[J)I"⟩
abbrev cL_term : ByteArray := method_16_code
def yL_term : MethodName := ⟨RL, "term", "(LConvolutionBench;II[J)I"⟩
abbrev cL_setSequence : ByteArray := method_17_code
def yL_setSequence : MethodName := ⟨RL, "setSequence", "(LConvolutionBench;IIII[J)I"⟩
abbrev cL_append : ByteArray := method_18_code
def yL_append : MethodName := ⟨RL, "append", "(LConvolutionBench;II[J)I"⟩
abbrev cL_cut : ByteArray := method_19_code
def yL_cut : MethodName := ⟨RL, "cut", "(LConvolutionBench;II[J)I"⟩
abbrev cL_swap : ByteArray := method_20_code
def yL_swap : MethodName := ⟨RL, "swap", "(LConvolutionBench;II[J)I"⟩
abbrev cL_transform : ByteArray := method_21_code
def yL_transform : MethodName := ⟨RL, "transform", "(LConvolutionBench;IIII[J)I"⟩
abbrev cL_cost : ByteArray := method_22_code
def yL_cost : MethodName := ⟨RL, "cost", "(LConvolutionBench;III[J)I"⟩
abbrev cL_method : ByteArray := method_23_code
def yL_method : MethodName := ⟨RL, "method", "(LConvolutionBench;II[J)I"⟩
abbrev cL_chirp : ByteArray := method_24_code
def yL_chirp : MethodName := ⟨RL, "chirp", "(LConvolutionBench;III[J)I"⟩
abbrev cL_longest : ByteArray := method_25_code
def yL_longest : MethodName := ⟨RL, "longest", "(LConvolutionBench;I[J)I"⟩
abbrev cL_size : ByteArray := method_26_code
def yL_size : MethodName := ⟨RL, "size", "(LConvolutionBench;IIII[J)I"⟩
abbrev cL_bound : ByteArray := method_27_code
def yL_bound : MethodName := ⟨RL, "bound", "(LConvolutionBench;II[J)I"⟩
abbrev cL_coefficient : ByteArray := method_28_code
def yL_coefficient : MethodName := ⟨RL, "coefficient", "(LConvolutionBench;IIIII[J)I"⟩
abbrev cL_isEnough : ByteArray := method_29_code
def yL_isEnough : MethodName := ⟨RL, "isEnough", "(LConvolutionBench;III[J)I"⟩
abbrev cL_plan : ByteArray := method_30_code
def yL_plan : MethodName := ⟨RL, "plan", "(LConvolutionBench;IIIII[J)I"⟩
abbrev cL_transformSteps : ByteArray := method_31_code
def yL_transformSteps : MethodName := ⟨RL, "transformSteps", "(LConvolutionBench;IIII[J)I"⟩
abbrev cL_multiply : ByteArray := method_32_code
def yL_multiply : MethodName := ⟨RL, "multiply", "(LConvolutionBench;IIIII[J)I"⟩
abbrev cL_product : ByteArray := method_33_code
def yL_product : MethodName := ⟨RL, "product", "(LConvolutionBench;I[J)I"⟩
abbrev cL_value : ByteArray := method_34_code
def yL_value : MethodName := ⟨RL, "value", "(LConvolutionBench;I[J)I"⟩
abbrev cL_digit : ByteArray := method_35_code
def yL_digit : MethodName := ⟨RL, "digit", "(LConvolutionBench;II[J)I"⟩
abbrev cL_productAt : ByteArray := method_36_code
def yL_productAt : MethodName := ⟨RL, "productAt", "(LConvolutionBench;I[J)I"⟩
abbrev cL_residue : ByteArray := method_37_code
def yL_residue : MethodName := ⟨RL, "residue", "(LConvolutionBench;II[J)I"⟩
abbrev cL_agreeing : ByteArray := method_38_code
def yL_agreeing : MethodName := ⟨RL, "agreeing", "(LConvolutionBench;II[J)I"⟩
abbrev cL_store : ByteArray := method_39_code
def yL_store : MethodName := ⟨RL, "store", "(LConvolutionBench;I[J)I"⟩
abbrev cL_undo : ByteArray := method_40_code
def yL_undo : MethodName := ⟨RL, "undo", "(LConvolutionBench;[J)I"⟩
abbrev cL_law : ByteArray := code
def yL_law : MethodName := ⟨RL, "law", "([I)Z"⟩
abbrev vwCl : List vw_C := [(RX0, TX0, 4), (RX1, TX1, 4), (RX2, TX2, 3), (RX3, TX3, 2), (RX4, TX4, 1), (RX5, TX5, 5), (RX6, TX6, 8), (RX7, TX7, 2), (RX8, TX8, 7), (RX9, TX9, 6), (RX10, TX10, 18)]
end
section
/-! THE PURE LAYER: a heap is a function from addresses to cells of whole numbers; PW is the walk of a method's body over it; PC a method's contract over it. -/
theorem q_tI {z : Int} (h1 : -2147483648 ≤ z) (h2 : z < 2147483648) : (Int32.ofInt z).toInt = z := by
  rw [Int32.toInt_ofInt]
  show z.bmod 4294967296 = z
  exact Int.bmod_eq_of_le (by omega) (by omega)
theorem q_tJ {z : Int} (h1 : -9223372036854775808 ≤ z) (h2 : z < 9223372036854775808) : (Int64.ofInt z).toInt = z := by
  rw [Int64.toInt_ofInt]
  show z.bmod 18446744073709551616 = z
  exact Int.bmod_eq_of_le (by omega) (by omega)
abbrev vi (z : Int) : Value := Value.int (Int32.ofInt z)
abbrev vl (z : Int) : Value := Value.long (Int64.ofInt z)
theorem q_addI (a b : Int) : Int32.ofInt a + Int32.ofInt b = Int32.ofInt (a + b) := (Int32.ofInt_add a b).symm
theorem q_subI (a b : Int) : Int32.ofInt a - Int32.ofInt b = Int32.ofInt (a - b) := (Int32.ofInt_sub a b).symm
theorem q_mulI (a b : Int) : Int32.ofInt a * Int32.ofInt b = Int32.ofInt (a * b) := (Int32.ofInt_mul a b).symm
theorem q_negI (a : Int) : - Int32.ofInt a = Int32.ofInt (-a) := (Int32.ofInt_neg a).symm
theorem q_addJ (a b : Int) : Int64.ofInt a + Int64.ofInt b = Int64.ofInt (a + b) := (Int64.ofInt_add a b).symm
theorem q_subJ (a b : Int) : Int64.ofInt a - Int64.ofInt b = Int64.ofInt (a - b) := (Int64.ofInt_sub a b).symm
theorem q_mulJ (a b : Int) : Int64.ofInt a * Int64.ofInt b = Int64.ofInt (a * b) := (Int64.ofInt_mul a b).symm
theorem q_negJ (a : Int) : - Int64.ofInt a = Int64.ofInt (-a) := (Int64.ofInt_neg a).symm
abbrev RI (z : Int) : Prop := -2147483648 ≤ z ∧ z < 2147483648
abbrev RJ (z : Int) : Prop := -9223372036854775808 ≤ z ∧ z < 9223372036854775808
theorem q_ltI {a b : Int} (ha : RI a) (hb : RI b) : Int32.ofInt a < Int32.ofInt b ↔ a < b := by
  rw [Int32.lt_iff_toInt_lt, q_tI ha.1 ha.2, q_tI hb.1 hb.2]
theorem q_leI {a b : Int} (ha : RI a) (hb : RI b) : Int32.ofInt a ≤ Int32.ofInt b ↔ a ≤ b := by
  rw [Int32.le_iff_toInt_le, q_tI ha.1 ha.2, q_tI hb.1 hb.2]
theorem q_eqI {a b : Int} (ha : RI a) (hb : RI b) : Int32.ofInt a = Int32.ofInt b ↔ a = b := by
  rw [← Int32.toInt_inj, q_tI ha.1 ha.2, q_tI hb.1 hb.2]
theorem q_ltJ {a b : Int} (ha : RJ a) (hb : RJ b) : Int64.ofInt a < Int64.ofInt b ↔ a < b := by
  rw [Int64.lt_iff_toInt_lt, q_tJ ha.1 ha.2, q_tJ hb.1 hb.2]
theorem q_eqJ {a b : Int} (ha : RJ a) (hb : RJ b) : Int64.ofInt a = Int64.ofInt b ↔ a = b := by
  rw [← Int64.toInt_inj, q_tJ ha.1 ha.2, q_tJ hb.1 hb.2]
theorem q_i2l {a : Int} (ha : RI a) : (Int32.ofInt a).toInt64 = Int64.ofInt a := by
  apply Int64.toInt_inj.mp
  rw [Int32.toInt_toInt64, q_tI ha.1 ha.2, q_tJ (by omega) (by omega)]
theorem q_l2i (a : Int) : (Int64.ofInt a).toInt32 = Int32.ofInt a := by
  apply Int32.toInt_inj.mp
  rw [Int64.toInt_toInt32, Int64.toInt_ofInt, Int32.toInt_ofInt]
  exact Int.bmod_bmod_of_dvd (by decide)
theorem q_asI (x : Int32) : Int32.ofInt x.toInt = x := Int32.ofInt_toInt x
theorem q_asJ (x : Int64) : Int64.ofInt x.toInt = x := Int64.ofInt_toInt x
theorem q_rI (x : Int32) : RI x.toInt := ⟨Int32.le_toInt x, Int32.toInt_lt x⟩
theorem q_divI {a b : Int} (ha : RI a) (hb : RI b) : Int32.ofInt a / Int32.ofInt b = Int32.ofInt (Int.tdiv a b) := by
  apply Int32.toInt_inj.mp
  rw [Int32.toInt_div, q_tI ha.1 ha.2, q_tI hb.1 hb.2, Int32.toInt_ofInt]
theorem q_remI {a b : Int} (ha : RI a) (hb : RI b) : Int32.ofInt a - Int32.ofInt a / Int32.ofInt b * Int32.ofInt b = Int32.ofInt (Int.tmod a b) := by
  rw [q_divI ha hb, q_mulI, q_subI]
  congr 1
  have := Int.tmod_add_mul_tdiv a b
  have h2 : b * a.tdiv b = a.tdiv b * b := Int.mul_comm _ _
  omega
theorem q_divJ {a b : Int} (ha : RJ a) (hb : RJ b) : Int64.ofInt a / Int64.ofInt b = Int64.ofInt (Int.tdiv a b) := by
  apply Int64.toInt_inj.mp
  rw [Int64.toInt_div, q_tJ ha.1 ha.2, q_tJ hb.1 hb.2, Int64.toInt_ofInt]
theorem q_remJ {a b : Int} (ha : RJ a) (hb : RJ b) : Int64.ofInt a - Int64.ofInt a / Int64.ofInt b * Int64.ofInt b = Int64.ofInt (Int.tmod a b) := by
  rw [q_divJ ha hb, q_mulJ, q_subJ]
  congr 1
  have := Int.tmod_add_mul_tdiv a b
  have h2 : b * a.tdiv b = a.tdiv b * b := Int.mul_comm _ _
  omega
theorem q_ix {i : Int} {n : Nat} (h0 : 0 ≤ i) (h1 : i < n) (hn : n < 2147483648) : vp_in (Int32.ofInt i) n ∧ (Int32.ofInt i).toNatClampNeg = i.toNat := by
  have e : (Int32.ofInt i).toInt = i := q_tI (by omega) (by omega)
  have e2 : (Int32.ofInt i).toNatClampNeg = i.toNat := by
    show (Int32.ofInt i).toInt.toNat = i.toNat
    rw [e]
  refine ⟨vp_in_iff.mpr ⟨by rw [e]; exact h0, by rw [e]; exact h1⟩, e2⟩
/-- cells: an object (number of its class, its fields); an array (its kind, its length, its numbers, or its references) -/
abbrev PE : Type := (Nat × List Value) ⊕ (Nat × Nat × ((Int → Int) ⊕ (Int → Int) ⊕ (Int → Option Nat)))
/-- the cells by their addresses; how many cells the heap has -/
abbrev PS : Type := (Nat → Option PE) × Nat
abbrev GT : Type := Launch × State × va_G
abbrev GT.K (g : GT) : State := g.2.1
abbrev GT.b (g : GT) : Nat := g.2.1.heap.size
abbrev cO (ci : Nat) (fs : List Value) : PE := .inl (ci, fs)
abbrev cI (n : Nat) (f : Int → Int) : PE := .inr (0, n, .inl f)
abbrev cJ (n : Nat) (f : Int → Int) : PE := .inr (1, n, .inr (.inl f))
abbrev cB (n : Nat) (f : Int → Int) : PE := .inr (2, n, .inl f)
abbrev cZ (n : Nat) (f : Int → Int) : PE := .inr (3, n, .inl f)
abbrev cR (t n : Nat) (f : Int → Option Nat) : PE := .inr (t, n, .inr (.inr f))
def tyOf : Nat → FieldType
  | 0 => .int
  | 1 => .long
  | 2 => .byte
  | 3 => .boolean
  | 4 => .object RX0
  | 5 => .object RX7
  | _ => .object RX1
def upI (f : Int → Int) (k : Int) (x : Int) : Int → Int := fun j => if j = k then x else f j
def upR (f : Int → Option Nat) (k : Int) (x : Option Nat) : Int → Option Nat := fun j => if j = k then x else f j
def vpA (e : Nat × ((Int → Int) ⊕ (Int → Int) ⊕ (Int → Option Nat))) : vp_A := match e.2 with
  | .inl f => (e.1, .inl (fun j => Int32.ofInt (f j)))
  | .inr (.inl f) => (e.1, .inr (.inl (fun j => Int64.ofInt (f j))))
  | .inr (.inr f) => (e.1, .inr (.inr (.inr (.inr (fun j => f j)))))
def pat (D : va_G) (K : State) (q : Nat) (e : PE) (H : Heap) : Prop := match e with
  | .inl o => va_at D vwCl (q, .inr o) H
  | .inr a => ∃ cA, ArrOfT K cA (tyOf a.1) ∧ va_RA K cA (tyOf a.1) ∧ H[q]? = some (vp_cell cA (vpA a.2))
theorem pat.kept {D : va_G} {K : State} {q : Nat} {e : PE} {H H1 : Heap} (h : pat D K q e H) (hq : H1[q]? = H[q]?) : pat D K q e H1 := by
  cases e with
  | inl o => exact va_at.kept (q := (q, .inr o)) h hq
  | inr a =>
    obtain ⟨cA, h1, h2, h3⟩ := h
    exact ⟨cA, h1, h2, hq.trans h3⟩
theorem pat.lt {D : va_G} {K : State} {q : Nat} {e : PE} {H : Heap} (h : pat D K q e H) : q < H.size := by
  cases e with
  | inl o => exact va_at.lt (q := (q, .inr o)) h
  | inr a =>
    obtain ⟨cA, h1, h2, h3⟩ := h
    exact (Array.getElem?_eq_some_iff.mp h3).1
def ps_put (S : PS) (q : Nat) (e : PE) : PS := (fun a => if a = q then some e else S.1 a, S.2)
def ps_new (S : PS) (e : PE) : PS := (fun a => if a = S.2 then some e else S.1 a, S.2 + 1)
def PHp (g : GT) (S : PS) (H : Heap) : Prop := H.size = S.2 ∧ g.b ≤ H.size ∧ (∀ q : Nat, q < g.b → H[q]? = g.K.heap[q]?) ∧ ∀ (q : Nat) (e : PE), S.1 q = some e → g.b ≤ q ∧ pat g.2.2 g.K q e H
theorem PHp.put {g : GT} {S : PS} {H H1 : Heap} (h : PHp g S H) {q : Nat} {e0 e : PE} (hq : S.1 q = some e0) (z : H1.size = H.size) (oq : ∀ x : Nat, x ≠ q → H1[x]? = H[x]?) (hp : pat g.2.2 g.K q e H1) : PHp g (ps_put S q e) H1 := by
  obtain ⟨h1, h2, h3, h4⟩ := h
  have hb := (h4 q e0 hq).1
  refine ⟨z.trans h1, by rw [z]; exact h2, fun x hx => ?_, fun x e' hx => ?_⟩
  · rw [oq x (by omega)]
    exact h3 x hx
  · by_cases e1 : x = q
    · subst e1
      have : e = e' := by simpa [ps_put] using hx
      subst this
      exact ⟨hb, hp⟩
    · have : S.1 x = some e' := by simpa [ps_put, e1] using hx
      exact ⟨(h4 x e' this).1, (h4 x e' this).2.kept (oq x e1)⟩
theorem PHp.new {g : GT} {S : PS} {H H1 : Heap} (h : PHp g S H) {e : PE} (z : H1.size = H.size + 1) (oq : ∀ x : Nat, x < H.size → H1[x]? = H[x]?) (hp : pat g.2.2 g.K S.2 e H1) : PHp g (ps_new S e) H1 := by
  obtain ⟨h1, h2, h3, h4⟩ := h
  refine ⟨by rw [z, h1]; rfl, by omega, fun x hx => ?_, fun x e' hx => ?_⟩
  · rw [oq x (by omega)]
    exact h3 x hx
  · by_cases e1 : x = S.2
    · subst e1
      have : e = e' := by simpa [ps_new] using hx
      subst this
      exact ⟨by omega, hp⟩
    · have : S.1 x = some e' := by simpa [ps_new, e1] using hx
      exact ⟨(h4 x e' this).1, (h4 x e' this).2.kept (oq x (h4 x e' this).2.lt)⟩
theorem PHp.grow {g : GT} {S : PS} {H H1 : Heap} (h : PHp g S H) (z : H.size ≤ H1.size) (oq : ∀ x : Nat, x < H.size → H1[x]? = H[x]?) : PHp g (S.1, H1.size) H1 := by
  obtain ⟨h1, h2, h3, h4⟩ := h
  refine ⟨rfl, by omega, fun x hx => ?_, fun x e' hx => ?_⟩
  · rw [oq x (by omega)]
    exact h3 x hx
  · exact ⟨(h4 x e' hx).1, (h4 x e' hx).2.kept (oq x (h4 x e' hx).2.lt)⟩
theorem PHp.lt {g : GT} {S : PS} {H : Heap} (h : PHp g S H) {q : Nat} {e : PE} (hq : S.1 q = some e) : q < S.2 := by
  obtain ⟨h1, h2, h3, h4⟩ := h
  rw [← h1]
  exact (h4 q e hq).2.lt
-- ===== what is known of the launch's start =====
abbrev gA (g : GT) : Nat → Prop := fun q => g.b ≤ q
/-- the words of the tables, good or not, hold at K; the class tables; Throwable's statics; no traces; the literals -/
def strL : List (String × Nat × String) := [("ConvolutionBench", 57, "the text would be too long"), ("ConvolutionBench", 348, "an argument cannot be"), ("ConvolutionBench", 98, "there are too many primes"), ("ConvolutionBench", 165, "there is no such prime"), ("ConvolutionBench", 360, "there is no root of this order"), ("ConvolutionBench", 377, "the number is a multiple of the prime"), ("ConvolutionBench", 353, "there is no such slot"), ("ConvolutionBench", 188, "there is no such term"), ("ConvolutionBench", 214, "the sequence is full"), ("ConvolutionBench", 351, "the set has a prime that does not exist"), ("ConvolutionBench", 355, "a sequence is empty"), ("ConvolutionBench", 274, "there is no plan with transforms"), ("ConvolutionBench", 281, "a prime has no transform of this length"), ("ConvolutionBench", 375, "there is no product"), ("ConvolutionBench", 362, "there is no such coefficient"), ("ConvolutionBench", 321, "there is no such digit"), ("ConvolutionBench", 338, "the product is no sequence"), ("ConvolutionBench", 341, "there is no change to undo"), ("ConvolutionBench$TextReader", 50, "prime"), ("ConvolutionBench$TextReader", 60, "sequence"), ("ConvolutionBenchModel", 105, "prime"), ("ConvolutionBenchModel", 126, "sequence")]
def excL : List (String × String) := [("java/lang/IllegalArgumentException", "java/lang/IllegalStateException"), ("java/lang/IllegalArgumentException", "java/lang/IndexOutOfBoundsException"), ("java/lang/IllegalArgumentException", "java/util/NoSuchElementException"), ("java/lang/IllegalStateException", "java/lang/IllegalArgumentException"), ("java/lang/IllegalStateException", "java/lang/IndexOutOfBoundsException"), ("java/lang/IllegalStateException", "java/util/NoSuchElementException"), ("java/lang/IndexOutOfBoundsException", "java/lang/IllegalArgumentException"), ("java/lang/IndexOutOfBoundsException", "java/lang/IllegalStateException"), ("java/lang/IndexOutOfBoundsException", "java/util/NoSuchElementException"), ("java/util/NoSuchElementException", "java/lang/IllegalArgumentException"), ("java/util/NoSuchElementException", "java/lang/IllegalStateException"), ("java/util/NoSuchElementException", "java/lang/IndexOutOfBoundsException")]
def Base (g : GT) : Prop :=
  va_K g.2.2 vwCl [] g.K ∧
  (∀ w ∈ lw_tbl, (w.onTables = true ∨ goodWord w = true) → w.before #[] g.K = true) ∧
  vx_Zq Bundle.tN "UNASSIGNED_STACK" Bundle.steD (gA g) g.K g.K.heap ∧
  vx_Zq Bundle.tN "SUPPRESSED_SENTINEL" Bundle.listD (gA g) g.K g.K.heap ∧
  g.1.stackTraces = false ∧
  (∀ q ∈ strL, ∃ a, vk_R q.1 q.2.1 q.2.2 a g.K) ∧
  (∀ C : String, Cond.arrayOver (.object C) ∈ lw_tbl → va_AO C g.K) ∧
  (∀ q ∈ excL, va_Nc q.1 q.2 g.K)
/-- the state U has the heap S -/
def PR (g : GT) (S : PS) (U : State) : Prop := Base g ∧ g.K.WarmedH U.vm ∧ PHp g S U.heap
theorem PR.blind {g : GT} {S : PS} {U : State} {fr : JFrame} {mk : MethodId} {a : Array Value} (h : PR g S U) : PR g S (U.calling fr mk a) := h
/-- a method: its class, its locals, its answer's type, its name; the frames and words that it needs; the cells and slots that it may make; its exception table -/
abbrev MI : Type := String × Nat × Option FieldType × String × Nat × Nat × Nat × Nat × List (Nat × Nat × Nat × Nat)
abbrev MI.own (X : MI) : String := X.1
abbrev MI.nL (X : MI) : Nat := X.2.1
abbrev MI.ret (X : MI) : Option FieldType := X.2.2.1
abbrev MI.name (X : MI) : String := X.2.2.2.1
abbrev MI.fr (X : MI) : Nat := X.2.2.2.2.1
abbrev MI.lo (X : MI) : Nat := X.2.2.2.2.2.1
abbrev MI.mc (X : MI) : Nat := X.2.2.2.2.2.2.1
abbrev MI.ms (X : MI) : Nat := X.2.2.2.2.2.2.2.1
abbrev MI.hh (X : MI) : List (Nat × Nat × Nat × Nat) := X.2.2.2.2.2.2.2.2
abbrev roomOf (X : MI) : Room := ({ frames := X.fr, cells := X.mc, slots := X.ms, locals := X.lo } : Room)
abbrev PO : Type := Option Value ⊕ String
def qC (g : GT) (Q : PO → PS → Prop) : Array Value → State → Outcome → State → Prop := fun _ st o t => (∃ (v : Option Value) (S' : PS), o = .returned v ∧ Q (.inl v) S' ∧ PR g S' t) ∧ va_F (gA g) st t
def qX (g : GT) (Q : PO → PS → Prop) : String → State → State → Prop := fun E st t => (∃ S' : PS, Q (.inr E) S' ∧ PHp g S' t.heap) ∧ va_F (gA g) st t
def WD (y : MethodName) (cc : ByteArray) (X : MI) : List Cond := [if X.hh = [] then .code y cc X.nL X.ret else .codeWith y cc X.nL X.ret X.hh]
/-- the contract of a method: from the heap S, with these arguments, it ends by Q -/
def PC (g : GT) (y : MethodName) (cc : ByteArray) (X : MI) (av : List Value) (S : PS) (Q : PO → PS → Prop) : Prop :=
  vx_Met g.1 y (WD y cc X) (roomOf X) (va_Pc av (fun U => PR g S U)) (qC g Q) (qX g Q) X.mc X.ms (gA g)
def PCtx (g : GT) (cc : ByteArray) (X : MI) (p : Program) (s : State) (m : MethodId) (meth : Method) (c : Code) : Prop :=
  p.tables.exec = Jvm.exec ∧ c.code = cc ∧ c.maxLocals = X.nL ∧ s.vm.findClass X.own = some m.cls ∧ meth.sig.returnType = X.ret ∧ meth.locks = false ∧ meth.name = X.name ∧ c.exceptionTable.toList = tableOf X.hh ∧
  Base g ∧ g.K.WarmedH s.vm ∧ g.b ≤ s.heap.size ∧ (∀ q : Nat, q < g.b → s.heap[q]? = g.K.heap[q]?)
def lk : List (Nat × Option Value) → Nat → Option Value
  | [], _ => none
  | (j, v) :: t, i => bif Nat.beq j i then v else lk t i
def LH (ls : Array Slot) (nL : Nat) (L : List (Nat × Option Value)) : Prop := ls.size = nL ∧ lv_wf ls ∧ ∀ (i : Nat) (v : Value), lk L i = some v → ls[i]? = some (.val v)
def PW (g : GT) (cc : ByteArray) (X : MI) (pc : Nat) (L : List (Nat × Option Value)) (st : List Value) (S : PS) (kc ks : Nat) (Q : PO → PS → Prop) : Prop :=
  ∀ (p : Program) (e : Env) (s : State) (m : MethodId) (args : Array Value) (below : List Frame) (meth : Method) (c : Code) (H : Heap) (locs : List Loc) (ls : Array Slot) (cells slots : Nat),
    PCtx g cc X p s m meth c → PHp g S H → s.heap.size ≤ H.size → (∀ l ∈ locs, gA g l.base) → LH ls X.nL L → cells + kc ≤ X.mc → slots + ks ≤ X.ms →
    W p g.1 e (roomOf X) s m args below meth c H locs cells slots (vx_MQ below (qC g Q) (qX g Q) args s X.mc X.ms (gA g)) (F0 m pc ls st)
/-- the same with an exception of the class E on its way at pc -/
def PX (g : GT) (cc : ByteArray) (X : MI) (pc : Nat) (L : List (Nat × Option Value)) (S : PS) (kc ks : Nat) (Q : PO → PS → Prop) (E : String) : Prop :=
  ∀ (p : Program) (e : Env) (s : State) (m : MethodId) (args : Array Value) (below : List Frame) (meth : Method) (c : Code) (H : Heap) (locs : List Loc) (ls : Array Slot) (cells slots : Nat) (rest : List Value) (q : Addr) (ce : Cell),
    PCtx g cc X p s m meth c → PHp g S H → s.heap.size ≤ H.size → (∀ l ∈ locs, gA g l.base) → LH ls X.nL L → cells + kc ≤ X.mc → slots + ks ≤ X.ms →
    H[q]? = some ce → ce.vm = .none → s.vm.findClass E = some ce.cls →
    vx_W p g.1 e (roomOf X) s m args below meth c H locs cells slots (vx_MQ below (qC g Q) (qX g Q) args s X.mc X.ms (gA g)) (F0 m pc ls rest) q
theorem Base.word {g : GT} (h : Base g) {w : Cond} (hw : w ∈ lw_tbl) (hg : goodWord w = true) {s : State} (hK : g.K.WarmedH s.vm) {args : Array Value} : w.before args s = true :=
  word_at hK (good_of_word hg) (h.2.1 w hw (Or.inr hg))
theorem Base.va {g : GT} (h : Base g) {s : State} (hK : g.K.WarmedH s.vm) : va_K g.2.2 vwCl [] s := h.1.moved hK.alike
theorem lk_store1 {ls : Array Slot} {nL : Nat} {L : List (Nat × Option Value)} (h : LH ls nL L) : lv_has ls nL ((List.range nL).filterMap (fun j => (lk L j).map (fun v => (j, v)))) := by
  refine ⟨h.1, h.2.1, fun q hq => ?_⟩
  obtain ⟨j, hj, e⟩ := List.mem_filterMap.mp hq
  cases hv : lk L j with
  | none => rw [hv] at e; cases e
  | some v =>
    rw [hv] at e
    cases e
    exact h.2.2 j v hv
/-- no long begins in the slot before -/
def nl : List (Nat × Option Value) → Nat → Bool
  | _, 0 => true
  | L, i + 1 => match lk L i with
    | some (.long _) => false
    | some (.double _) => false
    | _ => true
theorem lk_get {ls : Array Slot} {nL : Nat} {L : List (Nat × Option Value)} (h : LH ls nL L) {i : Nat} {v : Value} (hv : lk L i = some v) : ls[i]? = some (.val v) := h.2.2 i v hv
theorem lk_lt {ls : Array Slot} {nL : Nat} {L : List (Nat × Option Value)} (h : LH ls nL L) {i : Nat} {v : Value} (hv : lk L i = some v) : i < nL := by
  rw [← h.1]
  exact (Array.getElem?_eq_some_iff.mp (h.2.2 i v hv)).1
theorem lk_cat {L : List (Nat × Option Value)} {i : Nat} (h : nl L i = true) : ∀ (j : Nat) (v : Value), lk L j = some v → ¬ (j + 1 = i ∧ v.category = 2) := by
  intro j v hv hc
  obtain ⟨e, hc⟩ := hc
  subst e
  cases v <;> simp_all [nl, Value.category]
theorem LH.store1 {ls ls' : Array Slot} {nL : Nat} {L : List (Nat × Option Value)} {i : Nat} {x : Value} (h : LH ls nL L) (hn : nl L i = true)
    (h' : lv_has ls' nL ((i, x) :: ((List.range nL).filterMap (fun j => (lk L j).map (fun v => (j, v)))).filter (fun q => !(q.1 == i) && !(q.1 + 1 == i && q.2.category == 2)))) : LH ls' nL ((i, some x) :: L) := by
  refine ⟨h'.1, h'.2.1, fun j v hv => ?_⟩
  by_cases e : i = j
  · subst e
    have : x = v := by simpa [lk] using hv
    subst this
    exact h'.2.2 (i, x) List.mem_cons_self
  · have hv' : lk L j = some v := by
      have e2 : Nat.beq i j = false := by
        cases hb : Nat.beq i j with
        | false => rfl
        | true => exact absurd (Nat.eq_of_beq_eq_true hb) e
      simpa [lk, e2] using hv
    refine h'.2.2 (j, v) (List.mem_cons_of_mem _ (List.mem_filter.mpr ⟨List.mem_filterMap.mpr ⟨j, List.mem_range.mpr (lk_lt h hv'), by rw [hv']; rfl⟩, ?_⟩))
    have h3 := lk_cat hn j v hv'
    simp only [Bool.and_eq_true, Bool.not_eq_true', beq_eq_false_iff_ne, ne_eq, Bool.and_eq_false_iff]
    refine ⟨fun h => e h.symm, ?_⟩
    by_cases e3 : j + 1 = i
    · exact Or.inr (fun h => h3 ⟨e3, h⟩)
    · exact Or.inl e3
theorem LH.store2 {ls ls' : Array Slot} {nL : Nat} {L : List (Nat × Option Value)} {i : Nat} {x : Value} (h : LH ls nL L) (hn : nl L i = true)
    (h' : lv_has ls' nL ((i, x) :: ((List.range nL).filterMap (fun j => (lk L j).map (fun v => (j, v)))).filter (fun q => !(q.1 == i) && (!(q.1 == i + 1) && !(q.1 + 1 == i && q.2.category == 2))))) : LH ls' nL ((i, some x) :: (i + 1, none) :: L) := by
  refine ⟨h'.1, h'.2.1, fun j v hv => ?_⟩
  by_cases e : i = j
  · subst e
    have : x = v := by simpa [lk] using hv
    subst this
    exact h'.2.2 (i, x) List.mem_cons_self
  · have e2 : Nat.beq i j = false := by
      cases hb : Nat.beq i j with
      | false => rfl
      | true => exact absurd (Nat.eq_of_beq_eq_true hb) e
    by_cases e5 : i + 1 = j
    · subst e5
      exfalso
      have e7 : Nat.beq (i + 1) (i + 1) = true := Nat.beq_refl _
      simp [lk, e2, e7] at hv
    · have e6 : Nat.beq (i + 1) j = false := by
        cases hb : Nat.beq (i + 1) j with
        | false => rfl
        | true => exact absurd (Nat.eq_of_beq_eq_true hb) e5
      have hv' : lk L j = some v := by
        simpa [lk, e2, e6] using hv
      refine h'.2.2 (j, v) (List.mem_cons_of_mem _ (List.mem_filter.mpr ⟨List.mem_filterMap.mpr ⟨j, List.mem_range.mpr (lk_lt h hv'), by rw [hv']; rfl⟩, ?_⟩))
      have h3 := lk_cat hn j v hv'
      simp only [Bool.and_eq_true, Bool.not_eq_true', beq_eq_false_iff_ne, ne_eq, Bool.and_eq_false_iff]
      refine ⟨fun h => e h.symm, fun h => e5 h.symm, ?_⟩
      by_cases e3 : j + 1 = i
      · exact Or.inr (fun h => h3 ⟨e3, h⟩)
      · exact Or.inl e3
end
section
theorem q_tJ2 {z : Int} (h : RJ z) : (Int64.ofInt z).toInt = z := q_tJ h.1 h.2
theorem q_cmp_eq {a b : Int} (ha : RJ a) (hb : RJ b) : lg_cmp (Int64.ofInt a) (Int64.ofInt b) = 0 ↔ a = b := by
  unfold lg_cmp
  simp only [gt_iff_lt, Int64.lt_iff_toInt_lt, ← Int64.toInt_inj, q_tJ2 ha, q_tJ2 hb]
  repeat' split
  all_goals (constructor <;> intro hh <;> first | omega | decide | exact absurd hh (by decide))
theorem q_cmp_ne {a b : Int} (ha : RJ a) (hb : RJ b) : ¬ lg_cmp (Int64.ofInt a) (Int64.ofInt b) = 0 ↔ a ≠ b := by
  unfold lg_cmp
  simp only [gt_iff_lt, Int64.lt_iff_toInt_lt, ← Int64.toInt_inj, q_tJ2 ha, q_tJ2 hb]
  repeat' split
  all_goals (constructor <;> intro hh <;> first | omega | decide | exact absurd hh (by decide))
theorem q_cmp_lt {a b : Int} (ha : RJ a) (hb : RJ b) : lg_cmp (Int64.ofInt a) (Int64.ofInt b) < 0 ↔ a < b := by
  unfold lg_cmp
  simp only [gt_iff_lt, Int64.lt_iff_toInt_lt, ← Int64.toInt_inj, q_tJ2 ha, q_tJ2 hb]
  repeat' split
  all_goals (constructor <;> intro hh <;> first | omega | decide | exact absurd hh (by decide))
theorem q_cmp_ge {a b : Int} (ha : RJ a) (hb : RJ b) : 0 ≤ lg_cmp (Int64.ofInt a) (Int64.ofInt b) ↔ b ≤ a := by
  unfold lg_cmp
  simp only [gt_iff_lt, Int64.lt_iff_toInt_lt, ← Int64.toInt_inj, q_tJ2 ha, q_tJ2 hb]
  repeat' split
  all_goals (constructor <;> intro hh <;> first | omega | decide | exact absurd hh (by decide))
theorem q_cmp_gt {a b : Int} (ha : RJ a) (hb : RJ b) : 0 < lg_cmp (Int64.ofInt a) (Int64.ofInt b) ↔ b < a := by
  unfold lg_cmp
  simp only [gt_iff_lt, Int64.lt_iff_toInt_lt, ← Int64.toInt_inj, q_tJ2 ha, q_tJ2 hb]
  repeat' split
  all_goals (constructor <;> intro hh <;> first | omega | decide | exact absurd hh (by decide))
theorem q_cmp_le {a b : Int} (ha : RJ a) (hb : RJ b) : lg_cmp (Int64.ofInt a) (Int64.ofInt b) ≤ 0 ↔ a ≤ b := by
  unfold lg_cmp
  simp only [gt_iff_lt, Int64.lt_iff_toInt_lt, ← Int64.toInt_inj, q_tJ2 ha, q_tJ2 hb]
  repeat' split
  all_goals (constructor <;> intro hh <;> first | omega | decide | exact absurd hh (by decide))
section PROWS1
variable {g : GT} {cc : ByteArray} {X : MI} {pc : Nat} {L : List (Nat × Option Value)} {st : List Value} {S : PS} {kc ks : Nat} {Q : PO → PS → Prop}
theorem r_iconst {n : Int} (hd : decode cc pc = .ok (.iconst n, 1)) (k : PW g cc X (pc + 1) L (vi n :: st) S kc ks Q) : PW g cc X pc L (st) S kc ks Q :=
  fun p e s m args below meth c H locs ls cells slots C hP hz hlo hL h1 h2 => lv_iconst C.1 C.2.1 hd rfl (k p e s m args below meth c H locs ls cells slots C hP hz hlo hL h1 h2)
theorem r_bipush {n : Int} (hd : decode cc pc = .ok (.bipush n, 2)) (hv : (Int8.ofInt n).toInt32 = Int32.ofInt n) (k : PW g cc X (pc + 2) L (vi n :: st) S kc ks Q) : PW g cc X pc L (st) S kc ks Q :=
  fun p e s m args below meth c H locs ls cells slots C hP hz hlo hL h1 h2 => lv_bipush C.1 C.2.1 hd hv (k p e s m args below meth c H locs ls cells slots C hP hz hlo hL h1 h2)
theorem r_sipush {n : Int} (hd : decode cc pc = .ok (.sipush n, 3)) (hv : (Int16.ofInt n).toInt32 = Int32.ofInt n) (k : PW g cc X (pc + 3) L (vi n :: st) S kc ks Q) : PW g cc X pc L (st) S kc ks Q :=
  fun p e s m args below meth c H locs ls cells slots C hP hz hlo hL h1 h2 => lv_sipush C.1 C.2.1 hd hv (k p e s m args below meth c H locs ls cells slots C hP hz hlo hL h1 h2)
theorem r_lconst {n : Fin 2} {z : Int} (hd : decode cc pc = .ok (.lconst n, 1)) (hv : Int64.ofNat (n : Nat) = Int64.ofInt z) (k : PW g cc X (pc + 1) L (vl z :: st) S kc ks Q) : PW g cc X pc L (st) S kc ks Q :=
  fun p e s m args below meth c H locs ls cells slots C hP hz hlo hL h1 h2 => lv_lconst C.1 C.2.1 hd hv (k p e s m args below meth c H locs ls cells slots C hP hz hlo hL h1 h2)
theorem r_iload_n {k0 : Fin 4} {i : Nat} {x : Int32} (hd : decode cc pc = .ok (.iload_n k0, 1)) (hi : (k0 : Nat) = i) (hv : lk L i = some (.int x)) (k : PW g cc X (pc + 1) L (.int x :: st) S kc ks Q) : PW g cc X pc L (st) S kc ks Q :=
  fun p e s m args below meth c H locs ls cells slots C hP hz hlo hL h1 h2 => lv_iload_n C.1 C.2.1 hd hi (lk_get hL hv) (k p e s m args below meth c H locs ls cells slots C hP hz hlo hL h1 h2)
theorem r_iload {i : Nat} {x : Int32} (hd : decode cc pc = .ok (.iload i, 2)) (hv : lk L i = some (.int x)) (k : PW g cc X (pc + 2) L (.int x :: st) S kc ks Q) : PW g cc X pc L (st) S kc ks Q :=
  fun p e s m args below meth c H locs ls cells slots C hP hz hlo hL h1 h2 => lv_iload C.1 C.2.1 hd (lk_get hL hv) (k p e s m args below meth c H locs ls cells slots C hP hz hlo hL h1 h2)
theorem r_istore_n {k0 : Fin 4} {i : Nat} {x : Int32} (hd : decode cc pc = .ok (.istore_n k0, 1)) (hi : (k0 : Nat) = i) (hn : nl L i = true) (hlt : i < X.nL) (k : PW g cc X (pc + 1) ((i, some (.int x)) :: L) st S kc ks Q) : PW g cc X pc L (.int x :: st) S kc ks Q :=
  fun p e s m args below meth c H locs ls cells slots C hP hz hlo hL h1 h2 => lv_istore_n C.1 C.2.1 hd hi (lk_store1 hL) hlt rfl (fun ls' hl' => k p e s m args below meth c H locs ls' cells slots C hP hz hlo (hL.store1 hn hl') h1 h2)
theorem r_istore {i : Nat} {x : Int32} (hd : decode cc pc = .ok (.istore i, 2)) (hn : nl L i = true) (hlt : i < X.nL) (k : PW g cc X (pc + 2) ((i, some (.int x)) :: L) st S kc ks Q) : PW g cc X pc L (.int x :: st) S kc ks Q :=
  fun p e s m args below meth c H locs ls cells slots C hP hz hlo hL h1 h2 => lv_istore C.1 C.2.1 hd (lk_store1 hL) hlt rfl (fun ls' hl' => k p e s m args below meth c H locs ls' cells slots C hP hz hlo (hL.store1 hn hl') h1 h2)
theorem r_lload_n {k0 : Fin 4} {i : Nat} {x : Int64} (hd : decode cc pc = .ok (.lload_n k0, 1)) (hi : (k0 : Nat) = i) (hv : lk L i = some (.long x)) (k : PW g cc X (pc + 1) L (.long x :: st) S kc ks Q) : PW g cc X pc L (st) S kc ks Q :=
  fun p e s m args below meth c H locs ls cells slots C hP hz hlo hL h1 h2 => lv_lload_n C.1 C.2.1 hd hi (lk_get hL hv) (k p e s m args below meth c H locs ls cells slots C hP hz hlo hL h1 h2)
theorem r_lload {i : Nat} {x : Int64} (hd : decode cc pc = .ok (.lload i, 2)) (hv : lk L i = some (.long x)) (k : PW g cc X (pc + 2) L (.long x :: st) S kc ks Q) : PW g cc X pc L (st) S kc ks Q :=
  fun p e s m args below meth c H locs ls cells slots C hP hz hlo hL h1 h2 => lv_lload C.1 C.2.1 hd (lk_get hL hv) (k p e s m args below meth c H locs ls cells slots C hP hz hlo hL h1 h2)
theorem r_lstore_n {k0 : Fin 4} {i : Nat} {x : Int64} (hd : decode cc pc = .ok (.lstore_n k0, 1)) (hi : (k0 : Nat) = i) (hn : nl L i = true) (hlt : i + 1 < X.nL) (k : PW g cc X (pc + 1) ((i, some (.long x)) :: (i + 1, none) :: L) st S kc ks Q) : PW g cc X pc L (.long x :: st) S kc ks Q :=
  fun p e s m args below meth c H locs ls cells slots C hP hz hlo hL h1 h2 => lv_lstore_n C.1 C.2.1 hd hi (lk_store1 hL) hlt rfl (fun ls' hl' => k p e s m args below meth c H locs ls' cells slots C hP hz hlo (hL.store2 hn hl') h1 h2)
theorem r_lstore {i : Nat} {x : Int64} (hd : decode cc pc = .ok (.lstore i, 2)) (hn : nl L i = true) (hlt : i + 1 < X.nL) (k : PW g cc X (pc + 2) ((i, some (.long x)) :: (i + 1, none) :: L) st S kc ks Q) : PW g cc X pc L (.long x :: st) S kc ks Q :=
  fun p e s m args below meth c H locs ls cells slots C hP hz hlo hL h1 h2 => lv_lstore C.1 C.2.1 hd (lk_store1 hL) hlt rfl (fun ls' hl' => k p e s m args below meth c H locs ls' cells slots C hP hz hlo (hL.store2 hn hl') h1 h2)
theorem r_aload_n {k0 : Fin 4} {i : Nat} {x : Nat} (hd : decode cc pc = .ok (.aload_n k0, 1)) (hi : (k0 : Nat) = i) (hv : lk L i = some (.ref x)) (k : PW g cc X (pc + 1) L (.ref x :: st) S kc ks Q) : PW g cc X pc L (st) S kc ks Q :=
  fun p e s m args below meth c H locs ls cells slots C hP hz hlo hL h1 h2 => lv_aload_n C.1 C.2.1 hd hi (lk_get hL hv) (k p e s m args below meth c H locs ls cells slots C hP hz hlo hL h1 h2)
theorem r_aload {i : Nat} {x : Nat} (hd : decode cc pc = .ok (.aload i, 2)) (hv : lk L i = some (.ref x)) (k : PW g cc X (pc + 2) L (.ref x :: st) S kc ks Q) : PW g cc X pc L (st) S kc ks Q :=
  fun p e s m args below meth c H locs ls cells slots C hP hz hlo hL h1 h2 => lv_aload C.1 C.2.1 hd (lk_get hL hv) (k p e s m args below meth c H locs ls cells slots C hP hz hlo hL h1 h2)
theorem r_astore_n {k0 : Fin 4} {i : Nat} {x : Nat} (hd : decode cc pc = .ok (.astore_n k0, 1)) (hi : (k0 : Nat) = i) (hn : nl L i = true) (hlt : i < X.nL) (k : PW g cc X (pc + 1) ((i, some (.ref x)) :: L) st S kc ks Q) : PW g cc X pc L (.ref x :: st) S kc ks Q :=
  fun p e s m args below meth c H locs ls cells slots C hP hz hlo hL h1 h2 => lv_astore_n C.1 C.2.1 hd hi (lk_store1 hL) hlt rfl (fun ls' hl' => k p e s m args below meth c H locs ls' cells slots C hP hz hlo (hL.store1 hn hl') h1 h2)
theorem r_astore {i : Nat} {x : Nat} (hd : decode cc pc = .ok (.astore i, 2)) (hn : nl L i = true) (hlt : i < X.nL) (k : PW g cc X (pc + 2) ((i, some (.ref x)) :: L) st S kc ks Q) : PW g cc X pc L (.ref x :: st) S kc ks Q :=
  fun p e s m args below meth c H locs ls cells slots C hP hz hlo hL h1 h2 => lv_astore C.1 C.2.1 hd (lk_store1 hL) hlt rfl (fun ls' hl' => k p e s m args below meth c H locs ls' cells slots C hP hz hlo (hL.store1 hn hl') h1 h2)
theorem r_iinc {i : Nat} {n z : Int} (hd : decode cc pc = .ok (.iinc i n, 3)) (hv : lk L i = some (vi z)) (hn : nl L i = true) (k : PW g cc X (pc + 3) ((i, some (vi (z + n))) :: L) st S kc ks Q) : PW g cc X pc L st S kc ks Q := by
  intro p e s m args below meth c H locs ls cells slots C hP hz hlo hL h1 h2
  have hm : (i, vi z) ∈ (List.range X.nL).filterMap (fun j => (lk L j).map (fun v => (j, v))) := List.mem_filterMap.mpr ⟨i, List.mem_range.mpr (lk_lt hL hv), by rw [hv]; rfl⟩
  obtain ⟨k0, hk0⟩ := List.getElem?_of_mem hm
  exact lv_iinc C.1 C.2.1 hd (lk_store1 hL) hk0 (q_addI z n) (lk_lt hL hv) rfl (fun ls' hl' => k p e s m args below meth c H locs ls' cells slots C hP hz hlo (hL.store1 hn hl') h1 h2)
theorem r_iadd {a b : Int} (hd : decode cc pc = .ok (.iadd, 1)) (k : PW g cc X (pc + 1) L (vi (a + b) :: st) S kc ks Q) : PW g cc X pc L (vi b :: vi a :: st) S kc ks Q :=
  fun p e s m args below meth c H locs ls cells slots C hP hz hlo hL h1 h2 => lv_iadd C.1 C.2.1 hd ((q_addI a b).symm ▸ k p e s m args below meth c H locs ls cells slots C hP hz hlo hL h1 h2)
theorem r_isub {a b : Int} (hd : decode cc pc = .ok (.isub, 1)) (k : PW g cc X (pc + 1) L (vi (a - b) :: st) S kc ks Q) : PW g cc X pc L (vi b :: vi a :: st) S kc ks Q :=
  fun p e s m args below meth c H locs ls cells slots C hP hz hlo hL h1 h2 => lv_isub C.1 C.2.1 hd ((q_subI a b).symm ▸ k p e s m args below meth c H locs ls cells slots C hP hz hlo hL h1 h2)
theorem r_imul {a b : Int} (hd : decode cc pc = .ok (.imul, 1)) (k : PW g cc X (pc + 1) L (vi (a * b) :: st) S kc ks Q) : PW g cc X pc L (vi b :: vi a :: st) S kc ks Q :=
  fun p e s m args below meth c H locs ls cells slots C hP hz hlo hL h1 h2 => lv_imul C.1 C.2.1 hd ((q_mulI a b).symm ▸ k p e s m args below meth c H locs ls cells slots C hP hz hlo hL h1 h2)
theorem r_ineg {a : Int} (hd : decode cc pc = .ok (.ineg, 1)) (k : PW g cc X (pc + 1) L (vi (-a) :: st) S kc ks Q) : PW g cc X pc L (vi a :: st) S kc ks Q :=
  fun p e s m args below meth c H locs ls cells slots C hP hz hlo hL h1 h2 => lv_ineg C.1 C.2.1 hd ((q_negI a).symm ▸ k p e s m args below meth c H locs ls cells slots C hP hz hlo hL h1 h2)
theorem r_ladd {a b : Int} (hd : decode cc pc = .ok (.ladd, 1)) (k : PW g cc X (pc + 1) L (vl (a + b) :: st) S kc ks Q) : PW g cc X pc L (vl b :: vl a :: st) S kc ks Q :=
  fun p e s m args below meth c H locs ls cells slots C hP hz hlo hL h1 h2 => lv_ladd C.1 C.2.1 hd ((q_addJ a b).symm ▸ k p e s m args below meth c H locs ls cells slots C hP hz hlo hL h1 h2)
theorem r_lsub {a b : Int} (hd : decode cc pc = .ok (.lsub, 1)) (k : PW g cc X (pc + 1) L (vl (a - b) :: st) S kc ks Q) : PW g cc X pc L (vl b :: vl a :: st) S kc ks Q :=
  fun p e s m args below meth c H locs ls cells slots C hP hz hlo hL h1 h2 => lv_lsub C.1 C.2.1 hd ((q_subJ a b).symm ▸ k p e s m args below meth c H locs ls cells slots C hP hz hlo hL h1 h2)
theorem r_lmul {a b : Int} (hd : decode cc pc = .ok (.lmul, 1)) (k : PW g cc X (pc + 1) L (vl (a * b) :: st) S kc ks Q) : PW g cc X pc L (vl b :: vl a :: st) S kc ks Q :=
  fun p e s m args below meth c H locs ls cells slots C hP hz hlo hL h1 h2 => lv_lmul C.1 C.2.1 hd ((q_mulJ a b).symm ▸ k p e s m args below meth c H locs ls cells slots C hP hz hlo hL h1 h2)
theorem r_lneg {a : Int} (hd : decode cc pc = .ok (.lneg, 1)) (k : PW g cc X (pc + 1) L (vl (-a) :: st) S kc ks Q) : PW g cc X pc L (vl a :: st) S kc ks Q :=
  fun p e s m args below meth c H locs ls cells slots C hP hz hlo hL h1 h2 => lv_lneg C.1 C.2.1 hd ((q_negJ a).symm ▸ k p e s m args below meth c H locs ls cells slots C hP hz hlo hL h1 h2)
theorem r_idiv {a b : Int} (hd : decode cc pc = .ok (.idiv, 1)) (ha : RI a) (hb : RI b) (hne : b ≠ 0) (k : PW g cc X (pc + 1) L (vi (Int.tdiv a b) :: st) S kc ks Q) : PW g cc X pc L (vi b :: vi a :: st) S kc ks Q :=
  fun p e s m args below meth c H locs ls cells slots C hP hz hlo hL h1 h2 => lv_idiv C.1 C.2.1 hd (by rw [show (0 : Int32) = Int32.ofInt 0 from rfl, q_eqI hb (by omega)]; exact hne) ((q_divI ha hb).symm ▸ k p e s m args below meth c H locs ls cells slots C hP hz hlo hL h1 h2)
theorem r_irem {a b : Int} (hd : decode cc pc = .ok (.irem, 1)) (ha : RI a) (hb : RI b) (hne : b ≠ 0) (k : PW g cc X (pc + 1) L (vi (Int.tmod a b) :: st) S kc ks Q) : PW g cc X pc L (vi b :: vi a :: st) S kc ks Q :=
  fun p e s m args below meth c H locs ls cells slots C hP hz hlo hL h1 h2 => lv_irem C.1 C.2.1 hd (by rw [show (0 : Int32) = Int32.ofInt 0 from rfl, q_eqI hb (by omega)]; exact hne) ((q_remI ha hb).symm ▸ k p e s m args below meth c H locs ls cells slots C hP hz hlo hL h1 h2)
theorem r_ldiv {a b : Int} (hd : decode cc pc = .ok (.ldiv, 1)) (ha : RJ a) (hb : RJ b) (hne : b ≠ 0) (k : PW g cc X (pc + 1) L (vl (Int.tdiv a b) :: st) S kc ks Q) : PW g cc X pc L (vl b :: vl a :: st) S kc ks Q :=
  fun p e s m args below meth c H locs ls cells slots C hP hz hlo hL h1 h2 => lv_ldiv C.1 C.2.1 hd (by rw [show (0 : Int64) = Int64.ofInt 0 from rfl, q_eqJ hb (by omega)]; exact hne) ((q_divJ ha hb).symm ▸ k p e s m args below meth c H locs ls cells slots C hP hz hlo hL h1 h2)
theorem r_lrem {a b : Int} (hd : decode cc pc = .ok (.lrem, 1)) (ha : RJ a) (hb : RJ b) (hne : b ≠ 0) (k : PW g cc X (pc + 1) L (vl (Int.tmod a b) :: st) S kc ks Q) : PW g cc X pc L (vl b :: vl a :: st) S kc ks Q :=
  fun p e s m args below meth c H locs ls cells slots C hP hz hlo hL h1 h2 => lv_lrem C.1 C.2.1 hd (by rw [show (0 : Int64) = Int64.ofInt 0 from rfl, q_eqJ hb (by omega)]; exact hne) ((q_remJ ha hb).symm ▸ k p e s m args below meth c H locs ls cells slots C hP hz hlo hL h1 h2)
theorem r_idivN {a b : Int} (hd : decode cc pc = .ok (.idiv, 1)) (ha : RI a) (hb : RI b) (h0 : 0 ≤ a) (hp : 0 < b) (k : PW g cc X (pc + 1) L (vi (a / b) :: st) S kc ks Q) : PW g cc X pc L (vi b :: vi a :: st) S kc ks Q :=
  r_idiv hd ha hb (by omega) (by rw [Int.tdiv_eq_ediv_of_nonneg h0]; exact k)
theorem r_iremN {a b : Int} (hd : decode cc pc = .ok (.irem, 1)) (ha : RI a) (hb : RI b) (h0 : 0 ≤ a) (hp : 0 < b) (k : PW g cc X (pc + 1) L (vi (a % b) :: st) S kc ks Q) : PW g cc X pc L (vi b :: vi a :: st) S kc ks Q :=
  r_irem hd ha hb (by omega) (by rw [Int.tmod_eq_emod_of_nonneg h0]; exact k)
theorem r_ldivN {a b : Int} (hd : decode cc pc = .ok (.ldiv, 1)) (ha : RJ a) (hb : RJ b) (h0 : 0 ≤ a) (hp : 0 < b) (k : PW g cc X (pc + 1) L (vl (a / b) :: st) S kc ks Q) : PW g cc X pc L (vl b :: vl a :: st) S kc ks Q :=
  r_ldiv hd ha hb (by omega) (by rw [Int.tdiv_eq_ediv_of_nonneg h0]; exact k)
theorem r_lremN {a b : Int} (hd : decode cc pc = .ok (.lrem, 1)) (ha : RJ a) (hb : RJ b) (h0 : 0 ≤ a) (hp : 0 < b) (k : PW g cc X (pc + 1) L (vl (a % b) :: st) S kc ks Q) : PW g cc X pc L (vl b :: vl a :: st) S kc ks Q :=
  r_lrem hd ha hb (by omega) (by rw [Int.tmod_eq_emod_of_nonneg h0]; exact k)
theorem r_iand {x y : Int32} (z : Int) (hd : decode cc pc = .ok (.iand, 1)) (hv : x &&& y = Int32.ofInt z) (k : PW g cc X (pc + 1) L (vi z :: st) S kc ks Q) : PW g cc X pc L (.int y :: .int x :: st) S kc ks Q :=
  fun p e s m args below meth c H locs ls cells slots C hP hz hlo hL h1 h2 => lv_iand C.1 C.2.1 hd (hv ▸ k p e s m args below meth c H locs ls cells slots C hP hz hlo hL h1 h2)
theorem r_ior {x y : Int32} (z : Int) (hd : decode cc pc = .ok (.ior, 1)) (hv : x ||| y = Int32.ofInt z) (k : PW g cc X (pc + 1) L (vi z :: st) S kc ks Q) : PW g cc X pc L (.int y :: .int x :: st) S kc ks Q :=
  fun p e s m args below meth c H locs ls cells slots C hP hz hlo hL h1 h2 => lv_ior C.1 C.2.1 hd (hv ▸ k p e s m args below meth c H locs ls cells slots C hP hz hlo hL h1 h2)
theorem r_ixor {x y : Int32} (z : Int) (hd : decode cc pc = .ok (.ixor, 1)) (hv : x ^^^ y = Int32.ofInt z) (k : PW g cc X (pc + 1) L (vi z :: st) S kc ks Q) : PW g cc X pc L (.int y :: .int x :: st) S kc ks Q :=
  fun p e s m args below meth c H locs ls cells slots C hP hz hlo hL h1 h2 => lv_ixor C.1 C.2.1 hd (hv ▸ k p e s m args below meth c H locs ls cells slots C hP hz hlo hL h1 h2)
theorem r_land {x y : Int64} (z : Int) (hd : decode cc pc = .ok (.land, 1)) (hv : x &&& y = Int64.ofInt z) (k : PW g cc X (pc + 1) L (vl z :: st) S kc ks Q) : PW g cc X pc L (.long y :: .long x :: st) S kc ks Q :=
  fun p e s m args below meth c H locs ls cells slots C hP hz hlo hL h1 h2 => lv_land C.1 C.2.1 hd (hv ▸ k p e s m args below meth c H locs ls cells slots C hP hz hlo hL h1 h2)
theorem r_lxor {x y : Int64} (z : Int) (hd : decode cc pc = .ok (.lxor, 1)) (hv : x ^^^ y = Int64.ofInt z) (k : PW g cc X (pc + 1) L (vl z :: st) S kc ks Q) : PW g cc X pc L (.long y :: .long x :: st) S kc ks Q :=
  fun p e s m args below meth c H locs ls cells slots C hP hz hlo hL h1 h2 => lv_lxor C.1 C.2.1 hd (hv ▸ k p e s m args below meth c H locs ls cells slots C hP hz hlo hL h1 h2)
theorem r_ishl {x y : Int32} (z : Int) (hd : decode cc pc = .ok (.ishl, 1)) (hv : x <<< (y &&& 31) = Int32.ofInt z) (k : PW g cc X (pc + 1) L (vi z :: st) S kc ks Q) : PW g cc X pc L (.int y :: .int x :: st) S kc ks Q :=
  fun p e s m args below meth c H locs ls cells slots C hP hz hlo hL h1 h2 => lv_ishl C.1 C.2.1 hd (hv ▸ k p e s m args below meth c H locs ls cells slots C hP hz hlo hL h1 h2)
theorem r_ishr {x y : Int32} (z : Int) (hd : decode cc pc = .ok (.ishr, 1)) (hv : x >>> (y &&& 31) = Int32.ofInt z) (k : PW g cc X (pc + 1) L (vi z :: st) S kc ks Q) : PW g cc X pc L (.int y :: .int x :: st) S kc ks Q :=
  fun p e s m args below meth c H locs ls cells slots C hP hz hlo hL h1 h2 => lv_ishr C.1 C.2.1 hd (hv ▸ k p e s m args below meth c H locs ls cells slots C hP hz hlo hL h1 h2)
theorem r_lshl {x : Int64} {y : Int32} (z : Int) (hd : decode cc pc = .ok (.lshl, 1)) (hv : x <<< (y.toInt64 &&& 63) = Int64.ofInt z) (k : PW g cc X (pc + 1) L (vl z :: st) S kc ks Q) : PW g cc X pc L (.int y :: .long x :: st) S kc ks Q :=
  fun p e s m args below meth c H locs ls cells slots C hP hz hlo hL h1 h2 => lv_lshl C.1 C.2.1 hd hv (k p e s m args below meth c H locs ls cells slots C hP hz hlo hL h1 h2)
theorem r_lshr {x : Int64} {y : Int32} (z : Int) (hd : decode cc pc = .ok (.lshr, 1)) (hv : x >>> (y.toInt64 &&& 63) = Int64.ofInt z) (k : PW g cc X (pc + 1) L (vl z :: st) S kc ks Q) : PW g cc X pc L (.int y :: .long x :: st) S kc ks Q :=
  fun p e s m args below meth c H locs ls cells slots C hP hz hlo hL h1 h2 => lv_lshr C.1 C.2.1 hd hv (k p e s m args below meth c H locs ls cells slots C hP hz hlo hL h1 h2)
theorem r_i2l {a : Int} (hd : decode cc pc = .ok (.i2l, 1)) (ha : RI a) (k : PW g cc X (pc + 1) L (vl a :: st) S kc ks Q) : PW g cc X pc L (vi a :: st) S kc ks Q :=
  fun p e s m args below meth c H locs ls cells slots C hP hz hlo hL h1 h2 => lv_i2l C.1 C.2.1 hd (q_i2l ha) (k p e s m args below meth c H locs ls cells slots C hP hz hlo hL h1 h2)
theorem r_l2i {a : Int} (hd : decode cc pc = .ok (.l2i, 1)) (k : PW g cc X (pc + 1) L (vi a :: st) S kc ks Q) : PW g cc X pc L (vl a :: st) S kc ks Q :=
  fun p e s m args below meth c H locs ls cells slots C hP hz hlo hL h1 h2 => lv_l2i C.1 C.2.1 hd (q_l2i a) (k p e s m args below meth c H locs ls cells slots C hP hz hlo hL h1 h2)
theorem r_i2b {x : Int32} (z : Int) (hd : decode cc pc = .ok (.i2b, 1)) (hv : x.toInt8.toInt32 = Int32.ofInt z) (k : PW g cc X (pc + 1) L (vi z :: st) S kc ks Q) : PW g cc X pc L (.int x :: st) S kc ks Q :=
  fun p e s m args below meth c H locs ls cells slots C hP hz hlo hL h1 h2 => lv_i2b C.1 C.2.1 hd hv (k p e s m args below meth c H locs ls cells slots C hP hz hlo hL h1 h2)
theorem r_i2c {x : Int32} (z : Int) (hd : decode cc pc = .ok (.i2c, 1)) (hv : (x.toUInt32 % 65536).toInt32 = Int32.ofInt z) (k : PW g cc X (pc + 1) L (vi z :: st) S kc ks Q) : PW g cc X pc L (.int x :: st) S kc ks Q :=
  fun p e s m args below meth c H locs ls cells slots C hP hz hlo hL h1 h2 => lv_i2c C.1 C.2.1 hd hv (k p e s m args below meth c H locs ls cells slots C hP hz hlo hL h1 h2)
theorem r_dup {v : Value} (hd : decode cc pc = .ok (.dup, 1)) (hc : v.category = 1) (k : PW g cc X (pc + 1) L (v :: v :: st) S kc ks Q) : PW g cc X pc L (v :: st) S kc ks Q :=
  fun p e s m args below meth c H locs ls cells slots C hP hz hlo hL h1 h2 => lv_dup C.1 C.2.1 hd hc (k p e s m args below meth c H locs ls cells slots C hP hz hlo hL h1 h2)
theorem r_pop {v : Value} (hd : decode cc pc = .ok (.pop, 1)) (hc : v.category = 1) (k : PW g cc X (pc + 1) L (st) S kc ks Q) : PW g cc X pc L (v :: st) S kc ks Q :=
  fun p e s m args below meth c H locs ls cells slots C hP hz hlo hL h1 h2 => lv_pop C.1 C.2.1 hd hc (k p e s m args below meth c H locs ls cells slots C hP hz hlo hL h1 h2)
theorem r_dup_x1 {v w : Value} (hd : decode cc pc = .ok (.dup_x1, 1)) (hc : v.category = 1) (hc2 : w.category = 1) (k : PW g cc X (pc + 1) L (v :: w :: v :: st) S kc ks Q) : PW g cc X pc L (v :: w :: st) S kc ks Q :=
  fun p e s m args below meth c H locs ls cells slots C hP hz hlo hL h1 h2 => lv_dup_x1 C.1 C.2.1 hd hc hc2 (k p e s m args below meth c H locs ls cells slots C hP hz hlo hL h1 h2)
theorem r_dup2_11 {v w : Value} (hd : decode cc pc = .ok (.dup2, 1)) (hc : v.category = 1) (hc2 : w.category = 1) (k : PW g cc X (pc + 1) L (v :: w :: v :: w :: st) S kc ks Q) : PW g cc X pc L (v :: w :: st) S kc ks Q :=
  fun p e s m args below meth c H locs ls cells slots C hP hz hlo hL h1 h2 => lv_dup2_11 C.1 C.2.1 hd hc hc2 (k p e s m args below meth c H locs ls cells slots C hP hz hlo hL h1 h2)
theorem r_dup2_2 {v : Value} (hd : decode cc pc = .ok (.dup2, 1)) (hc : v.category = 2) (k : PW g cc X (pc + 1) L (v :: v :: st) S kc ks Q) : PW g cc X pc L (v :: st) S kc ks Q :=
  fun p e s m args below meth c H locs ls cells slots C hP hz hlo hL h1 h2 => lv_dup2_2 C.1 C.2.1 hd hc (k p e s m args below meth c H locs ls cells slots C hP hz hlo hL h1 h2)
theorem r_goto {off : Int} (tgt : Nat) (hd : decode cc pc = .ok (.goto off, 3)) (ht : (pc : Int) + off = (tgt : Int)) (k : PW g cc X tgt L st S kc ks Q) : PW g cc X pc L st S kc ks Q :=
  fun p e s m args below meth c H locs ls cells slots C hP hz hlo hL h1 h2 => lv_goto C.1 C.2.1 hd ht (k p e s m args below meth c H locs ls cells slots C hP hz hlo hL h1 h2)
theorem r_icmp_eq {a b : Int} {off : Int} (tgt : Nat) (hd : decode cc pc = .ok (.if_icmp .eq off, 3)) (ht : (pc : Int) + off = (tgt : Int)) (ha : RI a) (hb : RI b) (kt : a = b → PW g cc X tgt L st S kc ks Q) (kf : a ≠ b → PW g cc X (pc + 3) L st S kc ks Q) : PW g cc X pc L (vi b :: vi a :: st) S kc ks Q := by
  intro p e s m args below meth c H locs ls cells slots C hP hz hlo hL h1 h2
  have kt := fun h => kt h p e s m args below meth c H locs ls cells slots C hP hz hlo hL h1 h2
  have kf := fun h => kf h p e s m args below meth c H locs ls cells slots C hP hz hlo hL h1 h2
  exact lv_icmp_eq C.1 C.2.1 hd ht (fun h => kt ((q_eqI ha hb).mp h)) (fun h => kf (mt (q_eqI ha hb).mpr h))
theorem r_if_eq {a : Int} {off : Int} (tgt : Nat) (hd : decode cc pc = .ok (.ifCond .eq off, 3)) (ht : (pc : Int) + off = (tgt : Int)) (ha : RI a) (kt : a = 0 → PW g cc X tgt L st S kc ks Q) (kf : a ≠ 0 → PW g cc X (pc + 3) L st S kc ks Q) : PW g cc X pc L (vi a :: st) S kc ks Q := by
  intro p e s m args below meth c H locs ls cells slots C hP hz hlo hL h1 h2
  have kt := fun h => kt h p e s m args below meth c H locs ls cells slots C hP hz hlo hL h1 h2
  have kf := fun h => kf h p e s m args below meth c H locs ls cells slots C hP hz hlo hL h1 h2
  have hb : RI 0 := by omega
  exact lv_if_eq C.1 C.2.1 hd ht (fun h => kt ((q_eqI ha hb).mp h)) (fun h => kf (mt (q_eqI ha hb).mpr h))
theorem r_lcmp_eq {a b : Int} {off : Int} (tgt : Nat) (hd : decode cc pc = .ok (.lcmp, 1)) (hd2 : decode cc (pc + 1) = .ok (.ifCond .eq off, 3)) (ht : ((pc + 1 : Nat) : Int) + off = (tgt : Int)) (ha : RJ a) (hb : RJ b) (kt : a = b → PW g cc X tgt L st S kc ks Q) (kf : a ≠ b → PW g cc X (pc + 4) L st S kc ks Q) : PW g cc X pc L (vl b :: vl a :: st) S kc ks Q := by
  intro p e s m args below meth c H locs ls cells slots C hP hz hlo hL h1 h2
  have kt := fun h => kt h p e s m args below meth c H locs ls cells slots C hP hz hlo hL h1 h2
  have kf := fun h => kf h p e s m args below meth c H locs ls cells slots C hP hz hlo hL h1 h2
  have e := q_cmp_eq ha hb
  refine W.lcmp C.1 C.2.1 hd (lv_if_eq C.1 C.2.1 hd2 ht (fun h => kt (e.mp h)) (fun h => kf ?_))
  have h3 := mt e.mpr h
  omega
theorem r_icmp_ne {a b : Int} {off : Int} (tgt : Nat) (hd : decode cc pc = .ok (.if_icmp .ne off, 3)) (ht : (pc : Int) + off = (tgt : Int)) (ha : RI a) (hb : RI b) (kt : a ≠ b → PW g cc X tgt L st S kc ks Q) (kf : a = b → PW g cc X (pc + 3) L st S kc ks Q) : PW g cc X pc L (vi b :: vi a :: st) S kc ks Q := by
  intro p e s m args below meth c H locs ls cells slots C hP hz hlo hL h1 h2
  have kt := fun h => kt h p e s m args below meth c H locs ls cells slots C hP hz hlo hL h1 h2
  have kf := fun h => kf h p e s m args below meth c H locs ls cells slots C hP hz hlo hL h1 h2
  exact lv_icmp_ne C.1 C.2.1 hd ht (fun h => kt ((not_congr (q_eqI ha hb)).mp h)) (fun h => kf ((q_eqI ha hb).mp h))
theorem r_if_ne {a : Int} {off : Int} (tgt : Nat) (hd : decode cc pc = .ok (.ifCond .ne off, 3)) (ht : (pc : Int) + off = (tgt : Int)) (ha : RI a) (kt : a ≠ 0 → PW g cc X tgt L st S kc ks Q) (kf : a = 0 → PW g cc X (pc + 3) L st S kc ks Q) : PW g cc X pc L (vi a :: st) S kc ks Q := by
  intro p e s m args below meth c H locs ls cells slots C hP hz hlo hL h1 h2
  have kt := fun h => kt h p e s m args below meth c H locs ls cells slots C hP hz hlo hL h1 h2
  have kf := fun h => kf h p e s m args below meth c H locs ls cells slots C hP hz hlo hL h1 h2
  have hb : RI 0 := by omega
  exact lv_if_ne C.1 C.2.1 hd ht (fun h => kt ((not_congr (q_eqI ha hb)).mp h)) (fun h => kf ((q_eqI ha hb).mp h))
theorem r_lcmp_ne {a b : Int} {off : Int} (tgt : Nat) (hd : decode cc pc = .ok (.lcmp, 1)) (hd2 : decode cc (pc + 1) = .ok (.ifCond .ne off, 3)) (ht : ((pc + 1 : Nat) : Int) + off = (tgt : Int)) (ha : RJ a) (hb : RJ b) (kt : a ≠ b → PW g cc X tgt L st S kc ks Q) (kf : a = b → PW g cc X (pc + 4) L st S kc ks Q) : PW g cc X pc L (vl b :: vl a :: st) S kc ks Q := by
  intro p e s m args below meth c H locs ls cells slots C hP hz hlo hL h1 h2
  have kt := fun h => kt h p e s m args below meth c H locs ls cells slots C hP hz hlo hL h1 h2
  have kf := fun h => kf h p e s m args below meth c H locs ls cells slots C hP hz hlo hL h1 h2
  have e := q_cmp_ne ha hb
  refine W.lcmp C.1 C.2.1 hd (lv_if_ne C.1 C.2.1 hd2 ht (fun h => kt (e.mp h)) (fun h => kf ?_))
  exact (q_cmp_eq ha hb).mp h
theorem r_icmp_lt {a b : Int} {off : Int} (tgt : Nat) (hd : decode cc pc = .ok (.if_icmp .lt off, 3)) (ht : (pc : Int) + off = (tgt : Int)) (ha : RI a) (hb : RI b) (kt : a < b → PW g cc X tgt L st S kc ks Q) (kf : b ≤ a → PW g cc X (pc + 3) L st S kc ks Q) : PW g cc X pc L (vi b :: vi a :: st) S kc ks Q := by
  intro p e s m args below meth c H locs ls cells slots C hP hz hlo hL h1 h2
  have kt := fun h => kt h p e s m args below meth c H locs ls cells slots C hP hz hlo hL h1 h2
  have kf := fun h => kf h p e s m args below meth c H locs ls cells slots C hP hz hlo hL h1 h2
  exact lv_icmp_lt C.1 C.2.1 hd ht (fun h => kt ((q_ltI ha hb).mp h)) (fun h => kf (Int.not_lt.mp (mt (q_ltI ha hb).mpr h)))
theorem r_if_lt {a : Int} {off : Int} (tgt : Nat) (hd : decode cc pc = .ok (.ifCond .lt off, 3)) (ht : (pc : Int) + off = (tgt : Int)) (ha : RI a) (kt : a < 0 → PW g cc X tgt L st S kc ks Q) (kf : 0 ≤ a → PW g cc X (pc + 3) L st S kc ks Q) : PW g cc X pc L (vi a :: st) S kc ks Q := by
  intro p e s m args below meth c H locs ls cells slots C hP hz hlo hL h1 h2
  have kt := fun h => kt h p e s m args below meth c H locs ls cells slots C hP hz hlo hL h1 h2
  have kf := fun h => kf h p e s m args below meth c H locs ls cells slots C hP hz hlo hL h1 h2
  have hb : RI 0 := by omega
  exact lv_if_lt C.1 C.2.1 hd ht (fun h => kt ((q_ltI ha hb).mp h)) (fun h => kf (Int.not_lt.mp (mt (q_ltI ha hb).mpr h)))
theorem r_lcmp_lt {a b : Int} {off : Int} (tgt : Nat) (hd : decode cc pc = .ok (.lcmp, 1)) (hd2 : decode cc (pc + 1) = .ok (.ifCond .lt off, 3)) (ht : ((pc + 1 : Nat) : Int) + off = (tgt : Int)) (ha : RJ a) (hb : RJ b) (kt : a < b → PW g cc X tgt L st S kc ks Q) (kf : b ≤ a → PW g cc X (pc + 4) L st S kc ks Q) : PW g cc X pc L (vl b :: vl a :: st) S kc ks Q := by
  intro p e s m args below meth c H locs ls cells slots C hP hz hlo hL h1 h2
  have kt := fun h => kt h p e s m args below meth c H locs ls cells slots C hP hz hlo hL h1 h2
  have kf := fun h => kf h p e s m args below meth c H locs ls cells slots C hP hz hlo hL h1 h2
  have e := q_cmp_lt ha hb
  refine W.lcmp C.1 C.2.1 hd (lv_if_lt C.1 C.2.1 hd2 ht (fun h => kt (e.mp h)) (fun h => kf ?_))
  have h3 := mt e.mpr h
  omega
theorem r_icmp_ge {a b : Int} {off : Int} (tgt : Nat) (hd : decode cc pc = .ok (.if_icmp .ge off, 3)) (ht : (pc : Int) + off = (tgt : Int)) (ha : RI a) (hb : RI b) (kt : b ≤ a → PW g cc X tgt L st S kc ks Q) (kf : a < b → PW g cc X (pc + 3) L st S kc ks Q) : PW g cc X pc L (vi b :: vi a :: st) S kc ks Q := by
  intro p e s m args below meth c H locs ls cells slots C hP hz hlo hL h1 h2
  have kt := fun h => kt h p e s m args below meth c H locs ls cells slots C hP hz hlo hL h1 h2
  have kf := fun h => kf h p e s m args below meth c H locs ls cells slots C hP hz hlo hL h1 h2
  exact lv_icmp_ge C.1 C.2.1 hd ht (fun h => kt ((q_leI hb ha).mp h)) (fun h => kf (Int.not_le.mp (mt (q_leI hb ha).mpr h)))
theorem r_if_ge {a : Int} {off : Int} (tgt : Nat) (hd : decode cc pc = .ok (.ifCond .ge off, 3)) (ht : (pc : Int) + off = (tgt : Int)) (ha : RI a) (kt : 0 ≤ a → PW g cc X tgt L st S kc ks Q) (kf : a < 0 → PW g cc X (pc + 3) L st S kc ks Q) : PW g cc X pc L (vi a :: st) S kc ks Q := by
  intro p e s m args below meth c H locs ls cells slots C hP hz hlo hL h1 h2
  have kt := fun h => kt h p e s m args below meth c H locs ls cells slots C hP hz hlo hL h1 h2
  have kf := fun h => kf h p e s m args below meth c H locs ls cells slots C hP hz hlo hL h1 h2
  have hb : RI 0 := by omega
  exact lv_if_ge C.1 C.2.1 hd ht (fun h => kt ((q_leI hb ha).mp h)) (fun h => kf (Int.not_le.mp (mt (q_leI hb ha).mpr h)))
theorem r_lcmp_ge {a b : Int} {off : Int} (tgt : Nat) (hd : decode cc pc = .ok (.lcmp, 1)) (hd2 : decode cc (pc + 1) = .ok (.ifCond .ge off, 3)) (ht : ((pc + 1 : Nat) : Int) + off = (tgt : Int)) (ha : RJ a) (hb : RJ b) (kt : b ≤ a → PW g cc X tgt L st S kc ks Q) (kf : a < b → PW g cc X (pc + 4) L st S kc ks Q) : PW g cc X pc L (vl b :: vl a :: st) S kc ks Q := by
  intro p e s m args below meth c H locs ls cells slots C hP hz hlo hL h1 h2
  have kt := fun h => kt h p e s m args below meth c H locs ls cells slots C hP hz hlo hL h1 h2
  have kf := fun h => kf h p e s m args below meth c H locs ls cells slots C hP hz hlo hL h1 h2
  have e := q_cmp_ge ha hb
  refine W.lcmp C.1 C.2.1 hd (lv_if_ge C.1 C.2.1 hd2 ht (fun h => kt (e.mp h)) (fun h => kf ?_))
  have h3 := mt e.mpr h
  omega
theorem r_icmp_gt {a b : Int} {off : Int} (tgt : Nat) (hd : decode cc pc = .ok (.if_icmp .gt off, 3)) (ht : (pc : Int) + off = (tgt : Int)) (ha : RI a) (hb : RI b) (kt : b < a → PW g cc X tgt L st S kc ks Q) (kf : a ≤ b → PW g cc X (pc + 3) L st S kc ks Q) : PW g cc X pc L (vi b :: vi a :: st) S kc ks Q := by
  intro p e s m args below meth c H locs ls cells slots C hP hz hlo hL h1 h2
  have kt := fun h => kt h p e s m args below meth c H locs ls cells slots C hP hz hlo hL h1 h2
  have kf := fun h => kf h p e s m args below meth c H locs ls cells slots C hP hz hlo hL h1 h2
  exact lv_icmp_gt C.1 C.2.1 hd ht (fun h => kt ((q_ltI hb ha).mp h)) (fun h => kf (Int.not_lt.mp (mt (q_ltI hb ha).mpr h)))
theorem r_if_gt {a : Int} {off : Int} (tgt : Nat) (hd : decode cc pc = .ok (.ifCond .gt off, 3)) (ht : (pc : Int) + off = (tgt : Int)) (ha : RI a) (kt : 0 < a → PW g cc X tgt L st S kc ks Q) (kf : a ≤ 0 → PW g cc X (pc + 3) L st S kc ks Q) : PW g cc X pc L (vi a :: st) S kc ks Q := by
  intro p e s m args below meth c H locs ls cells slots C hP hz hlo hL h1 h2
  have kt := fun h => kt h p e s m args below meth c H locs ls cells slots C hP hz hlo hL h1 h2
  have kf := fun h => kf h p e s m args below meth c H locs ls cells slots C hP hz hlo hL h1 h2
  have hb : RI 0 := by omega
  exact lv_if_gt C.1 C.2.1 hd ht (fun h => kt ((q_ltI hb ha).mp h)) (fun h => kf (Int.not_lt.mp (mt (q_ltI hb ha).mpr h)))
theorem r_lcmp_gt {a b : Int} {off : Int} (tgt : Nat) (hd : decode cc pc = .ok (.lcmp, 1)) (hd2 : decode cc (pc + 1) = .ok (.ifCond .gt off, 3)) (ht : ((pc + 1 : Nat) : Int) + off = (tgt : Int)) (ha : RJ a) (hb : RJ b) (kt : b < a → PW g cc X tgt L st S kc ks Q) (kf : a ≤ b → PW g cc X (pc + 4) L st S kc ks Q) : PW g cc X pc L (vl b :: vl a :: st) S kc ks Q := by
  intro p e s m args below meth c H locs ls cells slots C hP hz hlo hL h1 h2
  have kt := fun h => kt h p e s m args below meth c H locs ls cells slots C hP hz hlo hL h1 h2
  have kf := fun h => kf h p e s m args below meth c H locs ls cells slots C hP hz hlo hL h1 h2
  have e := q_cmp_gt ha hb
  refine W.lcmp C.1 C.2.1 hd (lv_if_gt C.1 C.2.1 hd2 ht (fun h => kt (e.mp h)) (fun h => kf ?_))
  have h3 := mt e.mpr h
  omega
theorem r_icmp_le {a b : Int} {off : Int} (tgt : Nat) (hd : decode cc pc = .ok (.if_icmp .le off, 3)) (ht : (pc : Int) + off = (tgt : Int)) (ha : RI a) (hb : RI b) (kt : a ≤ b → PW g cc X tgt L st S kc ks Q) (kf : b < a → PW g cc X (pc + 3) L st S kc ks Q) : PW g cc X pc L (vi b :: vi a :: st) S kc ks Q := by
  intro p e s m args below meth c H locs ls cells slots C hP hz hlo hL h1 h2
  have kt := fun h => kt h p e s m args below meth c H locs ls cells slots C hP hz hlo hL h1 h2
  have kf := fun h => kf h p e s m args below meth c H locs ls cells slots C hP hz hlo hL h1 h2
  exact lv_icmp_le C.1 C.2.1 hd ht (fun h => kt ((q_leI ha hb).mp h)) (fun h => kf (Int.not_le.mp (mt (q_leI ha hb).mpr h)))
theorem r_if_le {a : Int} {off : Int} (tgt : Nat) (hd : decode cc pc = .ok (.ifCond .le off, 3)) (ht : (pc : Int) + off = (tgt : Int)) (ha : RI a) (kt : a ≤ 0 → PW g cc X tgt L st S kc ks Q) (kf : 0 < a → PW g cc X (pc + 3) L st S kc ks Q) : PW g cc X pc L (vi a :: st) S kc ks Q := by
  intro p e s m args below meth c H locs ls cells slots C hP hz hlo hL h1 h2
  have kt := fun h => kt h p e s m args below meth c H locs ls cells slots C hP hz hlo hL h1 h2
  have kf := fun h => kf h p e s m args below meth c H locs ls cells slots C hP hz hlo hL h1 h2
  have hb : RI 0 := by omega
  exact lv_if_le C.1 C.2.1 hd ht (fun h => kt ((q_leI ha hb).mp h)) (fun h => kf (Int.not_le.mp (mt (q_leI ha hb).mpr h)))
theorem r_lcmp_le {a b : Int} {off : Int} (tgt : Nat) (hd : decode cc pc = .ok (.lcmp, 1)) (hd2 : decode cc (pc + 1) = .ok (.ifCond .le off, 3)) (ht : ((pc + 1 : Nat) : Int) + off = (tgt : Int)) (ha : RJ a) (hb : RJ b) (kt : a ≤ b → PW g cc X tgt L st S kc ks Q) (kf : b < a → PW g cc X (pc + 4) L st S kc ks Q) : PW g cc X pc L (vl b :: vl a :: st) S kc ks Q := by
  intro p e s m args below meth c H locs ls cells slots C hP hz hlo hL h1 h2
  have kt := fun h => kt h p e s m args below meth c H locs ls cells slots C hP hz hlo hL h1 h2
  have kf := fun h => kf h p e s m args below meth c H locs ls cells slots C hP hz hlo hL h1 h2
  have e := q_cmp_le ha hb
  refine W.lcmp C.1 C.2.1 hd (lv_if_le C.1 C.2.1 hd2 ht (fun h => kt (e.mp h)) (fun h => kf ?_))
  have h3 := mt e.mpr h
  omega
end PROWS1
end
section
theorem PCtx.base {g : GT} {cc : ByteArray} {X : MI} {p : Program} {s : State} {m : MethodId} {meth : Method} {c : Code} (C : PCtx g cc X p s m meth c) : Base g := C.2.2.2.2.2.2.2.2.1
theorem PCtx.warm {g : GT} {cc : ByteArray} {X : MI} {p : Program} {s : State} {m : MethodId} {meth : Method} {c : Code} (C : PCtx g cc X p s m meth c) : g.K.WarmedH s.vm := C.2.2.2.2.2.2.2.2.2.1
theorem PCtx.own {g : GT} {cc : ByteArray} {X : MI} {p : Program} {s : State} {m : MethodId} {meth : Method} {c : Code} (C : PCtx g cc X p s m meth c) : s.vm.findClass X.own = some m.cls := C.2.2.2.1
theorem PCtx.va {g : GT} {cc : ByteArray} {X : MI} {p : Program} {s : State} {m : MethodId} {meth : Method} {c : Code} (C : PCtx g cc X p s m meth c) : va_K g.2.2 vwCl [] s := C.base.va C.warm
theorem PCtx.word {g : GT} {cc : ByteArray} {X : MI} {p : Program} {s : State} {m : MethodId} {meth : Method} {c : Code} (C : PCtx g cc X p s m meth c) {w : Cond} (hw : w ∈ lw_tbl) (hg : goodWord w = true) {args : Array Value} : w.before args s = true := C.base.word hw hg C.warm
theorem PCtx.arr {g : GT} {cc : ByteArray} {X : MI} {p : Program} {s : State} {m : MethodId} {meth : Method} {c : Code} (C : PCtx g cc X p s m meth c) {cA : ClassId} {ty : FieldType} (h1 : ArrOfT g.K cA ty) (h2 : va_RA g.K cA ty) : va_K g.2.2 vwCl [(cA, ty)] s := by
  refine ⟨C.va.1, fun k q hq => ?_⟩
  have hk : k = 0 := by
    have := (List.getElem?_eq_some_iff.mp hq).1
    simp at this
    omega
  subst hk
  cases hq
  exact ⟨arrOfT_moved C.warm.alike h1, h2.moved C.warm.alike⟩
/-- a class of the system: its number, its name, its fields -/
def CK (ci : Nat) (C : String) (T : u_T) (N : Nat) : Prop := vwCl[ci]? = some (C, T, N) ∧ (∀ w ∈ u_ws C T N, w ∈ lw_tbl ∧ goodWord w = true) ∧ (∃ ty0 : Nat → FieldType, ∀ k, k < N → parseFieldDescriptor (T k).2.2.1 = some (ty0 k)) ∧ (∀ a, a < N → ∀ b, b < N → a ≠ b → (T a).2.1 ≠ (T b).2.1)
/-- an entry of a class's pool that names a field -/
def FL (own : String) (idx ci k : Nat) (ty : FieldType) (fin : Bool) : Prop := ∃ (C : String) (T : u_T) (N : Nat), CK ci C T N ∧ k < N ∧ (T k).1 = C ∧ (T k).2.2.2 = fin ∧ (fin = true → C = own) ∧ parseFieldDescriptor (T k).2.2.1 = some ty ∧ ((Cond.fieldLink own idx C (T k).2.1 (T k).2.2.1 ∈ lw_tbl) ∨ ∃ host, Cond.fieldLinkNest own idx C (T k).2.1 (T k).2.2.1 host ∈ lw_tbl)
/-- the same of a final field, written by its own constructor -/
def FLF (own : String) (idx ci k : Nat) (ty : FieldType) : Prop := ∃ (C : String) (T : u_T) (N : Nat), CK ci C T N ∧ k < N ∧ (T k).1 = C ∧ (T k).2.2.2 = true ∧ C = own ∧ parseFieldDescriptor (T k).2.2.1 = some ty ∧ Cond.fieldLink own idx C (T k).2.1 (T k).2.2.1 ∈ lw_tbl
theorem va_P1 {D : va_G} {q : Nat} {e : va_E} {H : Heap} (h : va_at D vwCl (q, e) H) : va_P D vwCl [(q, e)] H := by
  intro k x hx
  have hk : k = 0 := by
    have := (List.getElem?_eq_some_iff.mp hx).1
    simp at this
    omega
  subst hk
  cases hx
  exact h
theorem CK.hts {ci : Nat} {C : String} {T : u_T} {N : Nat} (h : CK ci C T N) {g : GT} {cc : ByteArray} {X : MI} {p : Program} {s : State} {m : MethodId} {meth : Method} {c : Code} (Cx : PCtx g cc X p s m meth c) {args : Array Value} : ∀ w ∈ u_ws C T N, w.before args s = true := fun w hw => Cx.word (h.2.1 w hw).1 (h.2.1 w hw).2
theorem nest_f {g : GT} {cc : ByteArray} {X : MI} {p : Program} {s : State} {m : MethodId} {meth : Method} {c : Code} (Cx : PCtx g cc X p s m meth c) {a : String} {i : Nat} {b n d h : String} (hw : Cond.fieldLinkNest a i b n d h ∈ lw_tbl) {args : Array Value} : (Cond.fieldLinkNest a i b n d h).before args s = true :=
  va_Nw.use rfl (va_Nw.warmF Cx.warm (Cx.base.2.1 _ hw (Or.inl rfl)))
theorem nest_m {g : GT} {cc : ByteArray} {X : MI} {p : Program} {s : State} {m : MethodId} {meth : Method} {c : Code} (Cx : PCtx g cc X p s m meth c) {a : String} {i : Nat} {x : MethodName} {h : String} (hw : Cond.methodLinkNest a i x h ∈ lw_tbl) {args : Array Value} : (Cond.methodLinkNest a i x h).before args s = true :=
  va_Nw.use rfl (va_Nw.warmM Cx.warm (Cx.base.2.1 _ hw (Or.inl rfl)))
theorem locs_add {b : Nat} {locs : List Loc} {a i : Nat} (h : ∀ l ∈ locs, b ≤ l.base) (ha : b ≤ a) : ∀ l ∈ locs ++ [(⟨a, i⟩ : Loc)], b ≤ l.base := by
  intro l hl
  rcases List.mem_append.mp hl with h1 | h1
  · exact h l h1
  · cases List.mem_singleton.mp h1
    exact ha
theorem locs_app {b : Nat} {locs L : List Loc} (h : ∀ l ∈ locs, b ≤ l.base) (ha : ∀ l ∈ L, b ≤ l.base) : ∀ l ∈ locs ++ L, b ≤ l.base := by
  intro l hl
  rcases List.mem_append.mp hl with h1 | h1
  · exact h l h1
  · exact ha l h1
section PROWS2
variable {g : GT} {cc : ByteArray} {X : MI} {pc : Nat} {L : List (Nat × Option Value)} {st : List Value} {S : PS} {kc ks : Nat} {Q : PO → PS → Prop}
theorem r_get {idx ci f q : Nat} {fs : List Value} {ty : FieldType} {fin : Bool} {v : Value} (hd : decode cc pc = .ok (.getfield idx, 3)) (hf : FL X.own idx ci f ty fin) (hq : S.1 q = some (cO ci fs)) (hv : fs[f]? = some v) (k : PW g cc X (pc + 3) L (v :: st) S kc ks Q) : PW g cc X pc L (.ref q :: st) S kc ks Q := by
  intro p e s m args below meth c H locs ls cells slots C hP hz hlo hL h1 h2
  obtain ⟨Cn, T, N, hck, hfN, hT, hfi, hfo, hpd, hl⟩ := hf
  have hp := va_P1 (q := q) (e := .inr (ci, fs)) (hP.2.2.2 q _ hq).2
  have hs : ∀ x, s.fieldFound? (T f).1 (T f).2.1 (T f).2.2.1 = some x → s.fieldFound? Cn (T f).2.1 (T f).2.2.1 = some x := fun x h => by rw [← hT]; exact h
  rcases hl with hl | ⟨host, hl⟩
  · exact va_get C.1 C.2.1 (hck.hts C) (fun _ h => h) C.own C.va hp 0 rfl hck.1 f hfN (C.word hl rfl) hs hv hd (k p e s m args below meth c H locs ls cells slots C hP hz hlo hL h1 h2)
  · exact va_getN C.1 C.2.1 (hck.hts C) (fun _ h => h) C.own C.va hp 0 rfl hck.1 f hfN (nest_f C hl) hs hv hd (k p e s m args below meth c H locs ls cells slots C hP hz hlo hL h1 h2)
theorem r_put {idx ci f q : Nat} {fs : List Value} {ty : FieldType} {v : Value} (hd : decode cc pc = .ok (.putfield idx, 3)) (hf : FL X.own idx ci f ty false) (hq : S.1 q = some (cO ci fs)) (hn : narrow ty v = v) (hfit : fits ty v = true) (hlen : f < fs.length) (k : PW g cc X (pc + 3) L st (ps_put S q (cO ci (fs.set f v))) kc ks Q) : PW g cc X pc L (v :: .ref q :: st) S kc ks Q := by
  intro p e s m args below meth c H locs ls cells slots C hP hz hlo hL h1 h2
  obtain ⟨Cn, T, N, hck, hfN, hT, hfi, hfo, hpd, hl⟩ := hf
  obtain ⟨hb, hat⟩ := hP.2.2.2 q _ hq
  have hat : va_at g.2.2 vwCl (q, .inr (ci, fs)) H := hat
  have hs : ∀ x, s.fieldFound? (T f).1 (T f).2.1 (T f).2.2.1 = some x → s.fieldFound? Cn (T f).2.1 (T f).2.2.1 = some x := fun x h => by rw [← hT]; exact h
  have hts := hck.hts C (args := args)
  obtain ⟨hc, hin, ⟨ty0, hty⟩, hnm⟩ := hck
  have hap := va_apart (own := X.own) hts (fun _ h => h) ty0 hty hnm C.va hc
  obtain ⟨r, h1', cell, q1, q2, q3, q4⟩ := hat
  have hr : r = (Cn, T, N) := Option.some.inj (h1'.symm.trans hc)
  subst hr
  obtain ⟨hS, hfc, kC, hkC, hkind⟩ := C.va.1 ci _ hc
  obtain ⟨cf, kf, fi, fd, hi, hsl⟩ := hS f hfN
  have hlay := hts _ (u_in_lay hfN)
  unfold u_lay at hlay
  rw [if_neg (by rw [hfi]; decide)] at hlay
  have hst := (u_facts hfc hkC (u_lays hts (fun _ h => h) hfN) hi).1
  have h6 := u_store hfc hkC hkind hlay hi hpd hn hfit
  have fin : ∀ H' : Heap, H'[q]? = some (cell.setSlot fd.slot v) → H'.size = H.size → (∀ x, x ≠ q → H'[x]? = H[x]?) → W p g.1 e (roomOf X) s m args below meth c H' (locs ++ [⟨q, fd.slot⟩]) cells slots (vx_MQ below (qC g Q) (qX g Q) args s X.mc X.ms (gA g)) (F0 m (pc + 3) ls st) := by
    intro H' e1 e2 e3
    rw [hsl] at e1
    exact k p e s m args below meth c H' _ ls cells slots C (hP.put hq e2 e3 ⟨_, hc, t_OB.to (V := updV (vp_V fs) f v) ⟨_, e1, q2, q3, t_set q4 hap hfN v⟩ (fun j _ => vp_updV_set hlen v j)⟩) (by rw [e2]; exact hz) (locs_add hlo hb) hL h1 h2
  rcases hl with hl | ⟨host, hl⟩
  · exact W.putK C.1 C.2.1 (f := fd) ⟨C.own, C.word hl rfl, ⟨_, _, _, hs _ hi⟩, hst⟩ (by rw [q2]; exact h6) q1 q3 (by rw [hsl]; exact k2_hasslot (q4 f hfN)) rfl rfl hd fin
  · exact va_WputK C.1 C.2.1 (f := fd) C.own (nest_f C hl) (hs _ hi) hst (by rw [q2]; exact h6) q1 q3 (by rw [hsl]; exact k2_hasslot (q4 f hfN)) rfl rfl hd fin
theorem r_putF {idx ci f q : Nat} {fs : List Value} {ty : FieldType} {v : Value} (hd : decode cc pc = .ok (.putfield idx, 3)) (hf : FLF X.own idx ci f ty) (hini : X.name = "<init>") (hq : S.1 q = some (cO ci fs)) (hn : narrow ty v = v) (hfit : fits ty v = true) (hlen : f < fs.length) (k : PW g cc X (pc + 3) L st (ps_put S q (cO ci (fs.set f v))) kc ks Q) : PW g cc X pc L (v :: .ref q :: st) S kc ks Q := by
  intro p e s m args below meth c H locs ls cells slots C hP hz hlo hL h1 h2
  obtain ⟨Cn, T, N, hck, hfN, hT, hfi, hfo, hpd, hl⟩ := hf
  obtain ⟨hb, hat⟩ := hP.2.2.2 q _ hq
  have hat : va_at g.2.2 vwCl (q, .inr (ci, fs)) H := hat
  have hs : ∀ x, s.fieldFound? (T f).1 (T f).2.1 (T f).2.2.1 = some x → s.fieldFound? Cn (T f).2.1 (T f).2.2.1 = some x := fun x h => by rw [← hT]; exact h
  have hts := hck.hts C (args := args)
  obtain ⟨hc, hin, ⟨ty0, hty⟩, hnm⟩ := hck
  have hap := va_apart (own := X.own) hts (fun _ h => h) ty0 hty hnm C.va hc
  obtain ⟨r, h1', cell, q1, q2, q3, q4⟩ := hat
  have hr : r = (Cn, T, N) := Option.some.inj (h1'.symm.trans hc)
  subst hr
  obtain ⟨hS, hfc, kC, hkC, hkind⟩ := C.va.1 ci _ hc
  obtain ⟨cf, kf, fi, fd, hi, hsl⟩ := hS f hfN
  have hlay := hts _ (u_in_lay hfN)
  unfold u_lay at hlay
  rw [if_pos hfi] at hlay
  have hst := (u_facts hfc hkC (u_lays hts (fun _ h => h) hfN) hi).1
  have hcf : m.cls = cf := by
    obtain ⟨_, _, c', _, _, _, -, -, hf', -, -, -, hown2, -⟩ := Cond.laysFinal_spec hlay
    have e1 : c' = cf := by have := hi.symm.trans hf'; simp at this; exact this.1.symm
    rw [hT, hfo] at hown2
    rw [← e1]; exact Option.some.inj (C.own.symm.trans hown2)
  have h6 := u_fits hfc hkC hkind (Or.inr hlay) hi hpd hn hfit
  refine W.putFinK C.1 C.2.1 C.own (C.word hl rfl) (hs _ hi) hst hcf (C.2.2.2.2.2.2.1.trans hini) (by rw [q2]; exact h6) q1 q3 (by rw [hsl]; exact k2_hasslot (q4 f hfN)) rfl rfl hd fun H' e1 e2 e3 => ?_
  rw [hsl] at e1
  exact k p e s m args below meth c H' _ ls cells slots C (hP.put hq e2 e3 ⟨_, hc, t_OB.to (V := updV (vp_V fs) f v) ⟨_, e1, q2, q3, t_set q4 hap hfN v⟩ (fun j _ => vp_updV_set hlen v j)⟩) (by rw [e2]; exact hz) (locs_add hlo hb) hL h1 h2
theorem q_nat {i : Int} (h0 : 0 ≤ i) : ((i.toNat : Nat) : Int) = i := Int.toNat_of_nonneg h0
theorem r_iald {n q : Nat} {f : Int → Int} {i : Int} (hd : decode cc pc = .ok (.iaload, 1)) (hq : S.1 q = some (cI n f)) (h0 : 0 ≤ i) (hi : i < n) (hn : n < 2147483648) (k : PW g cc X (pc + 1) L (vi (f i) :: st) S kc ks Q) : PW g cc X pc L (vi i :: .ref q :: st) S kc ks Q := by
  intro p e s m args below meth c H locs ls cells slots C hP hz hlo hL h1 h2
  obtain ⟨hin, hcl⟩ := q_ix h0 hi hn
  obtain ⟨cA, a1, a2, a3⟩ := (hP.2.2.2 q _ hq).2
  have kk := k p e s m args below meth c H locs ls cells slots C hP hz hlo hL h1 h2
  refine va_iald C.1 C.2.1 (C.arr a1 a2) (va_P1 (q := q) (e := .inl (cA, n, .inl (fun j => Int32.ofInt (f j)))) a3) 0 0 rfl rfl hin hd ?_
  rw [hcl]
  show W _ _ _ _ _ _ _ _ _ _ _ _ _ _ _ (F0 m (pc + 1) ls (vi (f ((i.toNat : Nat) : Int)) :: st))
  rw [q_nat h0]
  exact kk
theorem r_bald {n q : Nat} {f : Int → Int} {i : Int} (hd : decode cc pc = .ok (.baload, 1)) (hq : S.1 q = some (cB n f)) (h0 : 0 ≤ i) (hi : i < n) (hn : n < 2147483648) (k : PW g cc X (pc + 1) L (vi (f i) :: st) S kc ks Q) : PW g cc X pc L (vi i :: .ref q :: st) S kc ks Q := by
  intro p e s m args below meth c H locs ls cells slots C hP hz hlo hL h1 h2
  obtain ⟨hin, hcl⟩ := q_ix h0 hi hn
  obtain ⟨cA, a1, a2, a3⟩ := (hP.2.2.2 q _ hq).2
  have kk := k p e s m args below meth c H locs ls cells slots C hP hz hlo hL h1 h2
  refine va_bald C.1 C.2.1 (C.arr a1 a2) (va_P1 (q := q) (e := .inl (cA, n, .inl (fun j => Int32.ofInt (f j)))) a3) 0 0 rfl rfl hin hd ?_
  rw [hcl]
  show W _ _ _ _ _ _ _ _ _ _ _ _ _ _ _ (F0 m (pc + 1) ls (vi (f ((i.toNat : Nat) : Int)) :: st))
  rw [q_nat h0]
  exact kk
theorem r_zald {n q : Nat} {f : Int → Int} {i : Int} (hd : decode cc pc = .ok (.baload, 1)) (hq : S.1 q = some (cZ n f)) (h0 : 0 ≤ i) (hi : i < n) (hn : n < 2147483648) (k : PW g cc X (pc + 1) L (vi (f i) :: st) S kc ks Q) : PW g cc X pc L (vi i :: .ref q :: st) S kc ks Q := by
  intro p e s m args below meth c H locs ls cells slots C hP hz hlo hL h1 h2
  obtain ⟨hin, hcl⟩ := q_ix h0 hi hn
  obtain ⟨cA, a1, a2, a3⟩ := (hP.2.2.2 q _ hq).2
  have kk := k p e s m args below meth c H locs ls cells slots C hP hz hlo hL h1 h2
  refine va_zald C.1 C.2.1 (C.arr a1 a2) (va_P1 (q := q) (e := .inl (cA, n, .inl (fun j => Int32.ofInt (f j)))) a3) 0 0 rfl rfl hin hd ?_
  rw [hcl]
  show W _ _ _ _ _ _ _ _ _ _ _ _ _ _ _ (F0 m (pc + 1) ls (vi (f ((i.toNat : Nat) : Int)) :: st))
  rw [q_nat h0]
  exact kk
theorem r_lald {n q : Nat} {f : Int → Int} {i : Int} (hd : decode cc pc = .ok (.laload, 1)) (hq : S.1 q = some (cJ n f)) (h0 : 0 ≤ i) (hi : i < n) (hn : n < 2147483648) (k : PW g cc X (pc + 1) L (vl (f i) :: st) S kc ks Q) : PW g cc X pc L (vi i :: .ref q :: st) S kc ks Q := by
  intro p e s m args below meth c H locs ls cells slots C hP hz hlo hL h1 h2
  obtain ⟨hin, hcl⟩ := q_ix h0 hi hn
  obtain ⟨cA, a1, a2, a3⟩ := (hP.2.2.2 q _ hq).2
  have kk := k p e s m args below meth c H locs ls cells slots C hP hz hlo hL h1 h2
  refine va_lald C.1 C.2.1 (C.arr a1 a2) (va_P1 (q := q) (e := .inl (cA, n, .inr (.inl (fun j => Int64.ofInt (f j))))) a3) 0 0 rfl rfl hin hd ?_
  rw [hcl]
  show W _ _ _ _ _ _ _ _ _ _ _ _ _ _ _ (F0 m (pc + 1) ls (vl (f ((i.toNat : Nat) : Int)) :: st))
  rw [q_nat h0]
  exact kk
theorem r_aald {t n q y : Nat} {Cn : String} {f : Int → Option Nat} {i : Int} (hd : decode cc pc = .ok (.aaload, 1)) (hq : S.1 q = some (cR t n f)) (ht : tyOf t = .object Cn) (h0 : 0 ≤ i) (hi : i < n) (hn : n < 2147483648) (hy : f i = some y) (k : PW g cc X (pc + 1) L (.ref y :: st) S kc ks Q) : PW g cc X pc L (vi i :: .ref q :: st) S kc ks Q := by
  intro p e s m args below meth c H locs ls cells slots C hP hz hlo hL h1 h2
  obtain ⟨hin, hcl⟩ := q_ix h0 hi hn
  obtain ⟨cA, a1, a2, a3⟩ := (hP.2.2.2 q _ hq).2
  have kk := k p e s m args below meth c H locs ls cells slots C hP hz hlo hL h1 h2
  have a1 : ArrOfT g.K cA (tyOf t) := a1
  have a2 : va_RA g.K cA (tyOf t) := a2
  rw [ht] at a1 a2
  refine va_aldq C.1 C.2.1 (C.arr a1 a2) (va_P1 (q := q) (e := .inl (cA, n, .inr (.inr (.inr (.inr (fun j => f j)))))) a3) 0 0 rfl rfl hin hd ?_
  rw [hcl]
  show W _ _ _ _ _ _ _ _ _ _ _ _ _ _ _ (F0 m (pc + 1) ls (va_rf (f ((i.toNat : Nat) : Int)) :: st))
  rw [q_nat h0, hy]
  exact kk
theorem r_alen {q : Nat} {a : Nat × Nat × ((Int → Int) ⊕ (Int → Int) ⊕ (Int → Option Nat))} {z : Int} (hd : decode cc pc = .ok (.arraylength, 1)) (hq : S.1 q = some (.inr a)) (hz : Int32.ofNat a.2.1 = Int32.ofInt z) (k : PW g cc X (pc + 1) L (vi z :: st) S kc ks Q) : PW g cc X pc L (.ref q :: st) S kc ks Q := by
  intro p e s m args below meth c H locs ls cells slots C hP hz' hlo hL h1 h2
  obtain ⟨cA, a1, a2, a3⟩ := (hP.2.2.2 q _ hq).2
  have kk := k p e s m args below meth c H locs ls cells slots C hP hz' hlo hL h1 h2
  refine va_alen C.1 C.2.1 (C.arr a1 a2) (va_P1 (q := q) (e := .inl (cA, vpA a.2)) a3) 0 0 rfl rfl (v := Int32.ofInt z) ?_ hd kk
  rw [← hz]
  obtain ⟨t, n, b⟩ := a
  rcases b with b | b | b <;> rfl
theorem upI_nat {f : Int → Int} {i x : Int} (h0 : 0 ≤ i) : (fun j : Nat => upI f i x (j : Int)) = fun j : Nat => if j = i.toNat then x else f (j : Int) := by
  funext j
  unfold upI
  by_cases e : j = i.toNat
  · rw [if_pos e, if_pos (by rw [e]; exact q_nat h0)]
  · rw [if_neg e, if_neg (fun h => e (by omega))]
theorem r_iast {n q : Nat} {f : Int → Int} {i x : Int} (hd : decode cc pc = .ok (.iastore, 1)) (hq : S.1 q = some (cI n f)) (h0 : 0 ≤ i) (hi : i < n) (hn : n < 2147483648) (k : PW g cc X (pc + 1) L st (ps_put S q (cI n (upI f i x))) kc ks Q) : PW g cc X pc L (vi x :: vi i :: .ref q :: st) S kc ks Q := by
  intro p e s m args below meth c H locs ls cells slots C hP hz hlo hL h1 h2
  obtain ⟨hin, hcl⟩ := q_ix h0 hi hn
  obtain ⟨hb, cA, a1, a2, a3⟩ := hP.2.2.2 q _ hq
  refine W.iast C.1 C.2.1 a3 ((C.arr a1 a2).2 0 _ rfl |>.1 n (fun j => .int (Int32.ofInt (f j)))) (fun h => by cases h) (by show ¬ (_ ∨ (arrV _ _ _).slots.size ≤ _); rw [arrV_size]; exact hin) rfl rfl hd fun H' e1 e2 e3 => ?_
  refine k p e s m args below meth c H' _ ls cells slots C (hP.put hq e2 e3 ⟨cA, a1, a2, ?_⟩) (by rw [e2]; exact hz) (locs_add hlo hb) hL h1 h2
  rw [e1]
  congr 1
  show (arrV cA n (fun j => .int (Int32.ofInt (f j)))).setSlot _ _ = arrV cA n (fun j => .int (Int32.ofInt (upI f i x j)))
  rw [arrV_store, hcl]
  congr 1
  funext j
  have h9 : upI f i x (j : Int) = if j = i.toNat then x else f (j : Int) := congrFun (upI_nat (f := f) (x := x) h0) j
  rw [h9]
  by_cases e : j = i.toNat <;> simp [updV, e]
theorem r_last {n q : Nat} {f : Int → Int} {i x : Int} (hd : decode cc pc = .ok (.lastore, 1)) (hq : S.1 q = some (cJ n f)) (h0 : 0 ≤ i) (hi : i < n) (hn : n < 2147483648) (k : PW g cc X (pc + 1) L st (ps_put S q (cJ n (upI f i x))) kc ks Q) : PW g cc X pc L (vl x :: vi i :: .ref q :: st) S kc ks Q := by
  intro p e s m args below meth c H locs ls cells slots C hP hz hlo hL h1 h2
  obtain ⟨hin, hcl⟩ := q_ix h0 hi hn
  obtain ⟨hb, cA, a1, a2, a3⟩ := hP.2.2.2 q _ hq
  refine W.last C.1 C.2.1 a3 ((C.arr a1 a2).2 0 _ rfl |>.1 n (fun j => .long (Int64.ofInt (f j)))) (fun h => by cases h) (by show ¬ (_ ∨ (arrV _ _ _).slots.size ≤ _); rw [arrV_size]; exact hin) rfl rfl hd fun H' e1 e2 e3 => ?_
  refine k p e s m args below meth c H' _ ls cells slots C (hP.put hq e2 e3 ⟨cA, a1, a2, ?_⟩) (by rw [e2]; exact hz) (locs_add hlo hb) hL h1 h2
  rw [e1]
  congr 1
  show (arrV cA n (fun j => .long (Int64.ofInt (f j)))).setSlot _ _ = arrV cA n (fun j => .long (Int64.ofInt (upI f i x j)))
  rw [arrV_store, hcl]
  congr 1
  funext j
  have h9 : upI f i x (j : Int) = if j = i.toNat then x else f (j : Int) := congrFun (upI_nat (f := f) (x := x) h0) j
  rw [h9]
  by_cases e : j = i.toNat <;> simp [updV, e]
theorem q_byte {x : Int} (h1 : -128 ≤ x) (h2 : x < 128) : (Int32.ofInt x).toInt8.toInt32 = Int32.ofInt x := by
  apply Int32.toInt_inj.mp
  rw [Int8.toInt_toInt32, Int32.toInt_toInt8, q_tI (by omega) (by omega)]
  show x.bmod 256 = x
  exact Int.bmod_eq_of_le (by omega) (by omega)
theorem q_narB {x : Int} (h1 : -128 ≤ x) (h2 : x < 128) : narrow .byte (.int (Int32.ofInt x)) = .int (Int32.ofInt x) := by
  show Value.int (Int32.ofInt x).toInt8.toInt32 = _
  rw [q_byte h1 h2]
theorem q_narZ {x : Int} (h : x = 0 ∨ x = 1) : narrow .boolean (.int (Int32.ofInt x)) = .int (Int32.ofInt x) := by
  rcases h with rfl | rfl <;> rfl
theorem r_bast {n q : Nat} {f : Int → Int} {i x : Int} (hd : decode cc pc = .ok (.bastore, 1)) (hq : S.1 q = some (cB n f)) (h0 : 0 ≤ i) (hi : i < n) (hn : n < 2147483648) (hx : -128 ≤ x ∧ x < 128) (k : PW g cc X (pc + 1) L st (ps_put S q (cB n (upI f i x))) kc ks Q) : PW g cc X pc L (vi x :: vi i :: .ref q :: st) S kc ks Q := by
  intro p e s m args below meth c H locs ls cells slots C hP hz hlo hL h1 h2
  obtain ⟨hin, hcl⟩ := q_ix h0 hi hn
  obtain ⟨hb, cA, a1, a2, a3⟩ := hP.2.2.2 q _ hq
  refine W.bast C.1 C.2.1 a3 ((C.arr a1 a2).2 0 _ rfl |>.1 n (fun j => .int (Int32.ofInt (f j)))) (fun h => by cases h) (by show ¬ (_ ∨ (arrV _ _ _).slots.size ≤ _); rw [arrV_size]; exact hin) rfl rfl hd fun H' e1 e2 e3 => ?_
  refine k p e s m args below meth c H' _ ls cells slots C (hP.put hq e2 e3 ⟨cA, a1, a2, ?_⟩) (by rw [e2]; exact hz) (locs_add hlo hb) hL h1 h2
  rw [e1]
  congr 1
  show (arrV cA n (fun j => .int (Int32.ofInt (f j)))).setSlot _ _ = arrV cA n (fun j => .int (Int32.ofInt (upI f i x j)))
  rw [q_narB hx.1 hx.2]
  rw [arrV_store, hcl]
  congr 1
  funext j
  have h9 : upI f i x (j : Int) = if j = i.toNat then x else f (j : Int) := congrFun (upI_nat (f := f) (x := x) h0) j
  rw [h9]
  by_cases e : j = i.toNat <;> simp [updV, e]
theorem r_zast {n q : Nat} {f : Int → Int} {i x : Int} (hd : decode cc pc = .ok (.bastore, 1)) (hq : S.1 q = some (cZ n f)) (h0 : 0 ≤ i) (hi : i < n) (hn : n < 2147483648) (hx : x = 0 ∨ x = 1) (k : PW g cc X (pc + 1) L st (ps_put S q (cZ n (upI f i x))) kc ks Q) : PW g cc X pc L (vi x :: vi i :: .ref q :: st) S kc ks Q := by
  intro p e s m args below meth c H locs ls cells slots C hP hz hlo hL h1 h2
  obtain ⟨hin, hcl⟩ := q_ix h0 hi hn
  obtain ⟨hb, cA, a1, a2, a3⟩ := hP.2.2.2 q _ hq
  refine W.zast C.1 C.2.1 a3 ((C.arr a1 a2).2 0 _ rfl |>.1 n (fun j => .int (Int32.ofInt (f j)))) (fun h => by cases h) (by show ¬ (_ ∨ (arrV _ _ _).slots.size ≤ _); rw [arrV_size]; exact hin) rfl rfl hd fun H' e1 e2 e3 => ?_
  refine k p e s m args below meth c H' _ ls cells slots C (hP.put hq e2 e3 ⟨cA, a1, a2, ?_⟩) (by rw [e2]; exact hz) (locs_add hlo hb) hL h1 h2
  rw [e1]
  congr 1
  show (arrV cA n (fun j => .int (Int32.ofInt (f j)))).setSlot _ _ = arrV cA n (fun j => .int (Int32.ofInt (upI f i x j)))
  rw [q_narZ hx]
  rw [arrV_store, hcl]
  congr 1
  funext j
  have h9 : upI f i x (j : Int) = if j = i.toNat then x else f (j : Int) := congrFun (upI_nat (f := f) (x := x) h0) j
  rw [h9]
  by_cases e : j = i.toNat <;> simp [updV, e]
theorem upR_nat {f : Int → Option Nat} {i : Int} {x : Option Nat} (h0 : 0 ≤ i) : (fun j : Nat => upR f i x (j : Int)) = fun j : Nat => if j = i.toNat then x else f (j : Int) := by
  funext j
  unfold upR
  by_cases e : j = i.toNat
  · rw [if_pos e, if_pos (by rw [e]; exact q_nat h0)]
  · rw [if_neg e, if_neg (fun h => e (by omega))]
theorem r_aast {t n q v ci : Nat} {Cn : String} {T : u_T} {N : Nat} {vs : List Value} {f : Int → Option Nat} {i : Int} (hd : decode cc pc = .ok (.aastore, 1)) (hq : S.1 q = some (cR t n f)) (ht : tyOf t = .object Cn) (hc : vwCl[ci]? = some (Cn, T, N)) (hv : S.1 v = some (cO ci vs)) (h0 : 0 ≤ i) (hi : i < n) (hn : n < 2147483648) (k : PW g cc X (pc + 1) L st (ps_put S q (cR t n (upR f i (some v)))) kc ks Q) : PW g cc X pc L (.ref v :: vi i :: .ref q :: st) S kc ks Q := by
  intro p e s m args below meth c H locs ls cells slots C hP hz hlo hL h1 h2
  obtain ⟨hin, hcl⟩ := q_ix h0 hi hn
  obtain ⟨hb, cA, a1, a2, a3⟩ := hP.2.2.2 q _ hq
  have b1 : ArrOfT g.K cA (tyOf t) := a1
  have b2 : va_RA g.K cA (tyOf t) := a2
  rw [ht] at b1 b2
  have hlt : (Int32.ofInt i).toNatClampNeg < n := Nat.not_le.mp fun q => hin (Or.inr q)
  have h00 : ¬ Int32.ofInt i < 0 := fun q => hin (Or.inl q)
  obtain ⟨r', hr', cellV, g1, g2, g3, -⟩ := (hP.2.2.2 v _ hv).2
  have hcls := (C.va.1 ci _ hc).2
  obtain ⟨kA, comp, k1, k2, k3, -⟩ := ((C.arr b1 b2).2 0 _ rfl).2
  have hcomp : comp = g.2.2.1 ci := Option.some.inj (k3.symm.trans hcls.1)
  subst hcomp
  obtain ⟨kC, hkC, -⟩ := hcls.2
  refine W.aast C.1 C.2.1 a3 (fun q h => by cases h) (fun h => by cases h) k1 k2 rfl hkC ⟨h00, by show _ < (arrV _ _ _).slots.size; rw [arrV_size]; exact hlt⟩ g1 (fun q h => by rw [g3] at h; cases h) (by rw [g2]; exact hkC) (by rw [g2]; exact va_assign hcls) rfl rfl hd fun H' e1 e2 e3 => ?_
  refine k p e s m args below meth c H' _ ls cells slots C (hP.put hq e2 e3 ⟨cA, a1, a2, ?_⟩) (by rw [e2]; exact hz) (locs_add hlo hb) hL h1 h2
  rw [e1]
  congr 1
  show (arrV cA n (fun j => va_rf (f j))).setSlot _ _ = arrV cA n (fun j => va_rf (upR f i (some v) j))
  rw [arrV_store, hcl]
  congr 1
  funext j
  have h9 : upR f i (some v) (j : Int) = if j = i.toNat then some v else f (j : Int) := congrFun (upR_nat (f := f) (x := some v) h0) j
  rw [h9]
  by_cases e : j = i.toNat <;> simp [updV, e, va_rf]
/-- an entry that names a class whose objects can be made -/
def NL (own : String) (idx ci N : Nat) (fs : List Value) : Prop := ∃ (C : String) (T : u_T) (ty0 : Nat → FieldType), CK ci C T N ∧ (∀ k, k < N → parseFieldDescriptor (T k).2.2.1 = some (ty0 k)) ∧ (∀ j, j < N → defaultValue (ty0 j) = vp_V fs j) ∧ Cond.classLink own idx C ∈ lw_tbl ∧ Cond.instantiable C N ∈ lw_tbl ∧ Cond.initialized C ∈ lw_tbl
theorem r_new {idx ci N : Nat} {fs : List Value} (hd : decode cc pc = .ok (.new idx, 3)) (hf : NL X.own idx ci N fs) (k : (∀ a e, S.1 a = some e → a < S.2) → PW g cc X (pc + 3) L (.ref S.2 :: st) (ps_new S (cO ci fs)) kc ks Q) : PW g cc X pc L st S (kc + 1) (ks + N) Q := by
  intro p e s m args below meth c H locs ls cells slots C hP hz hlo hL h1 h2
  obtain ⟨Cn, T, ty0, hck, hty, hfs, w1, w2, w3⟩ := hf
  have hKn := C.va.1 ci _ hck.1
  refine W.newcK C.1 C.2.1 C.own (C.word w1 rfl) (C.word w2 rfl) (C.word w3 rfl) rfl hd (by show cells + 1 ≤ X.mc; omega) (by show slots + N ≤ X.ms; omega) hKn.2.1 hP.1 fun H1 kC hkC e1 z1 o1 => ?_
  refine k (fun a e h => hP.lt h) p e s m args below meth c H1 locs ls (cells + 1) (slots + N) C (hP.new (by rw [z1, hP.1]) (fun x hx => o1 x (by rw [← hP.1]; exact hx)) ?_) (by rw [z1]; have := hP.1; omega) hlo hL (by omega) (by omega)
  exact ⟨_, hck.1, (u_born ty0 (hck.hts C (args := args)) (fun _ h => h) hKn hkC e1 hty).to hfs⟩
theorem q_cl {N : Nat} (hN : N < 2147483648) : ¬ Int32.ofInt (N : Int) < 0 ∧ (Int32.ofInt (N : Int)).toNatClampNeg = N := by
  have e : (Int32.ofInt (N : Int)).toInt = N := q_tI (by omega) (by omega)
  refine ⟨?_, ?_⟩
  · rw [Int32.lt_iff_toInt_lt, e]
    show ¬ ((N : Int) < 0)
    omega
  · show (Int32.ofInt (N : Int)).toInt.toNat = N
    rw [e]
    rfl
theorem RA_back {g : GT} {s : State} {cA : ClassId} {ty : FieldType} (h : g.K.WarmedH s.vm) (a : ArrOfT s cA ty) (b : va_RA s cA ty) : ArrOfT g.K cA ty ∧ va_RA g.K cA ty := ⟨arrOfT_moved h.alike.symm a, b.moved h.alike.symm⟩
theorem r_newa {N : Nat} {atype : ArrayType} {t : Nat} {e0 : (Int → Int) ⊕ (Int → Int) ⊕ (Int → Option Nat)} (hd : decode cc pc = .ok (.newarray atype, 2)) (hty : newarray.typeOf atype = tyOf t) (hp : ∀ (U : State) (cA : ClassId), U.vm.findClass ("[" ++ (tyOf t).toString) = some cA → va_RA U cA (tyOf t)) (harr : Cond.arrayClass (tyOf t) ∈ lw_tbl) (he : ∀ cA, vp_cell cA (vpA (N, e0)) = arrV cA N (fun _ => defaultValue (tyOf t))) (hN : N < 100000) (hb : componentBytes (tyOf t) ≤ 8) (k : (∀ a e, S.1 a = some e → a < S.2) → PW g cc X (pc + 2) L (.ref S.2 :: st) (ps_new S (.inr (t, N, e0))) kc ks Q) : PW g cc X pc L (vi (N : Int) :: st) S (kc + 1) (ks + N) Q := by
  intro p e s m args below meth c H locs ls cells slots C hP hz hlo hL h1 h2
  obtain ⟨c1, c2⟩ := q_cl (N := N) (by omega)
  refine va_newaK C.1 C.2.1 (atype := atype) (by rw [hty]; exact C.word harr rfl) rfl hd rfl c1 c2 (by rw [hty]; have := Nat.mul_le_mul (Nat.le_of_lt hN) hb; omega) (by show cells + 1 ≤ X.mc; omega) (by show slots + N ≤ X.ms; omega) hP.1 fun H1 cA e1 z1 o1 hAr hNm => ?_
  rw [hty] at hAr hNm e1
  obtain ⟨g1, g2⟩ := RA_back C.warm hAr (hp s cA hNm)
  refine k (fun a e h => hP.lt h) p e s m args below meth c H1 locs ls (cells + 1) (slots + N) C (hP.new (by rw [z1, hP.1]) (fun x hx => o1 x (by rw [← hP.1]; exact hx)) ⟨cA, g1, g2, ?_⟩) (by rw [z1]; have := hP.1; omega) hlo hL (by omega) (by omega)
  show H1[S.2]? = some (vp_cell cA (vpA (N, e0)))
  rw [he]
  exact e1
theorem r_newI {N : Nat} (hd : decode cc pc = .ok (.newarray .int, 2)) (harr : Cond.arrayClass .int ∈ lw_tbl) (hN : N < 100000) (k : (∀ a e, S.1 a = some e → a < S.2) → PW g cc X (pc + 2) L (.ref S.2 :: st) (ps_new S (cI N (fun _ => 0))) kc ks Q) : PW g cc X pc L (vi (N : Int) :: st) S (kc + 1) (ks + N) Q :=
  r_newa (t := 0) (e0 := .inl (fun _ => 0)) hd rfl (fun _ _ h => h) harr (fun _ => rfl) hN (by decide) k
theorem r_newJ {N : Nat} (hd : decode cc pc = .ok (.newarray .long, 2)) (harr : Cond.arrayClass .long ∈ lw_tbl) (hN : N < 100000) (k : (∀ a e, S.1 a = some e → a < S.2) → PW g cc X (pc + 2) L (.ref S.2 :: st) (ps_new S (cJ N (fun _ => 0))) kc ks Q) : PW g cc X pc L (vi (N : Int) :: st) S (kc + 1) (ks + N) Q :=
  r_newa (t := 1) (e0 := .inr (.inl (fun _ => 0))) hd rfl (fun _ _ h => h) harr (fun _ => rfl) hN (by decide) k
theorem r_newB {N : Nat} (hd : decode cc pc = .ok (.newarray .byte, 2)) (harr : Cond.arrayClass .byte ∈ lw_tbl) (hN : N < 100000) (k : (∀ a e, S.1 a = some e → a < S.2) → PW g cc X (pc + 2) L (.ref S.2 :: st) (ps_new S (cB N (fun _ => 0))) kc ks Q) : PW g cc X pc L (vi (N : Int) :: st) S (kc + 1) (ks + N) Q :=
  r_newa (t := 2) (e0 := .inl (fun _ => 0)) hd rfl (fun _ _ h => h) harr (fun _ => rfl) hN (by decide) k
theorem r_newZ {N : Nat} (hd : decode cc pc = .ok (.newarray .boolean, 2)) (harr : Cond.arrayClass .boolean ∈ lw_tbl) (hN : N < 100000) (k : (∀ a e, S.1 a = some e → a < S.2) → PW g cc X (pc + 2) L (.ref S.2 :: st) (ps_new S (cZ N (fun _ => 0))) kc ks Q) : PW g cc X pc L (vi (N : Int) :: st) S (kc + 1) (ks + N) Q :=
  r_newa (t := 3) (e0 := .inl (fun _ => 0)) hd rfl (fun _ _ h => h) harr (fun _ => rfl) hN (by decide) k
theorem r_newq {idx N t : Nat} {Cn : String} (hd : decode cc pc = .ok (.anewarray idx, 3)) (ht : tyOf t = .object Cn) (w1 : Cond.classLink X.own idx Cn ∈ lw_tbl) (w2 : Cond.arrayOver (.object Cn) ∈ lw_tbl) (hN : N < 100000) (k : (∀ a e, S.1 a = some e → a < S.2) → PW g cc X (pc + 3) L (.ref S.2 :: st) (ps_new S (cR t N (fun _ => none))) kc ks Q) : PW g cc X pc L (vi (N : Int) :: st) S (kc + 1) (ks + N) Q := by
  intro p e s m args below meth c H locs ls cells slots C hP hz hlo hL h1 h2
  obtain ⟨c1, c2⟩ := q_cl (N := N) (by omega)
  have hAO : va_AO Cn s := va_AO.moved C.warm.alike (C.base.2.2.2.2.2.2.1 _ w2)
  refine W.anew C.1 C.2.1 C.own (C.word w1 rfl) (va_AO.use hAO) rfl hd rfl c1 (by rw [c2]; omega) (by show cells + 1 ≤ X.mc; omega) (by rw [c2]; show slots + N ≤ X.ms; omega) fun cA kA comp f1 f2 f3 f4 => ?_
  generalize hH1 : H.push ({ cls := cA, slots := Array.replicate (Int32.ofInt (N : Int)).toNatClampNeg .null, vm := .none } : Cell) = H1
  rw [c2] at hH1 ⊢
  have z1 : H1.size = H.size + 1 := by rw [← hH1, Array.size_push]
  have e1 : H1[H.size]? = some (arrV cA N (fun _ => .null)) := by rw [← hH1, Array.getElem?_push_size, ← arrV_new]
  have o1 : ∀ q : Nat, q < H.size → H1[q]? = H[q]? := fun q hq => by rw [← hH1, Array.getElem?_push, if_neg (Nat.ne_of_lt hq)]
  have hAr : ArrOfT s cA (.object Cn) := fun N z => ⟨(fun k h => by cases h), kA, f2, comp, f3⟩
  obtain ⟨g1, g2⟩ := RA_back C.warm hAr ⟨kA, comp, f2, f3, f4, f1⟩
  have kk := k (fun a e h => hP.lt h) p e s m args below meth c H1 locs ls (cells + 1) (slots + N) C (hP.new z1 o1 ⟨cA, by rw [ht]; exact g1, by rw [ht]; exact g2, by show H1[S.2]? = some (arrV cA N (fun _ => .null)); rw [← hP.1]; exact e1⟩) (by rw [z1]; omega) hlo hL (by omega) (by omega)
  rw [hP.1]
  exact kk
end PROWS2
end
section
section PROWS3
variable {g : GT} {cc : ByteArray} {X : MI} {pc : Nat} {L : List (Nat × Option Value)} {st : List Value} {S : PS} {kc ks : Nat} {Q : PO → PS → Prop}
theorem PR.of {p : Program} {s t : State} {m : MethodId} {meth : Method} {c : Code} {H : Heap} (C : PCtx g cc X p s m meth c) (hP : PHp g S H) (ht : t.heap = H) (hW : s.WarmedH t.vm) : PR g S t :=
  ⟨C.base, State.WarmedH.trans C.warm hW, by rw [ht]; exact hP⟩
theorem F_of {p : Program} {s t : State} {m : MethodId} {meth : Method} {c : Code} {H : Heap} (C : PCtx g cc X p s m meth c) (hP : PHp g S H) (hz : s.heap.size ≤ H.size) (ht : t.heap = H) : va_F (gA g) s t :=
  ⟨by rw [ht]; exact hz, fun q h1 h2 => by rw [ht, hP.2.2.1 q (Nat.not_le.mp h2)]; exact (C.2.2.2.2.2.2.2.2.2.2.2 q (Nat.not_le.mp h2)).symm⟩
theorem r_iret {z : Int} {ty : FieldType} (hd : decode cc pc = .ok (.ireturn, 1)) (hr : X.ret = some ty) (hn : narrow ty (vi z) = vi z) (hq : Q (.inl (some (vi z))) S) : PW g cc X pc L [vi z] S kc ks Q := by
  intro p e s m args below meth c H locs ls cells slots C hP hz hlo hL h1 h2
  refine W.widen (k := X.mc) (n := X.ms) (by omega) (by omega) (vx_ret ?_)
  exact W.zret C.1 C.2.1 (C.2.2.2.2.1.trans hr) hn (fun t ht hW => ⟨⟨_, S, rfl, hq, PR.of C hP ht hW⟩, F_of C hP hz ht⟩) hlo hd C.2.2.2.2.2.1
theorem r_lret {z : Int} (hd : decode cc pc = .ok (.lreturn, 1)) (hr : X.ret = some .long) (hq : Q (.inl (some (vl z))) S) : PW g cc X pc L [vl z] S kc ks Q := by
  intro p e s m args below meth c H locs ls cells slots C hP hz hlo hL h1 h2
  refine W.widen (k := X.mc) (n := X.ms) (by omega) (by omega) (vx_ret ?_)
  exact W.lret C.1 C.2.1 (C.2.2.2.2.1.trans hr) (fun t ht hW => ⟨⟨_, S, rfl, hq, PR.of C hP ht hW⟩, F_of C hP hz ht⟩) hlo hd C.2.2.2.2.2.1
theorem r_aret {q : Nat} {Cn : String} (hd : decode cc pc = .ok (.areturn, 1)) (hr : X.ret = some (.object Cn)) (hq : Q (.inl (some (.ref q))) S) : PW g cc X pc L [.ref q] S kc ks Q := by
  intro p e s m args below meth c H locs ls cells slots C hP hz hlo hL h1 h2
  refine W.widen (k := X.mc) (n := X.ms) (by omega) (by omega) (vx_ret ?_)
  exact W.aret C.1 C.2.1 (C.2.2.2.2.1.trans hr) (Or.inl ⟨_, rfl⟩) (Or.inr ⟨_, rfl⟩) (fun t ht hW => ⟨⟨_, S, rfl, hq, PR.of C hP ht hW⟩, F_of C hP hz ht⟩) hlo hd C.2.2.2.2.2.1
theorem r_vret (hd : decode cc pc = .ok (.return_, 1)) (hr : X.ret = none) (hq : Q (.inl none) S) : PW g cc X pc L [] S kc ks Q := by
  intro p e s m args below meth c H locs ls cells slots C hP hz hlo hL h1 h2
  refine W.widen (k := X.mc) (n := X.ms) (by omega) (by omega) (vx_ret ?_)
  exact W.vret C.1 C.2.1 (C.2.2.2.2.1.trans hr) (fun t ht hW => ⟨⟨_, S, rfl, hq, PR.of C hP ht hW⟩, F_of C hP hz ht⟩) hlo hd C.2.2.2.2.2.1
/-- fewer locals -/
def lsub : List (Nat × Option Value) → List (Nat × Option Value) → Prop
  | [], _ => True
  | (i, v) :: t, L => (v = lk L i ∨ v = none) ∧ lsub t L
theorem lsub_lk {L : List (Nat × Option Value)} : ∀ {L' : List (Nat × Option Value)}, lsub L' L → ∀ (i : Nat) (v : Value), lk L' i = some v → lk L i = some v
  | [], _, i, v, h => by cases h
  | (j, w) :: t, hs, i, v, h => by
    obtain ⟨h1, h2⟩ := hs
    cases hb : Nat.beq j i with
    | true =>
      have e := Nat.eq_of_beq_eq_true hb
      subst e
      have hw : w = some v := by simpa [lk, hb] using h
      rcases h1 with h1 | h1
      · rw [← h1, hw]
      · rw [h1] at hw; cases hw
    | false => exact lsub_lk h2 i v (by simpa [lk, hb] using h)
theorem r_loc (L' : List (Nat × Option Value)) (h : lsub L' L) (k : PW g cc X pc L' st S kc ks Q) : PW g cc X pc L st S kc ks Q :=
  fun p e s m args below meth c H locs ls cells slots C hP hz hlo hL h1 h2 => k p e s m args below meth c H locs ls cells slots C hP hz hlo ⟨hL.1, hL.2.1, fun i v hv => hL.2.2 i v (lsub_lk h i v hv)⟩ h1 h2
theorem r_bud {kc' ks' : Nat} (h1 : kc' ≤ kc) (h2 : ks' ≤ ks) (k : PW g cc X pc L st S kc' ks' Q) : PW g cc X pc L st S kc ks Q :=
  fun p e s m args below meth c H locs ls cells slots C hP hz hlo hL g1 g2 => k p e s m args below meth c H locs ls cells slots C hP hz hlo hL (by omega) (by omega)
theorem r_mono {Q' : PO → PS → Prop} (h : ∀ o S', Q' o S' → Q o S') (k : PW g cc X pc L st S kc ks Q') : PW g cc X pc L st S kc ks Q := by
  intro p e s m args below meth c H locs ls cells slots C hP hz hlo hL h1 h2 T hT Xs
  obtain ⟨t, a, o, b1, b2, b3⟩ := k p e s m args below meth c H locs ls cells slots C hP hz hlo hL h1 h2 T hT Xs
  refine ⟨t, a, o, b1, b2, ?_⟩
  rcases b3 with ⟨⟨⟨v, S', c1, c2, c3⟩, c4⟩, c5⟩ | ⟨q, c1, E, ce, L1, ⟨⟨S', c2, c3⟩, c4⟩, c5⟩
  · exact Or.inl ⟨⟨⟨v, S', c1, h _ _ c2, c3⟩, c4⟩, c5⟩
  · exact Or.inr ⟨q, c1, E, ce, L1, ⟨⟨S', h _ _ c2, c3⟩, c4⟩, c5⟩
/-- the heap is given by another name -/
theorem r_ps {S' : PS} (h : S = S') (k : PW g cc X pc L st S' kc ks Q) : PW g cc X pc L st S kc ks Q := h ▸ k
-- ===== into a body =====
def La : Nat → List Value → List (Nat × Option Value)
  | _, [] => []
  | i, v :: vs => (i, some v) :: La (if v.category = 2 then i + 2 else i + 1) vs
theorem La_lk : ∀ (vs : List Value) (i j : Nat) (v : Value), lk (La i vs) j = some v → (j, v) ∈ lv_args i vs
  | [], _, _, _, h => by cases h
  | w :: vs, i, j, v, h => by
    cases hb : Nat.beq i j with
    | true =>
      have e := Nat.eq_of_beq_eq_true hb
      subst e
      have hw : w = v := by simpa [La, lk, hb] using h
      subst hw
      exact List.mem_cons_self
    | false => exact List.mem_cons_of_mem _ (La_lk vs _ j v (by simpa [La, lk, hb] using h))
theorem PC_of {y : MethodName} {av : List Value} (hy : plainName y.cls = true) (ho : X.own = y.cls) (hnm : X.name = y.name) (hh : X.hh = []) (hlen : (lg_sl av).length ≤ X.nL) (k : PW g cc X 0 (La 0 av) [] S X.mc X.ms Q) : PC g y cc X av S Q := by
  have hw : WD y cc X = [Cond.code y cc X.nL X.ret] := by unfold WD; rw [if_pos hh]
  refine vx_ofW (cc := cc) (maxL := X.nL) (ret := X.ret) hy hw ?_
  intro p e s m args below meth c s₁ B hml htab hv
  obtain ⟨rfl, hb, hW, hP⟩ := hv
  have hl := lv_entry av (n := X.nL) hlen
  have ht : c.exceptionTable.toList = tableOf X.hh := by rw [hh]; exact List.eq_nil_iff_forall_not_mem.mpr htab
  have h := k p e s m av.toArray below meth c s.heap [] _ 0 0 ⟨B.exec, B.bytes, hml, by rw [ho]; exact findClass_of_methodNamed B.named, B.returns, B.notSynchronized, by rw [hnm]; exact (name_of_methodNamed B.named B.method).1, ht, hb, hW, hP.2.1, hP.2.2.1⟩ hP (Nat.le_refl _) (fun _ h => by cases h) ⟨hl.1, hl.2.1, fun i v hv => hl.2.2 (i, v) (La_lk av 0 i v hv)⟩ (by omega) (by omega)
  rw [lg_entry_eq]
  exact h
theorem PC_ofH {y : MethodName} {av : List Value} (hy : plainName y.cls = true) (ho : X.own = y.cls) (hnm : X.name = y.name) (hh : X.hh ≠ []) (hlen : (lg_sl av).length ≤ X.nL) (k : PW g cc X 0 (La 0 av) [] S X.mc X.ms Q) : PC g y cc X av S Q := by
  have hw : WD y cc X = [Cond.codeWith y cc X.nL X.ret X.hh] := by unfold WD; rw [if_neg hh]
  refine vx_ofWH (cc := cc) (maxL := X.nL) (ret := X.ret) (hh := X.hh) hy hw ?_
  intro p e s m args below meth c s₁ B hml hv
  obtain ⟨rfl, hb, hW, hP⟩ := hv
  have hl := lv_entry av (n := X.nL) hlen
  have ht : c.exceptionTable.toList = tableOf X.hh := vx_table (x := y) B (atoms_spec (ws := WD y cc X) B.pre _ (by rw [hw]; exact List.mem_cons_self))
  have h := k p e s m av.toArray below meth c s.heap [] _ 0 0 ⟨B.exec, B.bytes, hml, by rw [ho]; exact findClass_of_methodNamed B.named, B.returns, B.notSynchronized, by rw [hnm]; exact (name_of_methodNamed B.named B.method).1, ht, hb, hW, hP.2.1, hP.2.2.1⟩ hP (Nat.le_refl _) (fun _ h => by cases h) ⟨hl.1, hl.2.1, fun i v hv => hl.2.2 (i, v) (La_lk av 0 i v hv)⟩ (by omega) (by omega)
  rw [lg_entry_eq]
  exact h
theorem PC.mono {y : MethodName} {av : List Value} {Q' : PO → PS → Prop} (h : ∀ o S', Q' o S' → Q o S') (k : PC g y cc X av S Q') : PC g y cc X av S Q := by
  intro p e ha hc hk s m args below hf happ hP hK
  obtain ⟨n, o, c1, c2, c3, c4⟩ := k p e ha hc hk s m args below hf happ hP hK
  refine ⟨n, o, c1, c2, c3, ?_⟩
  rcases c4 with ⟨⟨⟨v, S', d1, d2, d3⟩, d4⟩, d5⟩ | ⟨q, d1, E, ce, L1, ⟨⟨S', d2, d3⟩, d4⟩, d5⟩
  · exact Or.inl ⟨⟨⟨v, S', d1, h _ _ d2, d3⟩, d4⟩, d5⟩
  · exact Or.inr ⟨q, d1, E, ce, L1, ⟨⟨S', h _ _ d2, d3⟩, d4⟩, d5⟩
theorem PC.met {y : MethodName} {av : List Value} (k : PC g y cc X av S Q) (hn : ∀ E S', ¬ Q (.inr E) S') : Met g.1 y (WD y cc X) (roomOf X) (va_Pc av (fun U => PR g S U)) (qC g Q) X.mc X.ms (gA g) := by
  intro p e ha hc hk s m args below hf happ hP hK
  obtain ⟨n, o, c1, c2, c3, c4⟩ := k p e ha hc hk s m args below hf happ hP hK
  refine ⟨n, o, c1, c2, c3, ?_⟩
  rcases c4 with c4 | ⟨q, d1, E, ce, L1, ⟨⟨S', d2, d3⟩, d4⟩, d5⟩
  · exact c4
  · exact absurd d2 (hn E S')
-- ===== an exception on its way =====
theorem px_out {E : String} (hh : X.hh = []) (hq : Q (.inr E) S) : PX g cc X pc L S kc ks Q E := by
  intro p e s m args below meth c H locs ls cells slots rest q ce C hP hz hlo hL h1 h2 hce hcv hcl
  refine vx_out (by rw [C.2.2.2.2.2.2.2.1, hh]; intro x hx; cases hx) C.2.2.2.2.2.1 hce hcv hcl (fun t ht hW => ⟨⟨S, hq, by rw [ht]; exact hP⟩, F_of C hP hz ht⟩) hlo (by omega) (by omega)
end PROWS3
end
section
def MQ0 (y : MethodName) (cc' : ByteArray) (X' : MI) (n : Nat) : Prop := X'.hh = [] ∧ (y.cls ≠ "java/lang/invoke/MethodHandle" ∧ y.cls ≠ "java/lang/invoke/VarHandle") ∧ (parseMethodDescriptor y.desc).map (fun d => d.parameters.length) = some n ∧ Cond.code y cc' X'.nL X'.ret ∈ lw_tbl ∧ Cond.initialized y.cls ∈ lw_tbl
def MQv (y : MethodName) (cc' : ByteArray) (X' : MI) (n : Nat) : Prop := MQ0 y cc' X' n ∧ Cond.instanceMethod y ∈ lw_tbl ∧ Cond.selects y.cls y y ∈ lw_tbl
def MQs (y : MethodName) (cc' : ByteArray) (X' : MI) (n : Nat) : Prop := MQ0 y cc' X' n ∧ Cond.static y ∈ lw_tbl
def MQi (y : MethodName) (cc' : ByteArray) (X' : MI) (n : Nat) : Prop := MQ0 y cc' X' n ∧ Cond.instanceMethod y ∈ lw_tbl ∧ y.name = "<init>"
/-- a method with an exception table -/
def MQw (y : MethodName) (cc' : ByteArray) (X' : MI) (n : Nat) : Prop := X'.hh ≠ [] ∧ (y.cls ≠ "java/lang/invoke/MethodHandle" ∧ y.cls ≠ "java/lang/invoke/VarHandle") ∧ (parseMethodDescriptor y.desc).map (fun d => d.parameters.length) = some n ∧ Cond.codeWith y cc' X'.nL X'.ret X'.hh ∈ lw_tbl ∧ Cond.initialized y.cls ∈ lw_tbl ∧ Cond.static y ∈ lw_tbl
/-- what the caller has for the callee -/
def RM (X X' : MI) : Prop := X'.fr + 1 ≤ X.fr ∧ 8 + (X'.nL + 11) + X'.lo ≤ X.lo
def Rt (v : Option Value) (S1 : PS) : PO → PS → Prop := fun o S' => o = .inl v ∧ S' = S1
section PROWS4
variable {g : GT} {cc : ByteArray} {X : MI} {pc : Nat} {L : List (Nat × Option Value)} {st : List Value} {S : PS} {kc ks : Nat} {Q : PO → PS → Prop}
theorem pc_blind {av : List Value} : FrameBlind (va_Pc av (fun U => PR g S U)) := fun _ _ _ _ h => ⟨h.1, h.2⟩
theorem len_of {y : MethodName} {n : Nat} (h2 : (parseMethodDescriptor y.desc).map (fun d => d.parameters.length) = some n) : ∀ sig, parseMethodDescriptor y.desc = some sig → n = sig.parameters.length := by
  intro sig h
  rw [h] at h2
  exact (Option.some.inj h2).symm
theorem pre_s {p : Program} {s : State} {m : MethodId} {meth : Method} {c : Code} {H : Heap} {av : List Value} (C : PCtx g cc X p s m meth c) (hP : PHp g S H) : PreS s H (va_Pc av (fun U => PR g S U)) av :=
  ⟨pc_blind, fun U hU hW => ⟨rfl, C.base, State.WarmedH.trans C.warm hW, by rw [hU]; exact hP⟩⟩
theorem pre_v {p : Program} {s : State} {m : MethodId} {meth : Method} {c : Code} {H : Heap} {b ci : Nat} {fs av : List Value} {Cn : String} {T : u_T} {N : Nat} (C : PCtx g cc X p s m meth c) (hP : PHp g S H) (hb : S.1 b = some (cO ci fs)) (hci : vwCl[ci]? = some (Cn, T, N)) : PreV s H Cn b (va_Pc (.ref b :: av) (fun U => PR g S U)) av :=
  ⟨pc_blind, va_recv C.va (va_P1 (q := b) (e := .inr (ci, fs)) (hP.2.2.2 b _ hb).2) (q0 := 0) hci rfl, fun U hU hW => ⟨rfl, C.base, State.WarmedH.trans C.warm hW, by rw [hU]; exact hP⟩⟩
theorem cb_of {p : Program} {s : State} {m : MethodId} {meth : Method} {c : Code} {args : Array Value} {y : MethodName} {cc' : ByteArray} {X' : MI} {n idx : Nat} (C : PCtx g cc X p s m meth c) (hm : MQ0 y cc' X' n) (hr : RM X X') (hl : Cond.methodLink X.own idx y ∈ lw_tbl) : CallB (roomOf X) s args X.own idx y cc' X'.nL X'.ret (WD y cc' X') (roomOf X') X'.mc X'.ms n := by
  obtain ⟨h1, h2, h3, h4, h5⟩ := hm
  have hw : WD y cc' X' = [Cond.code y cc' X'.nL X'.ret] := by unfold WD; rw [if_pos h1]
  refine ⟨rfl, rfl, hr.1, hr.2, fun w hw' a' U hW => ?_, by rw [hw]; exact List.mem_cons_self, C.word h4 rfl, C.word h5 rfl, h2, len_of h3, C.word hl rfl⟩
  rw [hw] at hw'
  cases List.mem_singleton.mp hw'
  exact C.base.word h4 rfl (State.WarmedH.trans C.warm hW)
theorem cn_of {p : Program} {s : State} {m : MethodId} {meth : Method} {c : Code} {args : Array Value} {y : MethodName} {cc' : ByteArray} {X' : MI} {n idx : Nat} {host : String} (C : PCtx g cc X p s m meth c) (hm : MQ0 y cc' X' n) (hr : RM X X') (hl : Cond.methodLinkNest X.own idx y host ∈ lw_tbl) : va_CN (roomOf X) s args X.own idx y host cc' X'.nL X'.ret (WD y cc' X') (roomOf X') X'.mc X'.ms n := by
  obtain ⟨h1, h2, h3, h4, h5⟩ := hm
  have hw : WD y cc' X' = [Cond.code y cc' X'.nL X'.ret] := by unfold WD; rw [if_pos h1]
  refine ⟨⟨rfl, rfl, hr.1, hr.2, fun w hw' a' U hW => ?_, by rw [hw]; exact List.mem_cons_self⟩, C.word h4 rfl, C.word h5 rfl, h2, len_of h3, nest_m C hl⟩
  rw [hw] at hw'
  cases List.mem_singleton.mp hw'
  exact C.base.word h4 rfl (State.WarmedH.trans C.warm hW)
theorem cx_of {p : Program} {s : State} {m : MethodId} {meth : Method} {c : Code} {args : Array Value} {y : MethodName} {cc' : ByteArray} {X' : MI} {n idx : Nat} (C : PCtx g cc X p s m meth c) (hm : MQw y cc' X' n) (hr : RM X X') (hl : Cond.methodLink X.own idx y ∈ lw_tbl) : vx_CSW (roomOf X) s args X.own idx y cc' X'.nL X'.ret X'.hh (WD y cc' X') (roomOf X') X'.mc X'.ms n := by
  obtain ⟨h1, h2, h3, h4, h5, h6⟩ := hm
  have hw : WD y cc' X' = [Cond.codeWith y cc' X'.nL X'.ret X'.hh] := by unfold WD; rw [if_neg h1]
  refine ⟨⟨rfl, rfl, hr.1, hr.2, fun w hw' a' U hW => ?_, by rw [hw]; exact List.mem_cons_self⟩, C.word h4 rfl, C.word h5 rfl, h2, len_of h3, C.word hl rfl, C.word h6 rfl⟩
  rw [hw] at hw'
  cases List.mem_singleton.mp hw'
  exact C.base.word h4 rfl (State.WarmedH.trans C.warm hW)
theorem cf_of {p : Program} {s : State} {m : MethodId} {meth : Method} {c : Code} {args : Array Value} (C : PCtx g cc X p s m meth c) : CallFix p m c cc X.nL s args [] X.own := ⟨C.1, C.2.1, C.2.2.1, C.own, fun _ h => by cases h⟩
/-- behind a call that returns or throws -/
theorem run_k {p : Program} {e : Env} {s : State} {m : MethodId} {args : Array Value} {below : List Frame} {meth : Method} {c : Code} {H : Heap} {locs : List Loc} {ls : Array Slot} {cells slots mc ms kc' ks' : Nat} {st0 rest : List Value} {a : Array Value} {Qc : PO → PS → Prop}
    (hr : vx_Run p g.1 e (roomOf X) s m args below meth c H locs cells slots mc ms (F0 m pc ls st0) rest (qC g Qc a) (qX g Qc) (gA g))
    (C : PCtx g cc X p s m meth c) (hz : s.heap.size ≤ H.size) (hlo : ∀ l ∈ locs, gA g l.base) (hL : LH ls X.nL L) (h1 : cells + mc + kc' ≤ X.mc) (h2 : slots + ms + ks' ≤ X.ms)
    (kx : ∀ E S', Qc (.inr E) S' → PX g cc X pc L S' kc' ks' Q E) (k : ∀ v S', Qc (.inl v) S' → PW g cc X (pc + 3) L (v.toList ++ rest) S' kc' ks' Q) :
    W p g.1 e (roomOf X) s m args below meth c H locs cells slots (vx_MQ below (qC g Q) (qX g Q) args s X.mc X.ms (gA g)) (F0 m pc ls st0) := by
  intro T hT Xs
  rcases hr T hT Xs with ⟨v, st₀, t, T', L', h0, X', hL', e1, e2, ⟨⟨v', S', hv, hQ, hPR⟩, hF⟩, stp⟩ | ⟨q, st₀, t, T', L', E, ce, h0, X', hL', e1, e2, ⟨⟨S', hQ, hPR⟩, hF⟩, hce, hcv, hcl, stp⟩
  · cases hv
    have hz' : s.heap.size ≤ T'.heap.size := by rw [e1]; exact Nat.le_trans hz (by rw [← h0]; exact hF.1)
    obtain ⟨t2, a1, b1⟩ := k v S' hQ p e s m args below meth c T'.heap (locs ++ L') ls (cells + mc) (slots + ms) C (by rw [e1]; exact hPR.2.2) hz' (locs_app hlo hL') hL h1 h2 T' rfl X'
    exact ⟨t2, stp t2 a1, b1⟩
  · have hz' : s.heap.size ≤ T'.heap.size := by rw [e1]; exact Nat.le_trans hz (by rw [← h0]; exact hF.1)
    obtain ⟨t2, a1, b1⟩ := kx E S' hQ p e s m args below meth c T'.heap (locs ++ L') ls (cells + mc) (slots + ms) rest q ce C (by rw [e1]; exact hPR) hz' (locs_app hlo hL') hL h1 h2 (by rw [e1]; exact hce) hcv hcl T' rfl X'
    exact ⟨t2, stp.trans a1, b1⟩
theorem run_m {p : Program} {e : Env} {s : State} {m : MethodId} {args : Array Value} {below : List Frame} {meth : Method} {c : Code} {H : Heap} {locs : List Loc} {ls : Array Slot} {cells slots mc ms kc' ks' : Nat} {st0 rest : List Value} {a : Array Value} {Qc : PO → PS → Prop}
    (hr : va_Run p g.1 e (roomOf X) s m args below meth c H locs cells slots mc ms (F0 m pc ls st0) rest (qC g Qc a) (gA g))
    (C : PCtx g cc X p s m meth c) (hz : s.heap.size ≤ H.size) (hlo : ∀ l ∈ locs, gA g l.base) (hL : LH ls X.nL L) (h1 : cells + mc + kc' ≤ X.mc) (h2 : slots + ms + ks' ≤ X.ms)
    (k : ∀ v S', Qc (.inl v) S' → PW g cc X (pc + 3) L (v.toList ++ rest) S' kc' ks' Q) :
    W p g.1 e (roomOf X) s m args below meth c H locs cells slots (vx_MQ below (qC g Q) (qX g Q) args s X.mc X.ms (gA g)) (F0 m pc ls st0) := by
  intro T hT Xs
  obtain ⟨v, st₀, t, T', L', h0, X', hL', e1, e2, ⟨⟨v', S', hv, hQ, hPR⟩, hF⟩, stp⟩ := hr T hT Xs
  cases hv
  have hz' : s.heap.size ≤ T'.heap.size := by rw [e1]; exact Nat.le_trans hz (by rw [← h0]; exact hF.1)
  obtain ⟨t2, a1, b1⟩ := k v S' hQ p e s m args below meth c T'.heap (locs ++ L') ls (cells + mc) (slots + ms) C (by rw [e1]; exact hPR.2.2) hz' (locs_app hlo hL') hL h1 h2 T' rfl X'
  exact ⟨t2, stp t2 a1, b1⟩
variable {y : MethodName} {cc' : ByteArray} {X' : MI} {n idx ci b kc' ks' : Nat} {As rest fs : List Value} {T : u_T} {N : Nat} {Qc : PO → PS → Prop} {host : String}
/-- invokevirtual, general -/
theorem r_invV (hd : decode cc pc = .ok (.invokevirtual idx, 3)) (hc : PC g y cc' X' (.ref b :: As) S Qc) (hm : MQv y cc' X' n) (hl : Cond.methodLink X.own idx y ∈ lw_tbl) (hr : RM X X') (hb : S.1 b = some (cO ci fs)) (hci : vwCl[ci]? = some (y.cls, T, N)) (hst : st = As.reverse ++ .ref b :: rest) (hn : As.length = n) (hcat : (rest.map fun v => v.category).sum ≤ 8) (hk : X'.mc + kc' ≤ kc) (hk2 : X'.ms + ks' ≤ ks)
    (kx : ∀ E S', Qc (.inr E) S' → PX g cc X pc L S' kc' ks' Q E) (k : ∀ v S', Qc (.inl v) S' → PW g cc X (pc + 3) L (v.toList ++ rest) S' kc' ks' Q) : PW g cc X pc L st S kc ks Q := by
  intro p e s m args below meth c H locs ls cells slots C hP hz hlo hL h1 h2
  exact run_k (vx_runV (cf_of C) hc ⟨cb_of C hm.1 hr hl, C.word hm.2.1 rfl, C.word hm.2.2 rfl⟩ (pre_v C hP hb hci) rfl hn hL.1 hst (lv_room hcat) hd ⟨by show cells + X'.mc ≤ X.mc; omega, by show slots + X'.ms ≤ X.ms; omega⟩) C hz hlo hL (by omega) (by omega) kx k
theorem r_invS (hd : decode cc pc = .ok (.invokestatic idx, 3)) (hc : PC g y cc' X' As S Qc) (hm : MQs y cc' X' n) (hl : Cond.methodLink X.own idx y ∈ lw_tbl) (hr : RM X X') (hst : st = As.reverse ++ rest) (hn : As.length = n) (hcat : (rest.map fun v => v.category).sum ≤ 8) (hk : X'.mc + kc' ≤ kc) (hk2 : X'.ms + ks' ≤ ks)
    (kx : ∀ E S', Qc (.inr E) S' → PX g cc X pc L S' kc' ks' Q E) (k : ∀ v S', Qc (.inl v) S' → PW g cc X (pc + 3) L (v.toList ++ rest) S' kc' ks' Q) : PW g cc X pc L st S kc ks Q := by
  intro p e s m args below meth c H locs ls cells slots C hP hz hlo hL h1 h2
  exact run_k (vx_runS (cf_of C) hc ⟨cb_of C hm.1 hr hl, C.word hm.2 rfl⟩ (pre_s C hP) rfl hn hL.1 hst (lv_room hcat) hd ⟨by show cells + X'.mc ≤ X.mc; omega, by show slots + X'.ms ≤ X.ms; omega⟩) C hz hlo hL (by omega) (by omega) kx k
/-- a static method with an exception table, that throws nothing -/
theorem r_invW (hd : decode cc pc = .ok (.invokestatic idx, 3)) (hc : PC g y cc' X' As S Qc) (hnx : ∀ E S', ¬ Qc (.inr E) S') (hm : MQw y cc' X' n) (hl : Cond.methodLink X.own idx y ∈ lw_tbl) (hr : RM X X') (hst : st = As.reverse ++ rest) (hn : As.length = n) (hcat : (rest.map fun v => v.category).sum ≤ 8) (hk : X'.mc + kc' ≤ kc) (hk2 : X'.ms + ks' ≤ ks)
    (k : ∀ v S', Qc (.inl v) S' → PW g cc X (pc + 3) L (v.toList ++ rest) S' kc' ks' Q) : PW g cc X pc L st S kc ks Q := by
  intro p e s m args below meth c H locs ls cells slots C hP hz hlo hL h1 h2
  exact run_m (vx_runSW (cf_of C) (hc.met hnx) (cx_of C hm hr hl) (pre_s C hP) rfl hn hL.1 hst (lv_room hcat) hd ⟨by show cells + X'.mc ≤ X.mc; omega, by show slots + X'.ms ≤ X.ms; omega⟩) C hz hlo hL (by omega) (by omega) k
theorem r_invI (hd : decode cc pc = .ok (.invokespecial idx, 3)) (hc : PC g y cc' X' (.ref b :: As) S Qc) (hnx : ∀ E S', ¬ Qc (.inr E) S') (hm : MQi y cc' X' n) (hret : X'.ret = none) (hl : Cond.methodLink X.own idx y ∈ lw_tbl) (hr : RM X X') (hst : st = As.reverse ++ .ref b :: rest) (hn : As.length = n) (hcat : (rest.map fun v => v.category).sum ≤ 8) (hk : X'.mc + kc' ≤ kc) (hk2 : X'.ms + ks' ≤ ks)
    (k : ∀ v S', Qc (.inl v) S' → PW g cc X (pc + 3) L (v.toList ++ rest) S' kc' ks' Q) : PW g cc X pc L st S kc ks Q := by
  intro p e s m args below meth c H locs ls cells slots C hP hz hlo hL h1 h2
  exact run_m (va_runI (cf_of C) (hc.met hnx) ⟨hret ▸ cb_of C hm.1 hr hl, hm.2.2, C.word hm.2.1 rfl⟩ (pre_s C hP) rfl hn hL.1 hst (lv_room hcat) hd ⟨by show cells + X'.mc ≤ X.mc; omega, by show slots + X'.ms ≤ X.ms; omega⟩) C hz hlo hL (by omega) (by omega) k
theorem r_invVN (hd : decode cc pc = .ok (.invokevirtual idx, 3)) (hc : PC g y cc' X' (.ref b :: As) S Qc) (hnx : ∀ E S', ¬ Qc (.inr E) S') (hm : MQv y cc' X' n) (hl : Cond.methodLinkNest X.own idx y host ∈ lw_tbl) (hr : RM X X') (hb : S.1 b = some (cO ci fs)) (hci : vwCl[ci]? = some (y.cls, T, N)) (hst : st = As.reverse ++ .ref b :: rest) (hn : As.length = n) (hcat : (rest.map fun v => v.category).sum ≤ 8) (hk : X'.mc + kc' ≤ kc) (hk2 : X'.ms + ks' ≤ ks)
    (k : ∀ v S', Qc (.inl v) S' → PW g cc X (pc + 3) L (v.toList ++ rest) S' kc' ks' Q) : PW g cc X pc L st S kc ks Q := by
  intro p e s m args below meth c H locs ls cells slots C hP hz hlo hL h1 h2
  exact run_m (va_runVN (cf_of C) (hc.met hnx) ⟨cn_of C hm.1 hr hl, C.word hm.2.1 rfl, C.word hm.2.2 rfl⟩ (pre_v C hP hb hci) rfl hn hL.1 hst (lv_room hcat) hd ⟨by show cells + X'.mc ≤ X.mc; omega, by show slots + X'.ms ≤ X.ms; omega⟩) C hz hlo hL (by omega) (by omega) k
theorem r_invSN (hd : decode cc pc = .ok (.invokestatic idx, 3)) (hc : PC g y cc' X' As S Qc) (hnx : ∀ E S', ¬ Qc (.inr E) S') (hm : MQs y cc' X' n) (hl : Cond.methodLinkNest X.own idx y host ∈ lw_tbl) (hr : RM X X') (hst : st = As.reverse ++ rest) (hn : As.length = n) (hcat : (rest.map fun v => v.category).sum ≤ 8) (hk : X'.mc + kc' ≤ kc) (hk2 : X'.ms + ks' ≤ ks)
    (k : ∀ v S', Qc (.inl v) S' → PW g cc X (pc + 3) L (v.toList ++ rest) S' kc' ks' Q) : PW g cc X pc L st S kc ks Q := by
  intro p e s m args below meth c H locs ls cells slots C hP hz hlo hL h1 h2
  exact run_m (va_runSN (cf_of C) (hc.met hnx) ⟨cn_of C hm.1 hr hl, C.word hm.2 rfl, trivial⟩ (pre_s C hP) rfl hn hL.1 hst (lv_room hcat) hd ⟨by show cells + X'.mc ≤ X.mc; omega, by show slots + X'.ms ≤ X.ms; omega⟩) C hz hlo hL (by omega) (by omega) k
theorem r_invIN (hd : decode cc pc = .ok (.invokespecial idx, 3)) (hc : PC g y cc' X' (.ref b :: As) S Qc) (hnx : ∀ E S', ¬ Qc (.inr E) S') (hm : MQi y cc' X' n) (hret : X'.ret = none) (hl : Cond.methodLinkNest X.own idx y host ∈ lw_tbl) (hr : RM X X') (hst : st = As.reverse ++ .ref b :: rest) (hn : As.length = n) (hcat : (rest.map fun v => v.category).sum ≤ 8) (hk : X'.mc + kc' ≤ kc) (hk2 : X'.ms + ks' ≤ ks)
    (k : ∀ v S', Qc (.inl v) S' → PW g cc X (pc + 3) L (v.toList ++ rest) S' kc' ks' Q) : PW g cc X pc L st S kc ks Q := by
  intro p e s m args below meth c H locs ls cells slots C hP hz hlo hL h1 h2
  exact run_m (va_runIN (cf_of C) (hc.met hnx) ⟨hret ▸ cn_of C hm.1 hr hl, hm.2.2, C.word hm.2.1 rfl⟩ (pre_s C hP) rfl hn hL.1 hst (lv_room hcat) hd ⟨by show cells + X'.mc ≤ X.mc; omega, by show slots + X'.ms ≤ X.ms; omega⟩) C hz hlo hL (by omega) (by omega) k
theorem Rt_nx {v : Option Value} {S1 : PS} : ∀ E S', ¬ Rt v S1 (.inr E) S' := fun _ _ h => by cases h.1
end PROWS4
end
section
/-- words that hold as long as the tables are alike: good ones, and two kinds beside -/
def wk2 : Cond → Bool
  | .castable _ _ => true
  | .declares _ => true
  | _ => false
def wkB (w : Cond) : Bool := goodWord w || wk2 w
theorem wk_at {g : GT} {s : State} {args : Array Value} {w : Cond} (hB : Base g) (hW : g.K.WarmedH s.vm) (h1 : w ∈ lw_tbl) (h2 : wkB w = true) : w.before args s = true := by
  unfold wkB at h2
  cases hg : goodWord w with
  | true => exact hB.word h1 hg hW
  | false =>
    rw [hg] at h2
    cases w <;> first | exact va_Nw.use rfl (va_Nw.warmC hW (hB.2.1 _ h1 (Or.inl rfl))) | exact va_Nw.use rfl (va_Nw.warmD hW (hB.2.1 _ h1 (Or.inl rfl))) | cases h2
theorem wk_ot {w : Cond} (h2 : wkB w = true) : vx_ot w = true := by
  unfold wkB at h2
  cases hg : goodWord w with
  | true => unfold vx_ot; rw [hg]; simp
  | false =>
    rw [hg] at h2
    cases w <;> first | rfl | cases h2
/-- new X(text), thrown -/
def TH (own cls : String) (ik ic : Nat) (names : List String) : Prop := Bundle.fit cls = true ∧ (∀ n ∈ names, Bundle.fit n = true) ∧ Cond.classLink own ik cls ∈ lw_tbl ∧ Cond.initialized cls ∈ lw_tbl ∧ ∀ w ∈ vx_atS own ic cls names, w ∈ lw_tbl ∧ wkB w = true
section PROWS5
variable {g : GT} {cc : ByteArray} {X : MI} {pc : Nat} {L : List (Nat × Option Value)} {st : List Value} {S : PS} {kc ks : Nat} {Q : PO → PS → Prop}
theorem zq_of {C n d : String} {s : State} (h : vx_Zq C n d (gA g) g.K g.K.heap) (hW : g.K.WarmedH s.vm) (hq : ∀ q : Nat, q < g.b → s.heap[q]? = g.K.heap[q]?) : vx_Zq C n d (gA g) s s.heap :=
  (h.moved hW.alike).kept (fun a ha _ => hq a ha)
theorem r_throwS {cls text : String} {names : List String} {ik is ic : Nat} (h : TH X.own cls ik ic names) (hs : (X.own, is, text) ∈ strL) (hh : X.hh = [])
    (d0 : decode cc pc = .ok (.new ik, 3)) (d3 : decode cc (pc + 3) = .ok (.dup, 1)) (d4 : decode cc (pc + 4) = .ok (.ldc is, 2)) (d6 : decode cc (pc + 6) = .ok (.invokespecial ic, 3)) (d9 : decode cc (pc + 9) = .ok (.athrow, 1))
    (hf : names.length + 3 < X.fr) (hlo' : (st.map fun v => v.category).sum + (13 * (names.length + 1) + 43) ≤ X.lo) (hk : 1 ≤ kc) (hk2 : 6 ≤ ks) (hq : ∀ z, S.2 ≤ z → Q (.inr cls) (S.1, z)) : PW g cc X pc L st S kc ks Q := by
  intro p e s m args below meth c H locs ls cells slots C hP hz hlo hL h1 h2
  obtain ⟨t1, t2, t3, t4, t5⟩ := h
  obtain ⟨sa, hsa⟩ := C.base.2.2.2.2.2.1 _ hs
  refine vx_throwS C.1 C.2.1 C.base.2.2.2.2.1 C.own t1 t2 (C.word t3 rfl) (C.word t4 rfl) (hsa.warm C.warm) (fun w hw => wk_at C.base C.warm (t5 w hw).1 (t5 w hw).2) (fun w hw => ?_) (zq_of C.base.2.2.1 C.warm C.2.2.2.2.2.2.2.2.2.2.2) (zq_of C.base.2.2.2.1 C.warm C.2.2.2.2.2.2.2.2.2.2.2) (⟨hz, fun q g1 g2 => ?_, hlo⟩ : va_S (gA g) s.heap H locs) (hL.1.trans C.2.2.1.symm) d0 d3 d4 d6 d9 (by rw [C.2.2.2.2.2.2.2.1, hh]; intro x hx; cases hx) hf hlo' (by show cells + 1 ≤ X.mc; omega) (by show slots + 6 ≤ X.ms; omega) C.2.2.2.2.2.1 (fun t g1 g2 g3 => ⟨⟨(S.1, t.heap.size), hq _ (by rw [← hP.1]; exact g2), hP.grow g2 g3⟩, Nat.le_trans hz g2, fun q k1 k2 => ?_⟩) hlo (by omega) (by omega)
  · rcases List.mem_cons.mp hw with rfl | hw
    · rfl
    · rcases List.mem_cons.mp hw with rfl | hw
      · rfl
      · exact wk_ot (t5 w hw).2
  · rw [hP.2.2.1 q (Nat.not_le.mp g2)]
    exact (C.2.2.2.2.2.2.2.2.2.2.2 q (Nat.not_le.mp g2)).symm
  · rw [g3 q (Nat.lt_of_lt_of_le k1 hz), hP.2.2.1 q (Nat.not_le.mp k2)]
    exact (C.2.2.2.2.2.2.2.2.2.2.2 q (Nat.not_le.mp k2)).symm
theorem px_catch {E : String} (pre : List (Nat × Nat × Nat × Nat)) (x : Nat × Nat × Nat × Nat) (suf : List (Nat × Nat × Nat × Nat)) (hh : X.hh = pre ++ x :: suf) (hpre : ∀ z ∈ pre, z.2.2.2 ≠ 0 ∧ ∃ nm : String, Cond.classLink X.own z.2.2.2 nm ∈ lw_tbl ∧ (E, nm) ∈ excL) (hx : covers ⟨x.1, x.2.1, x.2.2.1, x.2.2.2⟩ pc = true) (h0 : x.2.2.2 ≠ 0) (hl : Cond.classLink X.own x.2.2.2 E ∈ lw_tbl) (hc : Cond.castable E E ∈ lw_tbl) (k : ∀ q, PW g cc X x.2.2.1 L [.ref q] S kc ks Q) : PX g cc X pc L S kc ks Q E := by
  intro p e s m args below meth c H locs ls cells slots rest q ce C hP hz hlo hL h1 h2 hce hcv hcl
  refine vx_catch C.own (pre.map fun q => ⟨q.1, q.2.1, q.2.2.1, q.2.2.2⟩) ⟨x.1, x.2.1, x.2.2.1, x.2.2.2⟩ (suf.map fun q => ⟨q.1, q.2.1, q.2.2.1, q.2.2.2⟩) (by rw [C.2.2.2.2.2.2.2.1, hh]; unfold tableOf; rw [List.map_append]; rfl) (fun z hz' => ?_) hx h0 (C.word hl rfl) (va_Nw.use rfl (va_Nw.warmC C.warm (C.base.2.1 _ hc (Or.inl rfl)))) hce hcv hcl (k q p e s m args below meth c H locs ls cells slots C hP hz hlo hL h1 h2)
  obtain ⟨w, hw, rfl⟩ := List.mem_map.mp hz'
  obtain ⟨g0, nm, g1, g2⟩ := hpre w hw
  exact Or.inr ⟨g0, nm, C.word g1 rfl, (C.base.2.2.2.2.2.2.2 _ g2).moved C.warm.alike⟩
theorem r_objInit {q idx : Nat} (hd : decode cc pc = .ok (.invokespecial idx, 3)) (w1 : Cond.methodLink X.own idx Lib.objectInit ∈ lw_tbl) (w2 : Cond.instanceMethod Lib.objectInit ∈ lw_tbl) (w3 : Cond.code Lib.objectInit ⟨#[0xb1]⟩ 1 none ∈ lw_tbl) (hf : 1 ≤ X.fr) (hlo' : (st.map fun v => v.category).sum + 12 ≤ X.lo) (k : PW g cc X (pc + 3) L st S kc ks Q) : PW g cc X pc L (.ref q :: st) S kc ks Q := by
  intro p e s m args below meth c H locs ls cells slots C hP hz hlo hL h1 h2
  refine W.objInit C.1 C.2.1 C.own (C.word w1 rfl) (C.word w2 rfl) (C.word w3 rfl) rfl (hL.1.trans C.2.2.1.symm) rfl hd hf (by show 2 * 0 + _ + 12 ≤ X.lo; omega) ?_
  exact k p e s m args below meth c H locs ls cells slots C hP hz hlo hL h1 h2
/-- whole numbers of the pool -/
def CST (own : String) (idx : Nat) (z : Int) : Prop := ∃ v : Int32, Cond.constant own idx v ∈ lw_tbl ∧ v = Int32.ofInt z
def CSJ (own : String) (idx : Nat) (z : Int) : Prop := ∃ v : Int64, Cond.constantLong own idx v ∈ lw_tbl ∧ v = Int64.ofInt z
theorem r_ldc {idx : Nat} {z : Int} (hd : decode cc pc = .ok (.ldc idx, 2)) (h : CST X.own idx z) (k : PW g cc X (pc + 2) L (vi z :: st) S kc ks Q) : PW g cc X pc L st S kc ks Q := by
  intro p e s m args below meth c H locs ls cells slots C hP hz hlo hL h1 h2
  obtain ⟨v, w, rfl⟩ := h
  exact lv_ldc C.1 C.2.1 C.own (C.word w rfl) hd (k p e s m args below meth c H locs ls cells slots C hP hz hlo hL h1 h2)
theorem r_ldcw {idx : Nat} {z : Int} (hd : decode cc pc = .ok (.ldc_w idx, 3)) (h : CST X.own idx z) (k : PW g cc X (pc + 3) L (vi z :: st) S kc ks Q) : PW g cc X pc L st S kc ks Q := by
  intro p e s m args below meth c H locs ls cells slots C hP hz hlo hL h1 h2
  obtain ⟨v, w, rfl⟩ := h
  exact lv_ldcw C.1 C.2.1 C.own (C.word w rfl) hd (k p e s m args below meth c H locs ls cells slots C hP hz hlo hL h1 h2)
theorem r_ldc2 {idx : Nat} {z : Int} (hd : decode cc pc = .ok (.ldc2_w idx, 3)) (h : CSJ X.own idx z) (k : PW g cc X (pc + 3) L (vl z :: st) S kc ks Q) : PW g cc X pc L st S kc ks Q := by
  intro p e s m args below meth c H locs ls cells slots C hP hz hlo hL h1 h2
  obtain ⟨v, w, rfl⟩ := h
  exact lv_ldc2 C.1 C.2.1 C.own (C.word w rfl) hd (k p e s m args below meth c H locs ls cells slots C hP hz hlo hL h1 h2)
/-- a literal: its object is the one that K has for it -/
theorem r_ldcS {idx : Nat} {text : String} (hd : decode cc pc = .ok (.ldc idx, 2)) (hs : (X.own, idx, text) ∈ strL) (k : ∀ a, vk_R X.own idx text a g.K → PW g cc X (pc + 2) L (.ref a :: st) S kc ks Q) : PW g cc X pc L st S kc ks Q := by
  intro p e s m args below meth c H locs ls cells slots C hP hz hlo hL h1 h2
  obtain ⟨sa, hsa⟩ := C.base.2.2.2.2.2.1 _ hs
  exact va_ldcS C.1 C.2.1 C.own (hsa.warm C.warm) hd (k sa hsa p e s m args below meth c H locs ls cells slots C hP hz hlo hL h1 h2)
def MathW (own : String) (idx : Nat) (y : MethodName) (bytes : ByteArray) (n : Nat) (ret : Option FieldType) : Prop := Cond.methodLink own idx y ∈ lw_tbl ∧ Cond.static y ∈ lw_tbl ∧ Cond.initialized "java/lang/Math" ∈ lw_tbl ∧ Cond.code y bytes n ret ∈ lw_tbl
theorem r_mmin {idx : Nat} {a b : Int} (hd : decode cc pc = .ok (.invokestatic idx, 3)) (w : MathW X.own idx Lib.Math.min.name Lib.Math.min.code 2 (some .int)) (ha : RI a) (hb : RI b) (hf : 1 ≤ X.fr) (hlo' : (st.map fun v => v.category).sum + 13 ≤ X.lo) (k : PW g cc X (pc + 3) L (vi (min a b) :: st) S kc ks Q) : PW g cc X pc L (vi b :: vi a :: st) S kc ks Q := by
  intro p e s m args below meth c H locs ls cells slots C hP hz hlo hL h1 h2
  refine va_mmin C.1 C.2.1 (C.2.2.1.trans hL.1.symm) C.own (C.word w.1 rfl) (C.word w.2.1 rfl) (C.word w.2.2.1 rfl) (C.word w.2.2.2 rfl) hf hlo' (by show cells ≤ X.mc; omega) (by show slots ≤ X.ms; omega) hd ?_
  have kk := k p e s m args below meth c H locs ls cells slots C hP hz hlo hL h1 h2
  have e : (if Int32.ofInt a < Int32.ofInt b then Int32.ofInt a else Int32.ofInt b) = Int32.ofInt (min a b) := by
    by_cases h : a < b
    · rw [if_pos ((q_ltI ha hb).mpr h), Int.min_eq_left (by omega)]
    · rw [if_neg (mt (q_ltI ha hb).mp h), Int.min_eq_right (by omega)]
  first | (rw [e]; exact kk) | (rw [show (if Int32.ofInt b < Int32.ofInt a then Int32.ofInt b else Int32.ofInt a) = Int32.ofInt (min a b) from by
    by_cases h : b < a
    · rw [if_pos ((q_ltI hb ha).mpr h), Int.min_eq_right (by omega)]
    · rw [if_neg (mt (q_ltI hb ha).mp h), Int.min_eq_left (by omega)]]; exact kk)
theorem r_mmax {idx : Nat} {a b : Int} (hd : decode cc pc = .ok (.invokestatic idx, 3)) (w : MathW X.own idx Lib.Math.max.name Lib.Math.max.code 2 (some .int)) (ha : RI a) (hb : RI b) (hf : 1 ≤ X.fr) (hlo' : (st.map fun v => v.category).sum + 13 ≤ X.lo) (k : PW g cc X (pc + 3) L (vi (max a b) :: st) S kc ks Q) : PW g cc X pc L (vi b :: vi a :: st) S kc ks Q := by
  intro p e s m args below meth c H locs ls cells slots C hP hz hlo hL h1 h2
  refine va_mmax C.1 C.2.1 (C.2.2.1.trans hL.1.symm) C.own (C.word w.1 rfl) (C.word w.2.1 rfl) (C.word w.2.2.1 rfl) (C.word w.2.2.2 rfl) hf hlo' (by show cells ≤ X.mc; omega) (by show slots ≤ X.ms; omega) hd ?_
  have kk := k p e s m args below meth c H locs ls cells slots C hP hz hlo hL h1 h2
  have e : (if Int32.ofInt a < Int32.ofInt b then Int32.ofInt b else Int32.ofInt a) = Int32.ofInt (max a b) := by
    by_cases h : a < b
    · rw [if_pos ((q_ltI ha hb).mpr h), Int.max_eq_right (by omega)]
    · rw [if_neg (mt (q_ltI ha hb).mp h), Int.max_eq_left (by omega)]
  rw [e]
  exact kk
theorem r_mabs {idx : Nat} {a : Int} (hd : decode cc pc = .ok (.invokestatic idx, 3)) (w : MathW X.own idx Lib.Math.abs.name Lib.Math.abs.code 1 (some .int)) (ha : RI a) (hf : 1 ≤ X.fr) (hlo' : (st.map fun v => v.category).sum + 13 ≤ X.lo) (k : PW g cc X (pc + 3) L (vi (if 0 ≤ a then a else -a) :: st) S kc ks Q) : PW g cc X pc L (vi a :: st) S kc ks Q := by
  intro p e s m args below meth c H locs ls cells slots C hP hz hlo hL h1 h2
  refine va_mabs C.1 C.2.1 (C.2.2.1.trans hL.1.symm) C.own (C.word w.1 rfl) (C.word w.2.1 rfl) (C.word w.2.2.1 rfl) (C.word w.2.2.2 rfl) hf hlo' (by show cells ≤ X.mc; omega) (by show slots ≤ X.ms; omega) hd ?_
  have kk := k p e s m args below meth c H locs ls cells slots C hP hz hlo hL h1 h2
  have e : (if (0 : Int32) ≤ Int32.ofInt a then Int32.ofInt a else 0 - Int32.ofInt a) = Int32.ofInt (if 0 ≤ a then a else -a) := by
    rw [show (0 : Int32) = Int32.ofInt 0 from rfl, q_subI]
    by_cases h : 0 ≤ a
    · rw [if_pos ((q_leI (by omega) ha).mpr h), if_pos h]
    · rw [if_neg (mt (q_leI (by omega) ha).mp h), if_neg h, Int.zero_sub]
  rw [e]
  exact kk
theorem r_mabsl {idx : Nat} {a : Int} (hd : decode cc pc = .ok (.invokestatic idx, 3)) (w : MathW X.own idx Lib.MathLoose.abs_long.x Lib.MathLoose.abs_long.code 2 (some .long)) (ha : RJ a) (hf : 1 ≤ X.fr) (hlo' : (st.map fun v => v.category).sum + 13 ≤ X.lo) (k : PW g cc X (pc + 3) L (vl (if 0 < a then a else -a) :: st) S kc ks Q) : PW g cc X pc L (vl a :: st) S kc ks Q := by
  intro p e s m args below meth c H locs ls cells slots C hP hz hlo hL h1 h2
  refine va_mabs_long C.1 C.2.1 (C.2.2.1.trans hL.1.symm) C.own (C.word w.1 rfl) (C.word w.2.1 rfl) (C.word w.2.2.1 rfl) (C.word w.2.2.2 rfl) hf hlo' (by show cells ≤ X.mc; omega) (by show slots ≤ X.ms; omega) hd ?_
  have kk := k p e s m args below meth c H locs ls cells slots C hP hz hlo hL h1 h2
  have e : (if (0 : Int64) < Int64.ofInt a then Int64.ofInt a else - Int64.ofInt a) = Int64.ofInt (if 0 < a then a else -a) := by
    rw [show (0 : Int64) = Int64.ofInt 0 from rfl, q_negJ]
    by_cases h : 0 < a
    · rw [if_pos ((q_ltJ (by omega) ha).mpr h), if_pos h]
    · rw [if_neg (mt (q_ltJ (by omega) ha).mp h), if_neg h]
  rw [e]
  exact kk
/-- the law's script -/
theorem r_sld {b n : Nat} {xs : Nat → Int32} {i : Int} (hX : va_X b n xs g.K g.K.heap) (hb : b < g.b) (hd : decode cc pc = .ok (.iaload, 1)) (h0 : 0 ≤ i) (hi : i < n) (hn : n < 2147483648) (k : PW g cc X (pc + 1) L (.int (xs i.toNat) :: st) S kc ks Q) : PW g cc X pc L (vi i :: .ref b :: st) S kc ks Q := by
  intro p e s m args below meth c H locs ls cells slots C hP hz hlo hL h1 h2
  obtain ⟨hin, hcl⟩ := q_ix h0 hi hn
  have kk := k p e s m args below meth c H locs ls cells slots C hP hz hlo hL h1 h2
  refine va_sld (A := gA g) (H0 := s.heap) C.1 C.2.1 ((hX.moved C.warm.alike).kept (C.2.2.2.2.2.2.2.2.2.2.2 b hb)) (Nat.lt_of_lt_of_le hb C.2.2.2.2.2.2.2.2.2.2.1) (Nat.not_le.mpr hb) ⟨hz, fun q g1 g2 => ?_, hlo⟩ hin hd ?_
  · rw [hP.2.2.1 q (Nat.not_le.mp g2)]
    exact (C.2.2.2.2.2.2.2.2.2.2.2 q (Nat.not_le.mp g2)).symm
  · rw [hcl]
    exact kk
theorem r_slen {b n : Nat} {xs : Nat → Int32} (hX : va_X b n xs g.K g.K.heap) (hb : b < g.b) (hd : decode cc pc = .ok (.arraylength, 1)) (hn : n < 2147483648) (k : PW g cc X (pc + 1) L (vi (n : Int) :: st) S kc ks Q) : PW g cc X pc L (.ref b :: st) S kc ks Q := by
  intro p e s m args below meth c H locs ls cells slots C hP hz hlo hL h1 h2
  have kk := k p e s m args below meth c H locs ls cells slots C hP hz hlo hL h1 h2
  refine va_slen (A := gA g) (H0 := s.heap) C.1 C.2.1 ((hX.moved C.warm.alike).kept (C.2.2.2.2.2.2.2.2.2.2.2 b hb)) (Nat.lt_of_lt_of_le hb C.2.2.2.2.2.2.2.2.2.2.1) (Nat.not_le.mpr hb) ⟨hz, fun q g1 g2 => ?_, hlo⟩ hd ?_
  · rw [hP.2.2.1 q (Nat.not_le.mp g2)]
    exact (C.2.2.2.2.2.2.2.2.2.2.2 q (Nat.not_le.mp g2)).symm
  · exact kk
theorem r_tableIn {dflt lo hi : Int} {offs : Array Int} {len : Nat} {z off : Int} (tgt : Nat) (hd : decode cc pc = .ok (.tableswitch dflt lo hi offs, len)) (hz : RI z) (h1 : lo ≤ z) (h2 : z ≤ hi) (ho : offs[(z - lo).toNat]? = some off) (ht : (pc : Int) + off = (tgt : Int)) (k : PW g cc X tgt L st S kc ks Q) : PW g cc X pc L (vi z :: st) S kc ks Q := by
  intro p e_ s m args below meth c H locs ls cells slots C hP hz' hlo hL g1 g2
  have e : (Int32.ofInt z).toInt = z := q_tI hz.1 hz.2
  exact lv_tableIn C.1 C.2.1 hd (by rw [e]; omega) (by rw [e]; omega) (by rw [e]; exact ho) ht (k p e_ s m args below meth c H locs ls cells slots C hP hz' hlo hL g1 g2)
theorem r_tableOut {dflt lo hi : Int} {offs : Array Int} {len : Nat} {z : Int} (tgt : Nat) (hd : decode cc pc = .ok (.tableswitch dflt lo hi offs, len)) (hz : RI z) (h1 : z < lo ∨ hi < z) (ht : (pc : Int) + dflt = (tgt : Int)) (k : PW g cc X tgt L st S kc ks Q) : PW g cc X pc L (vi z :: st) S kc ks Q := by
  intro p e_ s m args below meth c H locs ls cells slots C hP hz' hlo hL g1 g2
  have e : (Int32.ofInt z).toInt = z := q_tI hz.1 hz.2
  exact lv_tableOut C.1 C.2.1 hd (by rw [e]; exact h1) ht (k p e_ s m args below meth c H locs ls cells slots C hP hz' hlo hL g1 g2)
theorem r_lookup {dflt : Int} {ps : Array (Int × Int)} {len : Nat} {z off : Int} (tgt : Nat) (hd : decode cc pc = .ok (.lookupswitch dflt ps, len)) (hz : RI z) (hp : (ps.toList.zip (ps.toList.drop 1)).all (fun (a, next) => a.1 < next.1) = true) (ho : Op.lookupswitch.offset ps.toList dflt z = off) (ht : (pc : Int) + off = (tgt : Int)) (k : PW g cc X tgt L st S kc ks Q) : PW g cc X pc L (vi z :: st) S kc ks Q := by
  intro p e_ s m args below meth c H locs ls cells slots C hP hz' hlo hL g1 g2
  have e : (Int32.ofInt z).toInt = z := q_tI hz.1 hz.2
  exact lv_lookup C.1 C.2.1 hd hp (by rw [e]; exact ho) ht (k p e_ s m args below meth c H locs ls cells slots C hP hz' hlo hL g1 g2)
end PROWS5
end
section
def CpW (own : String) (idx : Nat) : Prop := Cond.methodLink own idx arraycopyName ∈ lw_tbl ∧ Cond.native arraycopyName ∈ lw_tbl ∧ Cond.static arraycopyName ∈ lw_tbl ∧ Cond.initialized "java/lang/System" ∈ lw_tbl
theorem arrV_cong {c : ClassId} {n : Nat} {f h : Nat → Value} (e : ∀ j, j < n → f j = h j) : arrV c n f = arrV c n h := by
  unfold arrV
  congr 1
  exact congrArg (fun F : Fin n → Value => Array.ofFn F) (funext fun j => e j.val j.isLt)
theorem va_cpy0 {α : Type} (f h : Nat → α) {n j : Nat} (hj : j < n) : va_cpy f h 0 0 n j = f j := by
  unfold va_cpy
  rw [if_pos ⟨Nat.zero_le _, by omega⟩]
  congr 1
  omega
section PROWS6
variable {g : GT} {cc : ByteArray} {X : MI} {pc : Nat} {L : List (Nat × Option Value)} {st : List Value} {S : PS} {kc ks : Nat} {Q : PO → PS → Prop}
theorem r_copyI {q0 q1 N idx : Nat} {f h : Int → Int} (hd : decode cc pc = .ok (.invokestatic idx, 3)) (w : CpW X.own idx) (hq0 : S.1 q0 = some (cI N f)) (hq1 : S.1 q1 = some (cI N h)) (hN : N < 100000) (hf : 1 ≤ X.fr) (hlo' : (st.map fun v => v.category).sum + (nativeFrameWords "java/lang/System" "arraycopy" 5 + 11) ≤ X.lo) (k : PW g cc X (pc + 3) L st (ps_put S q1 (cI N f)) kc ks Q) : PW g cc X pc L (vi (N : Int) :: vi 0 :: .ref q1 :: vi 0 :: .ref q0 :: st) S kc ks Q := by
  intro p e s m args below meth c H locs ls cells slots C hP hz hlo hL h1 h2 T hT Xs
  obtain ⟨-, c0, v1, v2, v3⟩ := hP.2.2.2 q0 _ hq0
  obtain ⟨hb, c1, w1, w2, w3⟩ := hP.2.2.2 q1 _ hq1
  obtain ⟨q1', q2⟩ := q_cl (N := N) (by omega)
  have z1 : ¬ Int32.ofInt 0 < 0 := by decide
  have z2 : (Int32.ofInt 0).toNatClampNeg = 0 := by decide
  have z3 : (Int32.ofInt 0).toInt = 0 := by decide
  have q3 : (Int32.ofInt (N : Int)).toInt = N := q_tI (by omega) (by omega)
  obtain ⟨-, k0, hk0, cm0, hkk0⟩ := ((C.arr v1 v2).2 0 _ rfl).1 N (fun j => .int (Int32.ofInt (f j)))
  obtain ⟨-, k1, hk1, cm1, hkk1⟩ := ((C.arr w1 w2).2 0 _ rfl).1 N (fun j => .int (Int32.ofInt (h j)))
  obtain ⟨vm', X', step⟩ := Xs.arraycopy C.1 C.own (C.word w.1 rfl) (C.word w.2.1 rfl) (C.word w.2.2.1 rfl) (C.word w.2.2.2 rfl) (src := q0) (dst := q1) (cs := vp_cell c0 (vpA (N, .inl f))) (cd := vp_cell c1 (vpA (N, .inl h))) (srcPos := Int32.ofInt 0) (destPos := Int32.ofInt 0) (n := Int32.ofInt (N : Int)) (by rw [hT]; exact v3) (by rw [hT]; exact w3)
    (fun _ h => by cases h) (fun _ h => by cases h) (fun h => by cases h) (fun h => by cases h) hk0 hk1 hkk0 hkk1 (by simp [refKind, tyOf]) z1 z1 q1'
    (by rw [z3, q3]; show ¬ _ > ((arrV c0 N (fun j => .int (Int32.ofInt (f j)))).slots.size : Int); rw [arrV_size]; omega)
    (by rw [z3, q3]; show ¬ _ > ((arrV c1 N (fun j => .int (Int32.ofInt (h j)))).slots.size : Int); rw [arrV_size]; omega)
    (fun vm₁ _ i hi => by
      rw [q2] at hi
      have e : (vp_cell c0 (vpA (N, .inl f))).slots.getD ((Int32.ofInt 0).toNatClampNeg + i) .null = .int (Int32.ofInt (f i)) := by
        show (arrV c0 N (fun j => .int (Int32.ofInt (f j)))).slots.getD _ _ = _
        rw [z2, Nat.zero_add, Array.getD_eq_getD_getElem?, arrV_read _ _ (by omega)]
        rfl
      rw [e]
      exact ⟨rfl, trivial⟩)
    (g := F0 m pc ls (vi (N : Int) :: vi 0 :: .ref q1 :: vi 0 :: .ref q0 :: st)) rfl (hL.1.trans C.2.2.1.symm) (rest := st) rfl (by rw [C.2.1]; exact hd) hf (by show 2 * 0 + _ + _ ≤ X.lo; omega)
  have e1 : copied (vp_cell c0 (vpA (N, .inl f))) (vp_cell c1 (vpA (N, .inl h))) (Int32.ofInt 0) (Int32.ofInt 0) (Int32.ofInt (N : Int)) = vp_cell c1 (vpA (N, .inl f)) := by
    have e2 : (Int32.ofInt 0).toNatClampNeg + (Int32.ofInt (N : Int)).toNatClampNeg ≤ N := by rw [z2, q2]; omega
    refine (va_copied (fun z => z) c0 c1 (fun j : Nat => .int (Int32.ofInt (f j))) (fun j : Nat => .int (Int32.ofInt (h j))) e2).trans ?_
    rw [z2, q2]
    exact arrV_cong (fun j hj => va_cpy0 _ _ hj)
  rw [e1] at X' step
  have hl : q1 < H.size := (Array.getElem?_eq_some_iff.mp w3).1
  have hheap : ((T.setVm vm').setCell q1 (vp_cell c1 (vpA (N, .inl f)))).heap = H.setIfInBounds q1 (vp_cell c1 (vpA (N, .inl f))) := by rw [← hT]; rfl
  have oq : ∀ x : Nat, x ≠ q1 → (H.setIfInBounds q1 (vp_cell c1 (vpA (N, .inl f))))[x]? = H[x]? := fun x hx => by simp [Array.getElem?_setIfInBounds, Ne.symm hx]
  obtain ⟨t, a1, b1⟩ := k p e s m args below meth c _ _ ls cells slots C (hP.put hq1 (by simp) oq ⟨c1, w1, w2, by simp [Array.getElem?_setIfInBounds, hl]⟩) (by simpa using hz) (locs_app hlo (fun l hl => by
      obtain ⟨z, -, hz⟩ := List.mem_map.mp hl
      rw [← hz]
      exact hb)) hL h1 h2 _ hheap X'
  exact ⟨t, step t a1, b1⟩
theorem r_copyJ {q0 q1 N idx : Nat} {f h : Int → Int} (hd : decode cc pc = .ok (.invokestatic idx, 3)) (w : CpW X.own idx) (hq0 : S.1 q0 = some (cJ N f)) (hq1 : S.1 q1 = some (cJ N h)) (hN : N < 100000) (hf : 1 ≤ X.fr) (hlo' : (st.map fun v => v.category).sum + (nativeFrameWords "java/lang/System" "arraycopy" 5 + 11) ≤ X.lo) (k : PW g cc X (pc + 3) L st (ps_put S q1 (cJ N f)) kc ks Q) : PW g cc X pc L (vi (N : Int) :: vi 0 :: .ref q1 :: vi 0 :: .ref q0 :: st) S kc ks Q := by
  intro p e s m args below meth c H locs ls cells slots C hP hz hlo hL h1 h2 T hT Xs
  obtain ⟨-, c0, v1, v2, v3⟩ := hP.2.2.2 q0 _ hq0
  obtain ⟨hb, c1, w1, w2, w3⟩ := hP.2.2.2 q1 _ hq1
  obtain ⟨q1', q2⟩ := q_cl (N := N) (by omega)
  have z1 : ¬ Int32.ofInt 0 < 0 := by decide
  have z2 : (Int32.ofInt 0).toNatClampNeg = 0 := by decide
  have z3 : (Int32.ofInt 0).toInt = 0 := by decide
  have q3 : (Int32.ofInt (N : Int)).toInt = N := q_tI (by omega) (by omega)
  obtain ⟨-, k0, hk0, cm0, hkk0⟩ := ((C.arr v1 v2).2 0 _ rfl).1 N (fun j => .long (Int64.ofInt (f j)))
  obtain ⟨-, k1, hk1, cm1, hkk1⟩ := ((C.arr w1 w2).2 0 _ rfl).1 N (fun j => .long (Int64.ofInt (h j)))
  obtain ⟨vm', X', step⟩ := Xs.arraycopy C.1 C.own (C.word w.1 rfl) (C.word w.2.1 rfl) (C.word w.2.2.1 rfl) (C.word w.2.2.2 rfl) (src := q0) (dst := q1) (cs := vp_cell c0 (vpA (N, .inr (.inl f)))) (cd := vp_cell c1 (vpA (N, .inr (.inl h)))) (srcPos := Int32.ofInt 0) (destPos := Int32.ofInt 0) (n := Int32.ofInt (N : Int)) (by rw [hT]; exact v3) (by rw [hT]; exact w3)
    (fun _ h => by cases h) (fun _ h => by cases h) (fun h => by cases h) (fun h => by cases h) hk0 hk1 hkk0 hkk1 (by simp [refKind, tyOf]) z1 z1 q1'
    (by rw [z3, q3]; show ¬ _ > ((arrV c0 N (fun j => .long (Int64.ofInt (f j)))).slots.size : Int); rw [arrV_size]; omega)
    (by rw [z3, q3]; show ¬ _ > ((arrV c1 N (fun j => .long (Int64.ofInt (h j)))).slots.size : Int); rw [arrV_size]; omega)
    (fun vm₁ _ i hi => by
      rw [q2] at hi
      have e : (vp_cell c0 (vpA (N, .inr (.inl f)))).slots.getD ((Int32.ofInt 0).toNatClampNeg + i) .null = .long (Int64.ofInt (f i)) := by
        show (arrV c0 N (fun j => .long (Int64.ofInt (f j)))).slots.getD _ _ = _
        rw [z2, Nat.zero_add, Array.getD_eq_getD_getElem?, arrV_read _ _ (by omega)]
        rfl
      rw [e]
      exact ⟨rfl, trivial⟩)
    (g := F0 m pc ls (vi (N : Int) :: vi 0 :: .ref q1 :: vi 0 :: .ref q0 :: st)) rfl (hL.1.trans C.2.2.1.symm) (rest := st) rfl (by rw [C.2.1]; exact hd) hf (by show 2 * 0 + _ + _ ≤ X.lo; omega)
  have e1 : copied (vp_cell c0 (vpA (N, .inr (.inl f)))) (vp_cell c1 (vpA (N, .inr (.inl h)))) (Int32.ofInt 0) (Int32.ofInt 0) (Int32.ofInt (N : Int)) = vp_cell c1 (vpA (N, .inr (.inl f))) := by
    have e2 : (Int32.ofInt 0).toNatClampNeg + (Int32.ofInt (N : Int)).toNatClampNeg ≤ N := by rw [z2, q2]; omega
    refine (va_copied (fun z => z) c0 c1 (fun j : Nat => .long (Int64.ofInt (f j))) (fun j : Nat => .long (Int64.ofInt (h j))) e2).trans ?_
    rw [z2, q2]
    exact arrV_cong (fun j hj => va_cpy0 _ _ hj)
  rw [e1] at X' step
  have hl : q1 < H.size := (Array.getElem?_eq_some_iff.mp w3).1
  have hheap : ((T.setVm vm').setCell q1 (vp_cell c1 (vpA (N, .inr (.inl f))))).heap = H.setIfInBounds q1 (vp_cell c1 (vpA (N, .inr (.inl f)))) := by rw [← hT]; rfl
  have oq : ∀ x : Nat, x ≠ q1 → (H.setIfInBounds q1 (vp_cell c1 (vpA (N, .inr (.inl f)))))[x]? = H[x]? := fun x hx => by simp [Array.getElem?_setIfInBounds, Ne.symm hx]
  obtain ⟨t, a1, b1⟩ := k p e s m args below meth c _ _ ls cells slots C (hP.put hq1 (by simp) oq ⟨c1, w1, w2, by simp [Array.getElem?_setIfInBounds, hl]⟩) (by simpa using hz) (locs_app hlo (fun l hl => by
      obtain ⟨z, -, hz⟩ := List.mem_map.mp hl
      rw [← hz]
      exact hb)) hL h1 h2 _ hheap X'
  exact ⟨t, step t a1, b1⟩
theorem r_copyR {q0 q1 N idx : Nat} {f h : Int → Option Nat} {t ci NF : Nat} {Cn : String} {T0 : u_T} (hd : decode cc pc = .ok (.invokestatic idx, 3)) (w : CpW X.own idx) (hq0 : S.1 q0 = some (cR t N f)) (hq1 : S.1 q1 = some (cR t N h)) (hN : N < 100000) (hel : ∀ i : Nat, i < N → ∀ y : Nat, f i = some y → ∃ fs, S.1 y = some (cO ci fs)) (ht : tyOf t = .object Cn) (hcl : vwCl[ci]? = some (Cn, T0, NF)) (hf : 1 ≤ X.fr) (hlo' : (st.map fun v => v.category).sum + (nativeFrameWords "java/lang/System" "arraycopy" 5 + 11) ≤ X.lo) (k : PW g cc X (pc + 3) L st (ps_put S q1 (cR t N f)) kc ks Q) : PW g cc X pc L (vi (N : Int) :: vi 0 :: .ref q1 :: vi 0 :: .ref q0 :: st) S kc ks Q := by
  intro p e s m args below meth c H locs ls cells slots C hP hz hlo hL h1 h2 T hT Xs
  obtain ⟨-, c0, v1, v2, v3⟩ := hP.2.2.2 q0 _ hq0
  obtain ⟨hb, c1, w1, w2, w3⟩ := hP.2.2.2 q1 _ hq1
  obtain ⟨q1', q2⟩ := q_cl (N := N) (by omega)
  have z1 : ¬ Int32.ofInt 0 < 0 := by decide
  have z2 : (Int32.ofInt 0).toNatClampNeg = 0 := by decide
  have z3 : (Int32.ofInt 0).toInt = 0 := by decide
  have q3 : (Int32.ofInt (N : Int)).toInt = N := q_tI (by omega) (by omega)
  have b1 : ArrOfT g.K c1 (tyOf t) := w1
  have b2 : va_RA g.K c1 (tyOf t) := w2
  have b3 : ArrOfT g.K c0 (tyOf t) := v1
  have b4 : va_RA g.K c0 (tyOf t) := v2
  rw [ht] at b1 b2 b3 b4
  obtain ⟨-, k0, hk0, cm0, hkk0⟩ := ((C.arr b3 b4).2 0 _ rfl).1 N (fun j => va_rf (f j))
  obtain ⟨-, k1, hk1, cm1, hkk1⟩ := ((C.arr b1 b2).2 0 _ rfl).1 N (fun j => va_rf (h j))
  obtain ⟨vm', X', step⟩ := Xs.arraycopy C.1 C.own (C.word w.1 rfl) (C.word w.2.1 rfl) (C.word w.2.2.1 rfl) (C.word w.2.2.2 rfl) (src := q0) (dst := q1) (cs := vp_cell c0 (vpA (N, .inr (.inr f)))) (cd := vp_cell c1 (vpA (N, .inr (.inr h)))) (srcPos := Int32.ofInt 0) (destPos := Int32.ofInt 0) (n := Int32.ofInt (N : Int)) (by rw [hT]; exact v3) (by rw [hT]; exact w3)
    (fun _ h => by cases h) (fun _ h => by cases h) (fun h => by cases h) (fun h => by cases h) hk0 hk1 hkk0 hkk1 rfl z1 z1 q1'
    (by rw [z3, q3]; show ¬ _ > ((arrV c0 N (fun j => va_rf (f j))).slots.size : Int); rw [arrV_size]; omega)
    (by rw [z3, q3]; show ¬ _ > ((arrV c1 N (fun j => va_rf (h j))).slots.size : Int); rw [arrV_size]; omega)
    (fun vm₁ hal i hi => by
      rw [q2] at hi
      have e : (vp_cell c0 (vpA (N, .inr (.inr f)))).slots.getD ((Int32.ofInt 0).toNatClampNeg + i) .null = va_rf (f (i : Int)) := by
        show (arrV c0 N (fun j => va_rf (f j))).slots.getD _ _ = _
        rw [z2, Nat.zero_add, Array.getD_eq_getD_getElem?, arrV_read _ _ (by omega)]
        rfl
      rw [e]
      cases hy : f (i : Int) with
      | none => exact ⟨rfl, trivial⟩
      | some y =>
        obtain ⟨fs, hfs⟩ := hel i hi y hy
        obtain ⟨cellV, g1, g2, g3⟩ := va_recv C.va (va_P1 (q := y) (e := .inr (ci, fs)) (hP.2.2.2 y _ hfs).2) (q0 := 0) hcl rfl
        obtain ⟨kA, comp, r1, r2, r3, -⟩ := ((C.arr b1 b2).2 0 _ rfl).2
        cases hk1.symm.trans r1
        cases hkk1.symm.trans r2
        obtain ⟨kC, hkC, -⟩ := Vm.findClass_spec g3
        obtain ⟨kE, hkE, -⟩ := Vm.findClass_spec r3
        obtain ⟨kC', hkC', -⟩ := hal.2.2 _ _ hkC
        obtain ⟨kE', hkE', -⟩ := hal.2.2 _ _ hkE
        have hcls := (C.va.1 ci _ hcl).2
        have hcomp : cm1 = cellV.cls := Option.some.inj (r3.symm.trans g3)
        have hcomp2 : cm1 = g.2.2.1 ci := Option.some.inj (r3.symm.trans hcls.1)
        refine ⟨rfl, cellV, (show T.heap[y]? = some cellV by rw [hT]; exact g1), (fun q h => by rw [h] at g2; cases g2), ⟨kC', hkC'⟩, ⟨kE', hkE'⟩, ?_⟩
        show vm₁.assignable _ _ = true
        rw [hal.assignable, ← hcomp, hcomp2]
        exact va_assign hcls)
    (g := F0 m pc ls (vi (N : Int) :: vi 0 :: .ref q1 :: vi 0 :: .ref q0 :: st)) rfl (hL.1.trans C.2.2.1.symm) (rest := st) rfl (by rw [C.2.1]; exact hd) hf (by show 2 * 0 + _ + _ ≤ X.lo; omega)
  have e1 : copied (vp_cell c0 (vpA (N, .inr (.inr f)))) (vp_cell c1 (vpA (N, .inr (.inr h)))) (Int32.ofInt 0) (Int32.ofInt 0) (Int32.ofInt (N : Int)) = vp_cell c1 (vpA (N, .inr (.inr f))) := by
    have e2 : (Int32.ofInt 0).toNatClampNeg + (Int32.ofInt (N : Int)).toNatClampNeg ≤ N := by rw [z2, q2]; omega
    refine (va_copied (fun z => z) c0 c1 (fun j : Nat => va_rf (f j)) (fun j : Nat => va_rf (h j)) e2).trans ?_
    rw [z2, q2]
    exact arrV_cong (fun j hj => va_cpy0 _ _ hj)
  rw [e1] at X' step
  have hl : q1 < H.size := (Array.getElem?_eq_some_iff.mp w3).1
  have hheap : ((T.setVm vm').setCell q1 (vp_cell c1 (vpA (N, .inr (.inr f))))).heap = H.setIfInBounds q1 (vp_cell c1 (vpA (N, .inr (.inr f)))) := by rw [← hT]; rfl
  have oq : ∀ x : Nat, x ≠ q1 → (H.setIfInBounds q1 (vp_cell c1 (vpA (N, .inr (.inr f)))))[x]? = H[x]? := fun x hx => by simp [Array.getElem?_setIfInBounds, Ne.symm hx]
  obtain ⟨t, a1, b1⟩ := k p e s m args below meth c _ _ ls cells slots C (hP.put hq1 (by simp) oq ⟨c1, w1, w2, by simp [Array.getElem?_setIfInBounds, hl]⟩) (by simpa using hz) (locs_app hlo (fun l hl => by
      obtain ⟨z, -, hz⟩ := List.mem_map.mp hl
      rw [← hz]
      exact hb)) hL h1 h2 _ hheap X'
  exact ⟨t, step t a1, b1⟩
end PROWS6
end
