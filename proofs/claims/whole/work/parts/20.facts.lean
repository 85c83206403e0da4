theorem wt0 {j : Nat} {w : Cond} (h : (k2_sels lw_privs)[j]? = some w) : w ∈ lw_tbl := List.mem_append_left _ (List.mem_of_getElem? h)
theorem wt1 {j : Nat} {w : Cond} (h : tables_1_1[j]? = some w) : w ∈ lw_tbl := List.mem_append_right _ (List.mem_append_left _ (List.mem_of_getElem? h))
theorem wt2 {j : Nat} {w : Cond} (h : tables_1_2[j]? = some w) : w ∈ lw_tbl := List.mem_append_right _ (List.mem_append_right _ (List.mem_append_left _ (List.mem_of_getElem? h)))
theorem wt3 {j : Nat} {w : Cond} (h : tables_1_3[j]? = some w) : w ∈ lw_tbl := List.mem_append_right _ (List.mem_append_right _ (List.mem_append_right _ (List.mem_append_left _ (List.mem_of_getElem? h))))
theorem wt4 {j : Nat} {w : Cond} (h : tables_1_4[j]? = some w) : w ∈ lw_tbl := List.mem_append_right _ (List.mem_append_right _ (List.mem_append_right _ (List.mem_append_right _ (List.mem_append_left _ (List.mem_of_getElem? h)))))
theorem wt5 {j : Nat} {w : Cond} (h : tables_1_5[j]? = some w) : w ∈ lw_tbl := List.mem_append_right _ (List.mem_append_right _ (List.mem_append_right _ (List.mem_append_right _ (List.mem_append_right _ (List.mem_append_left _ (List.mem_of_getElem? h))))))
theorem wt6 {j : Nat} {w : Cond} (h : tables_1_6[j]? = some w) : w ∈ lw_tbl := List.mem_append_right _ (List.mem_append_right _ (List.mem_append_right _ (List.mem_append_right _ (List.mem_append_right _ (List.mem_append_right _ (List.mem_append_left _ (List.mem_of_getElem? h)))))))
theorem wt7 {j : Nat} {w : Cond} (h : tables_1_7[j]? = some w) : w ∈ lw_tbl := List.mem_append_right _ (List.mem_append_right _ (List.mem_append_right _ (List.mem_append_right _ (List.mem_append_right _ (List.mem_append_right _ (List.mem_append_right _ (List.mem_of_getElem? h)))))))
theorem pnX0 : plainName RX0 = true := by decide +kernel
theorem pnX1 : plainName RX1 = true := by decide +kernel
theorem pnX2 : plainName RX2 = true := by decide +kernel
theorem pnX3 : plainName RX3 = true := by decide +kernel
theorem pnX4 : plainName RX4 = true := by decide +kernel
theorem pnX5 : plainName RX5 = true := by decide +kernel
theorem pnX6 : plainName RX6 = true := by decide +kernel
theorem pnX7 : plainName RX7 = true := by decide +kernel
theorem pnX8 : plainName RX8 = true := by decide +kernel
theorem pnX9 : plainName RX9 = true := by decide +kernel
theorem pnX10 : plainName RX10 = true := by decide +kernel
theorem pnJx145de : plainName RJx145de = true := by decide +kernel
theorem pnJx9f9b0 : plainName RJx9f9b0 = true := by decide +kernel
theorem pnJxb160c : plainName RJxb160c = true := by decide +kernel
theorem pnJ0 : plainName RJ0 = true := by decide +kernel
theorem pnJ1 : plainName RJ1 = true := by decide +kernel
theorem pnJ2 : plainName RJ2 = true := by decide +kernel
theorem pnJ10 : plainName RJ10 = true := by decide +kernel
theorem pnJxfd54e : plainName RJxfd54e = true := by decide +kernel
theorem pnJx3cf43 : plainName RJx3cf43 = true := by decide +kernel
theorem pnJ3 : plainName RJ3 = true := by decide +kernel
theorem pnL : plainName RL = true := by decide +kernel
set_option maxRecDepth 20000 in
theorem ck0 : CK 0 RX0 TX0 4 := ⟨rfl, by decide +kernel, ⟨tyX0, tyX0_ok⟩, nmX0⟩
set_option maxRecDepth 20000 in
theorem ck1 : CK 1 RX1 TX1 4 := ⟨rfl, by decide +kernel, ⟨tyX1, tyX1_ok⟩, nmX1⟩
set_option maxRecDepth 20000 in
theorem ck2 : CK 2 RX2 TX2 3 := ⟨rfl, by decide +kernel, ⟨tyX2, tyX2_ok⟩, nmX2⟩
set_option maxRecDepth 20000 in
theorem ck3 : CK 3 RX3 TX3 2 := ⟨rfl, by decide +kernel, ⟨tyX3, tyX3_ok⟩, nmX3⟩
set_option maxRecDepth 20000 in
theorem ck4 : CK 4 RX4 TX4 1 := ⟨rfl, by decide +kernel, ⟨tyX4, tyX4_ok⟩, nmX4⟩
set_option maxRecDepth 20000 in
theorem ck5 : CK 5 RX5 TX5 5 := ⟨rfl, by decide +kernel, ⟨tyX5, tyX5_ok⟩, nmX5⟩
set_option maxRecDepth 20000 in
theorem ck6 : CK 6 RX6 TX6 8 := ⟨rfl, by decide +kernel, ⟨tyX6, tyX6_ok⟩, nmX6⟩
set_option maxRecDepth 20000 in
theorem ck7 : CK 7 RX7 TX7 2 := ⟨rfl, by decide +kernel, ⟨tyX7, tyX7_ok⟩, nmX7⟩
set_option maxRecDepth 20000 in
theorem ck8 : CK 8 RX8 TX8 7 := ⟨rfl, by decide +kernel, ⟨tyX8, tyX8_ok⟩, nmX8⟩
set_option maxRecDepth 20000 in
theorem ck9 : CK 9 RX9 TX9 6 := ⟨rfl, by decide +kernel, ⟨tyX9, tyX9_ok⟩, nmX9⟩
set_option maxRecDepth 20000 in
theorem ck10 : CK 10 RX10 TX10 18 := ⟨rfl, by decide +kernel, ⟨tyX10, tyX10_ok⟩, nmX10⟩
theorem ob_X9_1 : Cond.methodLink RX9 1 Lib.objectInit ∈ lw_tbl := wt1 (j := 30) rfl
theorem cl_X9_7 : Cond.classLink RX9 7 "ConvolutionBench$Bench" ∈ lw_tbl := wt1 (j := 33) rfl
theorem nl_X9_7 : NL RX9 7 0 4 [.null, .null, .null, .int 0] := ⟨RX0, TX0, tyX0, ck0, tyX0_ok, (by intro j hj; match j, hj with | 0, _ => rfl | 1, _ => rfl | 2, _ => rfl | 3, _ => rfl | (q + 4), h => exact absurd h (by omega)), cl_X9_7, wt1 (j := 34) rfl, wt1 (j := 2) rfl⟩
theorem ml_X9_9 : Cond.methodLink RX9 9 yX0_init ∈ lw_tbl := wt1 (j := 35) rfl
theorem fl_X9_10 : FL RX9 10 9 0 (.object "ConvolutionBench$Bench") true := ⟨RX9, TX9, 6, ck9, by decide, rfl, rfl, by decide +kernel, Or.inl (wt1 (j := 233) rfl)⟩
theorem flf_X9_10 : FLF RX9 10 9 0 (.object "ConvolutionBench$Bench") := ⟨RX9, TX9, 6, ck9, by decide, rfl, rfl, rfl, by decide +kernel, wt1 (j := 233) rfl⟩
theorem cl_X9_16 : Cond.classLink RX9 16 "ConvolutionBench$History" ∈ lw_tbl := wt1 (j := 130) rfl
theorem nl_X9_16 : NL RX9 16 2 3 [.null, .int 0, .int 0] := ⟨RX2, TX2, tyX2, ck2, tyX2_ok, (by intro j hj; match j, hj with | 0, _ => rfl | 1, _ => rfl | 2, _ => rfl | (q + 3), h => exact absurd h (by omega)), cl_X9_16, wt1 (j := 131) rfl, wt1 (j := 5) rfl⟩
theorem ml_X9_18 : Cond.methodLink RX9 18 yX2_init ∈ lw_tbl := wt1 (j := 132) rfl
theorem fl_X9_19 : FL RX9 19 9 1 (.object "ConvolutionBench$History") true := ⟨RX9, TX9, 6, ck9, by decide, rfl, rfl, by decide +kernel, Or.inl (wt1 (j := 234) rfl)⟩
theorem flf_X9_19 : FLF RX9 19 9 1 (.object "ConvolutionBench$History") := ⟨RX9, TX9, 6, ck9, by decide, rfl, rfl, rfl, by decide +kernel, wt1 (j := 234) rfl⟩
theorem cl_X9_23 : Cond.classLink RX9 23 "ConvolutionBench$TextReader" ∈ lw_tbl := wt1 (j := 150) rfl
theorem nl_X9_23 : NL RX9 23 8 7 [.null, .null, .int 0, .int 0, .int 0, .int 0, .int 0] := ⟨RX8, TX8, tyX8, ck8, tyX8_ok, (by intro j hj; match j, hj with | 0, _ => rfl | 1, _ => rfl | 2, _ => rfl | 3, _ => rfl | 4, _ => rfl | 5, _ => rfl | 6, _ => rfl | (q + 7), h => exact absurd h (by omega)), cl_X9_23, wt1 (j := 151) rfl, wt1 (j := 6) rfl⟩
theorem ml_X9_25 : Cond.methodLinkNest RX9 25 yX8_init "ConvolutionBench" ∈ lw_tbl := wt1 (j := 152) rfl
theorem fl_X9_26 : FL RX9 26 9 2 (.object "ConvolutionBench$TextReader") true := ⟨RX9, TX9, 6, ck9, by decide, rfl, rfl, by decide +kernel, Or.inl (wt1 (j := 235) rfl)⟩
theorem flf_X9_26 : FLF RX9 26 9 2 (.object "ConvolutionBench$TextReader") := ⟨RX9, TX9, 6, ck9, by decide, rfl, rfl, rfl, by decide +kernel, wt1 (j := 235) rfl⟩
theorem cl_X9_30 : Cond.classLink RX9 30 "ConvolutionBench$LogarithmTable" ∈ lw_tbl := wt1 (j := 184) rfl
theorem nl_X9_30 : NL RX9 30 3 2 [.null, .null] := ⟨RX3, TX3, tyX3, ck3, tyX3_ok, (by intro j hj; match j, hj with | 0, _ => rfl | 1, _ => rfl | (q + 2), h => exact absurd h (by omega)), cl_X9_30, wt1 (j := 185) rfl, wt1 (j := 7) rfl⟩
theorem ml_X9_32 : Cond.methodLinkNest RX9 32 yX3_init "ConvolutionBench" ∈ lw_tbl := wt1 (j := 186) rfl
theorem fl_X9_33 : FL RX9 33 9 3 (.object "ConvolutionBench$LogarithmTable") true := ⟨RX9, TX9, 6, ck9, by decide, rfl, rfl, by decide +kernel, Or.inl (wt1 (j := 236) rfl)⟩
theorem flf_X9_33 : FLF RX9 33 9 3 (.object "ConvolutionBench$LogarithmTable") := ⟨RX9, TX9, 6, ck9, by decide, rfl, rfl, rfl, by decide +kernel, wt1 (j := 236) rfl⟩
theorem cl_X9_37 : Cond.classLink RX9 37 "ConvolutionBench$Multiplier" ∈ lw_tbl := wt1 (j := 197) rfl
theorem nl_X9_37 : NL RX9 37 4 1 [.null] := ⟨RX4, TX4, tyX4, ck4, tyX4_ok, (by intro j hj; match j, hj with | 0, _ => rfl | (q + 1), h => exact absurd h (by omega)), cl_X9_37, wt1 (j := 198) rfl, wt1 (j := 8) rfl⟩
theorem ml_X9_39 : Cond.methodLinkNest RX9 39 yX4_init "ConvolutionBench" ∈ lw_tbl := wt1 (j := 199) rfl
theorem fl_X9_40 : FL RX9 40 9 4 (.object "ConvolutionBench$Multiplier") true := ⟨RX9, TX9, 6, ck9, by decide, rfl, rfl, by decide +kernel, Or.inl (wt1 (j := 237) rfl)⟩
theorem flf_X9_40 : FLF RX9 40 9 4 (.object "ConvolutionBench$Multiplier") := ⟨RX9, TX9, 6, ck9, by decide, rfl, rfl, rfl, by decide +kernel, wt1 (j := 237) rfl⟩
theorem cl_X9_44 : Cond.classLink RX9 44 "ConvolutionBench$PlanFinder" ∈ lw_tbl := wt1 (j := 207) rfl
theorem nl_X9_44 : NL RX9 44 5 5 [.null, .null, .int 0, .int 0, .int 0] := ⟨RX5, TX5, tyX5, ck5, tyX5_ok, (by intro j hj; match j, hj with | 0, _ => rfl | 1, _ => rfl | 2, _ => rfl | 3, _ => rfl | 4, _ => rfl | (q + 5), h => exact absurd h (by omega)), cl_X9_44, wt1 (j := 208) rfl, wt1 (j := 9) rfl⟩
theorem ml_X9_46 : Cond.methodLinkNest RX9 46 yX5_init "ConvolutionBench" ∈ lw_tbl := wt1 (j := 209) rfl
theorem fl_X9_47 : FL RX9 47 9 5 (.object "ConvolutionBench$PlanFinder") true := ⟨RX9, TX9, 6, ck9, by decide, rfl, rfl, by decide +kernel, Or.inl (wt1 (j := 238) rfl)⟩
theorem flf_X9_47 : FLF RX9 47 9 5 (.object "ConvolutionBench$PlanFinder") := ⟨RX9, TX9, 6, ck9, by decide, rfl, rfl, rfl, by decide +kernel, wt1 (j := 238) rfl⟩
theorem ml_X9_51 : Cond.methodLink RX9 51 yX8_hasSpace ∈ lw_tbl := wt2 (j := 28) rfl
theorem cl_X9_55 : Cond.classLink RX9 55 "java/lang/IllegalStateException" ∈ lw_tbl := wt2 (j := 32) rfl
theorem ml_X9_62 : Cond.methodLink RX9 62 yX8_takeBytes ∈ lw_tbl := wt2 (j := 100) rfl
theorem fl_X9_66 : FL RX9 66 8 2 .int false := ⟨RX8, TX8, 7, ck8, by decide, rfl, rfl, by decide +kernel, Or.inr ⟨"ConvolutionBench", wt1 (j := 162) rfl⟩⟩
theorem ml_X9_70 : Cond.methodLink RX9 70 yX9_require ∈ lw_tbl := wt2 (j := 112) rfl
theorem ml_X9_74 : Cond.methodLink RX9 74 yX8_read ∈ lw_tbl := wt2 (j := 131) rfl
theorem ml_X9_78 : Cond.methodLink RX9 78 yX2_keep ∈ lw_tbl := wt3 (j := 65) rfl
theorem fl_X9_82 : FL RX9 82 8 1 (.object "ConvolutionBench$Bench") true := ⟨RX8, TX8, 7, ck8, by decide, rfl, rfl, by decide +kernel, Or.inr ⟨"ConvolutionBench", wt1 (j := 160) rfl⟩⟩
theorem ml_X9_85 : Cond.methodLink RX9 85 yX0_copyFrom ∈ lw_tbl := wt3 (j := 90) rfl
theorem fl_X9_88 : FL RX9 88 0 3 .int false := ⟨RX0, TX0, 4, ck0, by decide, rfl, rfl, by decide +kernel, Or.inr ⟨"ConvolutionBench", wt1 (j := 118) rfl⟩⟩
theorem fl_X9_91 : FL RX9 91 8 6 .int false := ⟨RX8, TX8, 7, ck8, by decide, rfl, rfl, by decide +kernel, Or.inr ⟨"ConvolutionBench", wt1 (j := 167) rfl⟩⟩
theorem ml_X9_94 : Cond.methodLink RX9 94 yX0_canBeAdded ∈ lw_tbl := wt3 (j := 98) rfl
theorem ml_X9_100 : Cond.methodLink RX9 100 yX0_addField ∈ lw_tbl := wt3 (j := 100) rfl
theorem ml_X9_103 : Cond.methodLink RX9 103 yX9_requirePrime ∈ lw_tbl := wt3 (j := 109) rfl
theorem ml_X9_106 : Cond.methodLink RX9 106 yX0_removeField ∈ lw_tbl := wt3 (j := 129) rfl
theorem ml_X9_109 : Cond.methodLink RX9 109 yX9_fieldAt ∈ lw_tbl := wt3 (j := 140) rfl
theorem fl_X9_113 : FL RX9 113 1 0 .int true := ⟨RX1, TX1, 4, ck1, by decide, rfl, rfl, by decide +kernel, Or.inr ⟨"ConvolutionBench", wt3 (j := 23) rfl⟩⟩
theorem fl_X9_118 : FL RX9 118 1 3 .int true := ⟨RX1, TX1, 4, ck1, by decide, rfl, rfl, by decide +kernel, Or.inr ⟨"ConvolutionBench", wt3 (j := 29) rfl⟩⟩
theorem ml_X9_121 : Cond.methodLink RX9 121 yX1_greatestPowerOfTwo ∈ lw_tbl := wt3 (j := 144) rfl
theorem fl_X9_125 : FL RX9 125 1 2 .int true := ⟨RX1, TX1, 4, ck1, by decide, rfl, rfl, by decide +kernel, Or.inr ⟨"ConvolutionBench", wt3 (j := 26) rfl⟩⟩
theorem ml_X9_128 : Cond.methodLink RX9 128 yX1_transformLengths ∈ lw_tbl := wt3 (j := 148) rfl
theorem ml_X9_131 : Cond.methodLink RX9 131 yX9_requireRoot ∈ lw_tbl := wt3 (j := 164) rfl
theorem ml_X9_135 : Cond.methodLink RX9 135 yX1_rootOfOrder ∈ lw_tbl := wt3 (j := 184) rfl
theorem ml_X9_138 : Cond.methodLink RX9 138 yX1_residueOf ∈ lw_tbl := wt3 (j := 195) rfl
theorem ml_X9_142 : Cond.methodLink RX9 142 yX1_raise ∈ lw_tbl := wt3 (j := 202) rfl
theorem ml_X9_146 : Cond.methodLink RX9 146 yX9_unitOf ∈ lw_tbl := wt3 (j := 210) rfl
theorem ml_X9_150 : Cond.methodLink RX9 150 yX1_invert ∈ lw_tbl := wt3 (j := 214) rfl
theorem ml_X9_153 : Cond.methodLink RX9 153 yX1_orderOf ∈ lw_tbl := wt3 (j := 225) rfl
theorem ml_X9_156 : Cond.methodLink RX9 156 yX3_find ∈ lw_tbl := wt3 (j := 236) rfl
theorem cst_X9_159 : CST RX9 159 (100003) := ⟨_, wt4 (j := 21) rfl, by decide⟩
theorem ml_X9_160 : Cond.methodLink RX9 160 yX9_leastPrime ∈ lw_tbl := wt4 (j := 22) rfl
theorem cl_X9_163 : Cond.classLink RX9 163 "java/util/NoSuchElementException" ∈ lw_tbl := wt3 (j := 168) rfl
theorem ml_X9_168 : Cond.methodLink RX9 168 yX9_isKind ∈ lw_tbl := wt4 (j := 33) rfl
theorem ml_X9_171 : Cond.methodLink RX9 171 yX9_isLength ∈ lw_tbl := wt4 (j := 36) rfl
theorem ml_X9_174 : Cond.methodLink RX9 174 yX0_usableFields ∈ lw_tbl := wt4 (j := 39) rfl
theorem ml_X9_177 : Cond.methodLink RX9 177 yX9_sequenceAt ∈ lw_tbl := wt4 (j := 51) rfl
theorem fl_X9_181 : FL RX9 181 7 1 .int false := ⟨RX7, TX7, 2, ck7, by decide, rfl, rfl, by decide +kernel, Or.inr ⟨"ConvolutionBench", wt1 (j := 100) rfl⟩⟩
theorem cl_X9_186 : Cond.classLink RX9 186 "java/lang/IndexOutOfBoundsException" ∈ lw_tbl := wt3 (j := 113) rfl
theorem fl_X9_191 : FL RX9 191 7 0 (.array .int) true := ⟨RX7, TX7, 2, ck7, by decide, rfl, rfl, by decide +kernel, Or.inr ⟨"ConvolutionBench", wt1 (j := 95) rfl⟩⟩
theorem mw_X9_195 : MathW RX9 195 Lib.MathLoose.abs_long.x Lib.MathLoose.abs_long.code 2 (some .long) := ⟨wt4 (j := 75) rfl, wt4 (j := 76) rfl, wt1 (j := 16) rfl, wt4 (j := 77) rfl⟩
theorem csj_X9_201 : CSJ RX9 201 (999) := ⟨_, wt4 (j := 78) rfl, by decide⟩
theorem ml_X9_203 : Cond.methodLink RX9 203 yX9_isTerm ∈ lw_tbl := wt4 (j := 79) rfl
theorem ml_X9_207 : Cond.methodLink RX9 207 yX7_fillEvenly ∈ lw_tbl := wt4 (j := 84) rfl
theorem ml_X9_211 : Cond.methodLink RX9 211 yX7_isFull ∈ lw_tbl := wt4 (j := 96) rfl
theorem ml_X9_216 : Cond.methodLink RX9 216 yX7_add ∈ lw_tbl := wt4 (j := 98) rfl
theorem ml_X9_219 : Cond.methodLink RX9 219 yX9_requireSlot ∈ lw_tbl := wt4 (j := 55) rfl
theorem ml_X9_222 : Cond.methodLink RX9 222 yX0_exchange ∈ lw_tbl := wt4 (j := 113) rfl
theorem ml_X9_226 : Cond.methodLink RX9 226 yX1_evaluate ∈ lw_tbl := wt4 (j := 124) rfl
theorem ml_X9_230 : Cond.methodLink RX9 230 yX9_methodCost ∈ lw_tbl := wt4 (j := 137) rfl
theorem ml_X9_234 : Cond.methodLink RX9 234 yX9_cheapestMethod ∈ lw_tbl := wt4 (j := 153) rfl
theorem ml_X9_237 : Cond.methodLink RX9 237 yX9_requireSet ∈ lw_tbl := wt4 (j := 170) rfl
theorem ml_X9_240 : Cond.methodLink RX9 240 yX0_longestTransform ∈ lw_tbl := wt4 (j := 175) rfl
theorem ml_X9_243 : Cond.methodLink RX9 243 yX9_requireTerms ∈ lw_tbl := wt4 (j := 187) rfl
theorem ml_X9_246 : Cond.methodLink RX9 246 yX9_sizeOf ∈ lw_tbl := wt4 (j := 192) rfl
theorem ml_X9_250 : Cond.methodLink RX9 250 yX9_boundOf ∈ lw_tbl := wt4 (j := 205) rfl
theorem ml_X9_254 : Cond.methodLink RX9 254 yX9_coefficientOf ∈ lw_tbl := wt4 (j := 224) rfl
theorem ml_X9_258 : Cond.methodLink RX9 258 yX0_areEnough ∈ lw_tbl := wt4 (j := 237) rfl
theorem ml_X9_262 : Cond.methodLink RX9 262 yX5_find ∈ lw_tbl := wt5 (j := 13) rfl
theorem fl_X9_265 : FL RX9 265 5 2 .int false := ⟨RX5, TX5, 5, ck5, by decide, rfl, rfl, by decide +kernel, Or.inr ⟨"ConvolutionBench", wt1 (j := 216) rfl⟩⟩
theorem fl_X9_268 : FL RX9 268 5 3 .int false := ⟨RX5, TX5, 5, ck5, by decide, rfl, rfl, by decide +kernel, Or.inr ⟨"ConvolutionBench", wt1 (j := 218) rfl⟩⟩
theorem fl_X9_271 : FL RX9 271 5 4 .int false := ⟨RX5, TX5, 5, ck5, by decide, rfl, rfl, by decide +kernel, Or.inr ⟨"ConvolutionBench", wt1 (j := 220) rfl⟩⟩
theorem csj_X9_276 : CSJ RX9 276 (4000000000000000000) := ⟨_, wt5 (j := 44) rfl, by decide⟩
theorem ml_X9_278 : Cond.methodLink RX9 278 yX0_isProductGreater ∈ lw_tbl := wt5 (j := 45) rfl
theorem fl_X9_283 : FL RX9 283 0 2 (.object "ConvolutionBench$Product") true := ⟨RX0, TX0, 4, ck0, by decide, rfl, rfl, by decide +kernel, Or.inr ⟨"ConvolutionBench", wt1 (j := 115) rfl⟩⟩
theorem ml_X9_287 : Cond.methodLink RX9 287 yX6_prepare ∈ lw_tbl := wt5 (j := 47) rfl
theorem ml_X9_292 : Cond.methodLink RX9 292 yX6_takeFields ∈ lw_tbl := wt5 (j := 52) rfl
theorem ml_X9_296 : Cond.methodLink RX9 296 yX4_convolve ∈ lw_tbl := wt5 (j := 56) rfl
theorem ml_X9_300 : Cond.methodLink RX9 300 yX9_presentProduct ∈ lw_tbl := wt5 (j := 85) rfl
theorem fl_X9_304 : FL RX9 304 6 3 .int false := ⟨RX6, TX6, 8, ck6, by decide, rfl, rfl, by decide +kernel, Or.inr ⟨"ConvolutionBench", wt1 (j := 60) rfl⟩⟩
theorem fl_X9_305 : FL RX9 305 6 5 .int false := ⟨RX6, TX6, 8, ck6, by decide, rfl, rfl, by decide +kernel, Or.inr ⟨"ConvolutionBench", wt1 (j := 65) rfl⟩⟩
theorem fl_X9_306 : FL RX9 306 6 4 .int false := ⟨RX6, TX6, 8, ck6, by decide, rfl, rfl, by decide +kernel, Or.inr ⟨"ConvolutionBench", wt1 (j := 63) rfl⟩⟩
theorem fl_X9_309 : FL RX9 309 6 6 .int false := ⟨RX6, TX6, 8, ck6, by decide, rfl, rfl, by decide +kernel, Or.inr ⟨"ConvolutionBench", wt1 (j := 68) rfl⟩⟩
theorem ml_X9_310 : Cond.methodLink RX9 310 yX9_requireCoefficient ∈ lw_tbl := wt5 (j := 101) rfl
theorem fl_X9_314 : FL RX9 314 6 0 (.array .long) true := ⟨RX6, TX6, 8, ck6, by decide, rfl, rfl, by decide +kernel, Or.inr ⟨"ConvolutionBench", wt1 (j := 52) rfl⟩⟩
theorem fl_X9_318 : FL RX9 318 6 2 .int false := ⟨RX6, TX6, 8, ck6, by decide, rfl, rfl, by decide +kernel, Or.inr ⟨"ConvolutionBench", wt1 (j := 57) rfl⟩⟩
theorem ml_X9_323 : Cond.methodLink RX9 323 yX6_mixedDigit ∈ lw_tbl := wt5 (j := 117) rfl
theorem ml_X9_326 : Cond.methodLink RX9 326 yX6_evaluate ∈ lw_tbl := wt5 (j := 129) rfl
theorem ml_X9_328 : Cond.methodLink RX9 328 yX6_hasCoefficient ∈ lw_tbl := wt5 (j := 104) rfl
theorem ml_X9_331 : Cond.methodLink RX9 331 yX9_isSizeOf ∈ lw_tbl := wt4 (j := 195) rfl
theorem ml_X9_335 : Cond.methodLink RX9 335 yX6_isSequence ∈ lw_tbl := wt5 (j := 156) rfl
theorem fl_X9_340 : FL RX9 340 2 2 .int false := ⟨RX2, TX2, 3, ck2, by decide, rfl, rfl, by decide +kernel, Or.inr ⟨"ConvolutionBench", wt1 (j := 142) rfl⟩⟩
theorem ml_X9_343 : Cond.methodLink RX9 343 yX2_giveBack ∈ lw_tbl := wt5 (j := 170) rfl
theorem cl_X9_346 : Cond.classLink RX9 346 "java/lang/IllegalArgumentException" ∈ lw_tbl := wt2 (j := 115) rfl
theorem ml_X9_357 : Cond.methodLink RX9 357 yX1_hasRoot ∈ lw_tbl := wt3 (j := 167) rfl
theorem fl_X9_364 : FL RX9 364 0 0 (.array (.object "ConvolutionBench$Field")) true := ⟨RX0, TX0, 4, ck0, by decide, rfl, rfl, by decide +kernel, Or.inr ⟨"ConvolutionBench", wt1 (j := 110) rfl⟩⟩
theorem fl_X9_368 : FL RX9 368 0 1 (.array (.object "ConvolutionBench$Sequence")) true := ⟨RX0, TX0, 4, ck0, by decide, rfl, rfl, by decide +kernel, Or.inr ⟨"ConvolutionBench", wt1 (j := 113) rfl⟩⟩
theorem ml_X9_372 : Cond.methodLink RX9 372 yX6_isPresent ∈ lw_tbl := wt5 (j := 89) rfl
theorem csj_X9_379 : CSJ RX9 379 (-9999) := ⟨_, wt4 (j := 82) rfl, by decide⟩
theorem csj_X9_381 : CSJ RX9 381 (9999) := ⟨_, wt4 (j := 83) rfl, by decide⟩
theorem ml_X9_383 : Cond.methodLink RX9 383 yX9_isPrime ∈ lw_tbl := wt4 (j := 25) rfl
theorem mw_X9_386 : MathW RX9 386 Lib.Math.min.name Lib.Math.min.code 2 (some .int) := ⟨wt4 (j := 208) rfl, wt2 (j := 136) rfl, wt1 (j := 16) rfl, wt2 (j := 137) rfl⟩
theorem ml_X9_389 : Cond.methodLink RX9 389 yX7_greatestSize ∈ lw_tbl := wt4 (j := 209) rfl
theorem ml_X9_392 : Cond.methodLink RX9 392 yX9_linearCoefficient ∈ lw_tbl := wt4 (j := 227) rfl
theorem ml_X9_396 : Cond.methodLink RX9 396 yX9_splittingCost ∈ lw_tbl := wt4 (j := 140) rfl
theorem ml_X9_399 : Cond.methodLink RX9 399 yX9_chirpCost ∈ lw_tbl := wt4 (j := 143) rfl
theorem ob_X0_3 : Cond.methodLink RX0 3 Lib.objectInit ∈ lw_tbl := wt1 (j := 38) rfl
theorem cl_X0_9 : Cond.classLink RX0 9 "ConvolutionBench$Field" ∈ lw_tbl := wt1 (j := 39) rfl
theorem nl_X0_9 : NL RX0 9 1 4 [.int 0, .null, .int 0, .int 0] := ⟨RX1, TX1, tyX1, ck1, tyX1_ok, (by intro j hj; match j, hj with | 0, _ => rfl | 1, _ => rfl | 2, _ => rfl | 3, _ => rfl | (q + 4), h => exact absurd h (by omega)), cl_X0_9, wt2 (j := 238) rfl, wt1 (j := 21) rfl⟩
theorem fl_X0_11 : FL RX0 11 0 0 (.array (.object "ConvolutionBench$Field")) true := ⟨RX0, TX0, 4, ck0, by decide, rfl, rfl, by decide +kernel, Or.inl (wt1 (j := 107) rfl)⟩
theorem flf_X0_11 : FLF RX0 11 0 0 (.array (.object "ConvolutionBench$Field")) := ⟨RX0, TX0, 4, ck0, by decide, rfl, rfl, rfl, by decide +kernel, wt1 (j := 107) rfl⟩
theorem cl_X0_17 : Cond.classLink RX0 17 "ConvolutionBench$Sequence" ∈ lw_tbl := wt1 (j := 41) rfl
theorem nl_X0_17 : NL RX0 17 7 2 [.null, .int 0] := ⟨RX7, TX7, tyX7, ck7, tyX7_ok, (by intro j hj; match j, hj with | 0, _ => rfl | 1, _ => rfl | (q + 2), h => exact absurd h (by omega)), cl_X0_17, wt1 (j := 88) rfl, wt1 (j := 4) rfl⟩
theorem fl_X0_19 : FL RX0 19 0 1 (.array (.object "ConvolutionBench$Sequence")) true := ⟨RX0, TX0, 4, ck0, by decide, rfl, rfl, by decide +kernel, Or.inl (wt1 (j := 111) rfl)⟩
theorem flf_X0_19 : FLF RX0 19 0 1 (.array (.object "ConvolutionBench$Sequence")) := ⟨RX0, TX0, 4, ck0, by decide, rfl, rfl, rfl, by decide +kernel, wt1 (j := 111) rfl⟩
theorem cl_X0_23 : Cond.classLink RX0 23 "ConvolutionBench$Product" ∈ lw_tbl := wt1 (j := 43) rfl
theorem nl_X0_23 : NL RX0 23 6 8 [.null, .null, .int 0, .int 0, .int 0, .int 0, .int 0, .long 0] := ⟨RX6, TX6, tyX6, ck6, tyX6_ok, (by intro j hj; match j, hj with | 0, _ => rfl | 1, _ => rfl | 2, _ => rfl | 3, _ => rfl | 4, _ => rfl | 5, _ => rfl | 6, _ => rfl | 7, _ => rfl | (q + 8), h => exact absurd h (by omega)), cl_X0_23, wt1 (j := 44) rfl, wt1 (j := 3) rfl⟩
theorem ml_X0_25 : Cond.methodLinkNest RX0 25 yX6_init "ConvolutionBench" ∈ lw_tbl := wt1 (j := 45) rfl
theorem fl_X0_26 : FL RX0 26 0 2 (.object "ConvolutionBench$Product") true := ⟨RX0, TX0, 4, ck0, by decide, rfl, rfl, by decide +kernel, Or.inl (wt1 (j := 114) rfl)⟩
theorem flf_X0_26 : FLF RX0 26 0 2 (.object "ConvolutionBench$Product") := ⟨RX0, TX0, 4, ck0, by decide, rfl, rfl, rfl, by decide +kernel, wt1 (j := 114) rfl⟩
theorem ml_X0_30 : Cond.methodLinkNest RX0 30 yX7_init "ConvolutionBench" ∈ lw_tbl := wt1 (j := 89) rfl
theorem cst_X0_31 : CST RX0 31 (100003) := ⟨_, wt2 (j := 230) rfl, by decide⟩
theorem ml_X0_32 : Cond.methodLinkNest RX0 32 yX9_isPrime "ConvolutionBench" ∈ lw_tbl := wt2 (j := 231) rfl
theorem fl_X0_36 : FL RX0 36 0 3 .int false := ⟨RX0, TX0, 4, ck0, by decide, rfl, rfl, by decide +kernel, Or.inl (wt1 (j := 117) rfl)⟩
theorem fl_X0_40 : FL RX0 40 1 0 .int true := ⟨RX1, TX1, 4, ck1, by decide, rfl, rfl, by decide +kernel, Or.inr ⟨"ConvolutionBench", wt3 (j := 19) rfl⟩⟩
theorem ml_X0_43 : Cond.methodLink RX0 43 yX1_init ∈ lw_tbl := wt2 (j := 239) rfl
theorem ml_X0_46 : Cond.methodLink RX0 46 yX1_hasRoot ∈ lw_tbl := wt4 (j := 43) rfl
theorem ml_X0_49 : Cond.methodLink RX0 49 yX0_usableFields ∈ lw_tbl := wt4 (j := 179) rfl
theorem csj_X0_53 : CSJ RX0 53 (2) := ⟨_, wt5 (j := 1) rfl, by decide⟩
theorem ml_X0_55 : Cond.methodLink RX0 55 yX0_isProductGreater ∈ lw_tbl := wt5 (j := 2) rfl
theorem fl_X0_59 : FL RX0 59 7 1 .int false := ⟨RX7, TX7, 2, ck7, by decide, rfl, rfl, by decide +kernel, Or.inr ⟨"ConvolutionBench", wt1 (j := 99) rfl⟩⟩
theorem ml_X0_62 : Cond.methodLink RX0 62 yX6_clear ∈ lw_tbl := wt2 (j := 142) rfl
theorem ml_X0_65 : Cond.methodLinkNest RX0 65 yX9_copyFields "ConvolutionBench" ∈ lw_tbl := wt3 (j := 73) rfl
theorem ml_X0_69 : Cond.methodLink RX0 69 yX7_copyFrom ∈ lw_tbl := wt3 (j := 76) rfl
theorem ml_X0_73 : Cond.methodLink RX0 73 yX6_copyFrom ∈ lw_tbl := wt3 (j := 83) rfl
theorem ob_X1_3 : Cond.methodLink RX1 3 Lib.objectInit ∈ lw_tbl := wt3 (j := 2) rfl
theorem fl_X1_11 : FL RX1 11 1 1 (.array .int) true := ⟨RX1, TX1, 4, ck1, by decide, rfl, rfl, by decide +kernel, Or.inl (wt3 (j := 24) rfl)⟩
theorem flf_X1_11 : FLF RX1 11 1 1 (.array .int) := ⟨RX1, TX1, 4, ck1, by decide, rfl, rfl, rfl, by decide +kernel, wt3 (j := 24) rfl⟩
theorem mw_X1_15 : MathW RX1 15 Lib.Math.max.name Lib.Math.max.code 2 (some .int) := ⟨wt3 (j := 3) rfl, wt3 (j := 4) rfl, wt1 (j := 16) rfl, wt3 (j := 5) rfl⟩
theorem fl_X1_21 : FL RX1 21 1 0 .int true := ⟨RX1, TX1, 4, ck1, by decide, rfl, rfl, by decide +kernel, Or.inl (wt3 (j := 18) rfl)⟩
theorem flf_X1_21 : FLF RX1 21 1 0 .int := ⟨RX1, TX1, 4, ck1, by decide, rfl, rfl, rfl, by decide +kernel, wt3 (j := 18) rfl⟩
theorem ml_X1_25 : Cond.methodLink RX1 25 yX1_findFactors ∈ lw_tbl := wt3 (j := 6) rfl
theorem fl_X1_29 : FL RX1 29 1 2 .int true := ⟨RX1, TX1, 4, ck1, by decide, rfl, rfl, by decide +kernel, Or.inl (wt3 (j := 25) rfl)⟩
theorem flf_X1_29 : FLF RX1 29 1 2 .int := ⟨RX1, TX1, 4, ck1, by decide, rfl, rfl, rfl, by decide +kernel, wt3 (j := 25) rfl⟩
theorem ml_X1_32 : Cond.methodLink RX1 32 yX1_leastGenerator ∈ lw_tbl := wt3 (j := 10) rfl
theorem fl_X1_35 : FL RX1 35 1 3 .int true := ⟨RX1, TX1, 4, ck1, by decide, rfl, rfl, by decide +kernel, Or.inl (wt3 (j := 27) rfl)⟩
theorem flf_X1_35 : FLF RX1 35 1 3 .int := ⟨RX1, TX1, 4, ck1, by decide, rfl, rfl, rfl, by decide +kernel, wt3 (j := 27) rfl⟩
theorem ml_X1_38 : Cond.methodLink RX1 38 yX1_raise ∈ lw_tbl := wt3 (j := 14) rfl
theorem ml_X1_41 : Cond.methodLink RX1 41 yJ9_floorMod_f86c9 ∈ lw_tbl := wt3 (j := 199) rfl
theorem ml_X1_45 : Cond.methodLink RX1 45 yX1_hasRoot ∈ lw_tbl := wt3 (j := 152) rfl
theorem mw_X1_49 : MathW RX1 49 Lib.Math.min.name Lib.Math.min.code 2 (some .int) := ⟨wt4 (j := 128) rfl, wt2 (j := 136) rfl, wt1 (j := 16) rfl, wt2 (j := 137) rfl⟩
theorem ml_X1_52 : Cond.methodLink RX1 52 yX1_residueOf ∈ lw_tbl := wt4 (j := 129) rfl
theorem ob_X2_3 : Cond.methodLink RX2 3 Lib.objectInit ∈ lw_tbl := wt1 (j := 135) rfl
theorem cl_X2_9 : Cond.classLink RX2 9 "ConvolutionBench$Bench" ∈ lw_tbl := wt1 (j := 136) rfl
theorem nl_X2_9 : NL RX2 9 0 4 [.null, .null, .null, .int 0] := ⟨RX0, TX0, tyX0, ck0, tyX0_ok, (by intro j hj; match j, hj with | 0, _ => rfl | 1, _ => rfl | 2, _ => rfl | 3, _ => rfl | (q + 4), h => exact absurd h (by omega)), cl_X2_9, wt1 (j := 34) rfl, wt1 (j := 2) rfl⟩
theorem fl_X2_11 : FL RX2 11 2 0 (.array (.object "ConvolutionBench$Bench")) true := ⟨RX2, TX2, 3, ck2, by decide, rfl, rfl, by decide +kernel, Or.inl (wt1 (j := 139) rfl)⟩
theorem flf_X2_11 : FLF RX2 11 2 0 (.array (.object "ConvolutionBench$Bench")) := ⟨RX2, TX2, 3, ck2, by decide, rfl, rfl, rfl, by decide +kernel, wt1 (j := 139) rfl⟩
theorem ml_X2_17 : Cond.methodLink RX2 17 yX0_init ∈ lw_tbl := wt1 (j := 138) rfl
theorem fl_X2_18 : FL RX2 18 2 1 .int false := ⟨RX2, TX2, 3, ck2, by decide, rfl, rfl, by decide +kernel, Or.inl (wt1 (j := 140) rfl)⟩
theorem ml_X2_22 : Cond.methodLink RX2 22 yX0_copyFrom ∈ lw_tbl := wt3 (j := 69) rfl
theorem fl_X2_26 : FL RX2 26 2 2 .int false := ⟨RX2, TX2, 3, ck2, by decide, rfl, rfl, by decide +kernel, Or.inl (wt1 (j := 141) rfl)⟩
theorem mw_X2_29 : MathW RX2 29 Lib.Math.min.name Lib.Math.min.code 2 (some .int) := ⟨wt3 (j := 89) rfl, wt2 (j := 136) rfl, wt1 (j := 16) rfl, wt2 (j := 137) rfl⟩
theorem ob_X3_3 : Cond.methodLink RX3 3 Lib.objectInit ∈ lw_tbl := wt1 (j := 189) rfl
theorem fl_X3_11 : FL RX3 11 3 0 (.array .int) true := ⟨RX3, TX3, 2, ck3, by decide, rfl, rfl, by decide +kernel, Or.inl (wt1 (j := 190) rfl)⟩
theorem flf_X3_11 : FLF RX3 11 3 0 (.array .int) := ⟨RX3, TX3, 2, ck3, by decide, rfl, rfl, rfl, by decide +kernel, wt1 (j := 190) rfl⟩
theorem fl_X3_15 : FL RX3 15 3 1 (.array .int) true := ⟨RX3, TX3, 2, ck3, by decide, rfl, rfl, by decide +kernel, Or.inl (wt1 (j := 191) rfl)⟩
theorem flf_X3_15 : FLF RX3 15 3 1 (.array .int) := ⟨RX3, TX3, 2, ck3, by decide, rfl, rfl, rfl, by decide +kernel, wt1 (j := 191) rfl⟩
theorem ml_X3_18 : Cond.methodLink RX3 18 yX3_fill ∈ lw_tbl := wt4 (j := 0) rfl
theorem fl_X3_22 : FL RX3 22 1 3 .int true := ⟨RX1, TX1, 4, ck1, by decide, rfl, rfl, by decide +kernel, Or.inr ⟨"ConvolutionBench", wt3 (j := 28) rfl⟩⟩
theorem ml_X3_28 : Cond.methodLink RX3 28 yX1_raise ∈ lw_tbl := wt4 (j := 12) rfl
theorem ml_X3_32 : Cond.methodLink RX3 32 yX1_invert ∈ lw_tbl := wt4 (j := 13) rfl
theorem ml_X3_36 : Cond.methodLink RX3 36 yX3_placeOf ∈ lw_tbl := wt4 (j := 4) rfl
theorem ml_X3_39 : Cond.methodLink RX3 39 yX1_times ∈ lw_tbl := wt4 (j := 8) rfl
theorem fl_X3_42 : FL RX3 42 1 0 .int true := ⟨RX1, TX1, 4, ck1, by decide, rfl, rfl, by decide +kernel, Or.inr ⟨"ConvolutionBench", wt3 (j := 21) rfl⟩⟩
theorem ob_X4_3 : Cond.methodLink RX4 3 Lib.objectInit ∈ lw_tbl := wt1 (j := 202) rfl
theorem fl_X4_9 : FL RX4 9 4 0 (.array .int) true := ⟨RX4, TX4, 1, ck4, by decide, rfl, rfl, by decide +kernel, Or.inl (wt1 (j := 203) rfl)⟩
theorem flf_X4_9 : FLF RX4 9 4 0 (.array .int) := ⟨RX4, TX4, 1, ck4, by decide, rfl, rfl, rfl, by decide +kernel, wt1 (j := 203) rfl⟩
theorem fl_X4_15 : FL RX4 15 6 2 .int false := ⟨RX6, TX6, 8, ck6, by decide, rfl, rfl, by decide +kernel, Or.inr ⟨"ConvolutionBench", wt1 (j := 55) rfl⟩⟩
theorem fl_X4_21 : FL RX4 21 6 1 (.array (.object "ConvolutionBench$Field")) true := ⟨RX6, TX6, 8, ck6, by decide, rfl, rfl, by decide +kernel, Or.inr ⟨"ConvolutionBench", wt1 (j := 54) rfl⟩⟩
theorem fl_X4_25 : FL RX4 25 6 4 .int false := ⟨RX6, TX6, 8, ck6, by decide, rfl, rfl, by decide +kernel, Or.inr ⟨"ConvolutionBench", wt1 (j := 61) rfl⟩⟩
theorem fl_X4_28 : FL RX4 28 6 6 .int false := ⟨RX6, TX6, 8, ck6, by decide, rfl, rfl, by decide +kernel, Or.inr ⟨"ConvolutionBench", wt1 (j := 66) rfl⟩⟩
theorem ml_X4_31 : Cond.methodLink RX4 31 yX1_rootOfOrder ∈ lw_tbl := wt5 (j := 60) rfl
theorem ml_X4_37 : Cond.methodLink RX4 37 yX4_multiplySpectra ∈ lw_tbl := wt5 (j := 61) rfl
theorem ml_X4_41 : Cond.methodLink RX4 41 yX4_widen ∈ lw_tbl := wt5 (j := 67) rfl
theorem fl_X4_45 : FL RX4 45 1 0 .int true := ⟨RX1, TX1, 4, ck1, by decide, rfl, rfl, by decide +kernel, Or.inr ⟨"ConvolutionBench", wt3 (j := 20) rfl⟩⟩
theorem ml_X4_48 : Cond.methodLink RX4 48 yX6_centre ∈ lw_tbl := wt5 (j := 73) rfl
theorem fl_X4_51 : FL RX4 51 7 0 (.array .int) true := ⟨RX7, TX7, 2, ck7, by decide, rfl, rfl, by decide +kernel, Or.inr ⟨"ConvolutionBench", wt1 (j := 94) rfl⟩⟩
theorem fl_X4_56 : FL RX4 56 7 1 .int false := ⟨RX7, TX7, 2, ck7, by decide, rfl, rfl, by decide +kernel, Or.inr ⟨"ConvolutionBench", wt1 (j := 97) rfl⟩⟩
theorem ml_X4_59 : Cond.methodLink RX4 59 yX1_evaluate ∈ lw_tbl := wt5 (j := 65) rfl
theorem ml_X4_63 : Cond.methodLink RX4 63 yX1_times ∈ lw_tbl := wt5 (j := 66) rfl
theorem ml_X4_67 : Cond.methodLink RX4 67 yX1_invert ∈ lw_tbl := wt5 (j := 71) rfl
theorem ml_X4_70 : Cond.methodLink RX4 70 yX1_residueOf ∈ lw_tbl := wt5 (j := 72) rfl
theorem fl_X4_74 : FL RX4 74 6 3 .int false := ⟨RX6, TX6, 8, ck6, by decide, rfl, rfl, by decide +kernel, Or.inr ⟨"ConvolutionBench", wt1 (j := 59) rfl⟩⟩
theorem fl_X4_75 : FL RX4 75 6 0 (.array .long) true := ⟨RX6, TX6, 8, ck6, by decide, rfl, rfl, by decide +kernel, Or.inr ⟨"ConvolutionBench", wt1 (j := 51) rfl⟩⟩
theorem ob_X5_3 : Cond.methodLink RX5 3 Lib.objectInit ∈ lw_tbl := wt1 (j := 212) rfl
theorem fl_X5_9 : FL RX5 9 5 0 (.array .int) true := ⟨RX5, TX5, 5, ck5, by decide, rfl, rfl, by decide +kernel, Or.inl (wt1 (j := 213) rfl)⟩
theorem flf_X5_9 : FLF RX5 9 5 0 (.array .int) := ⟨RX5, TX5, 5, ck5, by decide, rfl, rfl, rfl, by decide +kernel, wt1 (j := 213) rfl⟩
theorem fl_X5_15 : FL RX5 15 5 1 (.array .boolean) true := ⟨RX5, TX5, 5, ck5, by decide, rfl, rfl, by decide +kernel, Or.inl (wt1 (j := 214) rfl)⟩
theorem flf_X5_15 : FLF RX5 15 5 1 (.array .boolean) := ⟨RX5, TX5, 5, ck5, by decide, rfl, rfl, rfl, by decide +kernel, wt1 (j := 214) rfl⟩
theorem fl_X5_19 : FL RX5 19 5 2 .int false := ⟨RX5, TX5, 5, ck5, by decide, rfl, rfl, by decide +kernel, Or.inl (wt1 (j := 215) rfl)⟩
theorem fl_X5_23 : FL RX5 23 5 3 .int false := ⟨RX5, TX5, 5, ck5, by decide, rfl, rfl, by decide +kernel, Or.inl (wt1 (j := 217) rfl)⟩
theorem fl_X5_26 : FL RX5 26 5 4 .int false := ⟨RX5, TX5, 5, ck5, by decide, rfl, rfl, by decide +kernel, Or.inl (wt1 (j := 219) rfl)⟩
theorem fl_X5_29 : FL RX5 29 0 3 .int false := ⟨RX0, TX0, 4, ck0, by decide, rfl, rfl, by decide +kernel, Or.inr ⟨"ConvolutionBench", wt1 (j := 116) rfl⟩⟩
theorem ml_X5_34 : Cond.methodLink RX5 34 yX0_areEnough ∈ lw_tbl := wt5 (j := 17) rfl
theorem ml_X5_38 : Cond.methodLink RX5 38 yX0_usableFields ∈ lw_tbl := wt5 (j := 18) rfl
theorem ml_X5_42 : Cond.methodLink RX5 42 yX5_measureFields ∈ lw_tbl := wt5 (j := 19) rfl
theorem ml_X5_46 : Cond.methodLink RX5 46 yX5_compare ∈ lw_tbl := wt5 (j := 25) rfl
theorem fl_X5_50 : FL RX5 50 0 0 (.array (.object "ConvolutionBench$Field")) true := ⟨RX0, TX0, 4, ck0, by decide, rfl, rfl, by decide +kernel, Or.inr ⟨"ConvolutionBench", wt1 (j := 108) rfl⟩⟩
theorem ml_X5_54 : Cond.methodLinkNest RX5 54 yX9_cheapestMethod "ConvolutionBench" ∈ lw_tbl := wt5 (j := 23) rfl
theorem ml_X5_58 : Cond.methodLinkNest RX5 58 yX9_methodCost "ConvolutionBench" ∈ lw_tbl := wt5 (j := 24) rfl
theorem ob_X6_3 : Cond.methodLink RX6 3 Lib.objectInit ∈ lw_tbl := wt1 (j := 48) rfl
theorem fl_X6_9 : FL RX6 9 6 0 (.array .long) true := ⟨RX6, TX6, 8, ck6, by decide, rfl, rfl, by decide +kernel, Or.inl (wt1 (j := 50) rfl)⟩
theorem flf_X6_9 : FLF RX6 9 6 0 (.array .long) := ⟨RX6, TX6, 8, ck6, by decide, rfl, rfl, rfl, by decide +kernel, wt1 (j := 50) rfl⟩
theorem cl_X6_15 : Cond.classLink RX6 15 "ConvolutionBench$Field" ∈ lw_tbl := wt1 (j := 49) rfl
theorem nl_X6_15 : NL RX6 15 1 4 [.int 0, .null, .int 0, .int 0] := ⟨RX1, TX1, tyX1, ck1, tyX1_ok, (by intro j hj; match j, hj with | 0, _ => rfl | 1, _ => rfl | 2, _ => rfl | 3, _ => rfl | (q + 4), h => exact absurd h (by omega)), cl_X6_15, wt2 (j := 238) rfl, wt1 (j := 21) rfl⟩
theorem fl_X6_17 : FL RX6 17 6 1 (.array (.object "ConvolutionBench$Field")) true := ⟨RX6, TX6, 8, ck6, by decide, rfl, rfl, by decide +kernel, Or.inl (wt1 (j := 53) rfl)⟩
theorem flf_X6_17 : FLF RX6 17 6 1 (.array (.object "ConvolutionBench$Field")) := ⟨RX6, TX6, 8, ck6, by decide, rfl, rfl, rfl, by decide +kernel, wt1 (j := 53) rfl⟩
theorem fl_X6_21 : FL RX6 21 6 7 .long false := ⟨RX6, TX6, 8, ck6, by decide, rfl, rfl, by decide +kernel, Or.inl (wt1 (j := 69) rfl)⟩
theorem fl_X6_25 : FL RX6 25 6 3 .int false := ⟨RX6, TX6, 8, ck6, by decide, rfl, rfl, by decide +kernel, Or.inl (wt1 (j := 58) rfl)⟩
theorem fl_X6_29 : FL RX6 29 6 4 .int false := ⟨RX6, TX6, 8, ck6, by decide, rfl, rfl, by decide +kernel, Or.inl (wt1 (j := 62) rfl)⟩
theorem fl_X6_32 : FL RX6 32 6 6 .int false := ⟨RX6, TX6, 8, ck6, by decide, rfl, rfl, by decide +kernel, Or.inl (wt1 (j := 67) rfl)⟩
theorem mw_X6_35 : MathW RX6 35 Lib.Math.min.name Lib.Math.min.code 2 (some .int) := ⟨wt5 (j := 51) rfl, wt2 (j := 136) rfl, wt1 (j := 16) rfl, wt2 (j := 137) rfl⟩
theorem fl_X6_41 : FL RX6 41 6 5 .int false := ⟨RX6, TX6, 8, ck6, by decide, rfl, rfl, by decide +kernel, Or.inl (wt1 (j := 64) rfl)⟩
theorem fl_X6_44 : FL RX6 44 6 2 .int false := ⟨RX6, TX6, 8, ck6, by decide, rfl, rfl, by decide +kernel, Or.inl (wt1 (j := 56) rfl)⟩
theorem fl_X6_47 : FL RX6 47 0 3 .int false := ⟨RX0, TX0, 4, ck0, by decide, rfl, rfl, by decide +kernel, Or.inr ⟨"ConvolutionBench", wt1 (j := 120) rfl⟩⟩
theorem fl_X6_52 : FL RX6 52 0 0 (.array (.object "ConvolutionBench$Field")) true := ⟨RX0, TX0, 4, ck0, by decide, rfl, rfl, by decide +kernel, Or.inr ⟨"ConvolutionBench", wt1 (j := 109) rfl⟩⟩
theorem fl_X6_53 : FL RX6 53 1 0 .int true := ⟨RX1, TX1, 4, ck1, by decide, rfl, rfl, by decide +kernel, Or.inr ⟨"ConvolutionBench", wt3 (j := 22) rfl⟩⟩
theorem csj_X6_56 : CSJ RX6 56 (2) := ⟨_, wt5 (j := 77) rfl, by decide⟩
theorem ml_X6_58 : Cond.methodLink RX6 58 yX1_residueOf ∈ lw_tbl := wt5 (j := 121) rfl
theorem csj_X6_62 : CSJ RX6 62 (1000003) := ⟨_, wt5 (j := 133) rfl, by decide⟩
theorem ml_X6_64 : Cond.methodLink RX6 64 yJ9_floorMod_f86c9 ∈ lw_tbl := wt5 (j := 134) rfl
theorem ml_X6_68 : Cond.methodLinkNest RX6 68 yX9_isTerm "ConvolutionBench" ∈ lw_tbl := wt5 (j := 160) rfl
theorem cp_X6_72 : CpW RX6 72 := ⟨wt3 (j := 87) rfl, wt3 (j := 82) rfl, wt3 (j := 81) rfl, wt1 (j := 22) rfl⟩
theorem ml_X6_78 : Cond.methodLinkNest RX6 78 yX9_copyFields "ConvolutionBench" ∈ lw_tbl := wt3 (j := 88) rfl
theorem ob_X7_3 : Cond.methodLink RX7 3 Lib.objectInit ∈ lw_tbl := wt1 (j := 92) rfl
theorem fl_X7_9 : FL RX7 9 7 0 (.array .int) true := ⟨RX7, TX7, 2, ck7, by decide, rfl, rfl, by decide +kernel, Or.inl (wt1 (j := 93) rfl)⟩
theorem flf_X7_9 : FLF RX7 9 7 0 (.array .int) := ⟨RX7, TX7, 2, ck7, by decide, rfl, rfl, rfl, by decide +kernel, wt1 (j := 93) rfl⟩
theorem fl_X7_15 : FL RX7 15 7 1 .int false := ⟨RX7, TX7, 2, ck7, by decide, rfl, rfl, by decide +kernel, Or.inl (wt1 (j := 96) rfl)⟩
theorem ml_X7_19 : Cond.methodLink RX7 19 yX7_isFull ∈ lw_tbl := wt3 (j := 60) rfl
theorem ml_X7_23 : Cond.methodLink RX7 23 yX7_add ∈ lw_tbl := wt4 (j := 88) rfl
theorem mw_X7_27 : MathW RX7 27 Lib.Math.abs.name Lib.Math.abs.code 1 (some .int) := ⟨wt4 (j := 213) rfl, wt4 (j := 214) rfl, wt1 (j := 16) rfl, wt4 (j := 215) rfl⟩
theorem mw_X7_33 : MathW RX7 33 Lib.Math.max.name Lib.Math.max.code 2 (some .int) := ⟨wt4 (j := 216) rfl, wt3 (j := 4) rfl, wt1 (j := 16) rfl, wt3 (j := 5) rfl⟩
theorem cp_X7_37 : CpW RX7 37 := ⟨wt3 (j := 80) rfl, wt3 (j := 82) rfl, wt3 (j := 81) rfl, wt1 (j := 22) rfl⟩
theorem ob_X8_3 : Cond.methodLink RX8 3 Lib.objectInit ∈ lw_tbl := wt1 (j := 155) rfl
theorem fl_X8_9 : FL RX8 9 8 0 (.array .byte) true := ⟨RX8, TX8, 7, ck8, by decide, rfl, rfl, by decide +kernel, Or.inl (wt1 (j := 158) rfl)⟩
theorem flf_X8_9 : FLF RX8 9 8 0 (.array .byte) := ⟨RX8, TX8, 7, ck8, by decide, rfl, rfl, rfl, by decide +kernel, wt1 (j := 158) rfl⟩
theorem cl_X8_15 : Cond.classLink RX8 15 "ConvolutionBench$Bench" ∈ lw_tbl := wt1 (j := 156) rfl
theorem nl_X8_15 : NL RX8 15 0 4 [.null, .null, .null, .int 0] := ⟨RX0, TX0, tyX0, ck0, tyX0_ok, (by intro j hj; match j, hj with | 0, _ => rfl | 1, _ => rfl | 2, _ => rfl | 3, _ => rfl | (q + 4), h => exact absurd h (by omega)), cl_X8_15, wt1 (j := 34) rfl, wt1 (j := 2) rfl⟩
theorem ml_X8_17 : Cond.methodLink RX8 17 yX0_init ∈ lw_tbl := wt1 (j := 157) rfl
theorem fl_X8_18 : FL RX8 18 8 1 (.object "ConvolutionBench$Bench") true := ⟨RX8, TX8, 7, ck8, by decide, rfl, rfl, by decide +kernel, Or.inl (wt1 (j := 159) rfl)⟩
theorem flf_X8_18 : FLF RX8 18 8 1 (.object "ConvolutionBench$Bench") := ⟨RX8, TX8, 7, ck8, by decide, rfl, rfl, rfl, by decide +kernel, wt1 (j := 159) rfl⟩
theorem fl_X8_22 : FL RX8 22 8 6 .int false := ⟨RX8, TX8, 7, ck8, by decide, rfl, rfl, by decide +kernel, Or.inl (wt1 (j := 166) rfl)⟩
theorem fl_X8_26 : FL RX8 26 8 2 .int false := ⟨RX8, TX8, 7, ck8, by decide, rfl, rfl, by decide +kernel, Or.inl (wt1 (j := 161) rfl)⟩
theorem mw_X8_29 : MathW RX8 29 Lib.Math.min.name Lib.Math.min.code 2 (some .int) := ⟨wt2 (j := 135) rfl, wt2 (j := 136) rfl, wt1 (j := 16) rfl, wt2 (j := 137) rfl⟩
theorem fl_X8_35 : FL RX8 35 8 3 .int false := ⟨RX8, TX8, 7, ck8, by decide, rfl, rfl, by decide +kernel, Or.inl (wt1 (j := 163) rfl)⟩
theorem fl_X8_38 : FL RX8 38 8 4 .int false := ⟨RX8, TX8, 7, ck8, by decide, rfl, rfl, by decide +kernel, Or.inl (wt1 (j := 164) rfl)⟩
theorem fl_X8_41 : FL RX8 41 8 5 .int false := ⟨RX8, TX8, 7, ck8, by decide, rfl, rfl, by decide +kernel, Or.inl (wt1 (j := 165) rfl)⟩
theorem ml_X8_44 : Cond.methodLink RX8 44 yX0_clear ∈ lw_tbl := wt2 (j := 138) rfl
theorem ml_X8_47 : Cond.methodLink RX8 47 yX8_passSpaces ∈ lw_tbl := wt2 (j := 146) rfl
theorem ml_X8_52 : Cond.methodLink RX8 52 yX8_passWord ∈ lw_tbl := wt2 (j := 155) rfl
theorem ml_X8_56 : Cond.methodLink RX8 56 yX8_readPrime ∈ lw_tbl := wt2 (j := 210) rfl
theorem ml_X8_62 : Cond.methodLink RX8 62 yX8_readSequence ∈ lw_tbl := wt3 (j := 40) rfl
theorem ml_X8_65 : Cond.methodLink RX8 65 yX8_fail ∈ lw_tbl := wt2 (j := 214) rfl
theorem ml_X8_69 : Cond.methodLink RX8 69 yX8_passSemicolon ∈ lw_tbl := wt3 (j := 61) rfl
theorem fl_X8_72 : FL RX8 72 0 3 .int false := ⟨RX0, TX0, 4, ck0, by decide, rfl, rfl, by decide +kernel, Or.inr ⟨"ConvolutionBench", wt1 (j := 119) rfl⟩⟩
theorem ml_X8_75 : Cond.methodLink RX8 75 yX8_passNumber ∈ lw_tbl := wt2 (j := 218) rfl
theorem ml_X8_79 : Cond.methodLink RX8 79 yX0_canBeAdded ∈ lw_tbl := wt2 (j := 226) rfl
theorem ml_X8_83 : Cond.methodLink RX8 83 yX0_addField ∈ lw_tbl := wt2 (j := 234) rfl
theorem fl_X8_86 : FL RX8 86 0 1 (.array (.object "ConvolutionBench$Sequence")) true := ⟨RX0, TX0, 4, ck0, by decide, rfl, rfl, by decide +kernel, Or.inr ⟨"ConvolutionBench", wt1 (j := 112) rfl⟩⟩
theorem ml_X8_90 : Cond.methodLink RX8 90 yX8_readTerms ∈ lw_tbl := wt3 (j := 44) rfl
theorem fl_X8_94 : FL RX8 94 7 1 .int false := ⟨RX7, TX7, 2, ck7, by decide, rfl, rfl, by decide +kernel, Or.inr ⟨"ConvolutionBench", wt1 (j := 98) rfl⟩⟩
theorem ml_X8_99 : Cond.methodLink RX8 99 yX8_byteAt ∈ lw_tbl := wt2 (j := 150) rfl
theorem ml_X8_103 : Cond.methodLink RX8 103 yX8_isDigit ∈ lw_tbl := wt2 (j := 222) rfl
theorem ml_X8_106 : Cond.methodLink RX8 106 yX8_readTerm ∈ lw_tbl := wt3 (j := 48) rfl
theorem ml_X8_109 : Cond.methodLink RX8 109 yX7_isFull ∈ lw_tbl := wt3 (j := 52) rfl
theorem ml_X8_113 : Cond.methodLink RX8 113 yX7_add ∈ lw_tbl := wt3 (j := 56) rfl
theorem ml_X8_116 : Cond.methodLink RX8 116 yJ0_length_8abf5 ∈ lw_tbl := wt2 (j := 159) rfl
theorem ml_X8_121 : Cond.methodLink RX8 121 yJ0_charAt_5068e ∈ lw_tbl := wt2 (j := 169) rfl
theorem ml_X8_125 : Cond.methodLink RX8 125 yX8_isLetter ∈ lw_tbl := wt2 (j := 207) rfl
theorem cst_X8_128 : CST RX8 128 (1000000) := ⟨_, wt2 (j := 225) rfl, by decide⟩
theorem ml_L_7 : Cond.methodLink RL 7 yX9_feed ∈ lw_tbl := wt2 (j := 24) rfl
theorem cl_L_8 : Cond.classLink RL 8 "ConvolutionBench" ∈ lw_tbl := wt1 (j := 25) rfl
theorem nl_L_8 : NL RL 8 9 6 [.null, .null, .null, .null, .null, .null] := ⟨RX9, TX9, tyX9, ck9, tyX9_ok, (by intro j hj; match j, hj with | 0, _ => rfl | 1, _ => rfl | 2, _ => rfl | 3, _ => rfl | 4, _ => rfl | 5, _ => rfl | (q + 6), h => exact absurd h (by omega)), cl_L_8, wt1 (j := 26) rfl, wt1 (j := 1) rfl⟩
theorem cl_L_13 : Cond.classLink RL 13 "java/lang/IllegalStateException" ∈ lw_tbl := wt2 (j := 23) rfl
theorem ml_L_15 : Cond.methodLink RL 15 yX9_load ∈ lw_tbl := wt2 (j := 108) rfl
theorem cl_L_19 : Cond.classLink RL 19 "java/lang/IllegalArgumentException" ∈ lw_tbl := wt2 (j := 107) rfl
theorem ml_L_21 : Cond.methodLink RL 21 yX9_addPrime ∈ lw_tbl := wt3 (j := 94) rfl
theorem ml_L_24 : Cond.methodLink RL 24 yX9_removePrime ∈ lw_tbl := wt3 (j := 105) rfl
theorem cl_L_27 : Cond.classLink RL 27 "java/lang/IndexOutOfBoundsException" ∈ lw_tbl := wt3 (j := 104) rfl
theorem ml_L_29 : Cond.methodLink RL 29 yX9_prime ∈ lw_tbl := wt3 (j := 136) rfl
theorem ml_L_33 : Cond.methodLink RL 33 yX9_root ∈ lw_tbl := wt3 (j := 160) rfl
theorem cl_L_36 : Cond.classLink RL 36 "java/util/NoSuchElementException" ∈ lw_tbl := wt3 (j := 159) rfl
theorem ml_L_38 : Cond.methodLink RL 38 yX9_power ∈ lw_tbl := wt3 (j := 191) rfl
theorem ml_L_42 : Cond.methodLink RL 42 yX9_inverse ∈ lw_tbl := wt3 (j := 206) rfl
theorem ml_L_45 : Cond.methodLink RL 45 yX9_order ∈ lw_tbl := wt3 (j := 221) rfl
theorem ml_L_48 : Cond.methodLink RL 48 yX9_logarithm ∈ lw_tbl := wt3 (j := 232) rfl
theorem ml_L_51 : Cond.methodLink RL 51 yX9_primeFor ∈ lw_tbl := wt4 (j := 17) rfl
theorem ml_L_54 : Cond.methodLink RL 54 yX9_usable ∈ lw_tbl := wt4 (j := 29) rfl
theorem ml_L_57 : Cond.methodLink RL 57 yX9_length ∈ lw_tbl := wt4 (j := 47) rfl
theorem ml_L_60 : Cond.methodLink RL 60 yX9_term ∈ lw_tbl := wt4 (j := 63) rfl
theorem ml_L_63 : Cond.methodLink RL 63 yX9_setSequence ∈ lw_tbl := wt4 (j := 71) rfl
theorem ml_L_67 : Cond.methodLink RL 67 yX9_append ∈ lw_tbl := wt4 (j := 92) rfl
theorem ml_L_70 : Cond.methodLink RL 70 yX9_cut ∈ lw_tbl := wt4 (j := 102) rfl
theorem ml_L_73 : Cond.methodLink RL 73 yX9_swap ∈ lw_tbl := wt4 (j := 109) rfl
theorem ml_L_76 : Cond.methodLink RL 76 yX9_transform ∈ lw_tbl := wt4 (j := 120) rfl
theorem ml_L_79 : Cond.methodLink RL 79 yX9_cost ∈ lw_tbl := wt4 (j := 133) rfl
theorem ml_L_82 : Cond.methodLink RL 82 yX9_method ∈ lw_tbl := wt4 (j := 149) rfl
theorem ml_L_85 : Cond.methodLink RL 85 yX9_chirp ∈ lw_tbl := wt4 (j := 159) rfl
theorem ml_L_88 : Cond.methodLink RL 88 yX9_longest ∈ lw_tbl := wt4 (j := 166) rfl
theorem ml_L_91 : Cond.methodLink RL 91 yX9_size ∈ lw_tbl := wt4 (j := 183) rfl
theorem ml_L_94 : Cond.methodLink RL 94 yX9_bound ∈ lw_tbl := wt4 (j := 201) rfl
theorem ml_L_98 : Cond.methodLink RL 98 yX9_coefficient ∈ lw_tbl := wt4 (j := 220) rfl
theorem ml_L_102 : Cond.methodLink RL 102 yX9_isEnough ∈ lw_tbl := wt4 (j := 233) rfl
theorem ml_L_106 : Cond.methodLink RL 106 yX9_plan ∈ lw_tbl := wt5 (j := 9) rfl
theorem ml_L_109 : Cond.methodLink RL 109 yX9_transformSteps ∈ lw_tbl := wt5 (j := 32) rfl
theorem ml_L_112 : Cond.methodLink RL 112 yX9_multiply ∈ lw_tbl := wt5 (j := 40) rfl
theorem ml_L_115 : Cond.methodLink RL 115 yX9_product ∈ lw_tbl := wt5 (j := 81) rfl
theorem ml_L_118 : Cond.methodLink RL 118 yX9_value ∈ lw_tbl := wt5 (j := 97) rfl
theorem ml_L_122 : Cond.methodLink RL 122 yX9_digit ∈ lw_tbl := wt5 (j := 112) rfl
theorem ml_L_125 : Cond.methodLink RL 125 yX9_productAt ∈ lw_tbl := wt5 (j := 125) rfl
theorem ml_L_128 : Cond.methodLink RL 128 yX9_residue ∈ lw_tbl := wt5 (j := 138) rfl
theorem ml_L_131 : Cond.methodLink RL 131 yX9_agreeing ∈ lw_tbl := wt5 (j := 145) rfl
theorem ml_L_134 : Cond.methodLink RL 134 yX9_store ∈ lw_tbl := wt5 (j := 152) rfl
theorem ml_L_137 : Cond.methodLink RL 137 yX9_undo ∈ lw_tbl := wt5 (j := 165) rfl
theorem ml_L_141 : Cond.methodLink RL 141 yX9_init ∈ lw_tbl := wt1 (j := 27) rfl
theorem cl_L_142 : Cond.classLink RL 142 "ConvolutionBenchModel" ∈ lw_tbl := wt5 (j := 174) rfl
theorem nl_L_142 : NL RL 142 10 18 [.null, .null, .null, .int 0, .int 0, .null, .int 0, .int 0, .int 0, .int 0, .int 0, .int 0, .int 0, .int 0, .long 0, .int 0, .int 0, .int 0] := ⟨RX10, TX10, tyX10, ck10, tyX10_ok, (by intro j hj; match j, hj with | 0, _ => rfl | 1, _ => rfl | 2, _ => rfl | 3, _ => rfl | 4, _ => rfl | 5, _ => rfl | 6, _ => rfl | 7, _ => rfl | 8, _ => rfl | 9, _ => rfl | 10, _ => rfl | 11, _ => rfl | 12, _ => rfl | 13, _ => rfl | 14, _ => rfl | 15, _ => rfl | 16, _ => rfl | 17, _ => rfl | (q + 18), h => exact absurd h (by omega)), cl_L_142, wt5 (j := 175) rfl, wt1 (j := 10) rfl⟩
theorem ml_L_144 : Cond.methodLink RL 144 yX10_init ∈ lw_tbl := wt5 (j := 176) rfl
theorem ml_L_145 : Cond.methodLink RL 145 yL_feed ∈ lw_tbl := wt2 (j := 20) rfl
theorem ml_L_150 : Cond.methodLink RL 150 yX10_feed ∈ lw_tbl := wt6 (j := 7) rfl
theorem ml_L_151 : Cond.methodLink RL 151 yX10_thrown ∈ lw_tbl := wt5 (j := 239) rfl
theorem ml_L_154 : Cond.methodLink RL 154 yL_load ∈ lw_tbl := wt2 (j := 104) rfl
theorem ml_L_157 : Cond.methodLink RL 157 yX10_load ∈ lw_tbl := wt6 (j := 11) rfl
theorem ml_L_158 : Cond.methodLink RL 158 yX9_errorPosition ∈ lw_tbl := wt2 (j := 12) rfl
theorem ml_L_161 : Cond.methodLink RL 161 yX10_errorPosition ∈ lw_tbl := wt6 (j := 78) rfl
theorem ml_L_162 : Cond.methodLink RL 162 yX9_primes ∈ lw_tbl := wt2 (j := 16) rfl
theorem ml_L_165 : Cond.methodLink RL 165 yX10_primes ∈ lw_tbl := wt6 (j := 82) rfl
theorem ml_L_166 : Cond.methodLink RL 166 yL_addPrime ∈ lw_tbl := wt3 (j := 91) rfl
theorem ml_L_168 : Cond.methodLink RL 168 yX10_addPrime ∈ lw_tbl := wt6 (j := 86) rfl
theorem ml_L_169 : Cond.methodLink RL 169 yL_removePrime ∈ lw_tbl := wt3 (j := 101) rfl
theorem ml_L_171 : Cond.methodLink RL 171 yX10_removePrime ∈ lw_tbl := wt6 (j := 97) rfl
theorem ml_L_172 : Cond.methodLink RL 172 yL_prime ∈ lw_tbl := wt3 (j := 133) rfl
theorem ml_L_175 : Cond.methodLink RL 175 yX10_prime ∈ lw_tbl := wt6 (j := 112) rfl
theorem ml_L_176 : Cond.methodLink RL 176 yL_root ∈ lw_tbl := wt3 (j := 156) rfl
theorem ml_L_178 : Cond.methodLink RL 178 yX10_root ∈ lw_tbl := wt6 (j := 139) rfl
theorem ml_L_179 : Cond.methodLink RL 179 yL_power ∈ lw_tbl := wt3 (j := 188) rfl
theorem ml_L_182 : Cond.methodLink RL 182 yX10_power ∈ lw_tbl := wt6 (j := 146) rfl
theorem ml_L_183 : Cond.methodLink RL 183 yL_inverse ∈ lw_tbl := wt3 (j := 203) rfl
theorem ml_L_185 : Cond.methodLink RL 185 yX10_inverse ∈ lw_tbl := wt6 (j := 150) rfl
theorem ml_L_186 : Cond.methodLink RL 186 yL_order ∈ lw_tbl := wt3 (j := 218) rfl
theorem ml_L_188 : Cond.methodLink RL 188 yX10_order ∈ lw_tbl := wt6 (j := 158) rfl
theorem ml_L_189 : Cond.methodLink RL 189 yL_logarithm ∈ lw_tbl := wt3 (j := 229) rfl
theorem ml_L_191 : Cond.methodLink RL 191 yX10_logarithm ∈ lw_tbl := wt6 (j := 165) rfl
theorem ml_L_192 : Cond.methodLink RL 192 yL_primeFor ∈ lw_tbl := wt4 (j := 14) rfl
theorem ml_L_194 : Cond.methodLink RL 194 yX10_primeFor ∈ lw_tbl := wt6 (j := 105) rfl
theorem ml_L_195 : Cond.methodLink RL 195 yL_usable ∈ lw_tbl := wt4 (j := 26) rfl
theorem ml_L_197 : Cond.methodLink RL 197 yX10_usable ∈ lw_tbl := wt7 (j := 3) rfl
theorem ml_L_198 : Cond.methodLink RL 198 yL_length ∈ lw_tbl := wt4 (j := 44) rfl
theorem ml_L_200 : Cond.methodLink RL 200 yX10_length ∈ lw_tbl := wt6 (j := 169) rfl
theorem ml_L_201 : Cond.methodLink RL 201 yL_term ∈ lw_tbl := wt4 (j := 60) rfl
theorem ml_L_203 : Cond.methodLink RL 203 yX10_term ∈ lw_tbl := wt6 (j := 180) rfl
theorem ml_L_204 : Cond.methodLink RL 204 yL_setSequence ∈ lw_tbl := wt4 (j := 68) rfl
theorem ml_L_207 : Cond.methodLink RL 207 yX10_setSequence ∈ lw_tbl := wt6 (j := 188) rfl
theorem ml_L_208 : Cond.methodLink RL 208 yL_append ∈ lw_tbl := wt4 (j := 89) rfl
theorem ml_L_210 : Cond.methodLink RL 210 yX10_append ∈ lw_tbl := wt6 (j := 204) rfl
theorem ml_L_211 : Cond.methodLink RL 211 yL_cut ∈ lw_tbl := wt4 (j := 99) rfl
theorem ml_L_213 : Cond.methodLink RL 213 yX10_cut ∈ lw_tbl := wt6 (j := 208) rfl
theorem ml_L_214 : Cond.methodLink RL 214 yL_swap ∈ lw_tbl := wt4 (j := 106) rfl
theorem ml_L_216 : Cond.methodLink RL 216 yX10_swap ∈ lw_tbl := wt6 (j := 212) rfl
theorem ml_L_217 : Cond.methodLink RL 217 yL_transform ∈ lw_tbl := wt4 (j := 117) rfl
theorem ml_L_219 : Cond.methodLink RL 219 yX10_transform ∈ lw_tbl := wt6 (j := 216) rfl
theorem ml_L_220 : Cond.methodLink RL 220 yL_cost ∈ lw_tbl := wt4 (j := 130) rfl
theorem ml_L_222 : Cond.methodLink RL 222 yX10_cost ∈ lw_tbl := wt6 (j := 225) rfl
theorem ml_L_223 : Cond.methodLink RL 223 yL_method ∈ lw_tbl := wt4 (j := 146) rfl
theorem ml_L_225 : Cond.methodLink RL 225 yX10_method ∈ lw_tbl := wt6 (j := 232) rfl
theorem ml_L_226 : Cond.methodLink RL 226 yL_chirp ∈ lw_tbl := wt4 (j := 156) rfl
theorem ml_L_228 : Cond.methodLink RL 228 yX10_chirp ∈ lw_tbl := wt6 (j := 239) rfl
theorem ml_L_229 : Cond.methodLink RL 229 yL_longest ∈ lw_tbl := wt4 (j := 163) rfl
theorem ml_L_231 : Cond.methodLink RL 231 yX10_longest ∈ lw_tbl := wt7 (j := 7) rfl
theorem ml_L_232 : Cond.methodLink RL 232 yL_size ∈ lw_tbl := wt4 (j := 180) rfl
theorem ml_L_234 : Cond.methodLink RL 234 yX10_size ∈ lw_tbl := wt7 (j := 19) rfl
theorem ml_L_235 : Cond.methodLink RL 235 yL_bound ∈ lw_tbl := wt4 (j := 198) rfl
theorem ml_L_237 : Cond.methodLink RL 237 yX10_bound ∈ lw_tbl := wt7 (j := 39) rfl
theorem ml_L_238 : Cond.methodLink RL 238 yL_coefficient ∈ lw_tbl := wt4 (j := 217) rfl
theorem ml_L_240 : Cond.methodLink RL 240 yX10_coefficient ∈ lw_tbl := wt7 (j := 51) rfl
theorem ml_L_241 : Cond.methodLink RL 241 yL_isEnough ∈ lw_tbl := wt4 (j := 230) rfl
theorem ml_L_243 : Cond.methodLink RL 243 yX10_isEnough ∈ lw_tbl := wt7 (j := 59) rfl
theorem ml_L_244 : Cond.methodLink RL 244 yL_plan ∈ lw_tbl := wt5 (j := 6) rfl
theorem ml_L_246 : Cond.methodLink RL 246 yX10_plan ∈ lw_tbl := wt7 (j := 73) rfl
theorem ml_L_247 : Cond.methodLink RL 247 yL_transformSteps ∈ lw_tbl := wt5 (j := 29) rfl
theorem ml_L_249 : Cond.methodLink RL 249 yX10_transformSteps ∈ lw_tbl := wt7 (j := 85) rfl
theorem ml_L_250 : Cond.methodLink RL 250 yL_multiply ∈ lw_tbl := wt5 (j := 37) rfl
theorem ml_L_252 : Cond.methodLink RL 252 yX10_multiply ∈ lw_tbl := wt7 (j := 89) rfl
theorem ml_L_253 : Cond.methodLink RL 253 yL_product ∈ lw_tbl := wt5 (j := 78) rfl
theorem ml_L_255 : Cond.methodLink RL 255 yX10_product ∈ lw_tbl := wt7 (j := 97) rfl
theorem ml_L_256 : Cond.methodLink RL 256 yL_value ∈ lw_tbl := wt5 (j := 94) rfl
theorem ml_L_258 : Cond.methodLink RL 258 yX10_value ∈ lw_tbl := wt7 (j := 101) rfl
theorem ml_L_259 : Cond.methodLink RL 259 yL_digit ∈ lw_tbl := wt5 (j := 109) rfl
theorem ml_L_261 : Cond.methodLink RL 261 yX10_digit ∈ lw_tbl := wt7 (j := 105) rfl
theorem ml_L_262 : Cond.methodLink RL 262 yL_productAt ∈ lw_tbl := wt5 (j := 122) rfl
theorem ml_L_264 : Cond.methodLink RL 264 yX10_productAt ∈ lw_tbl := wt7 (j := 125) rfl
theorem ml_L_265 : Cond.methodLink RL 265 yL_residue ∈ lw_tbl := wt5 (j := 135) rfl
theorem ml_L_267 : Cond.methodLink RL 267 yX10_residue ∈ lw_tbl := wt7 (j := 109) rfl
theorem ml_L_268 : Cond.methodLink RL 268 yL_agreeing ∈ lw_tbl := wt5 (j := 142) rfl
theorem ml_L_270 : Cond.methodLink RL 270 yX10_agreeing ∈ lw_tbl := wt7 (j := 113) rfl
theorem ml_L_271 : Cond.methodLink RL 271 yL_store ∈ lw_tbl := wt5 (j := 149) rfl
theorem ml_L_273 : Cond.methodLink RL 273 yX10_store ∈ lw_tbl := wt7 (j := 117) rfl
theorem ml_L_274 : Cond.methodLink RL 274 yL_undo ∈ lw_tbl := wt5 (j := 162) rfl
theorem ml_L_277 : Cond.methodLink RL 277 yX10_undo ∈ lw_tbl := wt6 (j := 3) rfl
theorem ob_X10_1 : Cond.methodLink RX10 1 Lib.objectInit ∈ lw_tbl := wt5 (j := 179) rfl
theorem fl_X10_7 : FL RX10 7 10 0 (.array .long) true := ⟨RX10, TX10, 18, ck10, by decide, rfl, rfl, by decide +kernel, Or.inl (wt5 (j := 184) rfl)⟩
theorem flf_X10_7 : FLF RX10 7 10 0 (.array .long) := ⟨RX10, TX10, 18, ck10, by decide, rfl, rfl, rfl, by decide +kernel, wt5 (j := 184) rfl⟩
theorem fl_X10_13 : FL RX10 13 10 1 (.array .long) true := ⟨RX10, TX10, 18, ck10, by decide, rfl, rfl, by decide +kernel, Or.inl (wt5 (j := 185) rfl)⟩
theorem flf_X10_13 : FLF RX10 13 10 1 (.array .long) := ⟨RX10, TX10, 18, ck10, by decide, rfl, rfl, rfl, by decide +kernel, wt5 (j := 185) rfl⟩
theorem fl_X10_16 : FL RX10 16 10 2 (.array .long) true := ⟨RX10, TX10, 18, ck10, by decide, rfl, rfl, by decide +kernel, Or.inl (wt5 (j := 186) rfl)⟩
theorem flf_X10_16 : FLF RX10 16 10 2 (.array .long) := ⟨RX10, TX10, 18, ck10, by decide, rfl, rfl, rfl, by decide +kernel, wt5 (j := 186) rfl⟩
theorem fl_X10_19 : FL RX10 19 10 5 (.array .int) true := ⟨RX10, TX10, 18, ck10, by decide, rfl, rfl, by decide +kernel, Or.inl (wt5 (j := 189) rfl)⟩
theorem flf_X10_19 : FLF RX10 19 10 5 (.array .int) := ⟨RX10, TX10, 18, ck10, by decide, rfl, rfl, rfl, by decide +kernel, wt5 (j := 189) rfl⟩
theorem fl_X10_23 : FL RX10 23 10 13 .int false := ⟨RX10, TX10, 18, ck10, by decide, rfl, rfl, by decide +kernel, Or.inl (wt5 (j := 197) rfl)⟩
theorem ml_X10_27 : Cond.methodLink RX10 27 yX10_becomes ∈ lw_tbl := wt5 (j := 180) rfl
theorem fl_X10_30 : FL RX10 30 10 4 .int false := ⟨RX10, TX10, 18, ck10, by decide, rfl, rfl, by decide +kernel, Or.inl (wt5 (j := 188) rfl)⟩
theorem fl_X10_33 : FL RX10 33 10 3 .int false := ⟨RX10, TX10, 18, ck10, by decide, rfl, rfl, by decide +kernel, Or.inl (wt5 (j := 187) rfl)⟩
theorem fl_X10_36 : FL RX10 36 10 6 .int false := ⟨RX10, TX10, 18, ck10, by decide, rfl, rfl, by decide +kernel, Or.inl (wt5 (j := 190) rfl)⟩
theorem fl_X10_39 : FL RX10 39 10 7 .int false := ⟨RX10, TX10, 18, ck10, by decide, rfl, rfl, by decide +kernel, Or.inl (wt5 (j := 191) rfl)⟩
theorem csj_X10_42 : CSJ RX10 42 (97) := ⟨_, wt6 (j := 29) rfl, by decide⟩
theorem csj_X10_44 : CSJ RX10 44 (122) := ⟨_, wt6 (j := 30) rfl, by decide⟩
theorem ml_X10_46 : Cond.methodLink RX10 46 yX10_isIn ∈ lw_tbl := wt6 (j := 15) rfl
theorem csj_X10_50 : CSJ RX10 50 (48) := ⟨_, wt6 (j := 34) rfl, by decide⟩
theorem csj_X10_52 : CSJ RX10 52 (57) := ⟨_, wt6 (j := 35) rfl, by decide⟩
theorem fl_X10_54 : FL RX10 54 10 9 .int false := ⟨RX10, TX10, 18, ck10, by decide, rfl, rfl, by decide +kernel, Or.inl (wt5 (j := 193) rfl)⟩
theorem fl_X10_57 : FL RX10 57 10 8 .int false := ⟨RX10, TX10, 18, ck10, by decide, rfl, rfl, by decide +kernel, Or.inl (wt5 (j := 192) rfl)⟩
theorem ml_X10_60 : Cond.methodLink RX10 60 yX10_see ∈ lw_tbl := wt6 (j := 22) rfl
theorem fl_X10_64 : FL RX10 64 10 10 .int false := ⟨RX10, TX10, 18, ck10, by decide, rfl, rfl, by decide +kernel, Or.inl (wt5 (j := 194) rfl)⟩
theorem ml_X10_67 : Cond.methodLink RX10 67 yX10_isLetter ∈ lw_tbl := wt6 (j := 26) rfl
theorem ml_X10_71 : Cond.methodLink RX10 71 yX10_isDigit ∈ lw_tbl := wt6 (j := 31) rfl
theorem fl_X10_74 : FL RX10 74 10 14 .long false := ⟨RX10, TX10, 18, ck10, by decide, rfl, rfl, by decide +kernel, Or.inl (wt5 (j := 198) rfl)⟩
theorem csj_X10_78 : CSJ RX10 78 (1000000) := ⟨_, wt6 (j := 36) rfl, by decide⟩
theorem csj_X10_80 : CSJ RX10 80 (10) := ⟨_, wt6 (j := 37) rfl, by decide⟩
theorem fl_X10_82 : FL RX10 82 10 11 .int false := ⟨RX10, TX10, 18, ck10, by decide, rfl, rfl, by decide +kernel, Or.inl (wt5 (j := 195) rfl)⟩
theorem ml_X10_85 : Cond.methodLink RX10 85 yJ0_length_8abf5 ∈ lw_tbl := wt6 (j := 43) rfl
theorem ml_X10_91 : Cond.methodLink RX10 91 yJ0_charAt_5068e ∈ lw_tbl := wt6 (j := 44) rfl
theorem fl_X10_95 : FL RX10 95 10 12 .int false := ⟨RX10, TX10, 18, ck10, by decide, rfl, rfl, by decide +kernel, Or.inl (wt5 (j := 196) rfl)⟩
theorem ml_X10_98 : Cond.methodLink RX10 98 yX10_fails ∈ lw_tbl := wt6 (j := 49) rfl
theorem ml_X10_102 : Cond.methodLink RX10 102 yX10_next ∈ lw_tbl := wt6 (j := 18) rfl
theorem ml_X10_107 : Cond.methodLink RX10 107 yX10_isWord ∈ lw_tbl := wt6 (j := 39) rfl
theorem ml_X10_111 : Cond.methodLink RX10 111 yX10_must ∈ lw_tbl := wt6 (j := 53) rfl
theorem cst_X10_115 : CST RX10 115 (100003) := ⟨_, wt6 (j := 57) rfl, by decide⟩
theorem ml_X10_116 : Cond.methodLink RX10 116 yX10_sees ∈ lw_tbl := wt6 (j := 58) rfl
theorem ml_X10_120 : Cond.methodLink RX10 120 yX10_isPrime ∈ lw_tbl := wt6 (j := 62) rfl
theorem ml_X10_123 : Cond.methodLink RX10 123 yX10_isSign ∈ lw_tbl := wt6 (j := 65) rfl
theorem ml_X10_128 : Cond.methodLink RX10 128 yX10_readsPrime ∈ lw_tbl := wt6 (j := 45) rfl
theorem ml_X10_131 : Cond.methodLink RX10 131 yX10_readsSequence ∈ lw_tbl := wt6 (j := 70) rfl
theorem ml_X10_134 : Cond.methodLink RX10 134 yX10_keeps ∈ lw_tbl := wt6 (j := 74) rfl
theorem csj_X10_137 : CSJ RX10 137 (3) := ⟨_, wt6 (j := 90) rfl, by decide⟩
theorem csj_X10_139 : CSJ RX10 139 (100003) := ⟨_, wt6 (j := 91) rfl, by decide⟩
theorem ml_X10_141 : Cond.methodLink RX10 141 yX10_has ∈ lw_tbl := wt6 (j := 92) rfl
theorem csj_X10_144 : CSJ RX10 144 (6) := ⟨_, wt6 (j := 96) rfl, by decide⟩
theorem ml_X10_146 : Cond.methodLink RX10 146 yX10_isThere ∈ lw_tbl := wt6 (j := 101) rfl
theorem csj_X10_149 : CSJ RX10 149 (128) := ⟨_, wt6 (j := 109) rfl, by decide⟩
theorem csj_X10_151 : CSJ RX10 151 (2) := ⟨_, wt6 (j := 110) rfl, by decide⟩
theorem csj_X10_153 : CSJ RX10 153 (100002) := ⟨_, wt6 (j := 111) rfl, by decide⟩
theorem ml_X10_155 : Cond.methodLink RX10 155 yX10_powerOf ∈ lw_tbl := wt6 (j := 127) rfl
theorem ml_X10_159 : Cond.methodLink RX10 159 yX10_makesAll ∈ lw_tbl := wt6 (j := 124) rfl
theorem csj_X10_163 : CSJ RX10 163 (4) := ⟨_, wt6 (j := 116) rfl, by decide⟩
theorem ml_X10_165 : Cond.methodLink RX10 165 yX10_primeAt ∈ lw_tbl := wt6 (j := 117) rfl
theorem ml_X10_168 : Cond.methodLink RX10 168 yX10_generator ∈ lw_tbl := wt6 (j := 121) rfl
theorem ml_X10_171 : Cond.methodLink RX10 171 yX10_twos ∈ lw_tbl := wt6 (j := 130) rfl
theorem ml_X10_174 : Cond.methodLink RX10 174 yX10_factors ∈ lw_tbl := wt6 (j := 133) rfl
theorem ml_X10_177 : Cond.methodLink RX10 177 yX10_divisors ∈ lw_tbl := wt6 (j := 136) rfl
theorem ml_X10_180 : Cond.methodLink RX10 180 yX10_rootOf ∈ lw_tbl := wt6 (j := 143) rfl
theorem ml_X10_184 : Cond.methodLink RX10 184 yX10_noUnit ∈ lw_tbl := wt6 (j := 154) rfl
theorem ml_X10_187 : Cond.methodLink RX10 187 yX10_modulo ∈ lw_tbl := wt6 (j := 162) rfl
theorem ml_X10_191 : Cond.methodLink RX10 191 yX10_isSlot ∈ lw_tbl := wt6 (j := 173) rfl
theorem ml_X10_194 : Cond.methodLink RX10 194 yX10_longOf ∈ lw_tbl := wt6 (j := 176) rfl
theorem ml_X10_197 : Cond.methodLink RX10 197 yX10_termOf ∈ lw_tbl := wt6 (j := 184) rfl
theorem csj_X10_200 : CSJ RX10 200 (-9999) := ⟨_, wt6 (j := 198) rfl, by decide⟩
theorem csj_X10_202 : CSJ RX10 202 (9999) := ⟨_, wt6 (j := 199) rfl, by decide⟩
theorem csj_X10_204 : CSJ RX10 204 (32) := ⟨_, wt6 (j := 192) rfl, by decide⟩
theorem csj_X10_206 : CSJ RX10 206 (-999) := ⟨_, wt6 (j := 193) rfl, by decide⟩
theorem csj_X10_208 : CSJ RX10 208 (999) := ⟨_, wt6 (j := 194) rfl, by decide⟩
theorem ml_X10_210 : Cond.methodLink RX10 210 yX10_isTerm ∈ lw_tbl := wt6 (j := 195) rfl
theorem ml_X10_214 : Cond.methodLink RX10 214 yX10_putTerm ∈ lw_tbl := wt6 (j := 200) rfl
theorem csj_X10_218 : CSJ RX10 218 (64) := ⟨_, wt6 (j := 224) rfl, by decide⟩
theorem ml_X10_220 : Cond.methodLink RX10 220 yX10_noTransform ∈ lw_tbl := wt6 (j := 220) rfl
theorem ml_X10_224 : Cond.methodLink RX10 224 yX10_costOf ∈ lw_tbl := wt6 (j := 229) rfl
theorem ml_X10_228 : Cond.methodLink RX10 228 yX10_bestMethod ∈ lw_tbl := wt6 (j := 236) rfl
theorem ml_X10_231 : Cond.methodLink RX10 231 yX10_isSet ∈ lw_tbl := wt7 (j := 11) rfl
theorem ml_X10_234 : Cond.methodLink RX10 234 yX10_allHave ∈ lw_tbl := wt7 (j := 15) rfl
theorem ml_X10_237 : Cond.methodLink RX10 237 yX10_lacks ∈ lw_tbl := wt7 (j := 27) rfl
theorem ml_X10_240 : Cond.methodLink RX10 240 yX10_isKind ∈ lw_tbl := wt7 (j := 31) rfl
theorem ml_X10_244 : Cond.methodLink RX10 244 yX10_refusal ∈ lw_tbl := wt7 (j := 23) rfl
theorem ml_X10_248 : Cond.methodLink RX10 248 yX10_sizeOf ∈ lw_tbl := wt7 (j := 35) rfl
theorem ml_X10_251 : Cond.methodLink RX10 251 yX10_greatest ∈ lw_tbl := wt7 (j := 47) rfl
theorem ml_X10_255 : Cond.methodLink RX10 255 yX10_boundOf ∈ lw_tbl := wt7 (j := 43) rfl
theorem ml_X10_258 : Cond.methodLink RX10 258 yX10_coefficientOf ∈ lw_tbl := wt7 (j := 55) rfl
theorem csj_X10_262 : CSJ RX10 262 (4000000000000000000) := ⟨_, wt7 (j := 71) rfl, by decide⟩
theorem csj_X10_264 : CSJ RX10 264 (4000000000000000001) := ⟨_, wt7 (j := 72) rfl, by decide⟩
theorem ml_X10_266 : Cond.methodLink RX10 266 yX10_productOf ∈ lw_tbl := wt7 (j := 67) rfl
theorem ml_X10_269 : Cond.methodLink RX10 269 yX10_areEnough ∈ lw_tbl := wt7 (j := 63) rfl
theorem fl_X10_273 : FL RX10 273 10 15 .int false := ⟨RX10, TX10, 18, ck10, by decide, rfl, rfl, by decide +kernel, Or.inl (wt5 (j := 199) rfl)⟩
theorem ml_X10_276 : Cond.methodLink RX10 276 yX10_stepsOf ∈ lw_tbl := wt7 (j := 81) rfl
theorem fl_X10_279 : FL RX10 279 10 16 .int false := ⟨RX10, TX10, 18, ck10, by decide, rfl, rfl, by decide +kernel, Or.inl (wt5 (j := 200) rfl)⟩
theorem fl_X10_282 : FL RX10 282 10 17 .int false := ⟨RX10, TX10, 18, ck10, by decide, rfl, rfl, by decide +kernel, Or.inl (wt5 (j := 201) rfl)⟩
theorem ml_X10_285 : Cond.methodLink RX10 285 yX10_laysPlans ∈ lw_tbl := wt7 (j := 77) rfl
theorem ml_X10_289 : Cond.methodLink RX10 289 yX10_canMultiply ∈ lw_tbl := wt7 (j := 93) rfl
theorem ml_X10_293 : Cond.methodLink RX10 293 yX10_canStore ∈ lw_tbl := wt7 (j := 121) rfl
theorem cst_X10_297 : CST RX10 297 (1000003) := ⟨_, wt7 (j := 129) rfl, by decide⟩
theorem csj_X10_298 : CSJ RX10 298 (1000003) := ⟨_, wt7 (j := 130) rfl, by decide⟩
theorem ml_J0_335 : Cond.methodLink RJ0 335 yJ0_coder_7d493 ∈ lw_tbl := wt2 (j := 163) rfl
theorem ml_J0_492 : Cond.methodLink RJ0 492 yJ0_isLatin1_aae02 ∈ lw_tbl := wt2 (j := 173) rfl
theorem ml_J0_495 : Cond.methodLink RJ0 495 yJ1_charAt_3b067 ∈ lw_tbl := wt2 (j := 177) rfl
theorem ml_J0_498 : Cond.methodLink RJ0 498 yJ2_charAt_3b067 ∈ lw_tbl := wt2 (j := 188) rfl
theorem ml_J0_1059 : Cond.methodLink RJ0 1059 yJ3_checkIndex_8e157 ∈ lw_tbl := wt2 (j := 185) rfl
theorem ml_J1_9 : Cond.methodLink RJ1 9 yJ0_checkIndex_df160 ∈ lw_tbl := wt2 (j := 180) rfl
theorem ml_J2_48 : Cond.methodLink RJ2 48 yJ2_length_9d52b ∈ lw_tbl := wt2 (j := 194) rfl
theorem ml_J2_67 : Cond.methodLink RJ2 67 yJ2_checkIndex_2214a ∈ lw_tbl := wt2 (j := 191) rfl
theorem ml_J2_71 : Cond.methodLink RJ2 71 yJ2_getChar_3b067 ∈ lw_tbl := wt2 (j := 198) rfl
theorem ml_J2_414 : Cond.methodLink RJ2 414 yJ0_checkIndex_df160 ∈ lw_tbl := wt2 (j := 197) rfl
theorem w_objI : Cond.instanceMethod Lib.objectInit ∈ lw_tbl := wt1 (j := 31) rfl
theorem w_objC : Cond.code Lib.objectInit ⟨#[0xb1]⟩ 1 none ∈ lw_tbl := wt1 (j := 32) rfl
theorem w_ar_int : Cond.arrayClass .int ∈ lw_tbl := wt1 (j := 106) rfl
theorem w_ar_long : Cond.arrayClass .long ∈ lw_tbl := wt1 (j := 87) rfl
theorem w_ar_byte : Cond.arrayClass .byte ∈ lw_tbl := wt1 (j := 183) rfl
theorem w_ar_boolean : Cond.arrayClass .boolean ∈ lw_tbl := wt1 (j := 232) rfl
theorem w_ao_0 : Cond.arrayOver (.object "ConvolutionBench$Bench") ∈ lw_tbl := wt1 (j := 137) rfl
theorem w_ao_7 : Cond.arrayOver (.object "ConvolutionBench$Sequence") ∈ lw_tbl := wt1 (j := 42) rfl
theorem w_ao_1 : Cond.arrayOver (.object "ConvolutionBench$Field") ∈ lw_tbl := wt1 (j := 40) rfl
def iX9_init (mc ms : Nat) : MI := (RX9, 1, none, "<init>", 4, 82, mc, ms, [])
theorem mq_X9_init {mc ms : Nat} : MQi yX9_init cX9_init (iX9_init mc ms) 0 := ⟨⟨rfl, ⟨by decide, by decide⟩, by decide +kernel, wt1 (j := 29) rfl, wt1 (j := 1) rfl⟩, wt1 (j := 28) rfl, rfl⟩
def iX9_addPrime (mc ms : Nat) : MI := (RX9, 2, (some .int), "addPrime", 7, 106, mc, ms, [])
theorem mq_X9_addPrime {mc ms : Nat} : MQv yX9_addPrime cX9_addPrime (iX9_addPrime mc ms) 1 := ⟨⟨rfl, ⟨by decide, by decide⟩, by decide +kernel, wt3 (j := 97) rfl, wt1 (j := 1) rfl⟩, wt3 (j := 95) rfl, wt3 (j := 96) rfl⟩
def iX9_agreeing (mc ms : Nat) : MI := (RX9, 8, (some .int), "agreeing", 9, 152, mc, ms, [])
theorem mq_X9_agreeing {mc ms : Nat} : MQv yX9_agreeing cX9_agreeing (iX9_agreeing mc ms) 2 := ⟨⟨rfl, ⟨by decide, by decide⟩, by decide +kernel, wt5 (j := 148) rfl, wt1 (j := 1) rfl⟩, wt5 (j := 146) rfl, wt5 (j := 147) rfl⟩
def iX9_append (mc ms : Nat) : MI := (RX9, 4, (some .int), "append", 8, 128, mc, ms, [])
theorem mq_X9_append {mc ms : Nat} : MQv yX9_append cX9_append (iX9_append mc ms) 2 := ⟨⟨rfl, ⟨by decide, by decide⟩, by decide +kernel, wt4 (j := 95) rfl, wt1 (j := 1) rfl⟩, wt4 (j := 93) rfl, wt4 (j := 94) rfl⟩
def iX9_bound (mc ms : Nat) : MI := (RX9, 3, (some .long), "bound", 9, 152, mc, ms, [])
theorem mq_X9_bound {mc ms : Nat} : MQv yX9_bound cX9_bound (iX9_bound mc ms) 2 := ⟨⟨rfl, ⟨by decide, by decide⟩, by decide +kernel, wt4 (j := 204) rfl, wt1 (j := 1) rfl⟩, wt4 (j := 202) rfl, wt4 (j := 203) rfl⟩
def iX9_boundOf (mc ms : Nat) : MI := (RX9, 2, (some .long), "boundOf", 2, 43, mc, ms, [])
theorem mq_X9_boundOf {mc ms : Nat} : MQs yX9_boundOf cX9_boundOf (iX9_boundOf mc ms) 2 := ⟨⟨rfl, ⟨by decide, by decide⟩, by decide +kernel, wt4 (j := 207) rfl, wt1 (j := 1) rfl⟩, wt4 (j := 206) rfl⟩
def iX9_cheapestMethod (mc ms : Nat) : MI := (RX9, 5, (some .int), "cheapestMethod", 3, 66, mc, ms, [])
theorem mq_X9_cheapestMethod {mc ms : Nat} : MQs yX9_cheapestMethod cX9_cheapestMethod (iX9_cheapestMethod mc ms) 2 := ⟨⟨rfl, ⟨by decide, by decide⟩, by decide +kernel, wt4 (j := 155) rfl, wt1 (j := 1) rfl⟩, wt4 (j := 154) rfl⟩
def iX9_chirp (mc ms : Nat) : MI := (RX9, 5, (some .int), "chirp", 8, 128, mc, ms, [])
theorem mq_X9_chirp {mc ms : Nat} : MQv yX9_chirp cX9_chirp (iX9_chirp mc ms) 3 := ⟨⟨rfl, ⟨by decide, by decide⟩, by decide +kernel, wt4 (j := 162) rfl, wt1 (j := 1) rfl⟩, wt4 (j := 160) rfl, wt4 (j := 161) rfl⟩
def iX9_chirpCost (mc ms : Nat) : MI := (RX9, 4, (some .int), "chirpCost", 1, 21, mc, ms, [])
theorem mq_X9_chirpCost {mc ms : Nat} : MQs yX9_chirpCost cX9_chirpCost (iX9_chirpCost mc ms) 2 := ⟨⟨rfl, ⟨by decide, by decide⟩, by decide +kernel, wt4 (j := 145) rfl, wt1 (j := 1) rfl⟩, wt4 (j := 144) rfl⟩
def iX9_coefficient (mc ms : Nat) : MI := (RX9, 9, (some .long), "coefficient", 9, 152, mc, ms, [])
theorem mq_X9_coefficient {mc ms : Nat} : MQv yX9_coefficient cX9_coefficient (iX9_coefficient mc ms) 5 := ⟨⟨rfl, ⟨by decide, by decide⟩, by decide +kernel, wt4 (j := 223) rfl, wt1 (j := 1) rfl⟩, wt4 (j := 221) rfl, wt4 (j := 222) rfl⟩
def iX9_coefficientOf (mc ms : Nat) : MI := (RX9, 9, (some .long), "coefficientOf", 1, 26, mc, ms, [])
theorem mq_X9_coefficientOf {mc ms : Nat} : MQs yX9_coefficientOf cX9_coefficientOf (iX9_coefficientOf mc ms) 5 := ⟨⟨rfl, ⟨by decide, by decide⟩, by decide +kernel, wt4 (j := 226) rfl, wt1 (j := 1) rfl⟩, wt4 (j := 225) rfl⟩
def iX9_copyFields (mc ms : Nat) : MI := (RX9, 3, none, "copyFields", 0, 0, mc, ms, [])
theorem mq_X9_copyFields {mc ms : Nat} : MQs yX9_copyFields cX9_copyFields (iX9_copyFields mc ms) 2 := ⟨⟨rfl, ⟨by decide, by decide⟩, by decide +kernel, wt3 (j := 75) rfl, wt1 (j := 1) rfl⟩, wt3 (j := 74) rfl⟩
def iX9_cost (mc ms : Nat) : MI := (RX9, 5, (some .int), "cost", 8, 128, mc, ms, [])
theorem mq_X9_cost {mc ms : Nat} : MQv yX9_cost cX9_cost (iX9_cost mc ms) 3 := ⟨⟨rfl, ⟨by decide, by decide⟩, by decide +kernel, wt4 (j := 136) rfl, wt1 (j := 1) rfl⟩, wt4 (j := 134) rfl, wt4 (j := 135) rfl⟩
def iX9_cut (mc ms : Nat) : MI := (RX9, 5, (some .int), "cut", 8, 128, mc, ms, [])
theorem mq_X9_cut {mc ms : Nat} : MQv yX9_cut cX9_cut (iX9_cut mc ms) 2 := ⟨⟨rfl, ⟨by decide, by decide⟩, by decide +kernel, wt4 (j := 105) rfl, wt1 (j := 1) rfl⟩, wt4 (j := 103) rfl, wt4 (j := 104) rfl⟩
def iX9_digit (mc ms : Nat) : MI := (RX9, 4, (some .int), "digit", 7, 107, mc, ms, [])
theorem mq_X9_digit {mc ms : Nat} : MQv yX9_digit cX9_digit (iX9_digit mc ms) 2 := ⟨⟨rfl, ⟨by decide, by decide⟩, by decide +kernel, wt5 (j := 115) rfl, wt1 (j := 1) rfl⟩, wt5 (j := 113) rfl, wt5 (j := 114) rfl⟩
def iX9_errorPosition (mc ms : Nat) : MI := (RX9, 1, (some .int), "errorPosition", 0, 0, mc, ms, [])
theorem mq_X9_errorPosition {mc ms : Nat} : MQv yX9_errorPosition cX9_errorPosition (iX9_errorPosition mc ms) 0 := ⟨⟨rfl, ⟨by decide, by decide⟩, by decide +kernel, wt2 (j := 15) rfl, wt1 (j := 1) rfl⟩, wt2 (j := 13) rfl, wt2 (j := 14) rfl⟩
def iX9_feed (mc ms : Nat) : MI := (RX9, 6, (some .int), "feed", 6, 86, mc, ms, [])
theorem mq_X9_feed {mc ms : Nat} : MQv yX9_feed cX9_feed (iX9_feed mc ms) 5 := ⟨⟨rfl, ⟨by decide, by decide⟩, by decide +kernel, wt2 (j := 27) rfl, wt1 (j := 1) rfl⟩, wt2 (j := 25) rfl, wt2 (j := 26) rfl⟩
def iX9_fieldAt (mc ms : Nat) : MI := (RX9, 2, (some (.object "ConvolutionBench$Field")), "fieldAt", 7, 107, mc, ms, [])
theorem mq_X9_fieldAt {mc ms : Nat} : MQv yX9_fieldAt cX9_fieldAt (iX9_fieldAt mc ms) 1 := ⟨⟨rfl, ⟨by decide, by decide⟩, by decide +kernel, wt3 (j := 143) rfl, wt1 (j := 1) rfl⟩, wt3 (j := 142) rfl, wt0 (j := 14) rfl⟩
def iX9_inverse (mc ms : Nat) : MI := (RX9, 4, (some .int), "inverse", 8, 128, mc, ms, [])
theorem mq_X9_inverse {mc ms : Nat} : MQv yX9_inverse cX9_inverse (iX9_inverse mc ms) 2 := ⟨⟨rfl, ⟨by decide, by decide⟩, by decide +kernel, wt3 (j := 209) rfl, wt1 (j := 1) rfl⟩, wt3 (j := 207) rfl, wt3 (j := 208) rfl⟩
def iX9_isEnough (mc ms : Nat) : MI := (RX9, 4, (some .boolean), "isEnough", 9, 152, mc, ms, [])
theorem mq_X9_isEnough {mc ms : Nat} : MQv yX9_isEnough cX9_isEnough (iX9_isEnough mc ms) 3 := ⟨⟨rfl, ⟨by decide, by decide⟩, by decide +kernel, wt4 (j := 236) rfl, wt1 (j := 1) rfl⟩, wt4 (j := 234) rfl, wt4 (j := 235) rfl⟩
def iX9_isKind (mc ms : Nat) : MI := (RX9, 1, (some .boolean), "isKind", 0, 0, mc, ms, [])
theorem mq_X9_isKind {mc ms : Nat} : MQs yX9_isKind cX9_isKind (iX9_isKind mc ms) 1 := ⟨⟨rfl, ⟨by decide, by decide⟩, by decide +kernel, wt4 (j := 35) rfl, wt1 (j := 1) rfl⟩, wt4 (j := 34) rfl⟩
def iX9_isLength (mc ms : Nat) : MI := (RX9, 1, (some .boolean), "isLength", 0, 0, mc, ms, [])
theorem mq_X9_isLength {mc ms : Nat} : MQs yX9_isLength cX9_isLength (iX9_isLength mc ms) 1 := ⟨⟨rfl, ⟨by decide, by decide⟩, by decide +kernel, wt4 (j := 38) rfl, wt1 (j := 1) rfl⟩, wt4 (j := 37) rfl⟩
def iX9_isPrime (mc ms : Nat) : MI := (RX9, 2, (some .boolean), "isPrime", 0, 0, mc, ms, [])
theorem mq_X9_isPrime {mc ms : Nat} : MQs yX9_isPrime cX9_isPrime (iX9_isPrime mc ms) 1 := ⟨⟨rfl, ⟨by decide, by decide⟩, by decide +kernel, wt2 (j := 233) rfl, wt1 (j := 1) rfl⟩, wt2 (j := 232) rfl⟩
def iX9_isSizeOf (mc ms : Nat) : MI := (RX9, 4, (some .boolean), "isSizeOf", 0, 0, mc, ms, [])
theorem mq_X9_isSizeOf {mc ms : Nat} : MQs yX9_isSizeOf cX9_isSizeOf (iX9_isSizeOf mc ms) 4 := ⟨⟨rfl, ⟨by decide, by decide⟩, by decide +kernel, wt4 (j := 197) rfl, wt1 (j := 1) rfl⟩, wt4 (j := 196) rfl⟩
def iX9_isTerm (mc ms : Nat) : MI := (RX9, 2, (some .boolean), "isTerm", 0, 0, mc, ms, [])
theorem mq_X9_isTerm {mc ms : Nat} : MQs yX9_isTerm cX9_isTerm (iX9_isTerm mc ms) 1 := ⟨⟨rfl, ⟨by decide, by decide⟩, by decide +kernel, wt4 (j := 81) rfl, wt1 (j := 1) rfl⟩, wt4 (j := 80) rfl⟩
def iX9_leastPrime (mc ms : Nat) : MI := (RX9, 4, (some .int), "leastPrime", 1, 21, mc, ms, [])
theorem mq_X9_leastPrime {mc ms : Nat} : MQs yX9_leastPrime cX9_leastPrime (iX9_leastPrime mc ms) 2 := ⟨⟨rfl, ⟨by decide, by decide⟩, by decide +kernel, wt4 (j := 24) rfl, wt1 (j := 1) rfl⟩, wt4 (j := 23) rfl⟩
def iX9_length (mc ms : Nat) : MI := (RX9, 2, (some .int), "length", 8, 128, mc, ms, [])
theorem mq_X9_length {mc ms : Nat} : MQv yX9_length cX9_length (iX9_length mc ms) 1 := ⟨⟨rfl, ⟨by decide, by decide⟩, by decide +kernel, wt4 (j := 50) rfl, wt1 (j := 1) rfl⟩, wt4 (j := 48) rfl, wt4 (j := 49) rfl⟩
def iX9_linearCoefficient (mc ms : Nat) : MI := (RX9, 7, (some .long), "linearCoefficient", 0, 0, mc, ms, [])
theorem mq_X9_linearCoefficient {mc ms : Nat} : MQs yX9_linearCoefficient cX9_linearCoefficient (iX9_linearCoefficient mc ms) 3 := ⟨⟨rfl, ⟨by decide, by decide⟩, by decide +kernel, wt4 (j := 229) rfl, wt1 (j := 1) rfl⟩, wt4 (j := 228) rfl⟩
def iX9_load (mc ms : Nat) : MI := (RX9, 3, (some .int), "load", 7, 151, mc, ms, [])
theorem mq_X9_load {mc ms : Nat} : MQv yX9_load cX9_load (iX9_load mc ms) 1 := ⟨⟨rfl, ⟨by decide, by decide⟩, by decide +kernel, wt2 (j := 111) rfl, wt1 (j := 1) rfl⟩, wt2 (j := 109) rfl, wt2 (j := 110) rfl⟩
def iX9_logarithm (mc ms : Nat) : MI := (RX9, 4, (some .int), "logarithm", 8, 128, mc, ms, [])
theorem mq_X9_logarithm {mc ms : Nat} : MQv yX9_logarithm cX9_logarithm (iX9_logarithm mc ms) 2 := ⟨⟨rfl, ⟨by decide, by decide⟩, by decide +kernel, wt3 (j := 235) rfl, wt1 (j := 1) rfl⟩, wt3 (j := 233) rfl, wt3 (j := 234) rfl⟩
def iX9_longest (mc ms : Nat) : MI := (RX9, 2, (some .int), "longest", 7, 107, mc, ms, [])
theorem mq_X9_longest {mc ms : Nat} : MQv yX9_longest cX9_longest (iX9_longest mc ms) 1 := ⟨⟨rfl, ⟨by decide, by decide⟩, by decide +kernel, wt4 (j := 169) rfl, wt1 (j := 1) rfl⟩, wt4 (j := 167) rfl, wt4 (j := 168) rfl⟩
def iX9_method (mc ms : Nat) : MI := (RX9, 4, (some .int), "method", 8, 128, mc, ms, [])
theorem mq_X9_method {mc ms : Nat} : MQv yX9_method cX9_method (iX9_method mc ms) 2 := ⟨⟨rfl, ⟨by decide, by decide⟩, by decide +kernel, wt4 (j := 152) rfl, wt1 (j := 1) rfl⟩, wt4 (j := 150) rfl, wt4 (j := 151) rfl⟩
def iX9_methodCost (mc ms : Nat) : MI := (RX9, 3, (some .int), "methodCost", 2, 44, mc, ms, [])
theorem mq_X9_methodCost {mc ms : Nat} : MQs yX9_methodCost cX9_methodCost (iX9_methodCost mc ms) 3 := ⟨⟨rfl, ⟨by decide, by decide⟩, by decide +kernel, wt4 (j := 139) rfl, wt1 (j := 1) rfl⟩, wt4 (j := 138) rfl⟩
def iX9_multiply (mc ms : Nat) : MI := (RX9, 9, (some .int), "multiply", 9, 152, mc, ms, [])
theorem mq_X9_multiply {mc ms : Nat} : MQv yX9_multiply cX9_multiply (iX9_multiply mc ms) 5 := ⟨⟨rfl, ⟨by decide, by decide⟩, by decide +kernel, wt5 (j := 43) rfl, wt1 (j := 1) rfl⟩, wt5 (j := 41) rfl, wt5 (j := 42) rfl⟩
def iX9_order (mc ms : Nat) : MI := (RX9, 4, (some .int), "order", 8, 128, mc, ms, [])
theorem mq_X9_order {mc ms : Nat} : MQv yX9_order cX9_order (iX9_order mc ms) 2 := ⟨⟨rfl, ⟨by decide, by decide⟩, by decide +kernel, wt3 (j := 224) rfl, wt1 (j := 1) rfl⟩, wt3 (j := 222) rfl, wt3 (j := 223) rfl⟩
def iX9_plan (mc ms : Nat) : MI := (RX9, 11, (some .int), "plan", 9, 152, mc, ms, [])
theorem mq_X9_plan {mc ms : Nat} : MQv yX9_plan cX9_plan (iX9_plan mc ms) 5 := ⟨⟨rfl, ⟨by decide, by decide⟩, by decide +kernel, wt5 (j := 12) rfl, wt1 (j := 1) rfl⟩, wt5 (j := 10) rfl, wt5 (j := 11) rfl⟩
def iX9_power (mc ms : Nat) : MI := (RX9, 5, (some .int), "power", 8, 128, mc, ms, [])
theorem mq_X9_power {mc ms : Nat} : MQv yX9_power cX9_power (iX9_power mc ms) 3 := ⟨⟨rfl, ⟨by decide, by decide⟩, by decide +kernel, wt3 (j := 194) rfl, wt1 (j := 1) rfl⟩, wt3 (j := 192) rfl, wt3 (j := 193) rfl⟩
def iX9_presentProduct (mc ms : Nat) : MI := (RX9, 1, (some (.object "ConvolutionBench$Product")), "presentProduct", 6, 86, mc, ms, [])
theorem mq_X9_presentProduct {mc ms : Nat} : MQv yX9_presentProduct cX9_presentProduct (iX9_presentProduct mc ms) 0 := ⟨⟨rfl, ⟨by decide, by decide⟩, by decide +kernel, wt5 (j := 88) rfl, wt1 (j := 1) rfl⟩, wt5 (j := 87) rfl, wt0 (j := 25) rfl⟩
def iX9_prime (mc ms : Nat) : MI := (RX9, 4, (some .int), "prime", 8, 128, mc, ms, [])
theorem mq_X9_prime {mc ms : Nat} : MQv yX9_prime cX9_prime (iX9_prime mc ms) 2 := ⟨⟨rfl, ⟨by decide, by decide⟩, by decide +kernel, wt3 (j := 139) rfl, wt1 (j := 1) rfl⟩, wt3 (j := 137) rfl, wt3 (j := 138) rfl⟩
def iX9_primeFor (mc ms : Nat) : MI := (RX9, 4, (some .int), "primeFor", 7, 106, mc, ms, [])
theorem mq_X9_primeFor {mc ms : Nat} : MQv yX9_primeFor cX9_primeFor (iX9_primeFor mc ms) 2 := ⟨⟨rfl, ⟨by decide, by decide⟩, by decide +kernel, wt4 (j := 20) rfl, wt1 (j := 1) rfl⟩, wt4 (j := 18) rfl, wt4 (j := 19) rfl⟩
def iX9_primes (mc ms : Nat) : MI := (RX9, 1, (some .int), "primes", 0, 0, mc, ms, [])
theorem mq_X9_primes {mc ms : Nat} : MQv yX9_primes cX9_primes (iX9_primes mc ms) 0 := ⟨⟨rfl, ⟨by decide, by decide⟩, by decide +kernel, wt2 (j := 19) rfl, wt1 (j := 1) rfl⟩, wt2 (j := 17) rfl, wt2 (j := 18) rfl⟩
def iX9_product (mc ms : Nat) : MI := (RX9, 3, (some .int), "product", 7, 106, mc, ms, [])
theorem mq_X9_product {mc ms : Nat} : MQv yX9_product cX9_product (iX9_product mc ms) 1 := ⟨⟨rfl, ⟨by decide, by decide⟩, by decide +kernel, wt5 (j := 84) rfl, wt1 (j := 1) rfl⟩, wt5 (j := 82) rfl, wt5 (j := 83) rfl⟩
def iX9_productAt (mc ms : Nat) : MI := (RX9, 2, (some .int), "productAt", 7, 106, mc, ms, [])
theorem mq_X9_productAt {mc ms : Nat} : MQv yX9_productAt cX9_productAt (iX9_productAt mc ms) 1 := ⟨⟨rfl, ⟨by decide, by decide⟩, by decide +kernel, wt5 (j := 128) rfl, wt1 (j := 1) rfl⟩, wt5 (j := 126) rfl, wt5 (j := 127) rfl⟩
def iX9_removePrime (mc ms : Nat) : MI := (RX9, 2, (some .int), "removePrime", 7, 107, mc, ms, [])
theorem mq_X9_removePrime {mc ms : Nat} : MQv yX9_removePrime cX9_removePrime (iX9_removePrime mc ms) 1 := ⟨⟨rfl, ⟨by decide, by decide⟩, by decide +kernel, wt3 (j := 108) rfl, wt1 (j := 1) rfl⟩, wt3 (j := 106) rfl, wt3 (j := 107) rfl⟩
def iX9_require (mc ms : Nat) : MI := (RX9, 1, none, "require", 6, 86, mc, ms, [])
theorem mq_X9_require {mc ms : Nat} : MQs yX9_require cX9_require (iX9_require mc ms) 1 := ⟨⟨rfl, ⟨by decide, by decide⟩, by decide +kernel, wt2 (j := 114) rfl, wt1 (j := 1) rfl⟩, wt2 (j := 113) rfl⟩
def iX9_requireCoefficient (mc ms : Nat) : MI := (RX9, 2, none, "requireCoefficient", 6, 86, mc, ms, [])
theorem mq_X9_requireCoefficient {mc ms : Nat} : MQs yX9_requireCoefficient cX9_requireCoefficient (iX9_requireCoefficient mc ms) 2 := ⟨⟨rfl, ⟨by decide, by decide⟩, by decide +kernel, wt5 (j := 103) rfl, wt1 (j := 1) rfl⟩, wt5 (j := 102) rfl⟩
def iX9_requirePrime (mc ms : Nat) : MI := (RX9, 2, none, "requirePrime", 6, 86, mc, ms, [])
theorem mq_X9_requirePrime {mc ms : Nat} : MQv yX9_requirePrime cX9_requirePrime (iX9_requirePrime mc ms) 1 := ⟨⟨rfl, ⟨by decide, by decide⟩, by decide +kernel, wt3 (j := 112) rfl, wt1 (j := 1) rfl⟩, wt3 (j := 111) rfl, wt0 (j := 13) rfl⟩
def iX9_requireRoot (mc ms : Nat) : MI := (RX9, 2, none, "requireRoot", 6, 86, mc, ms, [])
theorem mq_X9_requireRoot {mc ms : Nat} : MQs yX9_requireRoot cX9_requireRoot (iX9_requireRoot mc ms) 2 := ⟨⟨rfl, ⟨by decide, by decide⟩, by decide +kernel, wt3 (j := 166) rfl, wt1 (j := 1) rfl⟩, wt3 (j := 165) rfl⟩
def iX9_requireSet (mc ms : Nat) : MI := (RX9, 2, none, "requireSet", 6, 86, mc, ms, [])
theorem mq_X9_requireSet {mc ms : Nat} : MQv yX9_requireSet cX9_requireSet (iX9_requireSet mc ms) 1 := ⟨⟨rfl, ⟨by decide, by decide⟩, by decide +kernel, wt4 (j := 173) rfl, wt1 (j := 1) rfl⟩, wt4 (j := 172) rfl, wt0 (j := 19) rfl⟩
def iX9_requireSlot (mc ms : Nat) : MI := (RX9, 2, none, "requireSlot", 6, 86, mc, ms, [])
theorem mq_X9_requireSlot {mc ms : Nat} : MQv yX9_requireSlot cX9_requireSlot (iX9_requireSlot mc ms) 1 := ⟨⟨rfl, ⟨by decide, by decide⟩, by decide +kernel, wt4 (j := 58) rfl, wt1 (j := 1) rfl⟩, wt4 (j := 57) rfl, wt0 (j := 18) rfl⟩
def iX9_requireTerms (mc ms : Nat) : MI := (RX9, 5, none, "requireTerms", 8, 128, mc, ms, [])
theorem mq_X9_requireTerms {mc ms : Nat} : MQv yX9_requireTerms cX9_requireTerms (iX9_requireTerms mc ms) 2 := ⟨⟨rfl, ⟨by decide, by decide⟩, by decide +kernel, wt4 (j := 190) rfl, wt1 (j := 1) rfl⟩, wt4 (j := 189) rfl, wt0 (j := 20) rfl⟩
def iX9_residue (mc ms : Nat) : MI := (RX9, 5, (some .int), "residue", 8, 128, mc, ms, [])
theorem mq_X9_residue {mc ms : Nat} : MQv yX9_residue cX9_residue (iX9_residue mc ms) 2 := ⟨⟨rfl, ⟨by decide, by decide⟩, by decide +kernel, wt5 (j := 141) rfl, wt1 (j := 1) rfl⟩, wt5 (j := 139) rfl, wt5 (j := 140) rfl⟩
def iX9_root (mc ms : Nat) : MI := (RX9, 4, (some .int), "root", 8, 128, mc, ms, [])
theorem mq_X9_root {mc ms : Nat} : MQv yX9_root cX9_root (iX9_root mc ms) 2 := ⟨⟨rfl, ⟨by decide, by decide⟩, by decide +kernel, wt3 (j := 163) rfl, wt1 (j := 1) rfl⟩, wt3 (j := 161) rfl, wt3 (j := 162) rfl⟩
def iX9_sequenceAt (mc ms : Nat) : MI := (RX9, 2, (some (.object "ConvolutionBench$Sequence")), "sequenceAt", 7, 107, mc, ms, [])
theorem mq_X9_sequenceAt {mc ms : Nat} : MQv yX9_sequenceAt cX9_sequenceAt (iX9_sequenceAt mc ms) 1 := ⟨⟨rfl, ⟨by decide, by decide⟩, by decide +kernel, wt4 (j := 54) rfl, wt1 (j := 1) rfl⟩, wt4 (j := 53) rfl, wt0 (j := 17) rfl⟩
def iX9_setSequence (mc ms : Nat) : MI := (RX9, 7, (some .int), "setSequence", 8, 128, mc, ms, [])
theorem mq_X9_setSequence {mc ms : Nat} : MQv yX9_setSequence cX9_setSequence (iX9_setSequence mc ms) 4 := ⟨⟨rfl, ⟨by decide, by decide⟩, by decide +kernel, wt4 (j := 74) rfl, wt1 (j := 1) rfl⟩, wt4 (j := 72) rfl, wt4 (j := 73) rfl⟩
def iX9_size (mc ms : Nat) : MI := (RX9, 5, (some .int), "size", 9, 152, mc, ms, [])
theorem mq_X9_size {mc ms : Nat} : MQv yX9_size cX9_size (iX9_size mc ms) 4 := ⟨⟨rfl, ⟨by decide, by decide⟩, by decide +kernel, wt4 (j := 186) rfl, wt1 (j := 1) rfl⟩, wt4 (j := 184) rfl, wt4 (j := 185) rfl⟩
def iX9_sizeOf (mc ms : Nat) : MI := (RX9, 4, (some .int), "sizeOf", 7, 106, mc, ms, [])
theorem mq_X9_sizeOf {mc ms : Nat} : MQs yX9_sizeOf cX9_sizeOf (iX9_sizeOf mc ms) 4 := ⟨⟨rfl, ⟨by decide, by decide⟩, by decide +kernel, wt4 (j := 194) rfl, wt1 (j := 1) rfl⟩, wt4 (j := 193) rfl⟩
def iX9_splittingCost (mc ms : Nat) : MI := (RX9, 4, (some .int), "splittingCost", 0, 0, mc, ms, [])
theorem mq_X9_splittingCost {mc ms : Nat} : MQs yX9_splittingCost cX9_splittingCost (iX9_splittingCost mc ms) 1 := ⟨⟨rfl, ⟨by decide, by decide⟩, by decide +kernel, wt4 (j := 142) rfl, wt1 (j := 1) rfl⟩, wt4 (j := 141) rfl⟩
def iX9_store (mc ms : Nat) : MI := (RX9, 5, (some .int), "store", 8, 128, mc, ms, [])
theorem mq_X9_store {mc ms : Nat} : MQv yX9_store cX9_store (iX9_store mc ms) 1 := ⟨⟨rfl, ⟨by decide, by decide⟩, by decide +kernel, wt5 (j := 155) rfl, wt1 (j := 1) rfl⟩, wt5 (j := 153) rfl, wt5 (j := 154) rfl⟩
def iX9_swap (mc ms : Nat) : MI := (RX9, 3, (some .int), "swap", 8, 128, mc, ms, [])
theorem mq_X9_swap {mc ms : Nat} : MQv yX9_swap cX9_swap (iX9_swap mc ms) 2 := ⟨⟨rfl, ⟨by decide, by decide⟩, by decide +kernel, wt4 (j := 112) rfl, wt1 (j := 1) rfl⟩, wt4 (j := 110) rfl, wt4 (j := 111) rfl⟩
def iX9_term (mc ms : Nat) : MI := (RX9, 4, (some .int), "term", 8, 128, mc, ms, [])
theorem mq_X9_term {mc ms : Nat} : MQv yX9_term cX9_term (iX9_term mc ms) 2 := ⟨⟨rfl, ⟨by decide, by decide⟩, by decide +kernel, wt4 (j := 66) rfl, wt1 (j := 1) rfl⟩, wt4 (j := 64) rfl, wt4 (j := 65) rfl⟩
def iX9_transform (mc ms : Nat) : MI := (RX9, 8, (some .int), "transform", 8, 128, mc, ms, [])
theorem mq_X9_transform {mc ms : Nat} : MQv yX9_transform cX9_transform (iX9_transform mc ms) 4 := ⟨⟨rfl, ⟨by decide, by decide⟩, by decide +kernel, wt4 (j := 123) rfl, wt1 (j := 1) rfl⟩, wt4 (j := 121) rfl, wt4 (j := 122) rfl⟩
def iX9_transformSteps (mc ms : Nat) : MI := (RX9, 8, (some .int), "transformSteps", 9, 152, mc, ms, [])
theorem mq_X9_transformSteps {mc ms : Nat} : MQv yX9_transformSteps cX9_transformSteps (iX9_transformSteps mc ms) 4 := ⟨⟨rfl, ⟨by decide, by decide⟩, by decide +kernel, wt5 (j := 35) rfl, wt1 (j := 1) rfl⟩, wt5 (j := 33) rfl, wt5 (j := 34) rfl⟩
def iX9_undo (mc ms : Nat) : MI := (RX9, 1, (some .int), "undo", 6, 90, mc, ms, [])
theorem mq_X9_undo {mc ms : Nat} : MQv yX9_undo cX9_undo (iX9_undo mc ms) 0 := ⟨⟨rfl, ⟨by decide, by decide⟩, by decide +kernel, wt5 (j := 168) rfl, wt1 (j := 1) rfl⟩, wt5 (j := 166) rfl, wt5 (j := 167) rfl⟩
def iX9_unitOf (mc ms : Nat) : MI := (RX9, 3, (some .int), "unitOf", 6, 86, mc, ms, [])
theorem mq_X9_unitOf {mc ms : Nat} : MQs yX9_unitOf cX9_unitOf (iX9_unitOf mc ms) 2 := ⟨⟨rfl, ⟨by decide, by decide⟩, by decide +kernel, wt3 (j := 212) rfl, wt1 (j := 1) rfl⟩, wt3 (j := 211) rfl⟩
def iX9_usable (mc ms : Nat) : MI := (RX9, 3, (some .int), "usable", 7, 106, mc, ms, [])
theorem mq_X9_usable {mc ms : Nat} : MQv yX9_usable cX9_usable (iX9_usable mc ms) 2 := ⟨⟨rfl, ⟨by decide, by decide⟩, by decide +kernel, wt4 (j := 32) rfl, wt1 (j := 1) rfl⟩, wt4 (j := 30) rfl, wt4 (j := 31) rfl⟩
def iX9_value (mc ms : Nat) : MI := (RX9, 3, (some .long), "value", 7, 107, mc, ms, [])
theorem mq_X9_value {mc ms : Nat} : MQv yX9_value cX9_value (iX9_value mc ms) 1 := ⟨⟨rfl, ⟨by decide, by decide⟩, by decide +kernel, wt5 (j := 100) rfl, wt1 (j := 1) rfl⟩, wt5 (j := 98) rfl, wt5 (j := 99) rfl⟩
def iX0_init (mc ms : Nat) : MI := (RX0, 2, none, "<init>", 2, 40, mc, ms, [])
theorem mq_X0_init {mc ms : Nat} : MQi yX0_init cX0_init (iX0_init mc ms) 0 := ⟨⟨rfl, ⟨by decide, by decide⟩, by decide +kernel, wt1 (j := 37) rfl, wt1 (j := 2) rfl⟩, wt1 (j := 36) rfl, rfl⟩
def iX0_addField (mc ms : Nat) : MI := (RX0, 2, none, "addField", 3, 71, mc, ms, [])
theorem mq_X0_addField {mc ms : Nat} : MQv yX0_addField cX0_addField (iX0_addField mc ms) 1 := ⟨⟨rfl, ⟨by decide, by decide⟩, by decide +kernel, wt2 (j := 237) rfl, wt1 (j := 2) rfl⟩, wt2 (j := 235) rfl, wt2 (j := 236) rfl⟩
def iX0_areEnough (mc ms : Nat) : MI := (RX0, 4, (some .boolean), "areEnough", 1, 26, mc, ms, [])
theorem mq_X0_areEnough {mc ms : Nat} : MQv yX0_areEnough cX0_areEnough (iX0_areEnough mc ms) 2 := ⟨⟨rfl, ⟨by decide, by decide⟩, by decide +kernel, wt5 (j := 0) rfl, wt1 (j := 2) rfl⟩, wt4 (j := 238) rfl, wt4 (j := 239) rfl⟩
def iX0_canBeAdded (mc ms : Nat) : MI := (RX0, 3, (some .boolean), "canBeAdded", 1, 21, mc, ms, [])
theorem mq_X0_canBeAdded {mc ms : Nat} : MQv yX0_canBeAdded cX0_canBeAdded (iX0_canBeAdded mc ms) 1 := ⟨⟨rfl, ⟨by decide, by decide⟩, by decide +kernel, wt2 (j := 229) rfl, wt1 (j := 2) rfl⟩, wt2 (j := 227) rfl, wt2 (j := 228) rfl⟩
def iX0_clear (mc ms : Nat) : MI := (RX0, 2, none, "clear", 1, 20, mc, ms, [])
theorem mq_X0_clear {mc ms : Nat} : MQv yX0_clear cX0_clear (iX0_clear mc ms) 0 := ⟨⟨rfl, ⟨by decide, by decide⟩, by decide +kernel, wt2 (j := 141) rfl, wt1 (j := 2) rfl⟩, wt2 (j := 139) rfl, wt2 (j := 140) rfl⟩
def iX0_copyFrom (mc ms : Nat) : MI := (RX0, 3, none, "copyFrom", 2, 47, mc, ms, [])
theorem mq_X0_copyFrom {mc ms : Nat} : MQv yX0_copyFrom cX0_copyFrom (iX0_copyFrom mc ms) 1 := ⟨⟨rfl, ⟨by decide, by decide⟩, by decide +kernel, wt3 (j := 72) rfl, wt1 (j := 2) rfl⟩, wt3 (j := 70) rfl, wt3 (j := 71) rfl⟩
def iX0_exchange (mc ms : Nat) : MI := (RX0, 4, none, "exchange", 0, 0, mc, ms, [])
theorem mq_X0_exchange {mc ms : Nat} : MQv yX0_exchange cX0_exchange (iX0_exchange mc ms) 2 := ⟨⟨rfl, ⟨by decide, by decide⟩, by decide +kernel, wt4 (j := 116) rfl, wt1 (j := 2) rfl⟩, wt4 (j := 114) rfl, wt4 (j := 115) rfl⟩
def iX0_isProductGreater (mc ms : Nat) : MI := (RX0, 7, (some .boolean), "isProductGreater", 0, 0, mc, ms, [])
theorem mq_X0_isProductGreater {mc ms : Nat} : MQv yX0_isProductGreater cX0_isProductGreater (iX0_isProductGreater mc ms) 2 := ⟨⟨rfl, ⟨by decide, by decide⟩, by decide +kernel, wt5 (j := 5) rfl, wt1 (j := 2) rfl⟩, wt5 (j := 3) rfl, wt5 (j := 4) rfl⟩
def iX0_longestTransform (mc ms : Nat) : MI := (RX0, 3, (some .int), "longestTransform", 2, 46, mc, ms, [])
theorem mq_X0_longestTransform {mc ms : Nat} : MQv yX0_longestTransform cX0_longestTransform (iX0_longestTransform mc ms) 1 := ⟨⟨rfl, ⟨by decide, by decide⟩, by decide +kernel, wt4 (j := 178) rfl, wt1 (j := 2) rfl⟩, wt4 (j := 176) rfl, wt4 (j := 177) rfl⟩
def iX0_removeField (mc ms : Nat) : MI := (RX0, 3, none, "removeField", 0, 0, mc, ms, [])
theorem mq_X0_removeField {mc ms : Nat} : MQv yX0_removeField cX0_removeField (iX0_removeField mc ms) 1 := ⟨⟨rfl, ⟨by decide, by decide⟩, by decide +kernel, wt3 (j := 132) rfl, wt1 (j := 2) rfl⟩, wt3 (j := 130) rfl, wt3 (j := 131) rfl⟩
def iX0_usableFields (mc ms : Nat) : MI := (RX0, 6, (some .int), "usableFields", 1, 21, mc, ms, [])
theorem mq_X0_usableFields {mc ms : Nat} : MQv yX0_usableFields cX0_usableFields (iX0_usableFields mc ms) 2 := ⟨⟨rfl, ⟨by decide, by decide⟩, by decide +kernel, wt4 (j := 42) rfl, wt1 (j := 2) rfl⟩, wt4 (j := 40) rfl, wt4 (j := 41) rfl⟩
def iX1_init (mc ms : Nat) : MI := (RX1, 2, none, "<init>", 2, 50, mc, ms, [])
theorem mq_X1_init {mc ms : Nat} : MQi yX1_init cX1_init (iX1_init mc ms) 1 := ⟨⟨rfl, ⟨by decide, by decide⟩, by decide +kernel, wt3 (j := 1) rfl, wt1 (j := 21) rfl⟩, wt3 (j := 0) rfl, rfl⟩
def iX1_evaluate (mc ms : Nat) : MI := (RX1, 7, (some .int), "evaluate", 2, 47, mc, ms, [])
theorem mq_X1_evaluate {mc ms : Nat} : MQv yX1_evaluate cX1_evaluate (iX1_evaluate mc ms) 3 := ⟨⟨rfl, ⟨by decide, by decide⟩, by decide +kernel, wt4 (j := 127) rfl, wt1 (j := 21) rfl⟩, wt4 (j := 125) rfl, wt4 (j := 126) rfl⟩
def iX1_findFactors (mc ms : Nat) : MI := (RX1, 4, (some .int), "findFactors", 0, 0, mc, ms, [])
theorem mq_X1_findFactors {mc ms : Nat} : MQv yX1_findFactors cX1_findFactors (iX1_findFactors mc ms) 0 := ⟨⟨rfl, ⟨by decide, by decide⟩, by decide +kernel, wt3 (j := 9) rfl, wt1 (j := 21) rfl⟩, wt3 (j := 8) rfl, wt0 (j := 7) rfl⟩
def iX1_greatestPowerOfTwo (mc ms : Nat) : MI := (RX1, 1, (some .int), "greatestPowerOfTwo", 0, 0, mc, ms, [])
theorem mq_X1_greatestPowerOfTwo {mc ms : Nat} : MQv yX1_greatestPowerOfTwo cX1_greatestPowerOfTwo (iX1_greatestPowerOfTwo mc ms) 0 := ⟨⟨rfl, ⟨by decide, by decide⟩, by decide +kernel, wt3 (j := 147) rfl, wt1 (j := 21) rfl⟩, wt3 (j := 145) rfl, wt3 (j := 146) rfl⟩
def iX1_hasRoot (mc ms : Nat) : MI := (RX1, 2, (some .boolean), "hasRoot", 0, 0, mc, ms, [])
theorem mq_X1_hasRoot {mc ms : Nat} : MQv yX1_hasRoot cX1_hasRoot (iX1_hasRoot mc ms) 1 := ⟨⟨rfl, ⟨by decide, by decide⟩, by decide +kernel, wt3 (j := 155) rfl, wt1 (j := 21) rfl⟩, wt3 (j := 153) rfl, wt3 (j := 154) rfl⟩
def iX1_invert (mc ms : Nat) : MI := (RX1, 2, (some .int), "invert", 1, 27, mc, ms, [])
theorem mq_X1_invert {mc ms : Nat} : MQv yX1_invert cX1_invert (iX1_invert mc ms) 1 := ⟨⟨rfl, ⟨by decide, by decide⟩, by decide +kernel, wt3 (j := 217) rfl, wt1 (j := 21) rfl⟩, wt3 (j := 215) rfl, wt3 (j := 216) rfl⟩
def iX1_leastGenerator (mc ms : Nat) : MI := (RX1, 4, (some .int), "leastGenerator", 1, 27, mc, ms, [])
theorem mq_X1_leastGenerator {mc ms : Nat} : MQv yX1_leastGenerator cX1_leastGenerator (iX1_leastGenerator mc ms) 0 := ⟨⟨rfl, ⟨by decide, by decide⟩, by decide +kernel, wt3 (j := 13) rfl, wt1 (j := 21) rfl⟩, wt3 (j := 12) rfl, wt0 (j := 8) rfl⟩
def iX1_orderOf (mc ms : Nat) : MI := (RX1, 5, (some .int), "orderOf", 1, 27, mc, ms, [])
theorem mq_X1_orderOf {mc ms : Nat} : MQv yX1_orderOf cX1_orderOf (iX1_orderOf mc ms) 1 := ⟨⟨rfl, ⟨by decide, by decide⟩, by decide +kernel, wt3 (j := 228) rfl, wt1 (j := 21) rfl⟩, wt3 (j := 226) rfl, wt3 (j := 227) rfl⟩
def iX1_raise (mc ms : Nat) : MI := (RX1, 8, (some .int), "raise", 0, 0, mc, ms, [])
theorem mq_X1_raise {mc ms : Nat} : MQv yX1_raise cX1_raise (iX1_raise mc ms) 2 := ⟨⟨rfl, ⟨by decide, by decide⟩, by decide +kernel, wt3 (j := 17) rfl, wt1 (j := 21) rfl⟩, wt3 (j := 15) rfl, wt3 (j := 16) rfl⟩
def iX1_residueOf (mc ms : Nat) : MI := (RX1, 3, (some .int), "residueOf", 1, 25, mc, ms, [])
theorem mq_X1_residueOf {mc ms : Nat} : MQv yX1_residueOf cX1_residueOf (iX1_residueOf mc ms) 1 := ⟨⟨rfl, ⟨by decide, by decide⟩, by decide +kernel, wt3 (j := 198) rfl, wt1 (j := 21) rfl⟩, wt3 (j := 196) rfl, wt3 (j := 197) rfl⟩
def iX1_rootOfOrder (mc ms : Nat) : MI := (RX1, 2, (some .int), "rootOfOrder", 1, 27, mc, ms, [])
theorem mq_X1_rootOfOrder {mc ms : Nat} : MQv yX1_rootOfOrder cX1_rootOfOrder (iX1_rootOfOrder mc ms) 1 := ⟨⟨rfl, ⟨by decide, by decide⟩, by decide +kernel, wt3 (j := 187) rfl, wt1 (j := 21) rfl⟩, wt3 (j := 185) rfl, wt3 (j := 186) rfl⟩
def iX1_times (mc ms : Nat) : MI := (RX1, 3, (some .int), "times", 0, 0, mc, ms, [])
theorem mq_X1_times {mc ms : Nat} : MQv yX1_times cX1_times (iX1_times mc ms) 2 := ⟨⟨rfl, ⟨by decide, by decide⟩, by decide +kernel, wt4 (j := 11) rfl, wt1 (j := 21) rfl⟩, wt4 (j := 9) rfl, wt4 (j := 10) rfl⟩
def iX1_transformLengths (mc ms : Nat) : MI := (RX1, 3, (some .int), "transformLengths", 1, 21, mc, ms, [])
theorem mq_X1_transformLengths {mc ms : Nat} : MQv yX1_transformLengths cX1_transformLengths (iX1_transformLengths mc ms) 0 := ⟨⟨rfl, ⟨by decide, by decide⟩, by decide +kernel, wt3 (j := 151) rfl, wt1 (j := 21) rfl⟩, wt3 (j := 149) rfl, wt3 (j := 150) rfl⟩
def iX2_init (mc ms : Nat) : MI := (RX2, 2, none, "<init>", 3, 61, mc, ms, [])
theorem mq_X2_init {mc ms : Nat} : MQi yX2_init cX2_init (iX2_init mc ms) 0 := ⟨⟨rfl, ⟨by decide, by decide⟩, by decide +kernel, wt1 (j := 134) rfl, wt1 (j := 5) rfl⟩, wt1 (j := 133) rfl, rfl⟩
def iX2_giveBack (mc ms : Nat) : MI := (RX2, 2, none, "giveBack", 3, 69, mc, ms, [])
theorem mq_X2_giveBack {mc ms : Nat} : MQv yX2_giveBack cX2_giveBack (iX2_giveBack mc ms) 1 := ⟨⟨rfl, ⟨by decide, by decide⟩, by decide +kernel, wt5 (j := 173) rfl, wt1 (j := 5) rfl⟩, wt5 (j := 171) rfl, wt5 (j := 172) rfl⟩
def iX2_keep (mc ms : Nat) : MI := (RX2, 2, none, "keep", 3, 69, mc, ms, [])
theorem mq_X2_keep {mc ms : Nat} : MQv yX2_keep cX2_keep (iX2_keep mc ms) 1 := ⟨⟨rfl, ⟨by decide, by decide⟩, by decide +kernel, wt3 (j := 68) rfl, wt1 (j := 5) rfl⟩, wt3 (j := 66) rfl, wt3 (j := 67) rfl⟩
def iX3_init (mc ms : Nat) : MI := (RX3, 1, none, "<init>", 1, 20, mc, ms, [])
theorem mq_X3_init {mc ms : Nat} : MQi yX3_init cX3_init (iX3_init mc ms) 0 := ⟨⟨rfl, ⟨by decide, by decide⟩, by decide +kernel, wt1 (j := 188) rfl, wt1 (j := 7) rfl⟩, wt1 (j := 187) rfl, rfl⟩
def iX3_fill (mc ms : Nat) : MI := (RX3, 5, none, "fill", 1, 23, mc, ms, [])
theorem mq_X3_fill {mc ms : Nat} : MQv yX3_fill cX3_fill (iX3_fill mc ms) 1 := ⟨⟨rfl, ⟨by decide, by decide⟩, by decide +kernel, wt4 (j := 3) rfl, wt1 (j := 7) rfl⟩, wt4 (j := 2) rfl, wt0 (j := 15) rfl⟩
def iX3_find (mc ms : Nat) : MI := (RX3, 7, (some .int), "find", 2, 48, mc, ms, [])
theorem mq_X3_find {mc ms : Nat} : MQv yX3_find cX3_find (iX3_find mc ms) 2 := ⟨⟨rfl, ⟨by decide, by decide⟩, by decide +kernel, wt3 (j := 239) rfl, wt1 (j := 7) rfl⟩, wt3 (j := 237) rfl, wt3 (j := 238) rfl⟩
def iX3_placeOf (mc ms : Nat) : MI := (RX3, 4, (some .int), "placeOf", 0, 0, mc, ms, [])
theorem mq_X3_placeOf {mc ms : Nat} : MQv yX3_placeOf cX3_placeOf (iX3_placeOf mc ms) 1 := ⟨⟨rfl, ⟨by decide, by decide⟩, by decide +kernel, wt4 (j := 7) rfl, wt1 (j := 7) rfl⟩, wt4 (j := 6) rfl, wt0 (j := 16) rfl⟩
def iX4_init (mc ms : Nat) : MI := (RX4, 1, none, "<init>", 1, 20, mc, ms, [])
theorem mq_X4_init {mc ms : Nat} : MQi yX4_init cX4_init (iX4_init mc ms) 0 := ⟨⟨rfl, ⟨by decide, by decide⟩, by decide +kernel, wt1 (j := 201) rfl, wt1 (j := 8) rfl⟩, wt1 (j := 200) rfl, rfl⟩
def iX4_convolve (mc ms : Nat) : MI := (RX4, 9, none, "convolve", 4, 106, mc, ms, [])
theorem mq_X4_convolve {mc ms : Nat} : MQv yX4_convolve cX4_convolve (iX4_convolve mc ms) 3 := ⟨⟨rfl, ⟨by decide, by decide⟩, by decide +kernel, wt5 (j := 59) rfl, wt1 (j := 8) rfl⟩, wt5 (j := 57) rfl, wt5 (j := 58) rfl⟩
def iX4_multiplySpectra (mc ms : Nat) : MI := (RX4, 11, none, "multiplySpectra", 3, 73, mc, ms, [])
theorem mq_X4_multiplySpectra {mc ms : Nat} : MQv yX4_multiplySpectra cX4_multiplySpectra (iX4_multiplySpectra mc ms) 5 := ⟨⟨rfl, ⟨by decide, by decide⟩, by decide +kernel, wt5 (j := 64) rfl, wt1 (j := 8) rfl⟩, wt5 (j := 63) rfl, wt0 (j := 23) rfl⟩
def iX4_widen (mc ms : Nat) : MI := (RX4, 14, none, "widen", 3, 73, mc, ms, [])
theorem mq_X4_widen {mc ms : Nat} : MQv yX4_widen cX4_widen (iX4_widen mc ms) 4 := ⟨⟨rfl, ⟨by decide, by decide⟩, by decide +kernel, wt5 (j := 70) rfl, wt1 (j := 8) rfl⟩, wt5 (j := 69) rfl, wt0 (j := 24) rfl⟩
def iX5_init (mc ms : Nat) : MI := (RX5, 1, none, "<init>", 1, 20, mc, ms, [])
theorem mq_X5_init {mc ms : Nat} : MQi yX5_init cX5_init (iX5_init mc ms) 0 := ⟨⟨rfl, ⟨by decide, by decide⟩, by decide +kernel, wt1 (j := 211) rfl, wt1 (j := 9) rfl⟩, wt1 (j := 210) rfl, rfl⟩
def iX5_compare (mc ms : Nat) : MI := (RX5, 6, none, "compare", 0, 0, mc, ms, [])
theorem mq_X5_compare {mc ms : Nat} : MQv yX5_compare cX5_compare (iX5_compare mc ms) 2 := ⟨⟨rfl, ⟨by decide, by decide⟩, by decide +kernel, wt5 (j := 28) rfl, wt1 (j := 9) rfl⟩, wt5 (j := 27) rfl, wt0 (j := 22) rfl⟩
def iX5_find (mc ms : Nat) : MI := (RX5, 10, none, "find", 5, 117, mc, ms, [])
theorem mq_X5_find {mc ms : Nat} : MQv yX5_find cX5_find (iX5_find mc ms) 4 := ⟨⟨rfl, ⟨by decide, by decide⟩, by decide +kernel, wt5 (j := 16) rfl, wt1 (j := 9) rfl⟩, wt5 (j := 14) rfl, wt5 (j := 15) rfl⟩
def iX5_measureFields (mc ms : Nat) : MI := (RX5, 8, none, "measureFields", 4, 90, mc, ms, [])
theorem mq_X5_measureFields {mc ms : Nat} : MQv yX5_measureFields cX5_measureFields (iX5_measureFields mc ms) 4 := ⟨⟨rfl, ⟨by decide, by decide⟩, by decide +kernel, wt5 (j := 22) rfl, wt1 (j := 9) rfl⟩, wt5 (j := 21) rfl, wt0 (j := 21) rfl⟩
def iX6_init (mc ms : Nat) : MI := (RX6, 1, none, "<init>", 1, 20, mc, ms, [])
theorem mq_X6_init {mc ms : Nat} : MQi yX6_init cX6_init (iX6_init mc ms) 0 := ⟨⟨rfl, ⟨by decide, by decide⟩, by decide +kernel, wt1 (j := 47) rfl, wt1 (j := 3) rfl⟩, wt1 (j := 46) rfl, rfl⟩
def iX6_centre (mc ms : Nat) : MI := (RX6, 2, none, "centre", 0, 0, mc, ms, [])
theorem mq_X6_centre {mc ms : Nat} : MQv yX6_centre cX6_centre (iX6_centre mc ms) 0 := ⟨⟨rfl, ⟨by decide, by decide⟩, by decide +kernel, wt5 (j := 76) rfl, wt1 (j := 3) rfl⟩, wt5 (j := 74) rfl, wt5 (j := 75) rfl⟩
def iX6_clear (mc ms : Nat) : MI := (RX6, 1, none, "clear", 0, 0, mc, ms, [])
theorem mq_X6_clear {mc ms : Nat} : MQv yX6_clear cX6_clear (iX6_clear mc ms) 0 := ⟨⟨rfl, ⟨by decide, by decide⟩, by decide +kernel, wt2 (j := 145) rfl, wt1 (j := 3) rfl⟩, wt2 (j := 143) rfl, wt2 (j := 144) rfl⟩
def iX6_copyFrom (mc ms : Nat) : MI := (RX6, 2, none, "copyFrom", 1, 26, mc, ms, [])
theorem mq_X6_copyFrom {mc ms : Nat} : MQv yX6_copyFrom cX6_copyFrom (iX6_copyFrom mc ms) 1 := ⟨⟨rfl, ⟨by decide, by decide⟩, by decide +kernel, wt3 (j := 86) rfl, wt1 (j := 3) rfl⟩, wt3 (j := 84) rfl, wt3 (j := 85) rfl⟩
def iX6_evaluate (mc ms : Nat) : MI := (RX6, 7, (some .int), "evaluate", 1, 25, mc, ms, [])
theorem mq_X6_evaluate {mc ms : Nat} : MQv yX6_evaluate cX6_evaluate (iX6_evaluate mc ms) 1 := ⟨⟨rfl, ⟨by decide, by decide⟩, by decide +kernel, wt5 (j := 132) rfl, wt1 (j := 3) rfl⟩, wt5 (j := 130) rfl, wt5 (j := 131) rfl⟩
def iX6_hasCoefficient (mc ms : Nat) : MI := (RX6, 2, (some .boolean), "hasCoefficient", 0, 0, mc, ms, [])
theorem mq_X6_hasCoefficient {mc ms : Nat} : MQv yX6_hasCoefficient cX6_hasCoefficient (iX6_hasCoefficient mc ms) 1 := ⟨⟨rfl, ⟨by decide, by decide⟩, by decide +kernel, wt5 (j := 107) rfl, wt1 (j := 3) rfl⟩, wt5 (j := 105) rfl, wt5 (j := 106) rfl⟩
def iX6_isPresent (mc ms : Nat) : MI := (RX6, 1, (some .boolean), "isPresent", 0, 0, mc, ms, [])
theorem mq_X6_isPresent {mc ms : Nat} : MQv yX6_isPresent cX6_isPresent (iX6_isPresent mc ms) 0 := ⟨⟨rfl, ⟨by decide, by decide⟩, by decide +kernel, wt5 (j := 92) rfl, wt1 (j := 3) rfl⟩, wt5 (j := 90) rfl, wt5 (j := 91) rfl⟩
def iX6_isSequence (mc ms : Nat) : MI := (RX6, 2, (some .boolean), "isSequence", 1, 21, mc, ms, [])
theorem mq_X6_isSequence {mc ms : Nat} : MQv yX6_isSequence cX6_isSequence (iX6_isSequence mc ms) 0 := ⟨⟨rfl, ⟨by decide, by decide⟩, by decide +kernel, wt5 (j := 159) rfl, wt1 (j := 3) rfl⟩, wt5 (j := 157) rfl, wt5 (j := 158) rfl⟩
def iX6_mixedDigit (mc ms : Nat) : MI := (RX6, 6, (some .int), "mixedDigit", 2, 47, mc, ms, [])
theorem mq_X6_mixedDigit {mc ms : Nat} : MQv yX6_mixedDigit cX6_mixedDigit (iX6_mixedDigit mc ms) 2 := ⟨⟨rfl, ⟨by decide, by decide⟩, by decide +kernel, wt5 (j := 120) rfl, wt1 (j := 3) rfl⟩, wt5 (j := 118) rfl, wt5 (j := 119) rfl⟩
def iX6_prepare (mc ms : Nat) : MI := (RX6, 5, none, "prepare", 1, 21, mc, ms, [])
theorem mq_X6_prepare {mc ms : Nat} : MQv yX6_prepare cX6_prepare (iX6_prepare mc ms) 3 := ⟨⟨rfl, ⟨by decide, by decide⟩, by decide +kernel, wt5 (j := 50) rfl, wt1 (j := 3) rfl⟩, wt5 (j := 48) rfl, wt5 (j := 49) rfl⟩
def iX6_takeFields (mc ms : Nat) : MI := (RX6, 4, none, "takeFields", 0, 0, mc, ms, [])
theorem mq_X6_takeFields {mc ms : Nat} : MQv yX6_takeFields cX6_takeFields (iX6_takeFields mc ms) 2 := ⟨⟨rfl, ⟨by decide, by decide⟩, by decide +kernel, wt5 (j := 55) rfl, wt1 (j := 3) rfl⟩, wt5 (j := 53) rfl, wt5 (j := 54) rfl⟩
def iX7_init (mc ms : Nat) : MI := (RX7, 1, none, "<init>", 1, 20, mc, ms, [])
theorem mq_X7_init {mc ms : Nat} : MQi yX7_init cX7_init (iX7_init mc ms) 0 := ⟨⟨rfl, ⟨by decide, by decide⟩, by decide +kernel, wt1 (j := 91) rfl, wt1 (j := 4) rfl⟩, wt1 (j := 90) rfl, rfl⟩
def iX7_add (mc ms : Nat) : MI := (RX7, 2, none, "add", 1, 20, mc, ms, [])
theorem mq_X7_add {mc ms : Nat} : MQv yX7_add cX7_add (iX7_add mc ms) 1 := ⟨⟨rfl, ⟨by decide, by decide⟩, by decide +kernel, wt3 (j := 59) rfl, wt1 (j := 4) rfl⟩, wt3 (j := 57) rfl, wt3 (j := 58) rfl⟩
def iX7_copyFrom (mc ms : Nat) : MI := (RX7, 2, none, "copyFrom", 1, 26, mc, ms, [])
theorem mq_X7_copyFrom {mc ms : Nat} : MQv yX7_copyFrom cX7_copyFrom (iX7_copyFrom mc ms) 1 := ⟨⟨rfl, ⟨by decide, by decide⟩, by decide +kernel, wt3 (j := 79) rfl, wt1 (j := 4) rfl⟩, wt3 (j := 77) rfl, wt3 (j := 78) rfl⟩
def iX7_fillEvenly (mc ms : Nat) : MI := (RX7, 5, none, "fillEvenly", 2, 41, mc, ms, [])
theorem mq_X7_fillEvenly {mc ms : Nat} : MQv yX7_fillEvenly cX7_fillEvenly (iX7_fillEvenly mc ms) 3 := ⟨⟨rfl, ⟨by decide, by decide⟩, by decide +kernel, wt4 (j := 87) rfl, wt1 (j := 4) rfl⟩, wt4 (j := 85) rfl, wt4 (j := 86) rfl⟩
def iX7_greatestSize (mc ms : Nat) : MI := (RX7, 3, (some .int), "greatestSize", 1, 21, mc, ms, [])
theorem mq_X7_greatestSize {mc ms : Nat} : MQv yX7_greatestSize cX7_greatestSize (iX7_greatestSize mc ms) 0 := ⟨⟨rfl, ⟨by decide, by decide⟩, by decide +kernel, wt4 (j := 212) rfl, wt1 (j := 4) rfl⟩, wt4 (j := 210) rfl, wt4 (j := 211) rfl⟩
def iX7_isFull (mc ms : Nat) : MI := (RX7, 1, (some .boolean), "isFull", 0, 0, mc, ms, [])
theorem mq_X7_isFull {mc ms : Nat} : MQv yX7_isFull cX7_isFull (iX7_isFull mc ms) 0 := ⟨⟨rfl, ⟨by decide, by decide⟩, by decide +kernel, wt3 (j := 55) rfl, wt1 (j := 4) rfl⟩, wt3 (j := 53) rfl, wt3 (j := 54) rfl⟩
def iX8_init (mc ms : Nat) : MI := (RX8, 1, none, "<init>", 3, 61, mc, ms, [])
theorem mq_X8_init {mc ms : Nat} : MQi yX8_init cX8_init (iX8_init mc ms) 0 := ⟨⟨rfl, ⟨by decide, by decide⟩, by decide +kernel, wt1 (j := 154) rfl, wt1 (j := 6) rfl⟩, wt1 (j := 153) rfl, rfl⟩
def iX8_byteAt (mc ms : Nat) : MI := (RX8, 2, (some .int), "byteAt", 0, 0, mc, ms, [])
theorem mq_X8_byteAt {mc ms : Nat} : MQv yX8_byteAt cX8_byteAt (iX8_byteAt mc ms) 1 := ⟨⟨rfl, ⟨by decide, by decide⟩, by decide +kernel, wt2 (j := 153) rfl, wt1 (j := 6) rfl⟩, wt2 (j := 152) rfl, wt0 (j := 2) rfl⟩
def iX8_fail (mc ms : Nat) : MI := (RX8, 3, none, "fail", 0, 0, mc, ms, [])
theorem mq_X8_fail {mc ms : Nat} : MQv yX8_fail cX8_fail (iX8_fail mc ms) 2 := ⟨⟨rfl, ⟨by decide, by decide⟩, by decide +kernel, wt2 (j := 217) rfl, wt1 (j := 6) rfl⟩, wt2 (j := 216) rfl, wt0 (j := 5) rfl⟩
def iX8_hasSpace (mc ms : Nat) : MI := (RX8, 1, (some .boolean), "hasSpace", 0, 0, mc, ms, [])
theorem mq_X8_hasSpace {mc ms : Nat} : MQv yX8_hasSpace cX8_hasSpace (iX8_hasSpace mc ms) 0 := ⟨⟨rfl, ⟨by decide, by decide⟩, by decide +kernel, wt2 (j := 31) rfl, wt1 (j := 6) rfl⟩, wt2 (j := 29) rfl, wt2 (j := 30) rfl⟩
def iX8_isDigit (mc ms : Nat) : MI := (RX8, 1, (some .boolean), "isDigit", 0, 0, mc, ms, [])
theorem mq_X8_isDigit {mc ms : Nat} : MQs yX8_isDigit cX8_isDigit (iX8_isDigit mc ms) 1 := ⟨⟨rfl, ⟨by decide, by decide⟩, by decide +kernel, wt2 (j := 224) rfl, wt1 (j := 6) rfl⟩, wt2 (j := 223) rfl⟩
def iX8_isLetter (mc ms : Nat) : MI := (RX8, 1, (some .boolean), "isLetter", 0, 0, mc, ms, [])
theorem mq_X8_isLetter {mc ms : Nat} : MQs yX8_isLetter cX8_isLetter (iX8_isLetter mc ms) 1 := ⟨⟨rfl, ⟨by decide, by decide⟩, by decide +kernel, wt2 (j := 209) rfl, wt1 (j := 6) rfl⟩, wt2 (j := 208) rfl⟩
def iX8_passNumber (mc ms : Nat) : MI := (RX8, 2, (some .int), "passNumber", 1, 21, mc, ms, [])
theorem mq_X8_passNumber {mc ms : Nat} : MQv yX8_passNumber cX8_passNumber (iX8_passNumber mc ms) 0 := ⟨⟨rfl, ⟨by decide, by decide⟩, by decide +kernel, wt2 (j := 221) rfl, wt1 (j := 6) rfl⟩, wt2 (j := 220) rfl, wt0 (j := 6) rfl⟩
def iX8_passSemicolon (mc ms : Nat) : MI := (RX8, 1, none, "passSemicolon", 2, 41, mc, ms, [])
theorem mq_X8_passSemicolon {mc ms : Nat} : MQv yX8_passSemicolon cX8_passSemicolon (iX8_passSemicolon mc ms) 0 := ⟨⟨rfl, ⟨by decide, by decide⟩, by decide +kernel, wt3 (j := 64) rfl, wt1 (j := 6) rfl⟩, wt3 (j := 63) rfl, wt0 (j := 12) rfl⟩
def iX8_passSpaces (mc ms : Nat) : MI := (RX8, 1, none, "passSpaces", 1, 21, mc, ms, [])
theorem mq_X8_passSpaces {mc ms : Nat} : MQv yX8_passSpaces cX8_passSpaces (iX8_passSpaces mc ms) 0 := ⟨⟨rfl, ⟨by decide, by decide⟩, by decide +kernel, wt2 (j := 149) rfl, wt1 (j := 6) rfl⟩, wt2 (j := 148) rfl, wt0 (j := 1) rfl⟩
def iX8_passWord (mc ms : Nat) : MI := (RX8, 3, (some .boolean), "passWord", 5, 106, mc, ms, [])
theorem mq_X8_passWord {mc ms : Nat} : MQv yX8_passWord cX8_passWord (iX8_passWord mc ms) 1 := ⟨⟨rfl, ⟨by decide, by decide⟩, by decide +kernel, wt2 (j := 158) rfl, wt1 (j := 6) rfl⟩, wt2 (j := 157) rfl, wt0 (j := 3) rfl⟩
def iX8_read (mc ms : Nat) : MI := (RX8, 4, (some .int), "read", 6, 128, mc, ms, [])
theorem mq_X8_read {mc ms : Nat} : MQv yX8_read cX8_read (iX8_read mc ms) 1 := ⟨⟨rfl, ⟨by decide, by decide⟩, by decide +kernel, wt2 (j := 134) rfl, wt1 (j := 6) rfl⟩, wt2 (j := 132) rfl, wt2 (j := 133) rfl⟩
def iX8_readPrime (mc ms : Nat) : MI := (RX8, 4, none, "readPrime", 4, 92, mc, ms, [])
theorem mq_X8_readPrime {mc ms : Nat} : MQv yX8_readPrime cX8_readPrime (iX8_readPrime mc ms) 1 := ⟨⟨rfl, ⟨by decide, by decide⟩, by decide +kernel, wt2 (j := 213) rfl, wt1 (j := 6) rfl⟩, wt2 (j := 212) rfl, wt0 (j := 4) rfl⟩
def iX8_readSequence (mc ms : Nat) : MI := (RX8, 3, none, "readSequence", 4, 88, mc, ms, [])
theorem mq_X8_readSequence {mc ms : Nat} : MQv yX8_readSequence cX8_readSequence (iX8_readSequence mc ms) 0 := ⟨⟨rfl, ⟨by decide, by decide⟩, by decide +kernel, wt3 (j := 43) rfl, wt1 (j := 6) rfl⟩, wt3 (j := 42) rfl, wt0 (j := 9) rfl⟩
def iX8_readTerm (mc ms : Nat) : MI := (RX8, 5, none, "readTerm", 2, 42, mc, ms, [])
theorem mq_X8_readTerm {mc ms : Nat} : MQv yX8_readTerm cX8_readTerm (iX8_readTerm mc ms) 1 := ⟨⟨rfl, ⟨by decide, by decide⟩, by decide +kernel, wt3 (j := 51) rfl, wt1 (j := 6) rfl⟩, wt3 (j := 50) rfl, wt0 (j := 11) rfl⟩
def iX8_readTerms (mc ms : Nat) : MI := (RX8, 3, none, "readTerms", 3, 66, mc, ms, [])
theorem mq_X8_readTerms {mc ms : Nat} : MQv yX8_readTerms cX8_readTerms (iX8_readTerms mc ms) 1 := ⟨⟨rfl, ⟨by decide, by decide⟩, by decide +kernel, wt3 (j := 47) rfl, wt1 (j := 6) rfl⟩, wt3 (j := 46) rfl, wt0 (j := 10) rfl⟩
def iX8_takeBytes (mc ms : Nat) : MI := (RX8, 3, none, "takeBytes", 0, 0, mc, ms, [])
theorem mq_X8_takeBytes {mc ms : Nat} : MQv yX8_takeBytes cX8_takeBytes (iX8_takeBytes mc ms) 1 := ⟨⟨rfl, ⟨by decide, by decide⟩, by decide +kernel, wt2 (j := 103) rfl, wt1 (j := 6) rfl⟩, wt2 (j := 101) rfl, wt2 (j := 102) rfl⟩
def iL_addPrime (mc ms : Nat) : MI := (RL, 4, (some .int), "addPrime", 8, 127, mc, ms, [(0, 9, 12, 19), (0, 9, 15, 13)])
theorem mq_L_addPrime {mc ms : Nat} : MQw yL_addPrime cL_addPrime (iL_addPrime mc ms) 3 := ⟨fun h => (by cases h), ⟨by decide, by decide⟩, by decide +kernel, wt3 (j := 93) rfl, wt1 (j := 0) rfl, wt3 (j := 92) rfl⟩
def iL_agreeing (mc ms : Nat) : MI := (RL, 5, (some .int), "agreeing", 10, 179, mc, ms, [(0, 10, 13, 27), (0, 10, 17, 13)])
theorem mq_L_agreeing {mc ms : Nat} : MQw yL_agreeing cL_agreeing (iL_agreeing mc ms) 4 := ⟨fun h => (by cases h), ⟨by decide, by decide⟩, by decide +kernel, wt5 (j := 144) rfl, wt1 (j := 0) rfl, wt5 (j := 143) rfl⟩
def iL_append (mc ms : Nat) : MI := (RL, 5, (some .int), "append", 9, 151, mc, ms, [(0, 10, 13, 27), (0, 10, 17, 19), (0, 10, 21, 13)])
theorem mq_L_append {mc ms : Nat} : MQw yL_append cL_append (iL_append mc ms) 4 := ⟨fun h => (by cases h), ⟨by decide, by decide⟩, by decide +kernel, wt4 (j := 91) rfl, wt1 (j := 0) rfl, wt4 (j := 90) rfl⟩
def iL_bound (mc ms : Nat) : MI := (RL, 5, (some .int), "bound", 10, 174, mc, ms, [(0, 9, 12, 27), (0, 9, 16, 13)])
theorem mq_L_bound {mc ms : Nat} : MQw yL_bound cL_bound (iL_bound mc ms) 4 := ⟨fun h => (by cases h), ⟨by decide, by decide⟩, by decide +kernel, wt4 (j := 200) rfl, wt1 (j := 0) rfl, wt4 (j := 199) rfl⟩
def iL_chirp (mc ms : Nat) : MI := (RL, 6, (some .int), "chirp", 9, 152, mc, ms, [(0, 12, 15, 27), (0, 12, 19, 19), (0, 12, 23, 36)])
theorem mq_L_chirp {mc ms : Nat} : MQw yL_chirp cL_chirp (iL_chirp mc ms) 5 := ⟨fun h => (by cases h), ⟨by decide, by decide⟩, by decide +kernel, wt4 (j := 158) rfl, wt1 (j := 0) rfl, wt4 (j := 157) rfl⟩
def iL_coefficient (mc ms : Nat) : MI := (RL, 8, (some .int), "coefficient", 10, 180, mc, ms, [(0, 15, 18, 27), (0, 15, 22, 13), (0, 15, 26, 19)])
theorem mq_L_coefficient {mc ms : Nat} : MQw yL_coefficient cL_coefficient (iL_coefficient mc ms) 7 := ⟨fun h => (by cases h), ⟨by decide, by decide⟩, by decide +kernel, wt4 (j := 219) rfl, wt1 (j := 0) rfl, wt4 (j := 218) rfl⟩
def iL_cost (mc ms : Nat) : MI := (RL, 6, (some .int), "cost", 9, 152, mc, ms, [(0, 12, 15, 27), (0, 12, 19, 19), (0, 12, 23, 36)])
theorem mq_L_cost {mc ms : Nat} : MQw yL_cost cL_cost (iL_cost mc ms) 5 := ⟨fun h => (by cases h), ⟨by decide, by decide⟩, by decide +kernel, wt4 (j := 132) rfl, wt1 (j := 0) rfl, wt4 (j := 131) rfl⟩
def iL_cut (mc ms : Nat) : MI := (RL, 5, (some .int), "cut", 9, 152, mc, ms, [(0, 10, 13, 27), (0, 10, 17, 19)])
theorem mq_L_cut {mc ms : Nat} : MQw yL_cut cL_cut (iL_cut mc ms) 4 := ⟨fun h => (by cases h), ⟨by decide, by decide⟩, by decide +kernel, wt4 (j := 101) rfl, wt1 (j := 0) rfl, wt4 (j := 100) rfl⟩
def iL_digit (mc ms : Nat) : MI := (RL, 5, (some .int), "digit", 8, 130, mc, ms, [(0, 10, 13, 13), (0, 10, 17, 27)])
theorem mq_L_digit {mc ms : Nat} : MQw yL_digit cL_digit (iL_digit mc ms) 4 := ⟨fun h => (by cases h), ⟨by decide, by decide⟩, by decide +kernel, wt5 (j := 111) rfl, wt1 (j := 0) rfl, wt5 (j := 110) rfl⟩
def iL_feed (mc ms : Nat) : MI := (RL, 8, (some .int), "feed", 7, 111, mc, ms, [(0, 16, 19, 13)])
theorem mq_L_feed {mc ms : Nat} : MQw yL_feed cL_feed (iL_feed mc ms) 7 := ⟨fun h => (by cases h), ⟨by decide, by decide⟩, by decide +kernel, wt2 (j := 22) rfl, wt1 (j := 0) rfl, wt2 (j := 21) rfl⟩
def iL_inverse (mc ms : Nat) : MI := (RL, 5, (some .int), "inverse", 9, 151, mc, ms, [(0, 10, 13, 27), (0, 10, 17, 36)])
theorem mq_L_inverse {mc ms : Nat} : MQw yL_inverse cL_inverse (iL_inverse mc ms) 4 := ⟨fun h => (by cases h), ⟨by decide, by decide⟩, by decide +kernel, wt3 (j := 205) rfl, wt1 (j := 0) rfl, wt3 (j := 204) rfl⟩
def iL_isEnough (mc ms : Nat) : MI := (RL, 6, (some .int), "isEnough", 10, 175, mc, ms, [(0, 19, 22, 27), (0, 19, 26, 13)])
theorem mq_L_isEnough {mc ms : Nat} : MQw yL_isEnough cL_isEnough (iL_isEnough mc ms) 5 := ⟨fun h => (by cases h), ⟨by decide, by decide⟩, by decide +kernel, wt4 (j := 232) rfl, wt1 (j := 0) rfl, wt4 (j := 231) rfl⟩
def iL_length (mc ms : Nat) : MI := (RL, 4, (some .int), "length", 9, 149, mc, ms, [(0, 9, 12, 27)])
theorem mq_L_length {mc ms : Nat} : MQw yL_length cL_length (iL_length mc ms) 3 := ⟨fun h => (by cases h), ⟨by decide, by decide⟩, by decide +kernel, wt4 (j := 46) rfl, wt1 (j := 0) rfl, wt4 (j := 45) rfl⟩
def iL_load (mc ms : Nat) : MI := (RL, 4, (some .int), "load", 8, 173, mc, ms, [(0, 9, 12, 19)])
theorem mq_L_load {mc ms : Nat} : MQw yL_load cL_load (iL_load mc ms) 3 := ⟨fun h => (by cases h), ⟨by decide, by decide⟩, by decide +kernel, wt2 (j := 106) rfl, wt1 (j := 0) rfl, wt2 (j := 105) rfl⟩
def iL_logarithm (mc ms : Nat) : MI := (RL, 5, (some .int), "logarithm", 9, 151, mc, ms, [(0, 10, 13, 27), (0, 10, 17, 36)])
theorem mq_L_logarithm {mc ms : Nat} : MQw yL_logarithm cL_logarithm (iL_logarithm mc ms) 4 := ⟨fun h => (by cases h), ⟨by decide, by decide⟩, by decide +kernel, wt3 (j := 231) rfl, wt1 (j := 0) rfl, wt3 (j := 230) rfl⟩
def iL_longest (mc ms : Nat) : MI := (RL, 4, (some .int), "longest", 8, 128, mc, ms, [(0, 9, 12, 27)])
theorem mq_L_longest {mc ms : Nat} : MQw yL_longest cL_longest (iL_longest mc ms) 3 := ⟨fun h => (by cases h), ⟨by decide, by decide⟩, by decide +kernel, wt4 (j := 165) rfl, wt1 (j := 0) rfl, wt4 (j := 164) rfl⟩
def iL_method (mc ms : Nat) : MI := (RL, 5, (some .int), "method", 9, 151, mc, ms, [(0, 10, 13, 27), (0, 10, 17, 19), (0, 10, 21, 36)])
theorem mq_L_method {mc ms : Nat} : MQw yL_method cL_method (iL_method mc ms) 4 := ⟨fun h => (by cases h), ⟨by decide, by decide⟩, by decide +kernel, wt4 (j := 148) rfl, wt1 (j := 0) rfl, wt4 (j := 147) rfl⟩
def iL_multiply (mc ms : Nat) : MI := (RL, 8, (some .int), "multiply", 10, 180, mc, ms, [(0, 16, 19, 27), (0, 16, 23, 13), (0, 16, 27, 19), (0, 16, 31, 36)])
theorem mq_L_multiply {mc ms : Nat} : MQw yL_multiply cL_multiply (iL_multiply mc ms) 7 := ⟨fun h => (by cases h), ⟨by decide, by decide⟩, by decide +kernel, wt5 (j := 39) rfl, wt1 (j := 0) rfl, wt5 (j := 38) rfl⟩
def iL_order (mc ms : Nat) : MI := (RL, 5, (some .int), "order", 9, 151, mc, ms, [(0, 10, 13, 27), (0, 10, 17, 36)])
theorem mq_L_order {mc ms : Nat} : MQw yL_order cL_order (iL_order mc ms) 4 := ⟨fun h => (by cases h), ⟨by decide, by decide⟩, by decide +kernel, wt3 (j := 220) rfl, wt1 (j := 0) rfl, wt3 (j := 219) rfl⟩
def iL_plan (mc ms : Nat) : MI := (RL, 8, (some .int), "plan", 10, 182, mc, ms, [(0, 16, 19, 27), (0, 16, 23, 13), (0, 16, 27, 19)])
theorem mq_L_plan {mc ms : Nat} : MQw yL_plan cL_plan (iL_plan mc ms) 7 := ⟨fun h => (by cases h), ⟨by decide, by decide⟩, by decide +kernel, wt5 (j := 8) rfl, wt1 (j := 0) rfl, wt5 (j := 7) rfl⟩
def iL_power (mc ms : Nat) : MI := (RL, 6, (some .int), "power", 9, 152, mc, ms, [(0, 12, 15, 27), (0, 12, 19, 19)])
theorem mq_L_power {mc ms : Nat} : MQw yL_power cL_power (iL_power mc ms) 5 := ⟨fun h => (by cases h), ⟨by decide, by decide⟩, by decide +kernel, wt3 (j := 190) rfl, wt1 (j := 0) rfl, wt3 (j := 189) rfl⟩
def iL_prime (mc ms : Nat) : MI := (RL, 5, (some .int), "prime", 9, 151, mc, ms, [(0, 10, 13, 27), (0, 10, 17, 19)])
theorem mq_L_prime {mc ms : Nat} : MQw yL_prime cL_prime (iL_prime mc ms) 4 := ⟨fun h => (by cases h), ⟨by decide, by decide⟩, by decide +kernel, wt3 (j := 135) rfl, wt1 (j := 0) rfl, wt3 (j := 134) rfl⟩
def iL_primeFor (mc ms : Nat) : MI := (RL, 5, (some .int), "primeFor", 8, 129, mc, ms, [(0, 10, 13, 19), (0, 10, 17, 36)])
theorem mq_L_primeFor {mc ms : Nat} : MQw yL_primeFor cL_primeFor (iL_primeFor mc ms) 4 := ⟨fun h => (by cases h), ⟨by decide, by decide⟩, by decide +kernel, wt4 (j := 16) rfl, wt1 (j := 0) rfl, wt4 (j := 15) rfl⟩
def iL_product (mc ms : Nat) : MI := (RL, 4, (some .int), "product", 8, 128, mc, ms, [(0, 9, 12, 13), (0, 9, 15, 19)])
theorem mq_L_product {mc ms : Nat} : MQw yL_product cL_product (iL_product mc ms) 3 := ⟨fun h => (by cases h), ⟨by decide, by decide⟩, by decide +kernel, wt5 (j := 80) rfl, wt1 (j := 0) rfl, wt5 (j := 79) rfl⟩
def iL_productAt (mc ms : Nat) : MI := (RL, 4, (some .int), "productAt", 8, 127, mc, ms, [(0, 9, 12, 13)])
theorem mq_L_productAt {mc ms : Nat} : MQw yL_productAt cL_productAt (iL_productAt mc ms) 3 := ⟨fun h => (by cases h), ⟨by decide, by decide⟩, by decide +kernel, wt5 (j := 124) rfl, wt1 (j := 0) rfl, wt5 (j := 123) rfl⟩
def iL_removePrime (mc ms : Nat) : MI := (RL, 4, (some .int), "removePrime", 8, 128, mc, ms, [(0, 9, 12, 27)])
theorem mq_L_removePrime {mc ms : Nat} : MQw yL_removePrime cL_removePrime (iL_removePrime mc ms) 3 := ⟨fun h => (by cases h), ⟨by decide, by decide⟩, by decide +kernel, wt3 (j := 103) rfl, wt1 (j := 0) rfl, wt3 (j := 102) rfl⟩
def iL_residue (mc ms : Nat) : MI := (RL, 5, (some .int), "residue", 9, 152, mc, ms, [(0, 10, 13, 27), (0, 10, 17, 13), (0, 10, 21, 19)])
theorem mq_L_residue {mc ms : Nat} : MQw yL_residue cL_residue (iL_residue mc ms) 4 := ⟨fun h => (by cases h), ⟨by decide, by decide⟩, by decide +kernel, wt5 (j := 137) rfl, wt1 (j := 0) rfl, wt5 (j := 136) rfl⟩
def iL_root (mc ms : Nat) : MI := (RL, 5, (some .int), "root", 9, 151, mc, ms, [(0, 10, 13, 27), (0, 10, 17, 19), (0, 10, 21, 36)])
theorem mq_L_root {mc ms : Nat} : MQw yL_root cL_root (iL_root mc ms) 4 := ⟨fun h => (by cases h), ⟨by decide, by decide⟩, by decide +kernel, wt3 (j := 158) rfl, wt1 (j := 0) rfl, wt3 (j := 157) rfl⟩
def iL_setSequence (mc ms : Nat) : MI := (RL, 7, (some .int), "setSequence", 9, 154, mc, ms, [(0, 14, 17, 27), (0, 14, 21, 19)])
theorem mq_L_setSequence {mc ms : Nat} : MQw yL_setSequence cL_setSequence (iL_setSequence mc ms) 6 := ⟨fun h => (by cases h), ⟨by decide, by decide⟩, by decide +kernel, wt4 (j := 70) rfl, wt1 (j := 0) rfl, wt4 (j := 69) rfl⟩
def iL_size (mc ms : Nat) : MI := (RL, 7, (some .int), "size", 10, 176, mc, ms, [(0, 14, 17, 27), (0, 14, 21, 13), (0, 14, 25, 19)])
theorem mq_L_size {mc ms : Nat} : MQw yL_size cL_size (iL_size mc ms) 6 := ⟨fun h => (by cases h), ⟨by decide, by decide⟩, by decide +kernel, wt4 (j := 182) rfl, wt1 (j := 0) rfl, wt4 (j := 181) rfl⟩
def iL_store (mc ms : Nat) : MI := (RL, 4, (some .int), "store", 9, 152, mc, ms, [(0, 9, 12, 27), (0, 9, 15, 13)])
theorem mq_L_store {mc ms : Nat} : MQw yL_store cL_store (iL_store mc ms) 3 := ⟨fun h => (by cases h), ⟨by decide, by decide⟩, by decide +kernel, wt5 (j := 151) rfl, wt1 (j := 0) rfl, wt5 (j := 150) rfl⟩
def iL_swap (mc ms : Nat) : MI := (RL, 5, (some .int), "swap", 9, 150, mc, ms, [(0, 10, 13, 27)])
theorem mq_L_swap {mc ms : Nat} : MQw yL_swap cL_swap (iL_swap mc ms) 4 := ⟨fun h => (by cases h), ⟨by decide, by decide⟩, by decide +kernel, wt4 (j := 108) rfl, wt1 (j := 0) rfl, wt4 (j := 107) rfl⟩
def iL_term (mc ms : Nat) : MI := (RL, 5, (some .int), "term", 9, 151, mc, ms, [(0, 10, 13, 27)])
theorem mq_L_term {mc ms : Nat} : MQw yL_term cL_term (iL_term mc ms) 4 := ⟨fun h => (by cases h), ⟨by decide, by decide⟩, by decide +kernel, wt4 (j := 62) rfl, wt1 (j := 0) rfl, wt4 (j := 61) rfl⟩
def iL_transform (mc ms : Nat) : MI := (RL, 7, (some .int), "transform", 9, 155, mc, ms, [(0, 14, 17, 27), (0, 14, 21, 19), (0, 14, 25, 36)])
theorem mq_L_transform {mc ms : Nat} : MQw yL_transform cL_transform (iL_transform mc ms) 6 := ⟨fun h => (by cases h), ⟨by decide, by decide⟩, by decide +kernel, wt4 (j := 119) rfl, wt1 (j := 0) rfl, wt4 (j := 118) rfl⟩
def iL_transformSteps (mc ms : Nat) : MI := (RL, 7, (some .int), "transformSteps", 10, 179, mc, ms, [(0, 14, 17, 27), (0, 14, 21, 13), (0, 14, 25, 19), (0, 14, 29, 36)])
theorem mq_L_transformSteps {mc ms : Nat} : MQw yL_transformSteps cL_transformSteps (iL_transformSteps mc ms) 6 := ⟨fun h => (by cases h), ⟨by decide, by decide⟩, by decide +kernel, wt5 (j := 31) rfl, wt1 (j := 0) rfl, wt5 (j := 30) rfl⟩
def iL_undo (mc ms : Nat) : MI := (RL, 3, (some .int), "undo", 7, 110, mc, ms, [(0, 8, 11, 13)])
theorem mq_L_undo {mc ms : Nat} : MQw yL_undo cL_undo (iL_undo mc ms) 2 := ⟨fun h => (by cases h), ⟨by decide, by decide⟩, by decide +kernel, wt5 (j := 164) rfl, wt1 (j := 0) rfl, wt5 (j := 163) rfl⟩
def iL_usable (mc ms : Nat) : MI := (RL, 5, (some .int), "usable", 8, 128, mc, ms, [(0, 10, 13, 19)])
theorem mq_L_usable {mc ms : Nat} : MQw yL_usable cL_usable (iL_usable mc ms) 4 := ⟨fun h => (by cases h), ⟨by decide, by decide⟩, by decide +kernel, wt4 (j := 28) rfl, wt1 (j := 0) rfl, wt4 (j := 27) rfl⟩
def iL_value (mc ms : Nat) : MI := (RL, 4, (some .int), "value", 8, 129, mc, ms, [(0, 8, 11, 13), (0, 8, 14, 27)])
theorem mq_L_value {mc ms : Nat} : MQw yL_value cL_value (iL_value mc ms) 3 := ⟨fun h => (by cases h), ⟨by decide, by decide⟩, by decide +kernel, wt5 (j := 96) rfl, wt1 (j := 0) rfl, wt5 (j := 95) rfl⟩
def iX10_init (mc ms : Nat) : MI := (RX10, 1, none, "<init>", 1, 21, mc, ms, [])
theorem mq_X10_init {mc ms : Nat} : MQi yX10_init cX10_init (iX10_init mc ms) 0 := ⟨⟨rfl, ⟨by decide, by decide⟩, by decide +kernel, wt5 (j := 178) rfl, wt1 (j := 10) rfl⟩, wt5 (j := 177) rfl, rfl⟩
def iX10_addPrime (mc ms : Nat) : MI := (RX10, 3, (some .int), "addPrime", 1, 25, mc, ms, [])
theorem mq_X10_addPrime {mc ms : Nat} : MQv yX10_addPrime cX10_addPrime (iX10_addPrime mc ms) 1 := ⟨⟨rfl, ⟨by decide, by decide⟩, by decide +kernel, wt6 (j := 89) rfl, wt1 (j := 10) rfl⟩, wt6 (j := 87) rfl, wt6 (j := 88) rfl⟩
def iX10_agreeing (mc ms : Nat) : MI := (RX10, 8, (some .int), "agreeing", 3, 67, mc, ms, [])
theorem mq_X10_agreeing {mc ms : Nat} : MQv yX10_agreeing cX10_agreeing (iX10_agreeing mc ms) 2 := ⟨⟨rfl, ⟨by decide, by decide⟩, by decide +kernel, wt7 (j := 116) rfl, wt1 (j := 10) rfl⟩, wt7 (j := 114) rfl, wt7 (j := 115) rfl⟩
def iX10_allHave (mc ms : Nat) : MI := (RX10, 4, (some .boolean), "allHave", 1, 21, mc, ms, [])
theorem mq_X10_allHave {mc ms : Nat} : MQv yX10_allHave cX10_allHave (iX10_allHave mc ms) 2 := ⟨⟨rfl, ⟨by decide, by decide⟩, by decide +kernel, wt7 (j := 18) rfl, wt1 (j := 10) rfl⟩, wt7 (j := 17) rfl, wt0 (j := 46) rfl⟩
def iX10_append (mc ms : Nat) : MI := (RX10, 3, (some .int), "append", 2, 46, mc, ms, [])
theorem mq_X10_append {mc ms : Nat} : MQv yX10_append cX10_append (iX10_append mc ms) 2 := ⟨⟨rfl, ⟨by decide, by decide⟩, by decide +kernel, wt6 (j := 207) rfl, wt1 (j := 10) rfl⟩, wt6 (j := 205) rfl, wt6 (j := 206) rfl⟩
def iX10_areEnough (mc ms : Nat) : MI := (RX10, 4, (some .boolean), "areEnough", 2, 45, mc, ms, [])
theorem mq_X10_areEnough {mc ms : Nat} : MQv yX10_areEnough cX10_areEnough (iX10_areEnough mc ms) 2 := ⟨⟨rfl, ⟨by decide, by decide⟩, by decide +kernel, wt7 (j := 66) rfl, wt1 (j := 10) rfl⟩, wt7 (j := 65) rfl, wt0 (j := 54) rfl⟩
def iX10_becomes (mc ms : Nat) : MI := (RX10, 2, none, "becomes", 0, 0, mc, ms, [])
theorem mq_X10_becomes {mc ms : Nat} : MQv yX10_becomes cX10_becomes (iX10_becomes mc ms) 0 := ⟨⟨rfl, ⟨by decide, by decide⟩, by decide +kernel, wt5 (j := 183) rfl, wt1 (j := 10) rfl⟩, wt5 (j := 182) rfl, wt0 (j := 26) rfl⟩
def iX10_bestMethod (mc ms : Nat) : MI := (RX10, 5, (some .int), "bestMethod", 1, 25, mc, ms, [])
theorem mq_X10_bestMethod {mc ms : Nat} : MQs yX10_bestMethod cX10_bestMethod (iX10_bestMethod mc ms) 2 := ⟨⟨rfl, ⟨by decide, by decide⟩, by decide +kernel, wt6 (j := 238) rfl, wt1 (j := 10) rfl⟩, wt6 (j := 237) rfl⟩
def iX10_bound (mc ms : Nat) : MI := (RX10, 3, (some .long), "bound", 3, 71, mc, ms, [])
theorem mq_X10_bound {mc ms : Nat} : MQv yX10_bound cX10_bound (iX10_bound mc ms) 2 := ⟨⟨rfl, ⟨by decide, by decide⟩, by decide +kernel, wt7 (j := 42) rfl, wt1 (j := 10) rfl⟩, wt7 (j := 40) rfl, wt7 (j := 41) rfl⟩
def iX10_boundOf (mc ms : Nat) : MI := (RX10, 4, (some .long), "boundOf", 2, 48, mc, ms, [])
theorem mq_X10_boundOf {mc ms : Nat} : MQv yX10_boundOf cX10_boundOf (iX10_boundOf mc ms) 2 := ⟨⟨rfl, ⟨by decide, by decide⟩, by decide +kernel, wt7 (j := 46) rfl, wt1 (j := 10) rfl⟩, wt7 (j := 45) rfl, wt0 (j := 51) rfl⟩
def iX10_canMultiply (mc ms : Nat) : MI := (RX10, 6, (some .boolean), "canMultiply", 2, 45, mc, ms, [])
theorem mq_X10_canMultiply {mc ms : Nat} : MQv yX10_canMultiply cX10_canMultiply (iX10_canMultiply mc ms) 5 := ⟨⟨rfl, ⟨by decide, by decide⟩, by decide +kernel, wt7 (j := 96) rfl, wt1 (j := 10) rfl⟩, wt7 (j := 95) rfl, wt0 (j := 58) rfl⟩
def iX10_canStore (mc ms : Nat) : MI := (RX10, 2, (some .boolean), "canStore", 2, 46, mc, ms, [])
theorem mq_X10_canStore {mc ms : Nat} : MQv yX10_canStore cX10_canStore (iX10_canStore mc ms) 0 := ⟨⟨rfl, ⟨by decide, by decide⟩, by decide +kernel, wt7 (j := 124) rfl, wt1 (j := 10) rfl⟩, wt7 (j := 123) rfl, wt0 (j := 59) rfl⟩
def iX10_chirp (mc ms : Nat) : MI := (RX10, 4, (some .int), "chirp", 4, 96, mc, ms, [])
theorem mq_X10_chirp {mc ms : Nat} : MQv yX10_chirp cX10_chirp (iX10_chirp mc ms) 3 := ⟨⟨rfl, ⟨by decide, by decide⟩, by decide +kernel, wt7 (j := 2) rfl, wt1 (j := 10) rfl⟩, wt7 (j := 0) rfl, wt7 (j := 1) rfl⟩
def iX10_coefficient (mc ms : Nat) : MI := (RX10, 6, (some .long), "coefficient", 4, 92, mc, ms, [])
theorem mq_X10_coefficient {mc ms : Nat} : MQv yX10_coefficient cX10_coefficient (iX10_coefficient mc ms) 5 := ⟨⟨rfl, ⟨by decide, by decide⟩, by decide +kernel, wt7 (j := 54) rfl, wt1 (j := 10) rfl⟩, wt7 (j := 52) rfl, wt7 (j := 53) rfl⟩
def iX10_coefficientOf (mc ms : Nat) : MI := (RX10, 13, (some .long), "coefficientOf", 1, 22, mc, ms, [])
theorem mq_X10_coefficientOf {mc ms : Nat} : MQv yX10_coefficientOf cX10_coefficientOf (iX10_coefficientOf mc ms) 5 := ⟨⟨rfl, ⟨by decide, by decide⟩, by decide +kernel, wt7 (j := 58) rfl, wt1 (j := 10) rfl⟩, wt7 (j := 57) rfl, wt0 (j := 53) rfl⟩
def iX10_cost (mc ms : Nat) : MI := (RX10, 4, (some .int), "cost", 3, 69, mc, ms, [])
theorem mq_X10_cost {mc ms : Nat} : MQv yX10_cost cX10_cost (iX10_cost mc ms) 3 := ⟨⟨rfl, ⟨by decide, by decide⟩, by decide +kernel, wt6 (j := 228) rfl, wt1 (j := 10) rfl⟩, wt6 (j := 226) rfl, wt6 (j := 227) rfl⟩
def iX10_costOf (mc ms : Nat) : MI := (RX10, 6, (some .int), "costOf", 0, 0, mc, ms, [])
theorem mq_X10_costOf {mc ms : Nat} : MQs yX10_costOf cX10_costOf (iX10_costOf mc ms) 3 := ⟨⟨rfl, ⟨by decide, by decide⟩, by decide +kernel, wt6 (j := 231) rfl, wt1 (j := 10) rfl⟩, wt6 (j := 230) rfl⟩
def iX10_cut (mc ms : Nat) : MI := (RX10, 4, (some .int), "cut", 2, 45, mc, ms, [])
theorem mq_X10_cut {mc ms : Nat} : MQv yX10_cut cX10_cut (iX10_cut mc ms) 2 := ⟨⟨rfl, ⟨by decide, by decide⟩, by decide +kernel, wt6 (j := 211) rfl, wt1 (j := 10) rfl⟩, wt6 (j := 209) rfl, wt6 (j := 210) rfl⟩
def iX10_digit (mc ms : Nat) : MI := (RX10, 8, (some .int), "digit", 1, 25, mc, ms, [])
theorem mq_X10_digit {mc ms : Nat} : MQv yX10_digit cX10_digit (iX10_digit mc ms) 2 := ⟨⟨rfl, ⟨by decide, by decide⟩, by decide +kernel, wt7 (j := 108) rfl, wt1 (j := 10) rfl⟩, wt7 (j := 106) rfl, wt7 (j := 107) rfl⟩
def iX10_divisors (mc ms : Nat) : MI := (RX10, 3, (some .int), "divisors", 0, 0, mc, ms, [])
theorem mq_X10_divisors {mc ms : Nat} : MQs yX10_divisors cX10_divisors (iX10_divisors mc ms) 1 := ⟨⟨rfl, ⟨by decide, by decide⟩, by decide +kernel, wt6 (j := 138) rfl, wt1 (j := 10) rfl⟩, wt6 (j := 137) rfl⟩
def iX10_errorPosition (mc ms : Nat) : MI := (RX10, 1, (some .int), "errorPosition", 0, 0, mc, ms, [])
theorem mq_X10_errorPosition {mc ms : Nat} : MQv yX10_errorPosition cX10_errorPosition (iX10_errorPosition mc ms) 0 := ⟨⟨rfl, ⟨by decide, by decide⟩, by decide +kernel, wt6 (j := 81) rfl, wt1 (j := 10) rfl⟩, wt6 (j := 79) rfl, wt6 (j := 80) rfl⟩
def iX10_factors (mc ms : Nat) : MI := (RX10, 4, (some .int), "factors", 0, 0, mc, ms, [])
theorem mq_X10_factors {mc ms : Nat} : MQs yX10_factors cX10_factors (iX10_factors mc ms) 1 := ⟨⟨rfl, ⟨by decide, by decide⟩, by decide +kernel, wt6 (j := 135) rfl, wt1 (j := 10) rfl⟩, wt6 (j := 134) rfl⟩
def iX10_fails (mc ms : Nat) : MI := (RX10, 2, none, "fails", 0, 0, mc, ms, [])
theorem mq_X10_fails {mc ms : Nat} : MQv yX10_fails cX10_fails (iX10_fails mc ms) 1 := ⟨⟨rfl, ⟨by decide, by decide⟩, by decide +kernel, wt6 (j := 52) rfl, wt1 (j := 10) rfl⟩, wt6 (j := 51) rfl, wt0 (j := 31) rfl⟩
def iX10_feed (mc ms : Nat) : MI := (RX10, 8, (some .int), "feed", 0, 0, mc, ms, [])
theorem mq_X10_feed {mc ms : Nat} : MQv yX10_feed cX10_feed (iX10_feed mc ms) 5 := ⟨⟨rfl, ⟨by decide, by decide⟩, by decide +kernel, wt6 (j := 10) rfl, wt1 (j := 10) rfl⟩, wt6 (j := 8) rfl, wt6 (j := 9) rfl⟩
def iX10_generator (mc ms : Nat) : MI := (RX10, 2, (some .int), "generator", 2, 54, mc, ms, [])
theorem mq_X10_generator {mc ms : Nat} : MQs yX10_generator cX10_generator (iX10_generator mc ms) 1 := ⟨⟨rfl, ⟨by decide, by decide⟩, by decide +kernel, wt6 (j := 123) rfl, wt1 (j := 10) rfl⟩, wt6 (j := 122) rfl⟩
def iX10_greatest (mc ms : Nat) : MI := (RX10, 7, (some .long), "greatest", 1, 22, mc, ms, [])
theorem mq_X10_greatest {mc ms : Nat} : MQv yX10_greatest cX10_greatest (iX10_greatest mc ms) 1 := ⟨⟨rfl, ⟨by decide, by decide⟩, by decide +kernel, wt7 (j := 50) rfl, wt1 (j := 10) rfl⟩, wt7 (j := 49) rfl, wt0 (j := 52) rfl⟩
def iX10_has (mc ms : Nat) : MI := (RX10, 3, (some .boolean), "has", 0, 0, mc, ms, [])
theorem mq_X10_has {mc ms : Nat} : MQv yX10_has cX10_has (iX10_has mc ms) 1 := ⟨⟨rfl, ⟨by decide, by decide⟩, by decide +kernel, wt6 (j := 95) rfl, wt1 (j := 10) rfl⟩, wt6 (j := 94) rfl, wt0 (j := 37) rfl⟩
def iX10_inverse (mc ms : Nat) : MI := (RX10, 3, (some .int), "inverse", 3, 68, mc, ms, [])
theorem mq_X10_inverse {mc ms : Nat} : MQv yX10_inverse cX10_inverse (iX10_inverse mc ms) 2 := ⟨⟨rfl, ⟨by decide, by decide⟩, by decide +kernel, wt6 (j := 153) rfl, wt1 (j := 10) rfl⟩, wt6 (j := 151) rfl, wt6 (j := 152) rfl⟩
def iX10_isDigit (mc ms : Nat) : MI := (RX10, 1, (some .boolean), "isDigit", 1, 25, mc, ms, [])
theorem mq_X10_isDigit {mc ms : Nat} : MQs yX10_isDigit cX10_isDigit (iX10_isDigit mc ms) 1 := ⟨⟨rfl, ⟨by decide, by decide⟩, by decide +kernel, wt6 (j := 33) rfl, wt1 (j := 10) rfl⟩, wt6 (j := 32) rfl⟩
def iX10_isEnough (mc ms : Nat) : MI := (RX10, 4, (some .boolean), "isEnough", 3, 71, mc, ms, [])
theorem mq_X10_isEnough {mc ms : Nat} : MQv yX10_isEnough cX10_isEnough (iX10_isEnough mc ms) 3 := ⟨⟨rfl, ⟨by decide, by decide⟩, by decide +kernel, wt7 (j := 62) rfl, wt1 (j := 10) rfl⟩, wt7 (j := 60) rfl, wt7 (j := 61) rfl⟩
def iX10_isIn (mc ms : Nat) : MI := (RX10, 6, (some .boolean), "isIn", 0, 0, mc, ms, [])
theorem mq_X10_isIn {mc ms : Nat} : MQs yX10_isIn cX10_isIn (iX10_isIn mc ms) 3 := ⟨⟨rfl, ⟨by decide, by decide⟩, by decide +kernel, wt6 (j := 17) rfl, wt1 (j := 10) rfl⟩, wt6 (j := 16) rfl⟩
def iX10_isKind (mc ms : Nat) : MI := (RX10, 5, (some .boolean), "isKind", 1, 25, mc, ms, [])
theorem mq_X10_isKind {mc ms : Nat} : MQv yX10_isKind cX10_isKind (iX10_isKind mc ms) 4 := ⟨⟨rfl, ⟨by decide, by decide⟩, by decide +kernel, wt7 (j := 34) rfl, wt1 (j := 10) rfl⟩, wt7 (j := 33) rfl, wt0 (j := 49) rfl⟩
def iX10_isLetter (mc ms : Nat) : MI := (RX10, 1, (some .boolean), "isLetter", 1, 25, mc, ms, [])
theorem mq_X10_isLetter {mc ms : Nat} : MQs yX10_isLetter cX10_isLetter (iX10_isLetter mc ms) 1 := ⟨⟨rfl, ⟨by decide, by decide⟩, by decide +kernel, wt6 (j := 28) rfl, wt1 (j := 10) rfl⟩, wt6 (j := 27) rfl⟩
def iX10_isPrime (mc ms : Nat) : MI := (RX10, 2, (some .boolean), "isPrime", 0, 0, mc, ms, [])
theorem mq_X10_isPrime {mc ms : Nat} : MQs yX10_isPrime cX10_isPrime (iX10_isPrime mc ms) 1 := ⟨⟨rfl, ⟨by decide, by decide⟩, by decide +kernel, wt6 (j := 64) rfl, wt1 (j := 10) rfl⟩, wt6 (j := 63) rfl⟩
def iX10_isSet (mc ms : Nat) : MI := (RX10, 2, (some .boolean), "isSet", 1, 25, mc, ms, [])
theorem mq_X10_isSet {mc ms : Nat} : MQv yX10_isSet cX10_isSet (iX10_isSet mc ms) 1 := ⟨⟨rfl, ⟨by decide, by decide⟩, by decide +kernel, wt7 (j := 14) rfl, wt1 (j := 10) rfl⟩, wt7 (j := 13) rfl, wt0 (j := 45) rfl⟩
def iX10_isSign (mc ms : Nat) : MI := (RX10, 2, (some .boolean), "isSign", 0, 0, mc, ms, [])
theorem mq_X10_isSign {mc ms : Nat} : MQv yX10_isSign cX10_isSign (iX10_isSign mc ms) 1 := ⟨⟨rfl, ⟨by decide, by decide⟩, by decide +kernel, wt6 (j := 68) rfl, wt1 (j := 10) rfl⟩, wt6 (j := 67) rfl, wt0 (j := 34) rfl⟩
def iX10_isSlot (mc ms : Nat) : MI := (RX10, 1, (some .boolean), "isSlot", 1, 25, mc, ms, [])
theorem mq_X10_isSlot {mc ms : Nat} : MQs yX10_isSlot cX10_isSlot (iX10_isSlot mc ms) 1 := ⟨⟨rfl, ⟨by decide, by decide⟩, by decide +kernel, wt6 (j := 175) rfl, wt1 (j := 10) rfl⟩, wt6 (j := 174) rfl⟩
def iX10_isTerm (mc ms : Nat) : MI := (RX10, 2, (some .boolean), "isTerm", 1, 25, mc, ms, [])
theorem mq_X10_isTerm {mc ms : Nat} : MQs yX10_isTerm cX10_isTerm (iX10_isTerm mc ms) 1 := ⟨⟨rfl, ⟨by decide, by decide⟩, by decide +kernel, wt6 (j := 197) rfl, wt1 (j := 10) rfl⟩, wt6 (j := 196) rfl⟩
def iX10_isThere (mc ms : Nat) : MI := (RX10, 2, (some .boolean), "isThere", 1, 25, mc, ms, [])
theorem mq_X10_isThere {mc ms : Nat} : MQv yX10_isThere cX10_isThere (iX10_isThere mc ms) 1 := ⟨⟨rfl, ⟨by decide, by decide⟩, by decide +kernel, wt6 (j := 104) rfl, wt1 (j := 10) rfl⟩, wt6 (j := 103) rfl, wt0 (j := 38) rfl⟩
def iX10_isWord (mc ms : Nat) : MI := (RX10, 3, (some .boolean), "isWord", 5, 106, mc, ms, [])
theorem mq_X10_isWord {mc ms : Nat} : MQv yX10_isWord cX10_isWord (iX10_isWord mc ms) 1 := ⟨⟨rfl, ⟨by decide, by decide⟩, by decide +kernel, wt6 (j := 42) rfl, wt1 (j := 10) rfl⟩, wt6 (j := 41) rfl, wt0 (j := 29) rfl⟩
def iX10_keeps (mc ms : Nat) : MI := (RX10, 2, none, "keeps", 0, 0, mc, ms, [])
theorem mq_X10_keeps {mc ms : Nat} : MQv yX10_keeps cX10_keeps (iX10_keeps mc ms) 0 := ⟨⟨rfl, ⟨by decide, by decide⟩, by decide +kernel, wt6 (j := 77) rfl, wt1 (j := 10) rfl⟩, wt6 (j := 76) rfl, wt0 (j := 36) rfl⟩
def iX10_lacks (mc ms : Nat) : MI := (RX10, 3, (some .int), "lacks", 2, 45, mc, ms, [])
theorem mq_X10_lacks {mc ms : Nat} : MQv yX10_lacks cX10_lacks (iX10_lacks mc ms) 2 := ⟨⟨rfl, ⟨by decide, by decide⟩, by decide +kernel, wt7 (j := 30) rfl, wt1 (j := 10) rfl⟩, wt7 (j := 29) rfl, wt0 (j := 48) rfl⟩
def iX10_laysPlans (mc ms : Nat) : MI := (RX10, 11, none, "laysPlans", 3, 76, mc, ms, [])
theorem mq_X10_laysPlans {mc ms : Nat} : MQv yX10_laysPlans cX10_laysPlans (iX10_laysPlans mc ms) 4 := ⟨⟨rfl, ⟨by decide, by decide⟩, by decide +kernel, wt7 (j := 80) rfl, wt1 (j := 10) rfl⟩, wt7 (j := 79) rfl, wt0 (j := 56) rfl⟩
def iX10_length (mc ms : Nat) : MI := (RX10, 2, (some .int), "length", 2, 45, mc, ms, [])
theorem mq_X10_length {mc ms : Nat} : MQv yX10_length cX10_length (iX10_length mc ms) 1 := ⟨⟨rfl, ⟨by decide, by decide⟩, by decide +kernel, wt6 (j := 172) rfl, wt1 (j := 10) rfl⟩, wt6 (j := 170) rfl, wt6 (j := 171) rfl⟩
def iX10_load (mc ms : Nat) : MI := (RX10, 3, (some .int), "load", 7, 152, mc, ms, [])
theorem mq_X10_load {mc ms : Nat} : MQv yX10_load cX10_load (iX10_load mc ms) 1 := ⟨⟨rfl, ⟨by decide, by decide⟩, by decide +kernel, wt6 (j := 14) rfl, wt1 (j := 10) rfl⟩, wt6 (j := 12) rfl, wt6 (j := 13) rfl⟩
def iX10_logarithm (mc ms : Nat) : MI := (RX10, 8, (some .int), "logarithm", 3, 75, mc, ms, [])
theorem mq_X10_logarithm {mc ms : Nat} : MQv yX10_logarithm cX10_logarithm (iX10_logarithm mc ms) 2 := ⟨⟨rfl, ⟨by decide, by decide⟩, by decide +kernel, wt6 (j := 168) rfl, wt1 (j := 10) rfl⟩, wt6 (j := 166) rfl, wt6 (j := 167) rfl⟩
def iX10_longOf (mc ms : Nat) : MI := (RX10, 2, (some .int), "longOf", 0, 0, mc, ms, [])
theorem mq_X10_longOf {mc ms : Nat} : MQv yX10_longOf cX10_longOf (iX10_longOf mc ms) 1 := ⟨⟨rfl, ⟨by decide, by decide⟩, by decide +kernel, wt6 (j := 179) rfl, wt1 (j := 10) rfl⟩, wt6 (j := 178) rfl, wt0 (j := 41) rfl⟩
def iX10_longest (mc ms : Nat) : MI := (RX10, 3, (some .int), "longest", 2, 46, mc, ms, [])
theorem mq_X10_longest {mc ms : Nat} : MQv yX10_longest cX10_longest (iX10_longest mc ms) 1 := ⟨⟨rfl, ⟨by decide, by decide⟩, by decide +kernel, wt7 (j := 10) rfl, wt1 (j := 10) rfl⟩, wt7 (j := 8) rfl, wt7 (j := 9) rfl⟩
def iX10_makesAll (mc ms : Nat) : MI := (RX10, 4, (some .boolean), "makesAll", 1, 31, mc, ms, [])
theorem mq_X10_makesAll {mc ms : Nat} : MQs yX10_makesAll cX10_makesAll (iX10_makesAll mc ms) 2 := ⟨⟨rfl, ⟨by decide, by decide⟩, by decide +kernel, wt6 (j := 126) rfl, wt1 (j := 10) rfl⟩, wt6 (j := 125) rfl⟩
def iX10_method (mc ms : Nat) : MI := (RX10, 3, (some .int), "method", 3, 69, mc, ms, [])
theorem mq_X10_method {mc ms : Nat} : MQv yX10_method cX10_method (iX10_method mc ms) 2 := ⟨⟨rfl, ⟨by decide, by decide⟩, by decide +kernel, wt6 (j := 235) rfl, wt1 (j := 10) rfl⟩, wt6 (j := 233) rfl, wt6 (j := 234) rfl⟩
def iX10_modulo (mc ms : Nat) : MI := (RX10, 3, (some .int), "modulo", 0, 0, mc, ms, [])
theorem mq_X10_modulo {mc ms : Nat} : MQs yX10_modulo cX10_modulo (iX10_modulo mc ms) 2 := ⟨⟨rfl, ⟨by decide, by decide⟩, by decide +kernel, wt6 (j := 164) rfl, wt1 (j := 10) rfl⟩, wt6 (j := 163) rfl⟩
def iX10_multiply (mc ms : Nat) : MI := (RX10, 12, (some .int), "multiply", 3, 70, mc, ms, [])
theorem mq_X10_multiply {mc ms : Nat} : MQv yX10_multiply cX10_multiply (iX10_multiply mc ms) 5 := ⟨⟨rfl, ⟨by decide, by decide⟩, by decide +kernel, wt7 (j := 92) rfl, wt1 (j := 10) rfl⟩, wt7 (j := 90) rfl, wt7 (j := 91) rfl⟩
def iX10_must (mc ms : Nat) : MI := (RX10, 2, none, "must", 3, 65, mc, ms, [])
theorem mq_X10_must {mc ms : Nat} : MQv yX10_must cX10_must (iX10_must mc ms) 1 := ⟨⟨rfl, ⟨by decide, by decide⟩, by decide +kernel, wt6 (j := 56) rfl, wt1 (j := 10) rfl⟩, wt6 (j := 55) rfl, wt0 (j := 32) rfl⟩
def iX10_next (mc ms : Nat) : MI := (RX10, 1, none, "next", 2, 45, mc, ms, [])
theorem mq_X10_next {mc ms : Nat} : MQv yX10_next cX10_next (iX10_next mc ms) 0 := ⟨⟨rfl, ⟨by decide, by decide⟩, by decide +kernel, wt6 (j := 21) rfl, wt1 (j := 10) rfl⟩, wt6 (j := 20) rfl, wt0 (j := 27) rfl⟩
def iX10_noTransform (mc ms : Nat) : MI := (RX10, 4, (some .int), "noTransform", 2, 46, mc, ms, [])
theorem mq_X10_noTransform {mc ms : Nat} : MQv yX10_noTransform cX10_noTransform (iX10_noTransform mc ms) 3 := ⟨⟨rfl, ⟨by decide, by decide⟩, by decide +kernel, wt6 (j := 223) rfl, wt1 (j := 10) rfl⟩, wt6 (j := 222) rfl, wt0 (j := 44) rfl⟩
def iX10_noUnit (mc ms : Nat) : MI := (RX10, 3, (some .int), "noUnit", 2, 46, mc, ms, [])
theorem mq_X10_noUnit {mc ms : Nat} : MQv yX10_noUnit cX10_noUnit (iX10_noUnit mc ms) 2 := ⟨⟨rfl, ⟨by decide, by decide⟩, by decide +kernel, wt6 (j := 157) rfl, wt1 (j := 10) rfl⟩, wt6 (j := 156) rfl, wt0 (j := 40) rfl⟩
def iX10_order (mc ms : Nat) : MI := (RX10, 9, (some .int), "order", 3, 68, mc, ms, [])
theorem mq_X10_order {mc ms : Nat} : MQv yX10_order cX10_order (iX10_order mc ms) 2 := ⟨⟨rfl, ⟨by decide, by decide⟩, by decide +kernel, wt6 (j := 161) rfl, wt1 (j := 10) rfl⟩, wt6 (j := 159) rfl, wt6 (j := 160) rfl⟩
def iX10_plan (mc ms : Nat) : MI := (RX10, 8, (some .int), "plan", 4, 106, mc, ms, [])
theorem mq_X10_plan {mc ms : Nat} : MQv yX10_plan cX10_plan (iX10_plan mc ms) 5 := ⟨⟨rfl, ⟨by decide, by decide⟩, by decide +kernel, wt7 (j := 76) rfl, wt1 (j := 10) rfl⟩, wt7 (j := 74) rfl, wt7 (j := 75) rfl⟩
def iX10_power (mc ms : Nat) : MI := (RX10, 4, (some .int), "power", 2, 46, mc, ms, [])
theorem mq_X10_power {mc ms : Nat} : MQv yX10_power cX10_power (iX10_power mc ms) 3 := ⟨⟨rfl, ⟨by decide, by decide⟩, by decide +kernel, wt6 (j := 149) rfl, wt1 (j := 10) rfl⟩, wt6 (j := 147) rfl, wt6 (j := 148) rfl⟩
def iX10_powerOf (mc ms : Nat) : MI := (RX10, 12, (some .long), "powerOf", 0, 0, mc, ms, [])
theorem mq_X10_powerOf {mc ms : Nat} : MQs yX10_powerOf cX10_powerOf (iX10_powerOf mc ms) 3 := ⟨⟨rfl, ⟨by decide, by decide⟩, by decide +kernel, wt6 (j := 129) rfl, wt1 (j := 10) rfl⟩, wt6 (j := 128) rfl⟩
def iX10_prime (mc ms : Nat) : MI := (RX10, 4, (some .int), "prime", 3, 75, mc, ms, [])
theorem mq_X10_prime {mc ms : Nat} : MQv yX10_prime cX10_prime (iX10_prime mc ms) 2 := ⟨⟨rfl, ⟨by decide, by decide⟩, by decide +kernel, wt6 (j := 115) rfl, wt1 (j := 10) rfl⟩, wt6 (j := 113) rfl, wt6 (j := 114) rfl⟩
def iX10_primeAt (mc ms : Nat) : MI := (RX10, 2, (some .int), "primeAt", 0, 0, mc, ms, [])
theorem mq_X10_primeAt {mc ms : Nat} : MQv yX10_primeAt cX10_primeAt (iX10_primeAt mc ms) 1 := ⟨⟨rfl, ⟨by decide, by decide⟩, by decide +kernel, wt6 (j := 120) rfl, wt1 (j := 10) rfl⟩, wt6 (j := 119) rfl, wt0 (j := 39) rfl⟩
def iX10_primeFor (mc ms : Nat) : MI := (RX10, 4, (some .int), "primeFor", 1, 25, mc, ms, [])
theorem mq_X10_primeFor {mc ms : Nat} : MQv yX10_primeFor cX10_primeFor (iX10_primeFor mc ms) 2 := ⟨⟨rfl, ⟨by decide, by decide⟩, by decide +kernel, wt6 (j := 108) rfl, wt1 (j := 10) rfl⟩, wt6 (j := 106) rfl, wt6 (j := 107) rfl⟩
def iX10_primes (mc ms : Nat) : MI := (RX10, 1, (some .int), "primes", 0, 0, mc, ms, [])
theorem mq_X10_primes {mc ms : Nat} : MQv yX10_primes cX10_primes (iX10_primes mc ms) 0 := ⟨⟨rfl, ⟨by decide, by decide⟩, by decide +kernel, wt6 (j := 85) rfl, wt1 (j := 10) rfl⟩, wt6 (j := 83) rfl, wt6 (j := 84) rfl⟩
def iX10_product (mc ms : Nat) : MI := (RX10, 2, (some .int), "product", 1, 25, mc, ms, [])
theorem mq_X10_product {mc ms : Nat} : MQv yX10_product cX10_product (iX10_product mc ms) 1 := ⟨⟨rfl, ⟨by decide, by decide⟩, by decide +kernel, wt7 (j := 100) rfl, wt1 (j := 10) rfl⟩, wt7 (j := 98) rfl, wt7 (j := 99) rfl⟩
def iX10_productAt (mc ms : Nat) : MI := (RX10, 7, (some .int), "productAt", 1, 22, mc, ms, [])
theorem mq_X10_productAt {mc ms : Nat} : MQv yX10_productAt cX10_productAt (iX10_productAt mc ms) 1 := ⟨⟨rfl, ⟨by decide, by decide⟩, by decide +kernel, wt7 (j := 128) rfl, wt1 (j := 10) rfl⟩, wt7 (j := 126) rfl, wt7 (j := 127) rfl⟩
def iX10_productOf (mc ms : Nat) : MI := (RX10, 5, (some .long), "productOf", 1, 21, mc, ms, [])
theorem mq_X10_productOf {mc ms : Nat} : MQv yX10_productOf cX10_productOf (iX10_productOf mc ms) 1 := ⟨⟨rfl, ⟨by decide, by decide⟩, by decide +kernel, wt7 (j := 70) rfl, wt1 (j := 10) rfl⟩, wt7 (j := 69) rfl, wt0 (j := 55) rfl⟩
def iX10_putTerm (mc ms : Nat) : MI := (RX10, 5, none, "putTerm", 0, 0, mc, ms, [])
theorem mq_X10_putTerm {mc ms : Nat} : MQv yX10_putTerm cX10_putTerm (iX10_putTerm mc ms) 3 := ⟨⟨rfl, ⟨by decide, by decide⟩, by decide +kernel, wt6 (j := 203) rfl, wt1 (j := 10) rfl⟩, wt6 (j := 202) rfl, wt0 (j := 43) rfl⟩
def iX10_readsPrime (mc ms : Nat) : MI := (RX10, 4, none, "readsPrime", 6, 128, mc, ms, [])
theorem mq_X10_readsPrime {mc ms : Nat} : MQv yX10_readsPrime cX10_readsPrime (iX10_readsPrime mc ms) 0 := ⟨⟨rfl, ⟨by decide, by decide⟩, by decide +kernel, wt6 (j := 48) rfl, wt1 (j := 10) rfl⟩, wt6 (j := 47) rfl, wt0 (j := 30) rfl⟩
def iX10_readsSequence (mc ms : Nat) : MI := (RX10, 5, none, "readsSequence", 6, 128, mc, ms, [])
theorem mq_X10_readsSequence {mc ms : Nat} : MQv yX10_readsSequence cX10_readsSequence (iX10_readsSequence mc ms) 0 := ⟨⟨rfl, ⟨by decide, by decide⟩, by decide +kernel, wt6 (j := 73) rfl, wt1 (j := 10) rfl⟩, wt6 (j := 72) rfl, wt0 (j := 35) rfl⟩
def iX10_refusal (mc ms : Nat) : MI := (RX10, 6, (some .int), "refusal", 3, 67, mc, ms, [])
theorem mq_X10_refusal {mc ms : Nat} : MQv yX10_refusal cX10_refusal (iX10_refusal mc ms) 4 := ⟨⟨rfl, ⟨by decide, by decide⟩, by decide +kernel, wt7 (j := 26) rfl, wt1 (j := 10) rfl⟩, wt7 (j := 25) rfl, wt0 (j := 47) rfl⟩
def iX10_removePrime (mc ms : Nat) : MI := (RX10, 3, (some .int), "removePrime", 2, 46, mc, ms, [])
theorem mq_X10_removePrime {mc ms : Nat} : MQv yX10_removePrime cX10_removePrime (iX10_removePrime mc ms) 1 := ⟨⟨rfl, ⟨by decide, by decide⟩, by decide +kernel, wt6 (j := 100) rfl, wt1 (j := 10) rfl⟩, wt6 (j := 98) rfl, wt6 (j := 99) rfl⟩
def iX10_residue (mc ms : Nat) : MI := (RX10, 3, (some .int), "residue", 2, 46, mc, ms, [])
theorem mq_X10_residue {mc ms : Nat} : MQv yX10_residue cX10_residue (iX10_residue mc ms) 2 := ⟨⟨rfl, ⟨by decide, by decide⟩, by decide +kernel, wt7 (j := 112) rfl, wt1 (j := 10) rfl⟩, wt7 (j := 110) rfl, wt7 (j := 111) rfl⟩
def iX10_root (mc ms : Nat) : MI := (RX10, 3, (some .int), "root", 4, 96, mc, ms, [])
theorem mq_X10_root {mc ms : Nat} : MQv yX10_root cX10_root (iX10_root mc ms) 2 := ⟨⟨rfl, ⟨by decide, by decide⟩, by decide +kernel, wt6 (j := 142) rfl, wt1 (j := 10) rfl⟩, wt6 (j := 140) rfl, wt6 (j := 141) rfl⟩
def iX10_rootOf (mc ms : Nat) : MI := (RX10, 2, (some .long), "rootOf", 3, 75, mc, ms, [])
theorem mq_X10_rootOf {mc ms : Nat} : MQs yX10_rootOf cX10_rootOf (iX10_rootOf mc ms) 2 := ⟨⟨rfl, ⟨by decide, by decide⟩, by decide +kernel, wt6 (j := 145) rfl, wt1 (j := 10) rfl⟩, wt6 (j := 144) rfl⟩
def iX10_see (mc ms : Nat) : MI := (RX10, 2, (some .int), "see", 0, 0, mc, ms, [])
theorem mq_X10_see {mc ms : Nat} : MQv yX10_see cX10_see (iX10_see mc ms) 1 := ⟨⟨rfl, ⟨by decide, by decide⟩, by decide +kernel, wt6 (j := 25) rfl, wt1 (j := 10) rfl⟩, wt6 (j := 24) rfl, wt0 (j := 28) rfl⟩
def iX10_sees (mc ms : Nat) : MI := (RX10, 3, (some .int), "sees", 1, 25, mc, ms, [])
theorem mq_X10_sees {mc ms : Nat} : MQv yX10_sees cX10_sees (iX10_sees mc ms) 2 := ⟨⟨rfl, ⟨by decide, by decide⟩, by decide +kernel, wt6 (j := 61) rfl, wt1 (j := 10) rfl⟩, wt6 (j := 60) rfl, wt0 (j := 33) rfl⟩
def iX10_setSequence (mc ms : Nat) : MI := (RX10, 8, (some .int), "setSequence", 2, 46, mc, ms, [])
theorem mq_X10_setSequence {mc ms : Nat} : MQv yX10_setSequence cX10_setSequence (iX10_setSequence mc ms) 4 := ⟨⟨rfl, ⟨by decide, by decide⟩, by decide +kernel, wt6 (j := 191) rfl, wt1 (j := 10) rfl⟩, wt6 (j := 189) rfl, wt6 (j := 190) rfl⟩
def iX10_size (mc ms : Nat) : MI := (RX10, 5, (some .int), "size", 4, 92, mc, ms, [])
theorem mq_X10_size {mc ms : Nat} : MQv yX10_size cX10_size (iX10_size mc ms) 4 := ⟨⟨rfl, ⟨by decide, by decide⟩, by decide +kernel, wt7 (j := 22) rfl, wt1 (j := 10) rfl⟩, wt7 (j := 20) rfl, wt7 (j := 21) rfl⟩
def iX10_sizeOf (mc ms : Nat) : MI := (RX10, 5, (some .int), "sizeOf", 1, 21, mc, ms, [])
theorem mq_X10_sizeOf {mc ms : Nat} : MQv yX10_sizeOf cX10_sizeOf (iX10_sizeOf mc ms) 4 := ⟨⟨rfl, ⟨by decide, by decide⟩, by decide +kernel, wt7 (j := 38) rfl, wt1 (j := 10) rfl⟩, wt7 (j := 37) rfl, wt0 (j := 50) rfl⟩
def iX10_stepsOf (mc ms : Nat) : MI := (RX10, 8, (some .int), "stepsOf", 2, 49, mc, ms, [])
theorem mq_X10_stepsOf {mc ms : Nat} : MQv yX10_stepsOf cX10_stepsOf (iX10_stepsOf mc ms) 3 := ⟨⟨rfl, ⟨by decide, by decide⟩, by decide +kernel, wt7 (j := 84) rfl, wt1 (j := 10) rfl⟩, wt7 (j := 83) rfl, wt0 (j := 57) rfl⟩
def iX10_store (mc ms : Nat) : MI := (RX10, 3, (some .int), "store", 3, 67, mc, ms, [])
theorem mq_X10_store {mc ms : Nat} : MQv yX10_store cX10_store (iX10_store mc ms) 1 := ⟨⟨rfl, ⟨by decide, by decide⟩, by decide +kernel, wt7 (j := 120) rfl, wt1 (j := 10) rfl⟩, wt7 (j := 118) rfl, wt7 (j := 119) rfl⟩
def iX10_swap (mc ms : Nat) : MI := (RX10, 6, (some .int), "swap", 2, 45, mc, ms, [])
theorem mq_X10_swap {mc ms : Nat} : MQv yX10_swap cX10_swap (iX10_swap mc ms) 2 := ⟨⟨rfl, ⟨by decide, by decide⟩, by decide +kernel, wt6 (j := 215) rfl, wt1 (j := 10) rfl⟩, wt6 (j := 213) rfl, wt6 (j := 214) rfl⟩
def iX10_term (mc ms : Nat) : MI := (RX10, 3, (some .int), "term", 2, 45, mc, ms, [])
theorem mq_X10_term {mc ms : Nat} : MQv yX10_term cX10_term (iX10_term mc ms) 2 := ⟨⟨rfl, ⟨by decide, by decide⟩, by decide +kernel, wt6 (j := 183) rfl, wt1 (j := 10) rfl⟩, wt6 (j := 181) rfl, wt6 (j := 182) rfl⟩
def iX10_termOf (mc ms : Nat) : MI := (RX10, 3, (some .long), "termOf", 0, 0, mc, ms, [])
theorem mq_X10_termOf {mc ms : Nat} : MQv yX10_termOf cX10_termOf (iX10_termOf mc ms) 2 := ⟨⟨rfl, ⟨by decide, by decide⟩, by decide +kernel, wt6 (j := 187) rfl, wt1 (j := 10) rfl⟩, wt6 (j := 186) rfl, wt0 (j := 42) rfl⟩
def iX10_thrown (mc ms : Nat) : MI := (RX10, 1, (some .int), "thrown", 0, 0, mc, ms, [])
theorem mq_X10_thrown {mc ms : Nat} : MQv yX10_thrown cX10_thrown (iX10_thrown mc ms) 0 := ⟨⟨rfl, ⟨by decide, by decide⟩, by decide +kernel, wt6 (j := 2) rfl, wt1 (j := 10) rfl⟩, wt6 (j := 0) rfl, wt6 (j := 1) rfl⟩
def iX10_transform (mc ms : Nat) : MI := (RX10, 11, (some .int), "transform", 4, 96, mc, ms, [])
theorem mq_X10_transform {mc ms : Nat} : MQv yX10_transform cX10_transform (iX10_transform mc ms) 4 := ⟨⟨rfl, ⟨by decide, by decide⟩, by decide +kernel, wt6 (j := 219) rfl, wt1 (j := 10) rfl⟩, wt6 (j := 217) rfl, wt6 (j := 218) rfl⟩
def iX10_transformSteps (mc ms : Nat) : MI := (RX10, 5, (some .int), "transformSteps", 4, 106, mc, ms, [])
theorem mq_X10_transformSteps {mc ms : Nat} : MQv yX10_transformSteps cX10_transformSteps (iX10_transformSteps mc ms) 4 := ⟨⟨rfl, ⟨by decide, by decide⟩, by decide +kernel, wt7 (j := 88) rfl, wt1 (j := 10) rfl⟩, wt7 (j := 86) rfl, wt7 (j := 87) rfl⟩
def iX10_twos (mc ms : Nat) : MI := (RX10, 2, (some .int), "twos", 0, 0, mc, ms, [])
theorem mq_X10_twos {mc ms : Nat} : MQs yX10_twos cX10_twos (iX10_twos mc ms) 1 := ⟨⟨rfl, ⟨by decide, by decide⟩, by decide +kernel, wt6 (j := 132) rfl, wt1 (j := 10) rfl⟩, wt6 (j := 131) rfl⟩
def iX10_undo (mc ms : Nat) : MI := (RX10, 2, (some .int), "undo", 0, 0, mc, ms, [])
theorem mq_X10_undo {mc ms : Nat} : MQv yX10_undo cX10_undo (iX10_undo mc ms) 0 := ⟨⟨rfl, ⟨by decide, by decide⟩, by decide +kernel, wt6 (j := 6) rfl, wt1 (j := 10) rfl⟩, wt6 (j := 4) rfl, wt6 (j := 5) rfl⟩
def iX10_usable (mc ms : Nat) : MI := (RX10, 5, (some .int), "usable", 1, 25, mc, ms, [])
theorem mq_X10_usable {mc ms : Nat} : MQv yX10_usable cX10_usable (iX10_usable mc ms) 2 := ⟨⟨rfl, ⟨by decide, by decide⟩, by decide +kernel, wt7 (j := 6) rfl, wt1 (j := 10) rfl⟩, wt7 (j := 4) rfl, wt7 (j := 5) rfl⟩
def iX10_value (mc ms : Nat) : MI := (RX10, 2, (some .long), "value", 1, 25, mc, ms, [])
theorem mq_X10_value {mc ms : Nat} : MQv yX10_value cX10_value (iX10_value mc ms) 1 := ⟨⟨rfl, ⟨by decide, by decide⟩, by decide +kernel, wt7 (j := 104) rfl, wt1 (j := 10) rfl⟩, wt7 (j := 102) rfl, wt7 (j := 103) rfl⟩
def iJ9_floorMod_f86c9 (mc ms : Nat) : MI := (RJ9, 6, (some .long), "floorMod", 0, 0, mc, ms, [])
theorem mq_J9_floorMod_f86c9 {mc ms : Nat} : MQs yJ9_floorMod_f86c9 cJ9_floorMod_f86c9 (iJ9_floorMod_f86c9 mc ms) 2 := ⟨⟨rfl, ⟨by decide, by decide⟩, by decide +kernel, wt3 (j := 201) rfl, wt1 (j := 16) rfl⟩, wt3 (j := 200) rfl⟩
def iJ0_charAt_5068e (mc ms : Nat) : MI := (RJ0, 2, (some .char), "charAt", 4, 85, mc, ms, [])
theorem mq_J0_charAt_5068e {mc ms : Nat} : MQv yJ0_charAt_5068e cJ0_charAt_5068e (iJ0_charAt_5068e mc ms) 1 := ⟨⟨rfl, ⟨by decide, by decide⟩, by decide +kernel, wt2 (j := 172) rfl, wt1 (j := 17) rfl⟩, wt2 (j := 170) rfl, wt2 (j := 171) rfl⟩
def iJ0_checkIndex_df160 (mc ms : Nat) : MI := (RJ0, 2, none, "checkIndex", 1, 22, mc, ms, [])
theorem mq_J0_checkIndex_df160 {mc ms : Nat} : MQs yJ0_checkIndex_df160 cJ0_checkIndex_df160 (iJ0_checkIndex_df160 mc ms) 2 := ⟨⟨rfl, ⟨by decide, by decide⟩, by decide +kernel, wt2 (j := 182) rfl, wt1 (j := 17) rfl⟩, wt2 (j := 181) rfl⟩
def iJ0_coder_7d493 (mc ms : Nat) : MI := (RJ0, 1, (some .byte), "coder", 0, 0, mc, ms, [])
theorem mq_J0_coder_7d493 {mc ms : Nat} : MQv yJ0_coder_7d493 cJ0_coder_7d493 (iJ0_coder_7d493 mc ms) 0 := ⟨⟨rfl, ⟨by decide, by decide⟩, by decide +kernel, wt2 (j := 166) rfl, wt1 (j := 17) rfl⟩, wt2 (j := 164) rfl, wt2 (j := 165) rfl⟩
def iJ0_isLatin1_aae02 (mc ms : Nat) : MI := (RJ0, 1, (some .boolean), "isLatin1", 0, 0, mc, ms, [])
theorem mq_J0_isLatin1_aae02 {mc ms : Nat} : MQv yJ0_isLatin1_aae02 cJ0_isLatin1_aae02 (iJ0_isLatin1_aae02 mc ms) 0 := ⟨⟨rfl, ⟨by decide, by decide⟩, by decide +kernel, wt2 (j := 176) rfl, wt1 (j := 17) rfl⟩, wt2 (j := 174) rfl, wt2 (j := 175) rfl⟩
def iJ0_length_8abf5 (mc ms : Nat) : MI := (RJ0, 1, (some .int), "length", 1, 20, mc, ms, [])
theorem mq_J0_length_8abf5 {mc ms : Nat} : MQv yJ0_length_8abf5 cJ0_length_8abf5 (iJ0_length_8abf5 mc ms) 0 := ⟨⟨rfl, ⟨by decide, by decide⟩, by decide +kernel, wt2 (j := 162) rfl, wt1 (j := 17) rfl⟩, wt2 (j := 160) rfl, wt2 (j := 161) rfl⟩
def iJ1_charAt_3b067 (mc ms : Nat) : MI := (RJ1, 2, (some .char), "charAt", 2, 43, mc, ms, [])
theorem mq_J1_charAt_3b067 {mc ms : Nat} : MQs yJ1_charAt_3b067 cJ1_charAt_3b067 (iJ1_charAt_3b067 mc ms) 2 := ⟨⟨rfl, ⟨by decide, by decide⟩, by decide +kernel, wt2 (j := 179) rfl, wt1 (j := 18) rfl⟩, wt2 (j := 178) rfl⟩
def iJ2_charAt_3b067 (mc ms : Nat) : MI := (RJ2, 2, (some .char), "charAt", 3, 64, mc, ms, [])
theorem mq_J2_charAt_3b067 {mc ms : Nat} : MQs yJ2_charAt_3b067 cJ2_charAt_3b067 (iJ2_charAt_3b067 mc ms) 2 := ⟨⟨rfl, ⟨by decide, by decide⟩, by decide +kernel, wt2 (j := 190) rfl, wt1 (j := 20) rfl⟩, wt2 (j := 189) rfl⟩
def iJ2_checkIndex_2214a (mc ms : Nat) : MI := (RJ2, 2, none, "checkIndex", 2, 43, mc, ms, [])
theorem mq_J2_checkIndex_2214a {mc ms : Nat} : MQs yJ2_checkIndex_2214a cJ2_checkIndex_2214a (iJ2_checkIndex_2214a mc ms) 2 := ⟨⟨rfl, ⟨by decide, by decide⟩, by decide +kernel, wt2 (j := 193) rfl, wt1 (j := 20) rfl⟩, wt2 (j := 192) rfl⟩
def iJ2_getChar_3b067 (mc ms : Nat) : MI := (RJ2, 2, (some .char), "getChar", 1, 20, mc, ms, [])
theorem mq_J2_getChar_3b067 {mc ms : Nat} : MQs yJ2_getChar_3b067 cJ2_getChar_3b067 (iJ2_getChar_3b067 mc ms) 2 := ⟨⟨rfl, ⟨by decide, by decide⟩, by decide +kernel, wt2 (j := 200) rfl, wt1 (j := 20) rfl⟩, wt2 (j := 199) rfl⟩
def iJ2_length_9d52b (mc ms : Nat) : MI := (RJ2, 1, (some .int), "length", 0, 0, mc, ms, [])
theorem mq_J2_length_9d52b {mc ms : Nat} : MQs yJ2_length_9d52b cJ2_length_9d52b (iJ2_length_9d52b mc ms) 1 := ⟨⟨rfl, ⟨by decide, by decide⟩, by decide +kernel, wt2 (j := 196) rfl, wt1 (j := 20) rfl⟩, wt2 (j := 195) rfl⟩
def iJ3_checkIndex_8e157 (mc ms : Nat) : MI := (RJ3, 3, (some .int), "checkIndex", 0, 0, mc, ms, [])
theorem mq_J3_checkIndex_8e157 {mc ms : Nat} : MQs yJ3_checkIndex_8e157 cJ3_checkIndex_8e157 (iJ3_checkIndex_8e157 mc ms) 3 := ⟨⟨rfl, ⟨by decide, by decide⟩, by decide +kernel, wt2 (j := 187) rfl, wt1 (j := 19) rfl⟩, wt2 (j := 186) rfl⟩
