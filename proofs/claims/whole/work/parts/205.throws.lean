/-! the class's throws: names -/
theorem th_state : TH RX9 "java/lang/IllegalStateException" 55 59 ["java/lang/RuntimeException", "java/lang/Exception"] := ⟨by decide, by decide, wt2 (j := 32) rfl, wt1 (j := 14) rfl, by decide +kernel⟩
theorem th_arg : TH RX9 "java/lang/IllegalArgumentException" 346 350 ["java/lang/RuntimeException", "java/lang/Exception"] := ⟨by decide, by decide, wt2 (j := 115) rfl, wt1 (j := 15) rfl, by decide +kernel⟩
theorem th_index : TH RX9 "java/lang/IndexOutOfBoundsException" 186 190 ["java/lang/RuntimeException", "java/lang/Exception"] := ⟨by decide, by decide, wt3 (j := 113) rfl, wt1 (j := 23) rfl, by decide +kernel⟩
