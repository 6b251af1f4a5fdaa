theorem cd0 : CD 0 RX0 TX0 4 tyX0 := ⟨rfl, by decide +kernel, tyX0_ok, nmX0⟩
theorem cd1 : CD 1 RX1 TX1 2 tyX1 := ⟨rfl, by decide +kernel, tyX1_ok, nmX1⟩
theorem cd2 : CD 2 RX2 TX2 1 tyX2 := ⟨rfl, by decide +kernel, tyX2_ok, nmX2⟩
theorem cd3 : CD 3 RX3 TX3 3 tyX3 := ⟨rfl, by decide +kernel, tyX3_ok, nmX3⟩
theorem cd4 : CD 4 RX4 TX4 7 tyX4 := ⟨rfl, by decide +kernel, tyX4_ok, nmX4⟩
theorem cd5 : CD 5 RX5 TX5 3 tyX5 := ⟨rfl, by decide +kernel, tyX5_ok, nmX5⟩
theorem cd6 : CD 6 RX6 TX6 2 tyX6 := ⟨rfl, by decide +kernel, tyX6_ok, nmX6⟩
theorem cd7 : CD 7 RX7 TX7 7 tyX7 := ⟨rfl, by decide +kernel, tyX7_ok, nmX7⟩
theorem cd8 : CD 8 RX8 TX8 2 tyX8 := ⟨rfl, by decide +kernel, tyX8_ok, nmX8⟩
theorem cd9 : CD 9 RX9 TX9 3 tyX9 := ⟨rfl, by decide +kernel, tyX9_ok, nmX9⟩
theorem cd10 : CD 10 RX10 TX10 2 tyX10 := ⟨rfl, by decide +kernel, tyX10_ok, nmX10⟩
theorem cd11 : CD 11 RX11 TX11 10 tyX11 := ⟨rfl, by decide +kernel, tyX11_ok, nmX11⟩
theorem cd12 : CD 12 RX12 TX12 13 tyX12 := ⟨rfl, by decide +kernel, tyX12_ok, nmX12⟩
theorem lL_9 : MI RL 9 mX11_init 0 := miX11_init _ _ (Or.inl (List.mem_of_getElem? (i := 103) (by decide +kernel)))
theorem lX11_9 : MI RX11 9 mX9_init 0 := miX9_init _ _ (Or.inr ⟨"GestureBook", List.mem_of_getElem? (i := 111) (by decide +kernel)⟩)
theorem lX9_11 : MI RX9 11 mX3_init 0 := miX3_init _ _ (Or.inr ⟨"GestureBook", List.mem_of_getElem? (i := 117) (by decide +kernel)⟩)
theorem flX3_9 : FL RX3 9 3 0 true (.array .int) := ⟨RX3, TX3, 3, tyX3, cd3, by decide, rfl, rfl, Or.inl (List.mem_of_getElem? (i := 121) (by decide +kernel))⟩
theorem flX3_15 : FL RX3 15 3 1 true (.array .int) := ⟨RX3, TX3, 3, tyX3, cd3, by decide, rfl, rfl, Or.inl (List.mem_of_getElem? (i := 122) (by decide +kernel))⟩
theorem flX3_18 : FL RX3 18 3 2 false (.int) := ⟨RX3, TX3, 3, tyX3, cd3, by decide, rfl, rfl, Or.inl (List.mem_of_getElem? (i := 123) (by decide +kernel))⟩
theorem flX1_24 : FL RX1 24 3 2 false (.int) := ⟨RX3, TX3, 3, tyX3, cd3, by decide, rfl, rfl, Or.inr ⟨"GestureBook", List.mem_of_getElem? (i := 124) (by decide +kernel)⟩⟩
theorem flX2_21 : FL RX2 21 3 2 false (.int) := ⟨RX3, TX3, 3, tyX3, cd3, by decide, rfl, rfl, Or.inr ⟨"GestureBook", List.mem_of_getElem? (i := 125) (by decide +kernel)⟩⟩
theorem flX11_349 : FL RX11 349 3 2 false (.int) := ⟨RX3, TX3, 3, tyX3, cd3, by decide, rfl, rfl, Or.inr ⟨"GestureBook", List.mem_of_getElem? (i := 126) (by decide +kernel)⟩⟩
theorem lX9_20 : MI RX9 20 mX8_init 0 := miX8_init _ _ (Or.inr ⟨"GestureBook", List.mem_of_getElem? (i := 137) (by decide +kernel)⟩)
theorem flX8_11 : FL RX8 11 8 0 true (.array .int) := ⟨RX8, TX8, 2, tyX8, cd8, by decide, rfl, rfl, Or.inl (List.mem_of_getElem? (i := 141) (by decide +kernel))⟩
theorem flX8_15 : FL RX8 15 8 1 false (.int) := ⟨RX8, TX8, 2, tyX8, cd8, by decide, rfl, rfl, Or.inl (List.mem_of_getElem? (i := 142) (by decide +kernel))⟩
theorem flX6_19 : FL RX6 19 8 1 false (.int) := ⟨RX8, TX8, 2, tyX8, cd8, by decide, rfl, rfl, Or.inr ⟨"GestureBook", List.mem_of_getElem? (i := 143) (by decide +kernel)⟩⟩
theorem flX10_24 : FL RX10 24 8 1 false (.int) := ⟨RX8, TX8, 2, tyX8, cd8, by decide, rfl, rfl, Or.inr ⟨"GestureBook", List.mem_of_getElem? (i := 144) (by decide +kernel)⟩⟩
theorem flX4_47 : FL RX4 47 8 1 false (.int) := ⟨RX8, TX8, 2, tyX8, cd8, by decide, rfl, rfl, Or.inr ⟨"GestureBook", List.mem_of_getElem? (i := 145) (by decide +kernel)⟩⟩
theorem flX11_328 : FL RX11 328 8 1 false (.int) := ⟨RX8, TX8, 2, tyX8, cd8, by decide, rfl, rfl, Or.inr ⟨"GestureBook", List.mem_of_getElem? (i := 146) (by decide +kernel)⟩⟩
theorem flX9_12 : FL RX9 12 9 0 true (.object "GestureBook$Lexicon") := ⟨RX9, TX9, 3, tyX9, cd9, by decide, rfl, rfl, Or.inl (List.mem_of_getElem? (i := 152) (by decide +kernel))⟩
theorem flX11_80 : FL RX11 80 9 0 true (.object "GestureBook$Lexicon") := ⟨RX9, TX9, 3, tyX9, cd9, by decide, rfl, rfl, Or.inl (List.mem_of_getElem? (i := 153) (by decide +kernel))⟩
theorem flX9_21 : FL RX9 21 9 1 true (.object "GestureBook$Sentence") := ⟨RX9, TX9, 3, tyX9, cd9, by decide, rfl, rfl, Or.inl (List.mem_of_getElem? (i := 154) (by decide +kernel))⟩
theorem flX10_18 : FL RX10 18 9 1 true (.object "GestureBook$Sentence") := ⟨RX9, TX9, 3, tyX9, cd9, by decide, rfl, rfl, Or.inl (List.mem_of_getElem? (i := 155) (by decide +kernel))⟩
theorem flX4_41 : FL RX4 41 9 1 true (.object "GestureBook$Sentence") := ⟨RX9, TX9, 3, tyX9, cd9, by decide, rfl, rfl, Or.inl (List.mem_of_getElem? (i := 156) (by decide +kernel))⟩
theorem flX11_179 : FL RX11 179 9 1 true (.object "GestureBook$Sentence") := ⟨RX9, TX9, 3, tyX9, cd9, by decide, rfl, rfl, Or.inl (List.mem_of_getElem? (i := 157) (by decide +kernel))⟩
theorem flX9_25 : FL RX9 25 9 2 true (.array .int) := ⟨RX9, TX9, 3, tyX9, cd9, by decide, rfl, rfl, Or.inl (List.mem_of_getElem? (i := 158) (by decide +kernel))⟩
theorem flX11_234 : FL RX11 234 9 2 true (.array .int) := ⟨RX9, TX9, 3, tyX9, cd9, by decide, rfl, rfl, Or.inl (List.mem_of_getElem? (i := 159) (by decide +kernel))⟩
theorem lX11_18 : MI RX11 18 mX5_init 0 := miX5_init _ _ (Or.inl (List.mem_of_getElem? (i := 169) (by decide +kernel)))
theorem lX5_24 : MI RX5 24 mX9_init 0 := miX9_init _ _ (Or.inr ⟨"GestureBook", List.mem_of_getElem? (i := 175) (by decide +kernel)⟩)
theorem flX5_13 : FL RX5 13 5 0 true (.array (.object "GestureBook$State")) := ⟨RX5, TX5, 3, tyX5, cd5, by decide, rfl, rfl, Or.inl (List.mem_of_getElem? (i := 176) (by decide +kernel))⟩
theorem flX5_17 : FL RX5 17 5 1 false (.int) := ⟨RX5, TX5, 3, tyX5, cd5, by decide, rfl, rfl, Or.inl (List.mem_of_getElem? (i := 177) (by decide +kernel))⟩
theorem flX5_21 : FL RX5 21 5 2 false (.int) := ⟨RX5, TX5, 3, tyX5, cd5, by decide, rfl, rfl, Or.inl (List.mem_of_getElem? (i := 178) (by decide +kernel))⟩
theorem flX11_350 : FL RX11 350 5 2 false (.int) := ⟨RX5, TX5, 3, tyX5, cd5, by decide, rfl, rfl, Or.inr ⟨"GestureBook", List.mem_of_getElem? (i := 179) (by decide +kernel)⟩⟩
theorem lX11_25 : MI RX11 25 mX7_init 0 := miX7_init _ _ (Or.inr ⟨"GestureBook", List.mem_of_getElem? (i := 189) (by decide +kernel)⟩)
theorem flX7_9 : FL RX7 9 7 0 true (.array .int) := ⟨RX7, TX7, 7, tyX7, cd7, by decide, rfl, rfl, Or.inl (List.mem_of_getElem? (i := 193) (by decide +kernel))⟩
theorem flX7_15 : FL RX7 15 7 1 false (.int) := ⟨RX7, TX7, 7, tyX7, cd7, by decide, rfl, rfl, Or.inl (List.mem_of_getElem? (i := 194) (by decide +kernel))⟩
theorem flX11_346 : FL RX11 346 7 1 false (.int) := ⟨RX7, TX7, 7, tyX7, cd7, by decide, rfl, rfl, Or.inr ⟨"GestureBook", List.mem_of_getElem? (i := 195) (by decide +kernel)⟩⟩
theorem flX7_19 : FL RX7 19 7 2 false (.int) := ⟨RX7, TX7, 7, tyX7, cd7, by decide, rfl, rfl, Or.inl (List.mem_of_getElem? (i := 196) (by decide +kernel))⟩
theorem flX7_22 : FL RX7 22 7 3 true (.array .int) := ⟨RX7, TX7, 7, tyX7, cd7, by decide, rfl, rfl, Or.inl (List.mem_of_getElem? (i := 197) (by decide +kernel))⟩
theorem flX7_25 : FL RX7 25 7 4 true (.array .int) := ⟨RX7, TX7, 7, tyX7, cd7, by decide, rfl, rfl, Or.inl (List.mem_of_getElem? (i := 198) (by decide +kernel))⟩
theorem flX7_28 : FL RX7 28 7 5 true (.array .int) := ⟨RX7, TX7, 7, tyX7, cd7, by decide, rfl, rfl, Or.inl (List.mem_of_getElem? (i := 199) (by decide +kernel))⟩
theorem flX7_31 : FL RX7 31 7 6 false (.int) := ⟨RX7, TX7, 7, tyX7, cd7, by decide, rfl, rfl, Or.inl (List.mem_of_getElem? (i := 200) (by decide +kernel))⟩
theorem flX11_252 : FL RX11 252 7 6 false (.int) := ⟨RX7, TX7, 7, tyX7, cd7, by decide, rfl, rfl, Or.inr ⟨"GestureBook", List.mem_of_getElem? (i := 201) (by decide +kernel)⟩⟩
theorem lX11_32 : MI RX11 32 mX4_init 0 := miX4_init _ _ (Or.inr ⟨"GestureBook", List.mem_of_getElem? (i := 219) (by decide +kernel)⟩)
theorem flX4_9 : FL RX4 9 4 0 true (.array .int) := ⟨RX4, TX4, 7, tyX4, cd4, by decide, rfl, rfl, Or.inl (List.mem_of_getElem? (i := 223) (by decide +kernel))⟩
theorem flX4_15 : FL RX4 15 4 1 true (.array .int) := ⟨RX4, TX4, 7, tyX4, cd4, by decide, rfl, rfl, Or.inl (List.mem_of_getElem? (i := 224) (by decide +kernel))⟩
theorem flX11_315 : FL RX11 315 4 1 true (.array .int) := ⟨RX4, TX4, 7, tyX4, cd4, by decide, rfl, rfl, Or.inr ⟨"GestureBook", List.mem_of_getElem? (i := 225) (by decide +kernel)⟩⟩
theorem flX4_18 : FL RX4 18 4 2 true (.array .boolean) := ⟨RX4, TX4, 7, tyX4, cd4, by decide, rfl, rfl, Or.inl (List.mem_of_getElem? (i := 226) (by decide +kernel))⟩
theorem flX11_318 : FL RX11 318 4 2 true (.array .boolean) := ⟨RX4, TX4, 7, tyX4, cd4, by decide, rfl, rfl, Or.inr ⟨"GestureBook", List.mem_of_getElem? (i := 227) (by decide +kernel)⟩⟩
theorem flX4_22 : FL RX4 22 4 3 true (.array .int) := ⟨RX4, TX4, 7, tyX4, cd4, by decide, rfl, rfl, Or.inl (List.mem_of_getElem? (i := 228) (by decide +kernel))⟩
theorem flX11_322 : FL RX11 322 4 3 true (.array .int) := ⟨RX4, TX4, 7, tyX4, cd4, by decide, rfl, rfl, Or.inr ⟨"GestureBook", List.mem_of_getElem? (i := 229) (by decide +kernel)⟩⟩
theorem flX4_25 : FL RX4 25 4 4 true (.array .int) := ⟨RX4, TX4, 7, tyX4, cd4, by decide, rfl, rfl, Or.inl (List.mem_of_getElem? (i := 230) (by decide +kernel))⟩
theorem flX11_325 : FL RX11 325 4 4 true (.array .int) := ⟨RX4, TX4, 7, tyX4, cd4, by decide, rfl, rfl, Or.inr ⟨"GestureBook", List.mem_of_getElem? (i := 231) (by decide +kernel)⟩⟩
theorem flX4_28 : FL RX4 28 4 5 false (.int) := ⟨RX4, TX4, 7, tyX4, cd4, by decide, rfl, rfl, Or.inl (List.mem_of_getElem? (i := 232) (by decide +kernel))⟩
theorem flX11_331 : FL RX11 331 4 5 false (.int) := ⟨RX4, TX4, 7, tyX4, cd4, by decide, rfl, rfl, Or.inr ⟨"GestureBook", List.mem_of_getElem? (i := 233) (by decide +kernel)⟩⟩
theorem flX4_32 : FL RX4 32 4 6 false (.int) := ⟨RX4, TX4, 7, tyX4, cd4, by decide, rfl, rfl, Or.inl (List.mem_of_getElem? (i := 234) (by decide +kernel))⟩
theorem flX11_334 : FL RX11 334 4 6 false (.int) := ⟨RX4, TX4, 7, tyX4, cd4, by decide, rfl, rfl, Or.inr ⟨"GestureBook", List.mem_of_getElem? (i := 235) (by decide +kernel)⟩⟩
theorem lX11_39 : MI RX11 39 mX10_init 0 := miX10_init _ _ (Or.inr ⟨"GestureBook", List.mem_of_getElem? (i := 254) (by decide +kernel)⟩)
theorem flX10_9 : FL RX10 9 10 0 false (.int) := ⟨RX10, TX10, 2, tyX10, cd10, by decide, rfl, rfl, Or.inl (List.mem_of_getElem? (i := 258) (by decide +kernel))⟩
theorem flX11_337 : FL RX11 337 10 0 false (.int) := ⟨RX10, TX10, 2, tyX10, cd10, by decide, rfl, rfl, Or.inr ⟨"GestureBook", List.mem_of_getElem? (i := 259) (by decide +kernel)⟩⟩
theorem flX10_15 : FL RX10 15 10 1 false (.int) := ⟨RX10, TX10, 2, tyX10, cd10, by decide, rfl, rfl, Or.inl (List.mem_of_getElem? (i := 260) (by decide +kernel))⟩
theorem flX11_340 : FL RX11 340 10 1 false (.int) := ⟨RX10, TX10, 2, tyX10, cd10, by decide, rfl, rfl, Or.inr ⟨"GestureBook", List.mem_of_getElem? (i := 261) (by decide +kernel)⟩⟩
theorem lX11_46 : MI RX11 46 mX6_init 0 := miX6_init _ _ (Or.inr ⟨"GestureBook", List.mem_of_getElem? (i := 269) (by decide +kernel)⟩)
theorem flX6_9 : FL RX6 9 6 0 true (.array .int) := ⟨RX6, TX6, 2, tyX6, cd6, by decide, rfl, rfl, Or.inl (List.mem_of_getElem? (i := 273) (by decide +kernel))⟩
theorem flX6_15 : FL RX6 15 6 1 false (.int) := ⟨RX6, TX6, 2, tyX6, cd6, by decide, rfl, rfl, Or.inl (List.mem_of_getElem? (i := 274) (by decide +kernel))⟩
theorem flX0_31 : FL RX0 31 6 1 false (.int) := ⟨RX6, TX6, 2, tyX6, cd6, by decide, rfl, rfl, Or.inr ⟨"GestureBook", List.mem_of_getElem? (i := 275) (by decide +kernel)⟩⟩
theorem lX11_53 : MI RX11 53 mX0_init 0 := miX0_init _ _ (Or.inr ⟨"GestureBook", List.mem_of_getElem? (i := 283) (by decide +kernel)⟩)
theorem flX0_9 : FL RX0 9 0 0 true (.array .int) := ⟨RX0, TX0, 4, tyX0, cd0, by decide, rfl, rfl, Or.inl (List.mem_of_getElem? (i := 287) (by decide +kernel))⟩
theorem flX0_15 : FL RX0 15 0 1 true (.array .int) := ⟨RX0, TX0, 4, tyX0, cd0, by decide, rfl, rfl, Or.inl (List.mem_of_getElem? (i := 288) (by decide +kernel))⟩
theorem flX0_18 : FL RX0 18 0 2 true (.array .int) := ⟨RX0, TX0, 4, tyX0, cd0, by decide, rfl, rfl, Or.inl (List.mem_of_getElem? (i := 289) (by decide +kernel))⟩
theorem flX11_227 : FL RX11 227 0 2 true (.array .int) := ⟨RX0, TX0, 4, tyX0, cd0, by decide, rfl, rfl, Or.inr ⟨"GestureBook", List.mem_of_getElem? (i := 290) (by decide +kernel)⟩⟩
theorem flX0_21 : FL RX0 21 0 3 false (.int) := ⟨RX0, TX0, 4, tyX0, cd0, by decide, rfl, rfl, Or.inl (List.mem_of_getElem? (i := 291) (by decide +kernel))⟩
theorem flX11_223 : FL RX11 223 0 3 false (.int) := ⟨RX0, TX0, 4, tyX0, cd0, by decide, rfl, rfl, Or.inr ⟨"GestureBook", List.mem_of_getElem? (i := 292) (by decide +kernel)⟩⟩
theorem lX11_60 : MI RX11 60 mX1_init 0 := miX1_init _ _ (Or.inr ⟨"GestureBook", List.mem_of_getElem? (i := 304) (by decide +kernel)⟩)
theorem flX1_9 : FL RX1 9 1 0 true (.array .int) := ⟨RX1, TX1, 2, tyX1, cd1, by decide, rfl, rfl, Or.inl (List.mem_of_getElem? (i := 308) (by decide +kernel))⟩
theorem flX1_15 : FL RX1 15 1 1 true (.array .int) := ⟨RX1, TX1, 2, tyX1, cd1, by decide, rfl, rfl, Or.inl (List.mem_of_getElem? (i := 309) (by decide +kernel))⟩
theorem lX11_67 : MI RX11 67 mX2_init 0 := miX2_init _ _ (Or.inr ⟨"GestureBook", List.mem_of_getElem? (i := 317) (by decide +kernel)⟩)
theorem flX2_11 : FL RX2 11 2 0 true (.array .int) := ⟨RX2, TX2, 1, tyX2, cd2, by decide, rfl, rfl, Or.inl (List.mem_of_getElem? (i := 321) (by decide +kernel))⟩
theorem flX11_10 : FL RX11 10 11 0 true (.object "GestureBook$State") := ⟨RX11, TX11, 10, tyX11, cd11, by decide, rfl, rfl, Or.inl (List.mem_of_getElem? (i := 325) (by decide +kernel))⟩
theorem flX11_19 : FL RX11 19 11 1 true (.object "GestureBook$Past") := ⟨RX11, TX11, 10, tyX11, cd11, by decide, rfl, rfl, Or.inl (List.mem_of_getElem? (i := 326) (by decide +kernel))⟩
theorem flX11_26 : FL RX11 26 11 2 true (.object "GestureBook$Script") := ⟨RX11, TX11, 10, tyX11, cd11, by decide, rfl, rfl, Or.inl (List.mem_of_getElem? (i := 327) (by decide +kernel))⟩
theorem flX11_33 : FL RX11 33 11 3 true (.object "GestureBook$Meaning") := ⟨RX11, TX11, 10, tyX11, cd11, by decide, rfl, rfl, Or.inl (List.mem_of_getElem? (i := 328) (by decide +kernel))⟩
theorem flX11_40 : FL RX11 40 11 4 true (.object "GestureBook$WordOrder") := ⟨RX11, TX11, 10, tyX11, cd11, by decide, rfl, rfl, Or.inl (List.mem_of_getElem? (i := 329) (by decide +kernel))⟩
theorem flX11_47 : FL RX11 47 11 5 true (.object "GestureBook$Path") := ⟨RX11, TX11, 10, tyX11, cd11, by decide, rfl, rfl, Or.inl (List.mem_of_getElem? (i := 330) (by decide +kernel))⟩
theorem flX11_54 : FL RX11 54 11 6 true (.object "GestureBook$Arranger") := ⟨RX11, TX11, 10, tyX11, cd11, by decide, rfl, rfl, Or.inl (List.mem_of_getElem? (i := 331) (by decide +kernel))⟩
theorem flX11_61 : FL RX11 61 11 7 true (.object "GestureBook$Clusters") := ⟨RX11, TX11, 10, tyX11, cd11, by decide, rfl, rfl, Or.inl (List.mem_of_getElem? (i := 332) (by decide +kernel))⟩
theorem flX11_68 : FL RX11 68 11 8 true (.object "GestureBook$Contrasts") := ⟨RX11, TX11, 10, tyX11, cd11, by decide, rfl, rfl, Or.inl (List.mem_of_getElem? (i := 333) (by decide +kernel))⟩
theorem flX11_72 : FL RX11 72 11 9 true (.array .int) := ⟨RX11, TX11, 10, tyX11, cd11, by decide, rfl, rfl, Or.inl (List.mem_of_getElem? (i := 334) (by decide +kernel))⟩
theorem lL_13 : MV RL 13 mX11_sign 5 := mvX11_sign _ _ (Or.inl (List.mem_of_getElem? (i := 356) (by decide +kernel)))
theorem lX11_76 : MV RX11 76 mX5_stage 1 := mvX5_stage _ _ (Or.inl (List.mem_of_getElem? (i := 360) (by decide +kernel)))
theorem lX5_25 : MV RX5 25 mX9_copyFrom 1 := mvX9_copyFrom _ _ (Or.inl (List.mem_of_getElem? (i := 364) (by decide +kernel)))
theorem lX9_29 : MV RX9 29 mX3_copyFrom 1 := mvX3_copyFrom _ _ (Or.inl (List.mem_of_getElem? (i := 368) (by decide +kernel)))
theorem acX3_22 : Cond.methodLink RX3 22 arraycopyName ∈ lw_tbl := List.mem_of_getElem? (i := 372) (by decide +kernel)
theorem lX9_33 : MV RX9 33 mX8_copyFrom 1 := mvX8_copyFrom _ _ (Or.inl (List.mem_of_getElem? (i := 375) (by decide +kernel)))
theorem acX8_19 : Cond.methodLink RX8 19 arraycopyName ∈ lw_tbl := List.mem_of_getElem? (i := 379) (by decide +kernel)
theorem acX9_36 : Cond.methodLink RX9 36 arraycopyName ∈ lw_tbl := List.mem_of_getElem? (i := 380) (by decide +kernel)
theorem lX11_84 : MV RX11 84 mX3_addSign 5 := mvX3_addSign _ _ (Or.inl (List.mem_of_getElem? (i := 381) (by decide +kernel)))
theorem lX3_36 : MS RX3 36 mX11_areWithin 5 := msX11_areWithin _ _ (Or.inr ⟨"GestureBook", List.mem_of_getElem? (i := 385) (by decide +kernel)⟩)
theorem lX11_112 : MS RX11 112 mX11_isWithin 3 := msX11_isWithin _ _ (Or.inl (List.mem_of_getElem? (i := 388) (by decide +kernel)))
theorem lX3_28 : MS RX3 28 mX11_isWithin 3 := msX11_isWithin _ _ (Or.inr ⟨"GestureBook", List.mem_of_getElem? (i := 391) (by decide +kernel)⟩)
theorem lX3_40 : MV RX3 40 mX3_ask 4 := mvX3_ask _ _ (Or.inl (List.mem_of_getElem? (i := 392) (by decide +kernel)))
theorem lX3_32 : MV RX3 32 mX3_setTrait 3 := mvX3_setTrait _ _ (Or.inl (List.mem_of_getElem? (i := 396) (by decide +kernel)))
theorem lX3_44 : MV RX3 44 mX3_appendAsked 0 := mvX3_appendAsked _ _ (Or.inl (List.mem_of_getElem? (i := 400) (by decide +kernel)))
theorem lX3_48 : MV RX3 48 mX3_hasEqual 1 := mvX3_hasEqual _ _ (Or.inl (List.mem_of_getElem? (i := 404) (by decide +kernel)))
theorem lX3_52 : MV RX3 52 mX3_differingParts 2 := mvX3_differingParts _ _ (Or.inl (List.mem_of_getElem? (i := 408) (by decide +kernel)))
theorem lX3_59 : MV RX3 59 mX3_trait 2 := mvX3_trait _ _ (Or.inl (List.mem_of_getElem? (i := 412) (by decide +kernel)))
theorem lX11_90 : MV RX11 90 mX11_undoable 1 := mvX11_undoable _ _ (Or.inl (List.mem_of_getElem? (i := 416) (by decide +kernel)))
theorem lX11_280 : MV RX11 280 mX5_keepStaged 0 := mvX5_keepStaged _ _ (Or.inl (List.mem_of_getElem? (i := 420) (by decide +kernel)))
theorem lX5_29 : MS RX5 29 mJ9_min_7cf53 2 := msJ9_min_7cf53 _ _ (Or.inl (List.mem_of_getElem? (i := 424) (by decide +kernel)))
theorem lX11_116 : MV RX11 116 mX11_counted 1 := mvX11_counted _ _ (Or.inl (List.mem_of_getElem? (i := 427) (by decide +kernel)))
theorem lL_18 : MV RL 18 mX11_becomes 3 := mvX11_becomes _ _ (Or.inl (List.mem_of_getElem? (i := 431) (by decide +kernel)))
theorem lX11_94 : MV RX11 94 mX3_change 3 := mvX3_change _ _ (Or.inl (List.mem_of_getElem? (i := 435) (by decide +kernel)))
theorem lX3_56 : MV RX3 56 mX3_holds 1 := mvX3_holds _ _ (Or.inl (List.mem_of_getElem? (i := 439) (by decide +kernel)))
theorem lL_23 : MV RL 23 mX11_drops 1 := mvX11_drops _ _ (Or.inl (List.mem_of_getElem? (i := 443) (by decide +kernel)))
theorem lX11_98 : MV RX11 98 mX9_removeSign 1 := mvX9_removeSign _ _ (Or.inl (List.mem_of_getElem? (i := 447) (by decide +kernel)))
theorem lX9_53 : MV RX9 53 mX3_holds 1 := mvX3_holds _ _ (Or.inl (List.mem_of_getElem? (i := 451) (by decide +kernel)))
theorem lX9_42 : MV RX9 42 mX8_countOf 1 := mvX8_countOf _ _ (Or.inl (List.mem_of_getElem? (i := 452) (by decide +kernel)))
theorem lX8_33 : MV RX8 33 mX8_signIn 1 := mvX8_signIn _ _ (Or.inl (List.mem_of_getElem? (i := 456) (by decide +kernel)))
theorem lX8_29 : MV RX8 29 mX8_cell 2 := mvX8_cell _ _ (Or.inl (List.mem_of_getElem? (i := 460) (by decide +kernel)))
theorem lX9_57 : MV RX9 57 mX8_renumberAbove 1 := mvX8_renumberAbove _ _ (Or.inl (List.mem_of_getElem? (i := 464) (by decide +kernel)))
theorem lX9_61 : MV RX9 61 mX3_remove 1 := mvX3_remove _ _ (Or.inl (List.mem_of_getElem? (i := 468) (by decide +kernel)))
theorem lL_28 : MV RL 28 mX11_weight 2 := mvX11_weight _ _ (Or.inl (List.mem_of_getElem? (i := 472) (by decide +kernel)))
theorem lX11_101 : MV RX11 101 mX3_setWeight 2 := mvX3_setWeight _ _ (Or.inl (List.mem_of_getElem? (i := 476) (by decide +kernel)))
theorem lL_33 : MV RL 33 mX11_draws 2 := mvX11_draws _ _ (Or.inl (List.mem_of_getElem? (i := 480) (by decide +kernel)))
theorem lX11_105 : MV RX11 105 mX3_addRandom 2 := mvX3_addRandom _ _ (Or.inl (List.mem_of_getElem? (i := 484) (by decide +kernel)))
theorem kX3_62 : Cond.constant RX3 62 (J (999999)) ∈ lw_tbl := List.mem_of_getElem? (i := 488) (by decide +kernel)
theorem kX3_63 : Cond.constantLong RX3 63 (JL (1103515245)) ∈ lw_tbl := List.mem_of_getElem? (i := 489) (by decide +kernel)
theorem kX3_65 : Cond.constantLong RX3 65 (JL (12345)) ∈ lw_tbl := List.mem_of_getElem? (i := 490) (by decide +kernel)
theorem kX3_67 : Cond.constantLong RX3 67 (JL (2147483648)) ∈ lw_tbl := List.mem_of_getElem? (i := 491) (by decide +kernel)
theorem kX3_69 : Cond.constantLong RX3 69 (JL (4)) ∈ lw_tbl := List.mem_of_getElem? (i := 492) (by decide +kernel)
theorem kX3_71 : Cond.constantLong RX3 71 (JL (8)) ∈ lw_tbl := List.mem_of_getElem? (i := 493) (by decide +kernel)
theorem kX3_73 : Cond.constantLong RX3 73 (JL (65536)) ∈ lw_tbl := List.mem_of_getElem? (i := 494) (by decide +kernel)
theorem lL_37 : MV RL 37 mX11_of 2 := mvX11_of _ _ (Or.inl (List.mem_of_getElem? (i := 495) (by decide +kernel)))
theorem lX11_108 : MV RX11 108 mX3_holds 1 := mvX3_holds _ _ (Or.inl (List.mem_of_getElem? (i := 499) (by decide +kernel)))
theorem lX11_119 : MV RX11 119 mX9_signProperty 2 := mvX9_signProperty _ _ (Or.inl (List.mem_of_getElem? (i := 500) (by decide +kernel)))
theorem lX9_46 : MV RX9 46 mX3_trait 2 := mvX3_trait _ _ (Or.inl (List.mem_of_getElem? (i := 504) (by decide +kernel)))
theorem lL_41 : MV RL 41 mX11_apart 3 := mvX11_apart _ _ (Or.inl (List.mem_of_getElem? (i := 505) (by decide +kernel)))
theorem lX11_122 : MV RX11 122 mX3_distance 2 := mvX3_distance _ _ (Or.inl (List.mem_of_getElem? (i := 509) (by decide +kernel)))
theorem lX3_92 : MV RX3 92 mX3_gap 3 := mvX3_gap _ _ (Or.inl (List.mem_of_getElem? (i := 513) (by decide +kernel)))
theorem lX3_75 : MS RX3 75 mJ6_bitCount_0f7a4 1 := msJ6_bitCount_0f7a4 _ _ (Or.inl (List.mem_of_getElem? (i := 517) (by decide +kernel)))
theorem kJ6_265 : Cond.constant RJ6 265 (J (1431655765)) ∈ lw_tbl := List.mem_of_getElem? (i := 520) (by decide +kernel)
theorem kJ6_266 : Cond.constant RJ6 266 (J (858993459)) ∈ lw_tbl := List.mem_of_getElem? (i := 521) (by decide +kernel)
theorem kJ6_267 : Cond.constant RJ6 267 (J (252645135)) ∈ lw_tbl := List.mem_of_getElem? (i := 522) (by decide +kernel)
theorem lX3_81 : MS RX3 81 mJ9_abs_0f7a4 1 := msJ9_abs_0f7a4 _ _ (Or.inl (List.mem_of_getElem? (i := 523) (by decide +kernel)))
theorem lX3_86 : MS RX3 86 mJ9_min_7cf53 2 := msJ9_min_7cf53 _ _ (Or.inl (List.mem_of_getElem? (i := 526) (by decide +kernel)))
theorem lX3_89 : MS RX3 89 mX3_faceGap 2 := msX3_faceGap _ _ (Or.inl (List.mem_of_getElem? (i := 527) (by decide +kernel)))
theorem lX11_125 : MV RX11 125 mX3_gap 3 := mvX3_gap _ _ (Or.inl (List.mem_of_getElem? (i := 530) (by decide +kernel)))
theorem lL_45 : MV RL 45 mX11_look 4 := mvX11_look _ _ (Or.inl (List.mem_of_getElem? (i := 531) (by decide +kernel)))
theorem lX11_128 : MS RX11 128 mX11_areWithin 5 := msX11_areWithin _ _ (Or.inl (List.mem_of_getElem? (i := 535) (by decide +kernel)))
theorem lX11_132 : MV RX11 132 mX3_ask 4 := mvX3_ask _ _ (Or.inl (List.mem_of_getElem? (i := 536) (by decide +kernel)))
theorem lX11_136 : MV RX11 136 mX3_matches 0 := mvX3_matches _ _ (Or.inl (List.mem_of_getElem? (i := 537) (by decide +kernel)))
theorem lX3_96 : MV RX3 96 mX3_matchesAsked 1 := mvX3_matchesAsked _ _ (Or.inl (List.mem_of_getElem? (i := 541) (by decide +kernel)))
theorem lL_50 : MV RL 50 mX11_near 2 := mvX11_near _ _ (Or.inl (List.mem_of_getElem? (i := 545) (by decide +kernel)))
theorem lX11_140 : MV RX11 140 mX3_neighbours 2 := mvX3_neighbours _ _ (Or.inl (List.mem_of_getElem? (i := 549) (by decide +kernel)))
theorem lX3_99 : MV RX3 99 mX3_distance 2 := mvX3_distance _ _ (Or.inl (List.mem_of_getElem? (i := 553) (by decide +kernel)))
theorem lL_54 : MV RL 54 mX11_nearest 4 := mvX11_nearest _ _ (Or.inl (List.mem_of_getElem? (i := 554) (by decide +kernel)))
theorem lX11_143 : MV RX11 143 mX3_closest 0 := mvX3_closest _ _ (Or.inl (List.mem_of_getElem? (i := 558) (by decide +kernel)))
theorem kX3_102 : Cond.constant RX3 102 (J (2147483647)) ∈ lw_tbl := List.mem_of_getElem? (i := 562) (by decide +kernel)
theorem lL_58 : MV RL 58 mX11_sorts 1 := mvX11_sorts _ _ (Or.inl (List.mem_of_getElem? (i := 563) (by decide +kernel)))
theorem lX11_146 : MV RX11 146 mX3_countOfSort 1 := mvX3_countOfSort _ _ (Or.inl (List.mem_of_getElem? (i := 567) (by decide +kernel)))
theorem lL_62 : MV RL 62 mX11_groups 2 := mvX11_groups _ _ (Or.inl (List.mem_of_getElem? (i := 571) (by decide +kernel)))
theorem lX11_149 : MV RX11 149 mX1_find 2 := mvX1_find _ _ (Or.inl (List.mem_of_getElem? (i := 575) (by decide +kernel)))
theorem lX1_18 : MS RX1 18 mJ7_fill_53178 2 := msJ7_fill_53178 _ _ (Or.inl (List.mem_of_getElem? (i := 579) (by decide +kernel)))
theorem lX1_30 : MS RX1 30 mJ9_min_7cf53 2 := msJ9_min_7cf53 _ _ (Or.inl (List.mem_of_getElem? (i := 582) (by decide +kernel)))
theorem lX1_36 : MV RX1 36 mX3_distance 2 := mvX3_distance _ _ (Or.inl (List.mem_of_getElem? (i := 583) (by decide +kernel)))
theorem lX1_39 : MV RX1 39 mX1_join 2 := mvX1_join _ _ (Or.inl (List.mem_of_getElem? (i := 584) (by decide +kernel)))
theorem lX1_43 : MV RX1 43 mX1_enlarge 1 := mvX1_enlarge _ _ (Or.inl (List.mem_of_getElem? (i := 588) (by decide +kernel)))
theorem lX1_47 : MS RX1 47 mX11_isWithin 3 := msX11_isWithin _ _ (Or.inr ⟨"GestureBook", List.mem_of_getElem? (i := 592) (by decide +kernel)⟩)
theorem lX11_153 : MV RX11 153 mX1_number 0 := mvX1_number _ _ (Or.inl (List.mem_of_getElem? (i := 593) (by decide +kernel)))
theorem lX11_156 : MV RX11 156 mX1_greatest 0 := mvX1_greatest _ _ (Or.inl (List.mem_of_getElem? (i := 597) (by decide +kernel)))
theorem lX1_51 : MS RX1 51 mJ9_max_7cf53 2 := msJ9_max_7cf53 _ _ (Or.inl (List.mem_of_getElem? (i := 601) (by decide +kernel)))
theorem lL_66 : MV RL 66 mX11_twins 1 := mvX11_twins _ _ (Or.inl (List.mem_of_getElem? (i := 604) (by decide +kernel)))
theorem lX11_159 : MV RX11 159 mX2_compare 1 := mvX2_compare _ _ (Or.inl (List.mem_of_getElem? (i := 608) (by decide +kernel)))
theorem lX2_15 : MS RX2 15 mJ7_fill_53178 2 := msJ7_fill_53178 _ _ (Or.inl (List.mem_of_getElem? (i := 612) (by decide +kernel)))
theorem lX2_27 : MV RX2 27 mX3_differingParts 2 := mvX3_differingParts _ _ (Or.inl (List.mem_of_getElem? (i := 613) (by decide +kernel)))
theorem lX2_31 : MV RX2 31 mX2_countPair 1 := mvX2_countPair _ _ (Or.inl (List.mem_of_getElem? (i := 614) (by decide +kernel)))
theorem lX2_35 : MS RX2 35 mX11_isWithin 3 := msX11_isWithin _ _ (Or.inr ⟨"GestureBook", List.mem_of_getElem? (i := 618) (by decide +kernel)⟩)
theorem lX11_163 : MV RX11 163 mX2_minimalPairs 1 := mvX2_minimalPairs _ _ (Or.inl (List.mem_of_getElem? (i := 619) (by decide +kernel)))
theorem lL_70 : MV RL 70 mX11_enough 1 := mvX11_enough _ _ (Or.inl (List.mem_of_getElem? (i := 623) (by decide +kernel)))
theorem lX11_166 : MV RX11 166 mX2_leastSufficient 0 := mvX2_leastSufficient _ _ (Or.inl (List.mem_of_getElem? (i := 627) (by decide +kernel)))
theorem lX2_39 : MS RX2 39 mJ6_bitCount_0f7a4 1 := msJ6_bitCount_0f7a4 _ _ (Or.inl (List.mem_of_getElem? (i := 631) (by decide +kernel)))
theorem lX2_45 : MV RX2 45 mX2_isSufficient 1 := mvX2_isSufficient _ _ (Or.inl (List.mem_of_getElem? (i := 632) (by decide +kernel)))
theorem lX11_169 : MV RX11 169 mX2_isSufficient 1 := mvX2_isSufficient _ _ (Or.inl (List.mem_of_getElem? (i := 636) (by decide +kernel)))
theorem lL_74 : MV RL 74 mX11_span 1 := mvX11_span _ _ (Or.inl (List.mem_of_getElem? (i := 637) (by decide +kernel)))
theorem lX11_172 : MV RX11 172 mX3_extremePair 1 := mvX3_extremePair _ _ (Or.inl (List.mem_of_getElem? (i := 641) (by decide +kernel)))
theorem lL_78 : MV RL 78 mX11_word 3 := mvX11_word _ _ (Or.inl (List.mem_of_getElem? (i := 645) (by decide +kernel)))
theorem lX11_176 : MV RX11 176 mX9_addWord 3 := mvX9_addWord _ _ (Or.inl (List.mem_of_getElem? (i := 649) (by decide +kernel)))
theorem lX9_64 : MS RX9 64 mX11_isWithin 3 := msX11_isWithin _ _ (Or.inr ⟨"GestureBook", List.mem_of_getElem? (i := 653) (by decide +kernel)⟩)
theorem lX9_68 : MV RX9 68 mX8_append 3 := mvX8_append _ _ (Or.inl (List.mem_of_getElem? (i := 654) (by decide +kernel)))
theorem lX8_37 : MV RX8 37 mX8_put 4 := mvX8_put _ _ (Or.inl (List.mem_of_getElem? (i := 658) (by decide +kernel)))
theorem lX8_25 : MS RX8 25 mX11_isWithin 3 := msX11_isWithin _ _ (Or.inr ⟨"GestureBook", List.mem_of_getElem? (i := 662) (by decide +kernel)⟩)
theorem lL_82 : MV RL 82 mX11_cuts 1 := mvX11_cuts _ _ (Or.inl (List.mem_of_getElem? (i := 663) (by decide +kernel)))
theorem lX11_183 : MV RX11 183 mX8_remove 1 := mvX8_remove _ _ (Or.inl (List.mem_of_getElem? (i := 667) (by decide +kernel)))
theorem lX8_41 : MV RX8 41 mX8_holds 1 := mvX8_holds _ _ (Or.inl (List.mem_of_getElem? (i := 671) (by decide +kernel)))
theorem lX8_45 : MV RX8 45 mX8_moveRows 3 := mvX8_moveRows _ _ (Or.inl (List.mem_of_getElem? (i := 675) (by decide +kernel)))
theorem lL_86 : MV RL 86 mX11_shifts 2 := mvX11_shifts _ _ (Or.inl (List.mem_of_getElem? (i := 679) (by decide +kernel)))
theorem lX11_188 : MV RX11 188 mX8_move 2 := mvX8_move _ _ (Or.inl (List.mem_of_getElem? (i := 683) (by decide +kernel)))
theorem lX8_49 : MV RX8 49 mX8_from 1 := mvX8_from _ _ (Or.inl (List.mem_of_getElem? (i := 687) (by decide +kernel)))
theorem lX8_52 : MV RX8 52 mX8_to 1 := mvX8_to _ _ (Or.inl (List.mem_of_getElem? (i := 691) (by decide +kernel)))
theorem lX8_55 : MS RX8 55 mJ9_abs_0f7a4 1 := msJ9_abs_0f7a4 _ _ (Or.inl (List.mem_of_getElem? (i := 695) (by decide +kernel)))
theorem lL_90 : MV RL 90 mX11_clears 0 := mvX11_clears _ _ (Or.inl (List.mem_of_getElem? (i := 696) (by decide +kernel)))
theorem lX11_191 : MV RX11 191 mX8_removeAll 0 := mvX8_removeAll _ _ (Or.inl (List.mem_of_getElem? (i := 700) (by decide +kernel)))
theorem lL_95 : MV RL 95 mX11_wordOf 2 := mvX11_wordOf _ _ (Or.inl (List.mem_of_getElem? (i := 704) (by decide +kernel)))
theorem lX11_194 : MV RX11 194 mX8_holds 1 := mvX8_holds _ _ (Or.inl (List.mem_of_getElem? (i := 708) (by decide +kernel)))
theorem lX11_195 : MV RX11 195 mX4_interpret 2 := mvX4_interpret _ _ (Or.inl (List.mem_of_getElem? (i := 709) (by decide +kernel)))
theorem lX4_35 : MS RX4 35 mJ7_fill_53178 2 := msJ7_fill_53178 _ _ (Or.inl (List.mem_of_getElem? (i := 713) (by decide +kernel)))
theorem lX4_52 : MS RX4 52 mJ9_min_7cf53 2 := msJ9_min_7cf53 _ _ (Or.inl (List.mem_of_getElem? (i := 714) (by decide +kernel)))
theorem lX4_58 : MV RX4 58 mX9_sortOfWord 1 := mvX9_sortOfWord _ _ (Or.inl (List.mem_of_getElem? (i := 715) (by decide +kernel)))
theorem lX9_50 : MV RX9 50 mX8_signIn 1 := mvX8_signIn _ _ (Or.inl (List.mem_of_getElem? (i := 719) (by decide +kernel)))
theorem lX4_62 : MV RX4 62 mX4_interpretWord 3 := mvX4_interpretWord _ _ (Or.inl (List.mem_of_getElem? (i := 720) (by decide +kernel)))
theorem lX4_66 : MV RX4 66 mX8_from 1 := mvX8_from _ _ (Or.inl (List.mem_of_getElem? (i := 724) (by decide +kernel)))
theorem lX4_69 : MV RX4 69 mX8_to 1 := mvX8_to _ _ (Or.inl (List.mem_of_getElem? (i := 725) (by decide +kernel)))
theorem lX4_72 : MV RX4 72 mX8_signIn 1 := mvX8_signIn _ _ (Or.inl (List.mem_of_getElem? (i := 726) (by decide +kernel)))
theorem lX4_75 : MV RX4 75 mX4_setThing 2 := mvX4_setThing _ _ (Or.inl (List.mem_of_getElem? (i := 727) (by decide +kernel)))
theorem lX4_82 : MS RX4 82 mX11_isSpot 1 := msX11_isSpot _ _ (Or.inr ⟨"GestureBook", List.mem_of_getElem? (i := 731) (by decide +kernel)⟩)
theorem lX4_79 : MV RX4 79 mX4_thingAt 1 := mvX4_thingAt _ _ (Or.inl (List.mem_of_getElem? (i := 734) (by decide +kernel)))
theorem lX11_199 : MV RX11 199 mX11_wordProperty 2 := mvX11_wordProperty _ _ (Or.inl (List.mem_of_getElem? (i := 738) (by decide +kernel)))
theorem lX11_306 : MV RX11 306 mX8_signIn 1 := mvX8_signIn _ _ (Or.inl (List.mem_of_getElem? (i := 742) (by decide +kernel)))
theorem lX11_309 : MV RX11 309 mX8_from 1 := mvX8_from _ _ (Or.inl (List.mem_of_getElem? (i := 743) (by decide +kernel)))
theorem lX11_312 : MV RX11 312 mX8_to 1 := mvX8_to _ _ (Or.inl (List.mem_of_getElem? (i := 744) (by decide +kernel)))
theorem lL_99 : MV RL 99 mX11_at 2 := mvX11_at _ _ (Or.inl (List.mem_of_getElem? (i := 745) (by decide +kernel)))
theorem lX11_202 : MS RX11 202 mX11_isSpot 1 := msX11_isSpot _ _ (Or.inl (List.mem_of_getElem? (i := 749) (by decide +kernel)))
theorem lX11_205 : MV RX11 205 mX4_thingAt 1 := mvX4_thingAt _ _ (Or.inl (List.mem_of_getElem? (i := 750) (by decide +kernel)))
theorem lL_103 : MV RL 103 mX11_all 1 := mvX11_all _ _ (Or.inl (List.mem_of_getElem? (i := 751) (by decide +kernel)))
theorem lX11_208 : MV RX11 208 mX11_examineSentence 0 := mvX11_examineSentence _ _ (Or.inl (List.mem_of_getElem? (i := 755) (by decide +kernel)))
theorem lX11_295 : MV RX11 295 mX10_check 1 := mvX10_check _ _ (Or.inl (List.mem_of_getElem? (i := 759) (by decide +kernel)))
theorem lX10_29 : MV RX10 29 mX9_sortOfWord 1 := mvX9_sortOfWord _ _ (Or.inl (List.mem_of_getElem? (i := 763) (by decide +kernel)))
theorem lX10_33 : MS RX10 33 mJ9_min_7cf53 2 := msJ9_min_7cf53 _ _ (Or.inl (List.mem_of_getElem? (i := 764) (by decide +kernel)))
theorem lX11_298 : MV RX11 298 mX6_follow 1 := mvX6_follow _ _ (Or.inl (List.mem_of_getElem? (i := 765) (by decide +kernel)))
theorem lX6_22 : MV RX6 22 mX8_from 1 := mvX8_from _ _ (Or.inl (List.mem_of_getElem? (i := 769) (by decide +kernel)))
theorem lX6_26 : MV RX6 26 mX6_add 1 := mvX6_add _ _ (Or.inl (List.mem_of_getElem? (i := 770) (by decide +kernel)))
theorem lX6_33 : MS RX6 33 mX11_isSpot 1 := msX11_isSpot _ _ (Or.inr ⟨"GestureBook", List.mem_of_getElem? (i := 774) (by decide +kernel)⟩)
theorem lX6_30 : MV RX6 30 mX8_to 1 := mvX8_to _ _ (Or.inl (List.mem_of_getElem? (i := 775) (by decide +kernel)))
theorem lX11_211 : MV RX11 211 mX11_sentenceProperty 1 := mvX11_sentenceProperty _ _ (Or.inl (List.mem_of_getElem? (i := 776) (by decide +kernel)))
theorem lX11_230 : MV RX11 230 mX6_lengthIn 1 := mvX6_lengthIn _ _ (Or.inl (List.mem_of_getElem? (i := 780) (by decide +kernel)))
theorem lX6_41 : MV RX6 41 mX6_spot 1 := mvX6_spot _ _ (Or.inl (List.mem_of_getElem? (i := 784) (by decide +kernel)))
theorem lX6_37 : MS RX6 37 mX11_isWithin 3 := msX11_isWithin _ _ (Or.inr ⟨"GestureBook", List.mem_of_getElem? (i := 788) (by decide +kernel)⟩)
theorem lX6_44 : MV RX6 44 mX9_position 1 := mvX9_position _ _ (Or.inl (List.mem_of_getElem? (i := 789) (by decide +kernel)))
theorem lX9_72 : MS RX9 72 mX11_isSpot 1 := msX11_isSpot _ _ (Or.inr ⟨"GestureBook", List.mem_of_getElem? (i := 793) (by decide +kernel)⟩)
theorem lX6_49 : MS RX6 49 mJ9_abs_0f7a4 1 := msJ9_abs_0f7a4 _ _ (Or.inl (List.mem_of_getElem? (i := 794) (by decide +kernel)))
theorem lX11_343 : MV RX11 343 mX6_setOfSpots 0 := mvX6_setOfSpots _ _ (Or.inl (List.mem_of_getElem? (i := 795) (by decide +kernel)))
theorem lL_107 : MV RL 107 mX11_lays 2 := mvX11_lays _ _ (Or.inl (List.mem_of_getElem? (i := 799) (by decide +kernel)))
theorem lX11_214 : MV RX11 214 mX9_layOne 2 := mvX9_layOne _ _ (Or.inl (List.mem_of_getElem? (i := 803) (by decide +kernel)))
theorem lL_111 : MV RL 111 mX11_lay 1 := mvX11_lay _ _ (Or.inl (List.mem_of_getElem? (i := 807) (by decide +kernel)))
theorem lX11_217 : MV RX11 217 mX9_position 1 := mvX9_position _ _ (Or.inl (List.mem_of_getElem? (i := 811) (by decide +kernel)))
theorem lL_115 : MV RL 115 mX11_best 1 := mvX11_best _ _ (Or.inl (List.mem_of_getElem? (i := 812) (by decide +kernel)))
theorem lX11_220 : MV RX11 220 mX11_findBestArrangement 0 := mvX11_findBestArrangement _ _ (Or.inl (List.mem_of_getElem? (i := 816) (by decide +kernel)))
theorem lX11_302 : MV RX11 302 mX0_arrange 1 := mvX0_arrange _ _ (Or.inl (List.mem_of_getElem? (i := 820) (by decide +kernel)))
theorem lX0_25 : MS RX0 25 mJ7_fill_53178 2 := msJ7_fill_53178 _ _ (Or.inl (List.mem_of_getElem? (i := 824) (by decide +kernel)))
theorem lX0_36 : MV RX0 36 mX6_spot 1 := mvX6_spot _ _ (Or.inl (List.mem_of_getElem? (i := 825) (by decide +kernel)))
theorem lX0_40 : MV RX0 40 mX0_countStep 2 := mvX0_countStep _ _ (Or.inl (List.mem_of_getElem? (i := 826) (by decide +kernel)))
theorem lX0_51 : MS RX0 51 mX11_isSpot 1 := msX11_isSpot _ _ (Or.inr ⟨"GestureBook", List.mem_of_getElem? (i := 830) (by decide +kernel)⟩)
theorem lX0_55 : MS RX0 55 mJ9_max_7cf53 2 := msJ9_max_7cf53 _ _ (Or.inl (List.mem_of_getElem? (i := 831) (by decide +kernel)))
theorem lX0_61 : MS RX0 61 mJ9_min_7cf53 2 := msJ9_min_7cf53 _ _ (Or.inl (List.mem_of_getElem? (i := 832) (by decide +kernel)))
theorem kX0_46 : Cond.constant RX0 46 (J (2147483647)) ∈ lw_tbl := List.mem_of_getElem? (i := 833) (by decide +kernel)
theorem lX0_47 : MS RX0 47 mX0_placeFrom 4 := msX0_placeFrom _ _ (Or.inl (List.mem_of_getElem? (i := 834) (by decide +kernel)))
theorem acX0_64 : Cond.methodLink RX0 64 arraycopyName ∈ lw_tbl := List.mem_of_getElem? (i := 837) (by decide +kernel)
theorem lX0_70 : MV RX0 70 mX0_lengthTo 1 := mvX0_lengthTo _ _ (Or.inl (List.mem_of_getElem? (i := 838) (by decide +kernel)))
theorem lX0_73 : MS RX0 73 mJ9_abs_0f7a4 1 := msJ9_abs_0f7a4 _ _ (Or.inl (List.mem_of_getElem? (i := 842) (by decide +kernel)))
theorem lL_119 : MV RL 119 mX11_settles 0 := mvX11_settles _ _ (Or.inl (List.mem_of_getElem? (i := 843) (by decide +kernel)))
theorem acX11_237 : Cond.methodLink RX11 237 arraycopyName ∈ lw_tbl := List.mem_of_getElem? (i := 847) (by decide +kernel)
theorem lL_123 : MV RL 123 mX11_type 1 := mvX11_type _ _ (Or.inl (List.mem_of_getElem? (i := 848) (by decide +kernel)))
theorem lX11_243 : MV RX11 243 mX7_append 1 := mvX7_append _ _ (Or.inl (List.mem_of_getElem? (i := 852) (by decide +kernel)))
theorem lX7_34 : MS RX7 34 mX11_isWithin 3 := msX11_isWithin _ _ (Or.inr ⟨"GestureBook", List.mem_of_getElem? (i := 856) (by decide +kernel)⟩)
theorem lL_127 : MV RL 127 mX11_clear 0 := mvX11_clear _ _ (Or.inl (List.mem_of_getElem? (i := 857) (by decide +kernel)))
theorem lX11_246 : MV RX11 246 mX7_empty 0 := mvX7_empty _ _ (Or.inl (List.mem_of_getElem? (i := 861) (by decide +kernel)))
theorem lL_131 : MV RL 131 mX11_reads 0 := mvX11_reads _ _ (Or.inl (List.mem_of_getElem? (i := 865) (by decide +kernel)))
theorem lX11_249 : MV RX11 249 mX7_parse 0 := mvX7_parse _ _ (Or.inl (List.mem_of_getElem? (i := 869) (by decide +kernel)))
theorem lX7_42 : MV RX7 42 mX7_skipBlanks 0 := mvX7_skipBlanks _ _ (Or.inl (List.mem_of_getElem? (i := 873) (by decide +kernel)))
theorem lX7_45 : MV RX7 45 mX7_parseOrder 1 := mvX7_parseOrder _ _ (Or.inl (List.mem_of_getElem? (i := 877) (by decide +kernel)))
theorem lX7_49 : MV RX7 49 mX7_current 0 := mvX7_current _ _ (Or.inl (List.mem_of_getElem? (i := 881) (by decide +kernel)))
theorem lX7_53 : MS RX7 53 mX7_mostNumbers 1 := msX7_mostNumbers _ _ (Or.inl (List.mem_of_getElem? (i := 885) (by decide +kernel)))
theorem lX7_56 : MV RX7 56 mX7_isAtDigit 0 := mvX7_isAtDigit _ _ (Or.inl (List.mem_of_getElem? (i := 888) (by decide +kernel)))
theorem lX7_60 : MV RX7 60 mX7_parseNumber 2 := mvX7_parseNumber _ _ (Or.inl (List.mem_of_getElem? (i := 892) (by decide +kernel)))
theorem lX11_255 : MV RX11 255 mX11_execute 1 := mvX11_execute _ _ (Or.inl (List.mem_of_getElem? (i := 896) (by decide +kernel)))
theorem lX11_283 : MV RX11 283 mX7_number 2 := mvX7_number _ _ (Or.inl (List.mem_of_getElem? (i := 900) (by decide +kernel)))
theorem lX7_38 : MV RX7 38 mX7_numbers 1 := mvX7_numbers _ _ (Or.inl (List.mem_of_getElem? (i := 904) (by decide +kernel)))
theorem lX11_285 : MV RX11 285 mX7_letter 1 := mvX7_letter _ _ (Or.inl (List.mem_of_getElem? (i := 908) (by decide +kernel)))
theorem lX11_288 : MV RX11 288 mX7_numbers 1 := mvX7_numbers _ _ (Or.inl (List.mem_of_getElem? (i := 912) (by decide +kernel)))
theorem lX11_291 : MV RX11 291 mX9_layAll 2 := mvX9_layAll _ _ (Or.inl (List.mem_of_getElem? (i := 913) (by decide +kernel)))
theorem lX9_75 : MV RX9 75 mX7_number 2 := mvX7_number _ _ (Or.inl (List.mem_of_getElem? (i := 917) (by decide +kernel)))
theorem lX11_258 : MV RX11 258 mX5_unstage 1 := mvX5_unstage _ _ (Or.inl (List.mem_of_getElem? (i := 918) (by decide +kernel)))
theorem lL_135 : MV RL 135 mX11_back 0 := mvX11_back _ _ (Or.inl (List.mem_of_getElem? (i := 922) (by decide +kernel)))
theorem lX11_261 : MV RX11 261 mX5_restore 1 := mvX5_restore _ _ (Or.inl (List.mem_of_getElem? (i := 926) (by decide +kernel)))
theorem lL_139 : MV RL 139 mX11_told 1 := mvX11_told _ _ (Or.inl (List.mem_of_getElem? (i := 930) (by decide +kernel)))
theorem lX11_264 : MV RX11 264 mX11_figure 1 := mvX11_figure _ _ (Or.inl (List.mem_of_getElem? (i := 934) (by decide +kernel)))
theorem lX11_351 : MV RX11 351 mX3_weightOf 1 := mvX3_weightOf _ _ (Or.inl (List.mem_of_getElem? (i := 938) (by decide +kernel)))
theorem lL_143 : MV RL 143 mX11_digest 0 := mvX11_digest _ _ (Or.inl (List.mem_of_getElem? (i := 942) (by decide +kernel)))
theorem kX11_267 : Cond.constantLong RX11 267 (JL (2287)) ∈ lw_tbl := List.mem_of_getElem? (i := 946) (by decide +kernel)
theorem lX11_269 : MS RX11 269 mX11_mixed 2 := msX11_mixed _ _ (Or.inl (List.mem_of_getElem? (i := 947) (by decide +kernel)))
theorem kX11_354 : Cond.constantLong RX11 354 (JL (31)) ∈ lw_tbl := List.mem_of_getElem? (i := 950) (by decide +kernel)
theorem lX11_273 : MV RX11 273 mX11_withSigns 1 := mvX11_withSigns _ _ (Or.inl (List.mem_of_getElem? (i := 951) (by decide +kernel)))
theorem lX11_277 : MV RX11 277 mX11_withWords 1 := mvX11_withWords _ _ (Or.inl (List.mem_of_getElem? (i := 955) (by decide +kernel)))
theorem lL_12 : MI RL 12 mX12_init 0 := miX12_init _ _ (Or.inl (List.mem_of_getElem? (i := 961) (by decide +kernel)))
theorem flX12_7 : FL RX12 7 12 0 true (.array .int) := ⟨RX12, TX12, 13, tyX12, cd12, by decide, rfl, rfl, Or.inl (List.mem_of_getElem? (i := 965) (by decide +kernel))⟩
theorem flX12_34 : FL RX12 34 12 1 false (.int) := ⟨RX12, TX12, 13, tyX12, cd12, by decide, rfl, rfl, Or.inl (List.mem_of_getElem? (i := 966) (by decide +kernel))⟩
theorem flX12_13 : FL RX12 13 12 2 true (.array .int) := ⟨RX12, TX12, 13, tyX12, cd12, by decide, rfl, rfl, Or.inl (List.mem_of_getElem? (i := 967) (by decide +kernel))⟩
theorem flX12_16 : FL RX12 16 12 3 true (.array .int) := ⟨RX12, TX12, 13, tyX12, cd12, by decide, rfl, rfl, Or.inl (List.mem_of_getElem? (i := 968) (by decide +kernel))⟩
theorem flX12_251 : FL RX12 251 12 4 false (.int) := ⟨RX12, TX12, 13, tyX12, cd12, by decide, rfl, rfl, Or.inl (List.mem_of_getElem? (i := 969) (by decide +kernel))⟩
theorem flX12_99 : FL RX12 99 12 5 false (.long) := ⟨RX12, TX12, 13, tyX12, cd12, by decide, rfl, rfl, Or.inl (List.mem_of_getElem? (i := 970) (by decide +kernel))⟩
theorem flX12_19 : FL RX12 19 12 6 true (.array .int) := ⟨RX12, TX12, 13, tyX12, cd12, by decide, rfl, rfl, Or.inl (List.mem_of_getElem? (i := 971) (by decide +kernel))⟩
theorem flX12_22 : FL RX12 22 12 7 true (.array .int) := ⟨RX12, TX12, 13, tyX12, cd12, by decide, rfl, rfl, Or.inl (List.mem_of_getElem? (i := 972) (by decide +kernel))⟩
theorem flX12_254 : FL RX12 254 12 8 false (.int) := ⟨RX12, TX12, 13, tyX12, cd12, by decide, rfl, rfl, Or.inl (List.mem_of_getElem? (i := 973) (by decide +kernel))⟩
theorem flX12_274 : FL RX12 274 12 9 false (.int) := ⟨RX12, TX12, 13, tyX12, cd12, by decide, rfl, rfl, Or.inl (List.mem_of_getElem? (i := 974) (by decide +kernel))⟩
theorem flX12_25 : FL RX12 25 12 10 true (.array .int) := ⟨RX12, TX12, 13, tyX12, cd12, by decide, rfl, rfl, Or.inl (List.mem_of_getElem? (i := 975) (by decide +kernel))⟩
theorem flX12_28 : FL RX12 28 12 11 true (.array .int) := ⟨RX12, TX12, 13, tyX12, cd12, by decide, rfl, rfl, Or.inl (List.mem_of_getElem? (i := 976) (by decide +kernel))⟩
theorem flX12_31 : FL RX12 31 12 12 true (.array .int) := ⟨RX12, TX12, 13, tyX12, cd12, by decide, rfl, rfl, Or.inl (List.mem_of_getElem? (i := 977) (by decide +kernel))⟩
theorem lL_17 : MV RL 17 mX12_sign 5 := mvX12_sign _ _ (Or.inl (List.mem_of_getElem? (i := 1005) (by decide +kernel)))
theorem lX12_66 : MV RX12 66 mX12_canSign 5 := mvX12_canSign _ _ (Or.inl (List.mem_of_getElem? (i := 1009) (by decide +kernel)))
theorem lX12_56 : MS RX12 56 mX12_areParts 4 := msX12_areParts _ _ (Or.inl (List.mem_of_getElem? (i := 1013) (by decide +kernel)))
theorem lX12_48 : MS RX12 48 mX12_isPart 1 := msX12_isPart _ _ (Or.inl (List.mem_of_getElem? (i := 1016) (by decide +kernel)))
theorem kX12_46 : Cond.constantLong RX12 46 (JL (7)) ∈ lw_tbl := List.mem_of_getElem? (i := 1019) (by decide +kernel)
theorem lX12_42 : MS RX12 42 mX12_in 3 := msX12_in _ _ (Or.inl (List.mem_of_getElem? (i := 1020) (by decide +kernel)))
theorem kX12_60 : Cond.constantLong RX12 60 (JL (3)) ∈ lw_tbl := List.mem_of_getElem? (i := 1023) (by decide +kernel)
theorem lX12_62 : MV RX12 62 mX12_signOf 5 := mvX12_signOf _ _ (Or.inl (List.mem_of_getElem? (i := 1024) (by decide +kernel)))
theorem lX12_52 : MV RX12 52 mX12_part 2 := mvX12_part _ _ (Or.inl (List.mem_of_getElem? (i := 1028) (by decide +kernel)))
theorem lX12_69 : MV RX12 69 mX12_refuses 1 := mvX12_refuses _ _ (Or.inl (List.mem_of_getElem? (i := 1032) (by decide +kernel)))
theorem lX12_73 : MV RX12 73 mX12_minds 0 := mvX12_minds _ _ (Or.inl (List.mem_of_getElem? (i := 1036) (by decide +kernel)))
theorem lX12_38 : MV RX12 38 mX12_copy 2 := mvX12_copy _ _ (Or.inl (List.mem_of_getElem? (i := 1040) (by decide +kernel)))
theorem lX12_76 : MV RX12 76 mX12_adds 5 := mvX12_adds _ _ (Or.inl (List.mem_of_getElem? (i := 1044) (by decide +kernel)))
theorem lL_22 : MV RL 22 mX12_becomes 3 := mvX12_becomes _ _ (Or.inl (List.mem_of_getElem? (i := 1048) (by decide +kernel)))
theorem lX12_79 : MV RX12 79 mX12_isSign 1 := mvX12_isSign _ _ (Or.inl (List.mem_of_getElem? (i := 1052) (by decide +kernel)))
theorem kX12_82 : Cond.constantLong RX12 82 (JL (4)) ∈ lw_tbl := List.mem_of_getElem? (i := 1056) (by decide +kernel)
theorem lL_27 : MV RL 27 mX12_drops 1 := mvX12_drops _ _ (Or.inl (List.mem_of_getElem? (i := 1057) (by decide +kernel)))
theorem lX12_87 : MV RX12 87 mX12_canDrop 1 := mvX12_canDrop _ _ (Or.inl (List.mem_of_getElem? (i := 1061) (by decide +kernel)))
theorem lX12_84 : MV RX12 84 mX12_wordsWith 1 := mvX12_wordsWith _ _ (Or.inl (List.mem_of_getElem? (i := 1065) (by decide +kernel)))
theorem lX12_90 : MV RX12 90 mX12_goes 1 := mvX12_goes _ _ (Or.inl (List.mem_of_getElem? (i := 1069) (by decide +kernel)))
theorem lL_32 : MV RL 32 mX12_weight 2 := mvX12_weight _ _ (Or.inl (List.mem_of_getElem? (i := 1073) (by decide +kernel)))
theorem lX12_95 : MS RX12 95 mX12_isWeight 2 := msX12_isWeight _ _ (Or.inl (List.mem_of_getElem? (i := 1077) (by decide +kernel)))
theorem kX12_93 : Cond.constantLong RX12 93 (JL (5)) ∈ lw_tbl := List.mem_of_getElem? (i := 1080) (by decide +kernel)
theorem lL_36 : MV RL 36 mX12_draws 2 := mvX12_draws _ _ (Or.inl (List.mem_of_getElem? (i := 1081) (by decide +kernel)))
theorem kX12_113 : Cond.constantLong RX12 113 (JL (999999)) ∈ lw_tbl := List.mem_of_getElem? (i := 1085) (by decide +kernel)
theorem kX12_115 : Cond.constantLong RX12 115 (JL (16)) ∈ lw_tbl := List.mem_of_getElem? (i := 1086) (by decide +kernel)
theorem lX12_117 : MV RX12 117 mX12_next 0 := mvX12_next _ _ (Or.inl (List.mem_of_getElem? (i := 1087) (by decide +kernel)))
theorem kX12_103 : Cond.constantLong RX12 103 (JL (1103515245)) ∈ lw_tbl := List.mem_of_getElem? (i := 1091) (by decide +kernel)
theorem kX12_105 : Cond.constantLong RX12 105 (JL (12345)) ∈ lw_tbl := List.mem_of_getElem? (i := 1092) (by decide +kernel)
theorem kX12_107 : Cond.constantLong RX12 107 (JL (2147483648)) ∈ lw_tbl := List.mem_of_getElem? (i := 1093) (by decide +kernel)
theorem kX12_109 : Cond.constantLong RX12 109 (JL (65536)) ∈ lw_tbl := List.mem_of_getElem? (i := 1094) (by decide +kernel)
theorem kX12_111 : Cond.constantLong RX12 111 (JL (8)) ∈ lw_tbl := List.mem_of_getElem? (i := 1095) (by decide +kernel)
theorem lL_40 : MV RL 40 mX12_of 2 := mvX12_of _ _ (Or.inl (List.mem_of_getElem? (i := 1096) (by decide +kernel)))
theorem lL_44 : MV RL 44 mX12_apart 3 := mvX12_apart _ _ (Or.inl (List.mem_of_getElem? (i := 1100) (by decide +kernel)))
theorem lX12_134 : MV RX12 134 mX12_between 2 := mvX12_between _ _ (Or.inl (List.mem_of_getElem? (i := 1104) (by decide +kernel)))
theorem lX12_131 : MV RX12 131 mX12_apartOf 5 := mvX12_apartOf _ _ (Or.inl (List.mem_of_getElem? (i := 1108) (by decide +kernel)))
theorem lX12_127 : MS RX12 127 mX12_apartBy 3 := msX12_apartBy _ _ (Or.inl (List.mem_of_getElem? (i := 1112) (by decide +kernel)))
theorem lX12_121 : MS RX12 121 mX12_ones 1 := msX12_ones _ _ (Or.inl (List.mem_of_getElem? (i := 1115) (by decide +kernel)))
theorem lX12_124 : MS RX12 124 mX12_off 2 := msX12_off _ _ (Or.inl (List.mem_of_getElem? (i := 1118) (by decide +kernel)))
theorem lL_49 : MV RL 49 mX12_look 4 := mvX12_look _ _ (Or.inl (List.mem_of_getElem? (i := 1121) (by decide +kernel)))
theorem lX12_139 : MS RX12 139 mX12_isAsked 1 := msX12_isAsked _ _ (Or.inl (List.mem_of_getElem? (i := 1125) (by decide +kernel)))
theorem kX12_137 : Cond.constantLong RX12 137 (JL (-1)) ∈ lw_tbl := List.mem_of_getElem? (i := 1128) (by decide +kernel)
theorem lX12_142 : MV RX12 142 mX12_isSo 3 := mvX12_isSo _ _ (Or.inl (List.mem_of_getElem? (i := 1129) (by decide +kernel)))
theorem lL_53 : MV RL 53 mX12_near 2 := mvX12_near _ _ (Or.inl (List.mem_of_getElem? (i := 1133) (by decide +kernel)))
theorem kX12_146 : Cond.constantLong RX12 146 (JL (99)) ∈ lw_tbl := List.mem_of_getElem? (i := 1137) (by decide +kernel)
theorem lX12_148 : MV RX12 148 mX12_nearOf 2 := mvX12_nearOf _ _ (Or.inl (List.mem_of_getElem? (i := 1138) (by decide +kernel)))
theorem lL_57 : MV RL 57 mX12_nearest 4 := mvX12_nearest _ _ (Or.inl (List.mem_of_getElem? (i := 1142) (by decide +kernel)))
theorem lL_61 : MV RL 61 mX12_sorts 1 := mvX12_sorts _ _ (Or.inl (List.mem_of_getElem? (i := 1146) (by decide +kernel)))
theorem lL_65 : MV RL 65 mX12_groups 2 := mvX12_groups _ _ (Or.inl (List.mem_of_getElem? (i := 1150) (by decide +kernel)))
theorem lX12_151 : MS RX12 151 mX12_has 2 := msX12_has _ _ (Or.inl (List.mem_of_getElem? (i := 1154) (by decide +kernel)))
theorem lX12_154 : MV RX12 154 mX12_group 2 := mvX12_group _ _ (Or.inl (List.mem_of_getElem? (i := 1157) (by decide +kernel)))
theorem lL_69 : MV RL 69 mX12_twins 1 := mvX12_twins _ _ (Or.inl (List.mem_of_getElem? (i := 1161) (by decide +kernel)))
theorem lX12_160 : MV RX12 160 mX12_twinsBy 1 := mvX12_twinsBy _ _ (Or.inl (List.mem_of_getElem? (i := 1165) (by decide +kernel)))
theorem lX12_157 : MV RX12 157 mX12_unlike 2 := mvX12_unlike _ _ (Or.inl (List.mem_of_getElem? (i := 1169) (by decide +kernel)))
theorem lL_73 : MV RL 73 mX12_enough 1 := mvX12_enough _ _ (Or.inl (List.mem_of_getElem? (i := 1173) (by decide +kernel)))
theorem kX12_166 : Cond.constantLong RX12 166 (JL (15)) ∈ lw_tbl := List.mem_of_getElem? (i := 1177) (by decide +kernel)
theorem lX12_168 : MV RX12 168 mX12_leastEnough 0 := mvX12_leastEnough _ _ (Or.inl (List.mem_of_getElem? (i := 1178) (by decide +kernel)))
theorem lX12_163 : MV RX12 163 mX12_isEnough 1 := mvX12_isEnough _ _ (Or.inl (List.mem_of_getElem? (i := 1182) (by decide +kernel)))
theorem lL_77 : MV RL 77 mX12_span 1 := mvX12_span _ _ (Or.inl (List.mem_of_getElem? (i := 1186) (by decide +kernel)))
theorem lL_81 : MV RL 81 mX12_word 3 := mvX12_word _ _ (Or.inl (List.mem_of_getElem? (i := 1190) (by decide +kernel)))
theorem lX12_174 : MV RX12 174 mX12_canSay 3 := mvX12_canSay _ _ (Or.inl (List.mem_of_getElem? (i := 1194) (by decide +kernel)))
theorem lX12_177 : MV RX12 177 mX12_says 3 := mvX12_says _ _ (Or.inl (List.mem_of_getElem? (i := 1198) (by decide +kernel)))
theorem lL_85 : MV RL 85 mX12_cuts 1 := mvX12_cuts _ _ (Or.inl (List.mem_of_getElem? (i := 1202) (by decide +kernel)))
theorem lX12_180 : MV RX12 180 mX12_isWord 1 := mvX12_isWord _ _ (Or.inl (List.mem_of_getElem? (i := 1206) (by decide +kernel)))
theorem lL_89 : MV RL 89 mX12_shifts 2 := mvX12_shifts _ _ (Or.inl (List.mem_of_getElem? (i := 1210) (by decide +kernel)))
theorem lX12_183 : MV RX12 183 mX12_swaps 2 := mvX12_swaps _ _ (Or.inl (List.mem_of_getElem? (i := 1214) (by decide +kernel)))
theorem lX12_171 : MV RX12 171 mX12_said 2 := mvX12_said _ _ (Or.inl (List.mem_of_getElem? (i := 1218) (by decide +kernel)))
theorem lL_94 : MV RL 94 mX12_clears 0 := mvX12_clears _ _ (Or.inl (List.mem_of_getElem? (i := 1222) (by decide +kernel)))
theorem lX12_186 : MV RX12 186 mX12_clearsAll 0 := mvX12_clearsAll _ _ (Or.inl (List.mem_of_getElem? (i := 1226) (by decide +kernel)))
theorem lL_98 : MV RL 98 mX12_wordOf 2 := mvX12_wordOf _ _ (Or.inl (List.mem_of_getElem? (i := 1230) (by decide +kernel)))
theorem kX12_204 : Cond.constantLong RX12 204 (JL (6)) ∈ lw_tbl := List.mem_of_getElem? (i := 1234) (by decide +kernel)
theorem lX12_206 : MV RX12 206 mX12_wordIs 2 := mvX12_wordIs _ _ (Or.inl (List.mem_of_getElem? (i := 1235) (by decide +kernel)))
theorem lX12_189 : MV RX12 189 mX12_sortOf 1 := mvX12_sortOf _ _ (Or.inl (List.mem_of_getElem? (i := 1239) (by decide +kernel)))
theorem lX12_198 : MV RX12 198 mX12_clauseOf 1 := mvX12_clauseOf _ _ (Or.inl (List.mem_of_getElem? (i := 1243) (by decide +kernel)))
theorem lX12_201 : MV RX12 201 mX12_isVain 1 := mvX12_isVain _ _ (Or.inl (List.mem_of_getElem? (i := 1247) (by decide +kernel)))
theorem lX12_195 : MV RX12 195 mX12_meant 2 := mvX12_meant _ _ (Or.inl (List.mem_of_getElem? (i := 1251) (by decide +kernel)))
theorem lX12_192 : MV RX12 192 mX12_atSpot 2 := mvX12_atSpot _ _ (Or.inl (List.mem_of_getElem? (i := 1255) (by decide +kernel)))
theorem lL_102 : MV RL 102 mX12_at 2 := mvX12_at _ _ (Or.inl (List.mem_of_getElem? (i := 1259) (by decide +kernel)))
theorem lX12_209 : MS RX12 209 mX12_isSpot 1 := msX12_isSpot _ _ (Or.inl (List.mem_of_getElem? (i := 1263) (by decide +kernel)))
theorem lL_106 : MV RL 106 mX12_all 1 := mvX12_all _ _ (Or.inl (List.mem_of_getElem? (i := 1266) (by decide +kernel)))
theorem lX12_215 : MV RX12 215 mX12_clauses 0 := mvX12_clauses _ _ (Or.inl (List.mem_of_getElem? (i := 1270) (by decide +kernel)))
theorem lX12_224 : MV RX12 224 mX12_vain 0 := mvX12_vain _ _ (Or.inl (List.mem_of_getElem? (i := 1274) (by decide +kernel)))
theorem lX12_227 : MV RX12 227 mX12_swapsOfAll 0 := mvX12_swapsOfAll _ _ (Or.inl (List.mem_of_getElem? (i := 1278) (by decide +kernel)))
theorem lX12_212 : MV RX12 212 mX12_rank 1 := mvX12_rank _ _ (Or.inl (List.mem_of_getElem? (i := 1282) (by decide +kernel)))
theorem lX12_230 : MV RX12 230 mX12_moved 0 := mvX12_moved _ _ (Or.inl (List.mem_of_getElem? (i := 1286) (by decide +kernel)))
theorem lX12_218 : MV RX12 218 mX12_ordered 1 := mvX12_ordered _ _ (Or.inl (List.mem_of_getElem? (i := 1290) (by decide +kernel)))
theorem lX12_233 : MV RX12 233 mX12_wayNow 0 := mvX12_wayNow _ _ (Or.inl (List.mem_of_getElem? (i := 1294) (by decide +kernel)))
theorem lX12_221 : MV RX12 221 mX12_way 0 := mvX12_way _ _ (Or.inl (List.mem_of_getElem? (i := 1298) (by decide +kernel)))
theorem lX12_236 : MV RX12 236 mX12_spots 0 := mvX12_spots _ _ (Or.inl (List.mem_of_getElem? (i := 1302) (by decide +kernel)))
theorem lL_110 : MV RL 110 mX12_lays 2 := mvX12_lays _ _ (Or.inl (List.mem_of_getElem? (i := 1306) (by decide +kernel)))
theorem lX12_239 : MV RX12 239 mX12_spotAt 1 := mvX12_spotAt _ _ (Or.inl (List.mem_of_getElem? (i := 1310) (by decide +kernel)))
theorem lL_114 : MV RL 114 mX12_lay 1 := mvX12_lay _ _ (Or.inl (List.mem_of_getElem? (i := 1314) (by decide +kernel)))
theorem lL_118 : MV RL 118 mX12_best 1 := mvX12_best _ _ (Or.inl (List.mem_of_getElem? (i := 1318) (by decide +kernel)))
theorem lX12_246 : MV RX12 246 mX12_bestWay 0 := mvX12_bestWay _ _ (Or.inl (List.mem_of_getElem? (i := 1322) (by decide +kernel)))
theorem lX12_242 : MV RX12 242 mX12_tries 1 := mvX12_tries _ _ (Or.inl (List.mem_of_getElem? (i := 1326) (by decide +kernel)))
theorem lL_122 : MV RL 122 mX12_settles 0 := mvX12_settles _ _ (Or.inl (List.mem_of_getElem? (i := 1330) (by decide +kernel)))
theorem lL_126 : MV RL 126 mX12_type 1 := mvX12_type _ _ (Or.inl (List.mem_of_getElem? (i := 1334) (by decide +kernel)))
theorem kX12_249 : Cond.constantLong RX12 249 (JL (127)) ∈ lw_tbl := List.mem_of_getElem? (i := 1338) (by decide +kernel)
theorem lL_130 : MV RL 130 mX12_clear 0 := mvX12_clear _ _ (Or.inl (List.mem_of_getElem? (i := 1339) (by decide +kernel)))
theorem lL_134 : MV RL 134 mX12_reads 0 := mvX12_reads _ _ (Or.inl (List.mem_of_getElem? (i := 1343) (by decide +kernel)))
theorem lX12_283 : MV RX12 283 mX12_readsAll 0 := mvX12_readsAll _ _ (Or.inl (List.mem_of_getElem? (i := 1347) (by decide +kernel)))
theorem lX12_267 : MV RX12 267 mX12_blanks 0 := mvX12_blanks _ _ (Or.inl (List.mem_of_getElem? (i := 1351) (by decide +kernel)))
theorem lX12_257 : MV RX12 257 mX12_byteHere 0 := mvX12_byteHere _ _ (Or.inl (List.mem_of_getElem? (i := 1355) (by decide +kernel)))
theorem lX12_277 : MV RX12 277 mX12_readsOrder 0 := mvX12_readsOrder _ _ (Or.inl (List.mem_of_getElem? (i := 1359) (by decide +kernel)))
theorem lX12_264 : MS RX12 264 mX12_least 1 := msX12_least _ _ (Or.inl (List.mem_of_getElem? (i := 1363) (by decide +kernel)))
theorem lX12_270 : MV RX12 270 mX12_isFigure 0 := mvX12_isFigure _ _ (Or.inl (List.mem_of_getElem? (i := 1366) (by decide +kernel)))
theorem kX12_260 : Cond.constantLong RX12 260 (JL (48)) ∈ lw_tbl := List.mem_of_getElem? (i := 1370) (by decide +kernel)
theorem kX12_262 : Cond.constantLong RX12 262 (JL (57)) ∈ lw_tbl := List.mem_of_getElem? (i := 1371) (by decide +kernel)
theorem lX12_286 : MV RX12 286 mX12_does 1 := mvX12_does _ _ (Or.inl (List.mem_of_getElem? (i := 1372) (by decide +kernel)))
theorem lX12_280 : MV RX12 280 mX12_laysAll 1 := mvX12_laysAll _ _ (Or.inl (List.mem_of_getElem? (i := 1376) (by decide +kernel)))
theorem lL_138 : MV RL 138 mX12_back 0 := mvX12_back _ _ (Or.inl (List.mem_of_getElem? (i := 1380) (by decide +kernel)))
theorem lL_142 : MV RL 142 mX12_told 1 := mvX12_told _ _ (Or.inl (List.mem_of_getElem? (i := 1384) (by decide +kernel)))
theorem kX12_289 : Cond.constantLong RX12 289 (JL (10)) ∈ lw_tbl := List.mem_of_getElem? (i := 1388) (by decide +kernel)
theorem lX12_291 : MV RX12 291 mX12_tells 1 := mvX12_tells _ _ (Or.inl (List.mem_of_getElem? (i := 1389) (by decide +kernel)))
theorem lL_147 : MV RL 147 mX12_digest 0 := mvX12_digest _ _ (Or.inl (List.mem_of_getElem? (i := 1393) (by decide +kernel)))
theorem kX12_294 : Cond.constantLong RX12 294 (JL (2287)) ∈ lw_tbl := List.mem_of_getElem? (i := 1397) (by decide +kernel)
theorem kX12_296 : Cond.constantLong RX12 296 (JL (31)) ∈ lw_tbl := List.mem_of_getElem? (i := 1398) (by decide +kernel)
theorem lX12_298 : MV RX12 298 mX12_all 1 := mvX12_all _ _ (Or.inl (List.mem_of_getElem? (i := 1399) (by decide +kernel)))
theorem ac_n : Cond.native arraycopyName ∈ lw_tbl := List.mem_of_getElem? (i := 374) (by decide +kernel)
theorem ac_s : Cond.static arraycopyName ∈ lw_tbl := List.mem_of_getElem? (i := 373) (by decide +kernel)
theorem ac_i : Cond.initialized "java/lang/System" ∈ lw_tbl := List.mem_of_getElem? (i := 97) (by decide +kernel)
