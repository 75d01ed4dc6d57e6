/-! fields -/
theorem fX8_9 : FS RX8 9 7 0 := ⟨(RX8, TX8, 2), "CornBarn$Tape", rfl, by decide, (tb_in 134 (by decide +kernel) rfl), Or.inl rfl⟩
theorem pX8_9 : FP RX8 9 7 0 (.array .int) true := ⟨(RX8, TX8, 2), "CornBarn$Tape", rfl, by decide, (tb_in 134 (by decide +kernel) rfl), Or.inl rfl, by decide +kernel, rfl, fun _ => rfl⟩
theorem fX3_27 : FS RX3 27 7 0 := ⟨(RX8, TX8, 2), "CornBarn$Tape", rfl, by decide, (tb_in 135 (by decide +kernel) rfl), Or.inl rfl⟩
theorem fX10_83 : FS RX10 83 7 1 := ⟨(RX8, TX8, 2), "CornBarn$Tape", rfl, by decide, (tb_in 136 (by decide +kernel) rfl), Or.inl rfl⟩
theorem pX10_83 : FP RX10 83 7 1 (.int) false := ⟨(RX8, TX8, 2), "CornBarn$Tape", rfl, by decide, (tb_in 136 (by decide +kernel) rfl), Or.inl rfl, by decide +kernel, rfl, fun h => by cases h⟩
theorem fX3_22 : FS RX3 22 7 1 := ⟨(RX8, TX8, 2), "CornBarn$Tape", rfl, by decide, (tb_in 137 (by decide +kernel) rfl), Or.inl rfl⟩
theorem pX3_22 : FP RX3 22 7 1 (.int) false := ⟨(RX8, TX8, 2), "CornBarn$Tape", rfl, by decide, (tb_in 137 (by decide +kernel) rfl), Or.inl rfl, by decide +kernel, rfl, fun h => by cases h⟩
theorem fX8_15 : FS RX8 15 7 1 := ⟨(RX8, TX8, 2), "CornBarn$Tape", rfl, by decide, (tb_in 138 (by decide +kernel) rfl), Or.inl rfl⟩
theorem pX8_15 : FP RX8 15 7 1 (.int) false := ⟨(RX8, TX8, 2), "CornBarn$Tape", rfl, by decide, (tb_in 138 (by decide +kernel) rfl), Or.inl rfl, by decide +kernel, rfl, fun _ => rfl⟩
theorem fX1_9 : FS RX1 9 1 3 := ⟨(RX1, TX1, 15), "CornBarn$LandReader", rfl, by decide, (tb_in 154 (by decide +kernel) rfl), Or.inl rfl⟩
theorem pX1_9 : FP RX1 9 1 3 (.array .int) true := ⟨(RX1, TX1, 15), "CornBarn$LandReader", rfl, by decide, (tb_in 154 (by decide +kernel) rfl), Or.inl rfl, by decide +kernel, rfl, fun _ => rfl⟩
theorem fX0_96 : FS RX0 96 1 3 := ⟨(RX1, TX1, 15), "CornBarn$LandReader", rfl, by decide, (tb_in 155 (by decide +kernel) rfl), Or.inl rfl⟩
theorem fX1_15 : FS RX1 15 1 4 := ⟨(RX1, TX1, 15), "CornBarn$LandReader", rfl, by decide, (tb_in 156 (by decide +kernel) rfl), Or.inl rfl⟩
theorem pX1_15 : FP RX1 15 1 4 (.array .int) true := ⟨(RX1, TX1, 15), "CornBarn$LandReader", rfl, by decide, (tb_in 156 (by decide +kernel) rfl), Or.inl rfl, by decide +kernel, rfl, fun _ => rfl⟩
theorem fX0_51 : FS RX0 51 1 4 := ⟨(RX1, TX1, 15), "CornBarn$LandReader", rfl, by decide, (tb_in 157 (by decide +kernel) rfl), Or.inl rfl⟩
theorem fX1_18 : FS RX1 18 1 5 := ⟨(RX1, TX1, 15), "CornBarn$LandReader", rfl, by decide, (tb_in 158 (by decide +kernel) rfl), Or.inl rfl⟩
theorem pX1_18 : FP RX1 18 1 5 (.array .int) true := ⟨(RX1, TX1, 15), "CornBarn$LandReader", rfl, by decide, (tb_in 158 (by decide +kernel) rfl), Or.inl rfl, by decide +kernel, rfl, fun _ => rfl⟩
theorem fX0_68 : FS RX0 68 1 5 := ⟨(RX1, TX1, 15), "CornBarn$LandReader", rfl, by decide, (tb_in 159 (by decide +kernel) rfl), Or.inl rfl⟩
theorem fX1_21 : FS RX1 21 1 6 := ⟨(RX1, TX1, 15), "CornBarn$LandReader", rfl, by decide, (tb_in 160 (by decide +kernel) rfl), Or.inl rfl⟩
theorem pX1_21 : FP RX1 21 1 6 (.array .int) true := ⟨(RX1, TX1, 15), "CornBarn$LandReader", rfl, by decide, (tb_in 160 (by decide +kernel) rfl), Or.inl rfl, by decide +kernel, rfl, fun _ => rfl⟩
theorem fX0_60 : FS RX0 60 1 6 := ⟨(RX1, TX1, 15), "CornBarn$LandReader", rfl, by decide, (tb_in 161 (by decide +kernel) rfl), Or.inl rfl⟩
theorem fX1_24 : FS RX1 24 1 7 := ⟨(RX1, TX1, 15), "CornBarn$LandReader", rfl, by decide, (tb_in 162 (by decide +kernel) rfl), Or.inl rfl⟩
theorem pX1_24 : FP RX1 24 1 7 (.array .int) true := ⟨(RX1, TX1, 15), "CornBarn$LandReader", rfl, by decide, (tb_in 162 (by decide +kernel) rfl), Or.inl rfl, by decide +kernel, rfl, fun _ => rfl⟩
theorem fX0_64 : FS RX0 64 1 7 := ⟨(RX1, TX1, 15), "CornBarn$LandReader", rfl, by decide, (tb_in 163 (by decide +kernel) rfl), Or.inl rfl⟩
theorem fX0_9 : FS RX0 9 1 8 := ⟨(RX1, TX1, 15), "CornBarn$LandReader", rfl, by decide, (tb_in 164 (by decide +kernel) rfl), Or.inl rfl⟩
theorem pX0_9 : FP RX0 9 1 8 (.int) false := ⟨(RX1, TX1, 15), "CornBarn$LandReader", rfl, by decide, (tb_in 164 (by decide +kernel) rfl), Or.inl rfl, by decide +kernel, rfl, fun h => by cases h⟩
theorem fX1_58 : FS RX1 58 1 8 := ⟨(RX1, TX1, 15), "CornBarn$LandReader", rfl, by decide, (tb_in 165 (by decide +kernel) rfl), Or.inl rfl⟩
theorem pX1_58 : FP RX1 58 1 8 (.int) false := ⟨(RX1, TX1, 15), "CornBarn$LandReader", rfl, by decide, (tb_in 165 (by decide +kernel) rfl), Or.inl rfl, by decide +kernel, rfl, fun _ => rfl⟩
theorem fX0_87 : FS RX0 87 1 9 := ⟨(RX1, TX1, 15), "CornBarn$LandReader", rfl, by decide, (tb_in 166 (by decide +kernel) rfl), Or.inl rfl⟩
theorem pX0_87 : FP RX0 87 1 9 (.int) false := ⟨(RX1, TX1, 15), "CornBarn$LandReader", rfl, by decide, (tb_in 166 (by decide +kernel) rfl), Or.inl rfl, by decide +kernel, rfl, fun h => by cases h⟩
theorem fX1_62 : FS RX1 62 1 9 := ⟨(RX1, TX1, 15), "CornBarn$LandReader", rfl, by decide, (tb_in 167 (by decide +kernel) rfl), Or.inl rfl⟩
theorem pX1_62 : FP RX1 62 1 9 (.int) false := ⟨(RX1, TX1, 15), "CornBarn$LandReader", rfl, by decide, (tb_in 167 (by decide +kernel) rfl), Or.inl rfl, by decide +kernel, rfl, fun _ => rfl⟩
theorem fX0_18 : FS RX0 18 1 10 := ⟨(RX1, TX1, 15), "CornBarn$LandReader", rfl, by decide, (tb_in 168 (by decide +kernel) rfl), Or.inl rfl⟩
theorem pX0_18 : FP RX0 18 1 10 (.int) false := ⟨(RX1, TX1, 15), "CornBarn$LandReader", rfl, by decide, (tb_in 168 (by decide +kernel) rfl), Or.inl rfl, by decide +kernel, rfl, fun h => by cases h⟩
theorem fX1_65 : FS RX1 65 1 10 := ⟨(RX1, TX1, 15), "CornBarn$LandReader", rfl, by decide, (tb_in 169 (by decide +kernel) rfl), Or.inl rfl⟩
theorem pX1_65 : FP RX1 65 1 10 (.int) false := ⟨(RX1, TX1, 15), "CornBarn$LandReader", rfl, by decide, (tb_in 169 (by decide +kernel) rfl), Or.inl rfl, by decide +kernel, rfl, fun _ => rfl⟩
theorem fX0_22 : FS RX0 22 1 11 := ⟨(RX1, TX1, 15), "CornBarn$LandReader", rfl, by decide, (tb_in 170 (by decide +kernel) rfl), Or.inl rfl⟩
theorem pX0_22 : FP RX0 22 1 11 (.int) false := ⟨(RX1, TX1, 15), "CornBarn$LandReader", rfl, by decide, (tb_in 170 (by decide +kernel) rfl), Or.inl rfl, by decide +kernel, rfl, fun h => by cases h⟩
theorem fX1_68 : FS RX1 68 1 11 := ⟨(RX1, TX1, 15), "CornBarn$LandReader", rfl, by decide, (tb_in 171 (by decide +kernel) rfl), Or.inl rfl⟩
theorem pX1_68 : FP RX1 68 1 11 (.int) false := ⟨(RX1, TX1, 15), "CornBarn$LandReader", rfl, by decide, (tb_in 171 (by decide +kernel) rfl), Or.inl rfl, by decide +kernel, rfl, fun _ => rfl⟩
theorem fX0_26 : FS RX0 26 1 12 := ⟨(RX1, TX1, 15), "CornBarn$LandReader", rfl, by decide, (tb_in 172 (by decide +kernel) rfl), Or.inl rfl⟩
theorem pX0_26 : FP RX0 26 1 12 (.int) false := ⟨(RX1, TX1, 15), "CornBarn$LandReader", rfl, by decide, (tb_in 172 (by decide +kernel) rfl), Or.inl rfl, by decide +kernel, rfl, fun h => by cases h⟩
theorem fX1_71 : FS RX1 71 1 12 := ⟨(RX1, TX1, 15), "CornBarn$LandReader", rfl, by decide, (tb_in 173 (by decide +kernel) rfl), Or.inl rfl⟩
theorem pX1_71 : FP RX1 71 1 12 (.int) false := ⟨(RX1, TX1, 15), "CornBarn$LandReader", rfl, by decide, (tb_in 173 (by decide +kernel) rfl), Or.inl rfl, by decide +kernel, rfl, fun _ => rfl⟩
theorem fX1_74 : FS RX1 74 1 13 := ⟨(RX1, TX1, 15), "CornBarn$LandReader", rfl, by decide, (tb_in 174 (by decide +kernel) rfl), Or.inl rfl⟩
theorem pX1_74 : FP RX1 74 1 13 (.int) false := ⟨(RX1, TX1, 15), "CornBarn$LandReader", rfl, by decide, (tb_in 174 (by decide +kernel) rfl), Or.inl rfl, by decide +kernel, rfl, fun _ => rfl⟩
theorem fX1_96 : FS RX1 96 1 14 := ⟨(RX1, TX1, 15), "CornBarn$LandReader", rfl, by decide, (tb_in 175 (by decide +kernel) rfl), Or.inl rfl⟩
theorem pX1_96 : FP RX1 96 1 14 (.int) false := ⟨(RX1, TX1, 15), "CornBarn$LandReader", rfl, by decide, (tb_in 175 (by decide +kernel) rfl), Or.inl rfl, by decide +kernel, rfl, fun _ => rfl⟩
theorem fX3_9_c1 : FS RX3 9 1 0 := ⟨(RX1, TX1, 15), "CornBarn$Reader", rfl, by decide, (tb_in 176 (by decide +kernel) rfl), Or.inl rfl⟩
theorem pX3_9_c1 : FP RX3 9 1 0 (.object "CornBarn$Tape") true := ⟨(RX1, TX1, 15), "CornBarn$Reader", rfl, by decide, (tb_in 176 (by decide +kernel) rfl), Or.inl rfl, by decide +kernel, rfl, fun _ => rfl⟩
theorem fX3_9_c4 : FS RX3 9 4 0 := ⟨(RX5, TX5, 5), "CornBarn$Reader", rfl, by decide, (tb_in 176 (by decide +kernel) rfl), Or.inl rfl⟩
theorem pX3_9_c4 : FP RX3 9 4 0 (.object "CornBarn$Tape") true := ⟨(RX5, TX5, 5), "CornBarn$Reader", rfl, by decide, (tb_in 176 (by decide +kernel) rfl), Or.inl rfl, by decide +kernel, rfl, fun _ => rfl⟩
theorem fX3_15_c1 : FS RX3 15 1 1 := ⟨(RX1, TX1, 15), "CornBarn$Reader", rfl, by decide, (tb_in 177 (by decide +kernel) rfl), Or.inl rfl⟩
theorem pX3_15_c1 : FP RX3 15 1 1 (.int) false := ⟨(RX1, TX1, 15), "CornBarn$Reader", rfl, by decide, (tb_in 177 (by decide +kernel) rfl), Or.inl rfl, by decide +kernel, rfl, fun _ => rfl⟩
theorem fX3_15_c4 : FS RX3 15 4 1 := ⟨(RX5, TX5, 5), "CornBarn$Reader", rfl, by decide, (tb_in 177 (by decide +kernel) rfl), Or.inl rfl⟩
theorem pX3_15_c4 : FP RX3 15 4 1 (.int) false := ⟨(RX5, TX5, 5), "CornBarn$Reader", rfl, by decide, (tb_in 177 (by decide +kernel) rfl), Or.inl rfl, by decide +kernel, rfl, fun _ => rfl⟩
theorem fX1_99 : FS RX1 99 1 1 := ⟨(RX1, TX1, 15), "CornBarn$LandReader", rfl, by decide, (tb_in 178 (by decide +kernel) rfl), Or.inr (tb_in 179 (by decide +kernel) rfl)⟩
theorem pX1_99 : FP RX1 99 1 1 (.int) false := ⟨(RX1, TX1, 15), "CornBarn$LandReader", rfl, by decide, (tb_in 178 (by decide +kernel) rfl), Or.inr (tb_in 179 (by decide +kernel) rfl), by decide +kernel, rfl, fun h => by cases h⟩
theorem fX5_80 : FS RX5 80 4 1 := ⟨(RX5, TX5, 5), "CornBarn$RuleReader", rfl, by decide, (tb_in 180 (by decide +kernel) rfl), Or.inr (tb_in 181 (by decide +kernel) rfl)⟩
theorem pX5_80 : FP RX5 80 4 1 (.int) false := ⟨(RX5, TX5, 5), "CornBarn$RuleReader", rfl, by decide, (tb_in 180 (by decide +kernel) rfl), Or.inr (tb_in 181 (by decide +kernel) rfl), by decide +kernel, rfl, fun h => by cases h⟩
theorem fX3_19_c1 : FS RX3 19 1 2 := ⟨(RX1, TX1, 15), "CornBarn$Reader", rfl, by decide, (tb_in 182 (by decide +kernel) rfl), Or.inl rfl⟩
theorem pX3_19_c1 : FP RX3 19 1 2 (.int) false := ⟨(RX1, TX1, 15), "CornBarn$Reader", rfl, by decide, (tb_in 182 (by decide +kernel) rfl), Or.inl rfl, by decide +kernel, rfl, fun _ => rfl⟩
theorem fX3_19_c4 : FS RX3 19 4 2 := ⟨(RX5, TX5, 5), "CornBarn$Reader", rfl, by decide, (tb_in 182 (by decide +kernel) rfl), Or.inl rfl⟩
theorem pX3_19_c4 : FP RX3 19 4 2 (.int) false := ⟨(RX5, TX5, 5), "CornBarn$Reader", rfl, by decide, (tb_in 182 (by decide +kernel) rfl), Or.inl rfl, by decide +kernel, rfl, fun _ => rfl⟩
theorem fX5_11 : FS RX5 11 4 3 := ⟨(RX5, TX5, 5), "CornBarn$RuleReader", rfl, by decide, (tb_in 220 (by decide +kernel) rfl), Or.inl rfl⟩
theorem pX5_11 : FP RX5 11 4 3 (.array .int) true := ⟨(RX5, TX5, 5), "CornBarn$RuleReader", rfl, by decide, (tb_in 220 (by decide +kernel) rfl), Or.inl rfl, by decide +kernel, rfl, fun _ => rfl⟩
theorem fX5_15 : FS RX5 15 4 4 := ⟨(RX5, TX5, 5), "CornBarn$RuleReader", rfl, by decide, (tb_in 221 (by decide +kernel) rfl), Or.inl rfl⟩
theorem pX5_15 : FP RX5 15 4 4 (.int) false := ⟨(RX5, TX5, 5), "CornBarn$RuleReader", rfl, by decide, (tb_in 221 (by decide +kernel) rfl), Or.inl rfl, by decide +kernel, rfl, fun _ => rfl⟩
theorem fX6_9 : FS RX6 9 5 0 := ⟨(RX6, TX6, 2), "CornBarn$Spread", rfl, by decide, (tb_in 242 (by decide +kernel) rfl), Or.inl rfl⟩
theorem pX6_9 : FP RX6 9 5 0 (.array .long) false := ⟨(RX6, TX6, 2), "CornBarn$Spread", rfl, by decide, (tb_in 242 (by decide +kernel) rfl), Or.inl rfl, by decide +kernel, rfl, fun _ => rfl⟩
theorem fX6_15 : FS RX6 15 5 1 := ⟨(RX6, TX6, 2), "CornBarn$Spread", rfl, by decide, (tb_in 243 (by decide +kernel) rfl), Or.inl rfl⟩
theorem pX6_15 : FP RX6 15 5 1 (.array .long) false := ⟨(RX6, TX6, 2), "CornBarn$Spread", rfl, by decide, (tb_in 243 (by decide +kernel) rfl), Or.inl rfl, by decide +kernel, rfl, fun _ => rfl⟩
theorem fX9_9 : FS RX9 9 8 0 := ⟨(RX9, TX9, 8), "CornBarn$Town", rfl, by decide, (tb_in 257 (by decide +kernel) rfl), Or.inl rfl⟩
theorem pX9_9 : FP RX9 9 8 0 (.object "CornBarn$Plan") false := ⟨(RX9, TX9, 8), "CornBarn$Town", rfl, by decide, (tb_in 257 (by decide +kernel) rfl), Or.inl rfl, by decide +kernel, rfl, fun _ => rfl⟩
theorem fX7_39 : FS RX7 39 8 0 := ⟨(RX9, TX9, 8), "CornBarn$Town", rfl, by decide, (tb_in 258 (by decide +kernel) rfl), Or.inl rfl⟩
theorem pX7_39 : FP RX7 39 8 0 (.object "CornBarn$Plan") false := ⟨(RX9, TX9, 8), "CornBarn$Town", rfl, by decide, (tb_in 258 (by decide +kernel) rfl), Or.inl rfl, by decide +kernel, rfl, fun h => by cases h⟩
theorem fX9_29 : FS RX9 29 8 1 := ⟨(RX9, TX9, 8), "CornBarn$Town", rfl, by decide, (tb_in 259 (by decide +kernel) rfl), Or.inl rfl⟩
theorem pX9_29 : FP RX9 29 8 1 (.int) false := ⟨(RX9, TX9, 8), "CornBarn$Town", rfl, by decide, (tb_in 259 (by decide +kernel) rfl), Or.inl rfl, by decide +kernel, rfl, fun _ => rfl⟩
theorem fX7_78 : FS RX7 78 8 1 := ⟨(RX9, TX9, 8), "CornBarn$Town", rfl, by decide, (tb_in 260 (by decide +kernel) rfl), Or.inl rfl⟩
theorem pX7_78 : FP RX7 78 8 1 (.int) false := ⟨(RX9, TX9, 8), "CornBarn$Town", rfl, by decide, (tb_in 260 (by decide +kernel) rfl), Or.inl rfl, by decide +kernel, rfl, fun h => by cases h⟩
theorem fX9_38 : FS RX9 38 8 2 := ⟨(RX9, TX9, 8), "CornBarn$Town", rfl, by decide, (tb_in 261 (by decide +kernel) rfl), Or.inl rfl⟩
theorem pX9_38 : FP RX9 38 8 2 (.int) false := ⟨(RX9, TX9, 8), "CornBarn$Town", rfl, by decide, (tb_in 261 (by decide +kernel) rfl), Or.inl rfl, by decide +kernel, rfl, fun _ => rfl⟩
theorem fX7_81 : FS RX7 81 8 2 := ⟨(RX9, TX9, 8), "CornBarn$Town", rfl, by decide, (tb_in 262 (by decide +kernel) rfl), Or.inl rfl⟩
theorem pX7_81 : FP RX7 81 8 2 (.int) false := ⟨(RX9, TX9, 8), "CornBarn$Town", rfl, by decide, (tb_in 262 (by decide +kernel) rfl), Or.inl rfl, by decide +kernel, rfl, fun h => by cases h⟩
theorem fX9_51 : FS RX9 51 8 3 := ⟨(RX9, TX9, 8), "CornBarn$Town", rfl, by decide, (tb_in 263 (by decide +kernel) rfl), Or.inl rfl⟩
theorem pX9_51 : FP RX9 51 8 3 (.int) false := ⟨(RX9, TX9, 8), "CornBarn$Town", rfl, by decide, (tb_in 263 (by decide +kernel) rfl), Or.inl rfl, by decide +kernel, rfl, fun _ => rfl⟩
theorem fX7_65 : FS RX7 65 8 3 := ⟨(RX9, TX9, 8), "CornBarn$Town", rfl, by decide, (tb_in 264 (by decide +kernel) rfl), Or.inl rfl⟩
theorem pX7_65 : FP RX7 65 8 3 (.int) false := ⟨(RX9, TX9, 8), "CornBarn$Town", rfl, by decide, (tb_in 264 (by decide +kernel) rfl), Or.inl rfl, by decide +kernel, rfl, fun h => by cases h⟩
theorem fX9_23 : FS RX9 23 8 4 := ⟨(RX9, TX9, 8), "CornBarn$Town", rfl, by decide, (tb_in 265 (by decide +kernel) rfl), Or.inl rfl⟩
theorem pX9_23 : FP RX9 23 8 4 (.int) false := ⟨(RX9, TX9, 8), "CornBarn$Town", rfl, by decide, (tb_in 265 (by decide +kernel) rfl), Or.inl rfl, by decide +kernel, rfl, fun _ => rfl⟩
theorem fX7_90 : FS RX7 90 8 4 := ⟨(RX9, TX9, 8), "CornBarn$Town", rfl, by decide, (tb_in 266 (by decide +kernel) rfl), Or.inl rfl⟩
theorem pX7_90 : FP RX7 90 8 4 (.int) false := ⟨(RX9, TX9, 8), "CornBarn$Town", rfl, by decide, (tb_in 266 (by decide +kernel) rfl), Or.inl rfl, by decide +kernel, rfl, fun h => by cases h⟩
theorem fX9_26 : FS RX9 26 8 5 := ⟨(RX9, TX9, 8), "CornBarn$Town", rfl, by decide, (tb_in 267 (by decide +kernel) rfl), Or.inl rfl⟩
theorem pX9_26 : FP RX9 26 8 5 (.int) false := ⟨(RX9, TX9, 8), "CornBarn$Town", rfl, by decide, (tb_in 267 (by decide +kernel) rfl), Or.inl rfl, by decide +kernel, rfl, fun _ => rfl⟩
theorem fX7_55 : FS RX7 55 8 5 := ⟨(RX9, TX9, 8), "CornBarn$Town", rfl, by decide, (tb_in 268 (by decide +kernel) rfl), Or.inl rfl⟩
theorem pX7_55 : FP RX7 55 8 5 (.int) false := ⟨(RX9, TX9, 8), "CornBarn$Town", rfl, by decide, (tb_in 268 (by decide +kernel) rfl), Or.inl rfl, by decide +kernel, rfl, fun h => by cases h⟩
theorem fX9_15 : FS RX9 15 8 6 := ⟨(RX9, TX9, 8), "CornBarn$Town", rfl, by decide, (tb_in 269 (by decide +kernel) rfl), Or.inl rfl⟩
theorem pX9_15 : FP RX9 15 8 6 (.array .int) false := ⟨(RX9, TX9, 8), "CornBarn$Town", rfl, by decide, (tb_in 269 (by decide +kernel) rfl), Or.inl rfl, by decide +kernel, rfl, fun _ => rfl⟩
theorem fX9_19 : FS RX9 19 8 7 := ⟨(RX9, TX9, 8), "CornBarn$Town", rfl, by decide, (tb_in 270 (by decide +kernel) rfl), Or.inl rfl⟩
theorem pX9_19 : FP RX9 19 8 7 (.int) false := ⟨(RX9, TX9, 8), "CornBarn$Town", rfl, by decide, (tb_in 270 (by decide +kernel) rfl), Or.inl rfl, by decide +kernel, rfl, fun _ => rfl⟩
theorem fX7_11 : FS RX7 11 6 0 := ⟨(RX7, TX7, 4), "CornBarn$Story", rfl, by decide, (tb_in 294 (by decide +kernel) rfl), Or.inl rfl⟩
theorem pX7_11 : FP RX7 11 6 0 (.array .int) true := ⟨(RX7, TX7, 4), "CornBarn$Story", rfl, by decide, (tb_in 294 (by decide +kernel) rfl), Or.inl rfl, by decide +kernel, rfl, fun _ => rfl⟩
theorem fX10_293 : FS RX10 293 6 0 := ⟨(RX7, TX7, 4), "CornBarn$Story", rfl, by decide, (tb_in 295 (by decide +kernel) rfl), Or.inl rfl⟩
theorem fX7_15 : FS RX7 15 6 1 := ⟨(RX7, TX7, 4), "CornBarn$Story", rfl, by decide, (tb_in 296 (by decide +kernel) rfl), Or.inl rfl⟩
theorem pX7_15 : FP RX7 15 6 1 (.int) false := ⟨(RX7, TX7, 4), "CornBarn$Story", rfl, by decide, (tb_in 296 (by decide +kernel) rfl), Or.inl rfl, by decide +kernel, rfl, fun _ => rfl⟩
theorem fX10_286 : FS RX10 286 6 1 := ⟨(RX7, TX7, 4), "CornBarn$Story", rfl, by decide, (tb_in 297 (by decide +kernel) rfl), Or.inl rfl⟩
theorem pX10_286 : FP RX10 286 6 1 (.int) false := ⟨(RX7, TX7, 4), "CornBarn$Story", rfl, by decide, (tb_in 297 (by decide +kernel) rfl), Or.inl rfl, by decide +kernel, rfl, fun h => by cases h⟩
theorem fX7_19 : FS RX7 19 6 2 := ⟨(RX7, TX7, 4), "CornBarn$Story", rfl, by decide, (tb_in 298 (by decide +kernel) rfl), Or.inl rfl⟩
theorem pX7_19 : FP RX7 19 6 2 (.int) false := ⟨(RX7, TX7, 4), "CornBarn$Story", rfl, by decide, (tb_in 298 (by decide +kernel) rfl), Or.inl rfl, by decide +kernel, rfl, fun _ => rfl⟩
theorem fX10_278 : FS RX10 278 6 2 := ⟨(RX7, TX7, 4), "CornBarn$Story", rfl, by decide, (tb_in 299 (by decide +kernel) rfl), Or.inl rfl⟩
theorem pX10_278 : FP RX10 278 6 2 (.int) false := ⟨(RX7, TX7, 4), "CornBarn$Story", rfl, by decide, (tb_in 299 (by decide +kernel) rfl), Or.inl rfl, by decide +kernel, rfl, fun h => by cases h⟩
theorem fX7_58 : FS RX7 58 6 3 := ⟨(RX7, TX7, 4), "CornBarn$Story", rfl, by decide, (tb_in 300 (by decide +kernel) rfl), Or.inl rfl⟩
theorem pX7_58 : FP RX7 58 6 3 (.int) false := ⟨(RX7, TX7, 4), "CornBarn$Story", rfl, by decide, (tb_in 300 (by decide +kernel) rfl), Or.inl rfl, by decide +kernel, rfl, fun _ => rfl⟩
theorem fX10_299 : FS RX10 299 6 3 := ⟨(RX7, TX7, 4), "CornBarn$Story", rfl, by decide, (tb_in 301 (by decide +kernel) rfl), Or.inl rfl⟩
theorem pX10_299 : FP RX10 299 6 3 (.int) false := ⟨(RX7, TX7, 4), "CornBarn$Story", rfl, by decide, (tb_in 301 (by decide +kernel) rfl), Or.inl rfl, by decide +kernel, rfl, fun h => by cases h⟩
theorem fX10_12 : FS RX10 12 9 0 := ⟨(RX10, TX10, 13), "CornBarn", rfl, by decide, (tb_in 311 (by decide +kernel) rfl), Or.inl rfl⟩
theorem pX10_12 : FP RX10 12 9 0 (.object "CornBarn$Tape") true := ⟨(RX10, TX10, 13), "CornBarn", rfl, by decide, (tb_in 311 (by decide +kernel) rfl), Or.inl rfl, by decide +kernel, rfl, fun _ => rfl⟩
theorem fX10_21 : FS RX10 21 9 1 := ⟨(RX10, TX10, 13), "CornBarn", rfl, by decide, (tb_in 312 (by decide +kernel) rfl), Or.inl rfl⟩
theorem pX10_21 : FP RX10 21 9 1 (.object "CornBarn$LandReader") true := ⟨(RX10, TX10, 13), "CornBarn", rfl, by decide, (tb_in 312 (by decide +kernel) rfl), Or.inl rfl, by decide +kernel, rfl, fun _ => rfl⟩
theorem fX10_28 : FS RX10 28 9 2 := ⟨(RX10, TX10, 13), "CornBarn", rfl, by decide, (tb_in 313 (by decide +kernel) rfl), Or.inl rfl⟩
theorem pX10_28 : FP RX10 28 9 2 (.object "CornBarn$RuleReader") true := ⟨(RX10, TX10, 13), "CornBarn", rfl, by decide, (tb_in 313 (by decide +kernel) rfl), Or.inl rfl, by decide +kernel, rfl, fun _ => rfl⟩
theorem fX10_34 : FS RX10 34 9 3 := ⟨(RX10, TX10, 13), "CornBarn", rfl, by decide, (tb_in 314 (by decide +kernel) rfl), Or.inl rfl⟩
theorem pX10_34 : FP RX10 34 9 3 (.array (.object "CornBarn$Land")) true := ⟨(RX10, TX10, 13), "CornBarn", rfl, by decide, (tb_in 314 (by decide +kernel) rfl), Or.inl rfl, by decide +kernel, rfl, fun _ => rfl⟩
theorem fX10_40 : FS RX10 40 9 4 := ⟨(RX10, TX10, 13), "CornBarn", rfl, by decide, (tb_in 315 (by decide +kernel) rfl), Or.inl rfl⟩
theorem pX10_40 : FP RX10 40 9 4 (.array (.object "CornBarn$Rule")) true := ⟨(RX10, TX10, 13), "CornBarn", rfl, by decide, (tb_in 315 (by decide +kernel) rfl), Or.inl rfl, by decide +kernel, rfl, fun _ => rfl⟩
theorem fX10_46 : FS RX10 46 9 5 := ⟨(RX10, TX10, 13), "CornBarn", rfl, by decide, (tb_in 316 (by decide +kernel) rfl), Or.inl rfl⟩
theorem pX10_46 : FP RX10 46 9 5 (.array (.array .int)) true := ⟨(RX10, TX10, 13), "CornBarn", rfl, by decide, (tb_in 316 (by decide +kernel) rfl), Or.inl rfl, by decide +kernel, rfl, fun _ => rfl⟩
theorem fX10_49 : FS RX10 49 9 6 := ⟨(RX10, TX10, 13), "CornBarn", rfl, by decide, (tb_in 317 (by decide +kernel) rfl), Or.inl rfl⟩
theorem pX10_49 : FP RX10 49 9 6 (.array .int) true := ⟨(RX10, TX10, 13), "CornBarn", rfl, by decide, (tb_in 317 (by decide +kernel) rfl), Or.inl rfl, by decide +kernel, rfl, fun _ => rfl⟩
theorem fX10_56 : FS RX10 56 9 7 := ⟨(RX10, TX10, 13), "CornBarn", rfl, by decide, (tb_in 318 (by decide +kernel) rfl), Or.inl rfl⟩
theorem pX10_56 : FP RX10 56 9 7 (.object "CornBarn$Spread") true := ⟨(RX10, TX10, 13), "CornBarn", rfl, by decide, (tb_in 318 (by decide +kernel) rfl), Or.inl rfl, by decide +kernel, rfl, fun _ => rfl⟩
theorem fX10_62 : FS RX10 62 9 8 := ⟨(RX10, TX10, 13), "CornBarn", rfl, by decide, (tb_in 319 (by decide +kernel) rfl), Or.inl rfl⟩
theorem pX10_62 : FP RX10 62 9 8 (.array (.object "CornBarn$Town")) true := ⟨(RX10, TX10, 13), "CornBarn", rfl, by decide, (tb_in 319 (by decide +kernel) rfl), Or.inl rfl, by decide +kernel, rfl, fun _ => rfl⟩
theorem fX10_72 : FS RX10 72 9 9 := ⟨(RX10, TX10, 13), "CornBarn", rfl, by decide, (tb_in 320 (by decide +kernel) rfl), Or.inl rfl⟩
theorem pX10_72 : FP RX10 72 9 9 (.object "CornBarn$Story") true := ⟨(RX10, TX10, 13), "CornBarn", rfl, by decide, (tb_in 320 (by decide +kernel) rfl), Or.inl rfl, by decide +kernel, rfl, fun _ => rfl⟩
theorem fX10_76 : FS RX10 76 9 10 := ⟨(RX10, TX10, 13), "CornBarn", rfl, by decide, (tb_in 321 (by decide +kernel) rfl), Or.inl rfl⟩
theorem pX10_76 : FP RX10 76 9 10 (.object "CornBarn$Story") true := ⟨(RX10, TX10, 13), "CornBarn", rfl, by decide, (tb_in 321 (by decide +kernel) rfl), Or.inl rfl, by decide +kernel, rfl, fun _ => rfl⟩
theorem fX10_99 : FS RX10 99 9 11 := ⟨(RX10, TX10, 13), "CornBarn", rfl, by decide, (tb_in 322 (by decide +kernel) rfl), Or.inl rfl⟩
theorem pX10_99 : FP RX10 99 9 11 (.int) false := ⟨(RX10, TX10, 13), "CornBarn", rfl, by decide, (tb_in 322 (by decide +kernel) rfl), Or.inl rfl, by decide +kernel, rfl, fun _ => rfl⟩
theorem fX10_105 : FS RX10 105 9 12 := ⟨(RX10, TX10, 13), "CornBarn", rfl, by decide, (tb_in 323 (by decide +kernel) rfl), Or.inl rfl⟩
theorem pX10_105 : FP RX10 105 9 12 (.int) false := ⟨(RX10, TX10, 13), "CornBarn", rfl, by decide, (tb_in 323 (by decide +kernel) rfl), Or.inl rfl, by decide +kernel, rfl, fun _ => rfl⟩
theorem fX0_15 : FS RX0 15 0 0 := ⟨(RX0, TX0, 20), "CornBarn$Land", rfl, by decide, (tb_in 587 (by decide +kernel) rfl), Or.inl rfl⟩
theorem pX0_15 : FP RX0 15 0 0 (.int) true := ⟨(RX0, TX0, 20), "CornBarn$Land", rfl, by decide, (tb_in 587 (by decide +kernel) rfl), Or.inl rfl, by decide +kernel, rfl, fun _ => rfl⟩
theorem fX2_25 : FS RX2 25 0 0 := ⟨(RX0, TX0, 20), "CornBarn$Land", rfl, by decide, (tb_in 588 (by decide +kernel) rfl), Or.inl rfl⟩
theorem fX10_119 : FS RX10 119 0 0 := ⟨(RX0, TX0, 20), "CornBarn$Land", rfl, by decide, (tb_in 589 (by decide +kernel) rfl), Or.inl rfl⟩
theorem fX2_19 : FS RX2 19 0 1 := ⟨(RX0, TX0, 20), "CornBarn$Land", rfl, by decide, (tb_in 590 (by decide +kernel) rfl), Or.inl rfl⟩
theorem fX0_21 : FS RX0 21 0 1 := ⟨(RX0, TX0, 20), "CornBarn$Land", rfl, by decide, (tb_in 591 (by decide +kernel) rfl), Or.inl rfl⟩
theorem pX0_21 : FP RX0 21 0 1 (.int) true := ⟨(RX0, TX0, 20), "CornBarn$Land", rfl, by decide, (tb_in 591 (by decide +kernel) rfl), Or.inl rfl, by decide +kernel, rfl, fun _ => rfl⟩
theorem fX10_125 : FS RX10 125 0 1 := ⟨(RX0, TX0, 20), "CornBarn$Land", rfl, by decide, (tb_in 592 (by decide +kernel) rfl), Or.inl rfl⟩
theorem fX0_25 : FS RX0 25 0 2 := ⟨(RX0, TX0, 20), "CornBarn$Land", rfl, by decide, (tb_in 593 (by decide +kernel) rfl), Or.inl rfl⟩
theorem pX0_25 : FP RX0 25 0 2 (.int) true := ⟨(RX0, TX0, 20), "CornBarn$Land", rfl, by decide, (tb_in 593 (by decide +kernel) rfl), Or.inl rfl, by decide +kernel, rfl, fun _ => rfl⟩
theorem fX10_128 : FS RX10 128 0 2 := ⟨(RX0, TX0, 20), "CornBarn$Land", rfl, by decide, (tb_in 594 (by decide +kernel) rfl), Or.inl rfl⟩
theorem fX2_141 : FS RX2 141 0 2 := ⟨(RX0, TX0, 20), "CornBarn$Land", rfl, by decide, (tb_in 595 (by decide +kernel) rfl), Or.inl rfl⟩
theorem fX0_29 : FS RX0 29 0 3 := ⟨(RX0, TX0, 20), "CornBarn$Land", rfl, by decide, (tb_in 596 (by decide +kernel) rfl), Or.inl rfl⟩
theorem pX0_29 : FP RX0 29 0 3 (.int) true := ⟨(RX0, TX0, 20), "CornBarn$Land", rfl, by decide, (tb_in 596 (by decide +kernel) rfl), Or.inl rfl, by decide +kernel, rfl, fun _ => rfl⟩
theorem fX10_131 : FS RX10 131 0 3 := ⟨(RX0, TX0, 20), "CornBarn$Land", rfl, by decide, (tb_in 597 (by decide +kernel) rfl), Or.inl rfl⟩
theorem fX0_34 : FS RX0 34 0 4 := ⟨(RX0, TX0, 20), "CornBarn$Land", rfl, by decide, (tb_in 598 (by decide +kernel) rfl), Or.inl rfl⟩
theorem pX0_34 : FP RX0 34 0 4 (.array .int) true := ⟨(RX0, TX0, 20), "CornBarn$Land", rfl, by decide, (tb_in 598 (by decide +kernel) rfl), Or.inl rfl, by decide +kernel, rfl, fun _ => rfl⟩
theorem fX7_87 : FS RX7 87 0 4 := ⟨(RX0, TX0, 20), "CornBarn$Land", rfl, by decide, (tb_in 599 (by decide +kernel) rfl), Or.inl rfl⟩
theorem fX10_122 : FS RX10 122 0 4 := ⟨(RX0, TX0, 20), "CornBarn$Land", rfl, by decide, (tb_in 600 (by decide +kernel) rfl), Or.inl rfl⟩
theorem fX0_59 : FS RX0 59 0 5 := ⟨(RX0, TX0, 20), "CornBarn$Land", rfl, by decide, (tb_in 601 (by decide +kernel) rfl), Or.inl rfl⟩
theorem pX0_59 : FP RX0 59 0 5 (.array .int) true := ⟨(RX0, TX0, 20), "CornBarn$Land", rfl, by decide, (tb_in 601 (by decide +kernel) rfl), Or.inl rfl, by decide +kernel, rfl, fun _ => rfl⟩
theorem fX6_43 : FS RX6 43 0 5 := ⟨(RX0, TX0, 20), "CornBarn$Land", rfl, by decide, (tb_in 602 (by decide +kernel) rfl), Or.inl rfl⟩
theorem fX10_143 : FS RX10 143 0 5 := ⟨(RX0, TX0, 20), "CornBarn$Land", rfl, by decide, (tb_in 603 (by decide +kernel) rfl), Or.inl rfl⟩
theorem fX2_121 : FS RX2 121 0 5 := ⟨(RX0, TX0, 20), "CornBarn$Land", rfl, by decide, (tb_in 604 (by decide +kernel) rfl), Or.inl rfl⟩
theorem fX0_63 : FS RX0 63 0 6 := ⟨(RX0, TX0, 20), "CornBarn$Land", rfl, by decide, (tb_in 605 (by decide +kernel) rfl), Or.inl rfl⟩
theorem pX0_63 : FP RX0 63 0 6 (.array .int) true := ⟨(RX0, TX0, 20), "CornBarn$Land", rfl, by decide, (tb_in 605 (by decide +kernel) rfl), Or.inl rfl, by decide +kernel, rfl, fun _ => rfl⟩
theorem fX6_47 : FS RX6 47 0 6 := ⟨(RX0, TX0, 20), "CornBarn$Land", rfl, by decide, (tb_in 606 (by decide +kernel) rfl), Or.inl rfl⟩
theorem fX10_155 : FS RX10 155 0 6 := ⟨(RX0, TX0, 20), "CornBarn$Land", rfl, by decide, (tb_in 607 (by decide +kernel) rfl), Or.inl rfl⟩
theorem fX2_124 : FS RX2 124 0 6 := ⟨(RX0, TX0, 20), "CornBarn$Land", rfl, by decide, (tb_in 608 (by decide +kernel) rfl), Or.inl rfl⟩
theorem fX0_67 : FS RX0 67 0 7 := ⟨(RX0, TX0, 20), "CornBarn$Land", rfl, by decide, (tb_in 609 (by decide +kernel) rfl), Or.inl rfl⟩
theorem pX0_67 : FP RX0 67 0 7 (.array .int) true := ⟨(RX0, TX0, 20), "CornBarn$Land", rfl, by decide, (tb_in 609 (by decide +kernel) rfl), Or.inl rfl, by decide +kernel, rfl, fun _ => rfl⟩
theorem fX6_50 : FS RX6 50 0 7 := ⟨(RX0, TX0, 20), "CornBarn$Land", rfl, by decide, (tb_in 610 (by decide +kernel) rfl), Or.inl rfl⟩
theorem fX10_158 : FS RX10 158 0 7 := ⟨(RX0, TX0, 20), "CornBarn$Land", rfl, by decide, (tb_in 611 (by decide +kernel) rfl), Or.inl rfl⟩
theorem fX2_134 : FS RX2 134 0 7 := ⟨(RX0, TX0, 20), "CornBarn$Land", rfl, by decide, (tb_in 612 (by decide +kernel) rfl), Or.inl rfl⟩
theorem fX0_71 : FS RX0 71 0 8 := ⟨(RX0, TX0, 20), "CornBarn$Land", rfl, by decide, (tb_in 613 (by decide +kernel) rfl), Or.inl rfl⟩
theorem pX0_71 : FP RX0 71 0 8 (.array .int) true := ⟨(RX0, TX0, 20), "CornBarn$Land", rfl, by decide, (tb_in 613 (by decide +kernel) rfl), Or.inl rfl, by decide +kernel, rfl, fun _ => rfl⟩
theorem fX2_144 : FS RX2 144 0 8 := ⟨(RX0, TX0, 20), "CornBarn$Land", rfl, by decide, (tb_in 614 (by decide +kernel) rfl), Or.inl rfl⟩
theorem fX0_72 : FS RX0 72 0 9 := ⟨(RX0, TX0, 20), "CornBarn$Land", rfl, by decide, (tb_in 615 (by decide +kernel) rfl), Or.inl rfl⟩
theorem pX0_72 : FP RX0 72 0 9 (.array .int) true := ⟨(RX0, TX0, 20), "CornBarn$Land", rfl, by decide, (tb_in 615 (by decide +kernel) rfl), Or.inl rfl, by decide +kernel, rfl, fun _ => rfl⟩
theorem fX10_237 : FS RX10 237 0 9 := ⟨(RX0, TX0, 20), "CornBarn$Land", rfl, by decide, (tb_in 616 (by decide +kernel) rfl), Or.inl rfl⟩
theorem fX0_42 : FS RX0 42 0 10 := ⟨(RX0, TX0, 20), "CornBarn$Land", rfl, by decide, (tb_in 617 (by decide +kernel) rfl), Or.inl rfl⟩
theorem pX0_42 : FP RX0 42 0 10 (.array .int) true := ⟨(RX0, TX0, 20), "CornBarn$Land", rfl, by decide, (tb_in 617 (by decide +kernel) rfl), Or.inl rfl, by decide +kernel, rfl, fun _ => rfl⟩
theorem fX2_39 : FS RX2 39 0 10 := ⟨(RX0, TX0, 20), "CornBarn$Land", rfl, by decide, (tb_in 618 (by decide +kernel) rfl), Or.inl rfl⟩
theorem fX0_45 : FS RX0 45 0 11 := ⟨(RX0, TX0, 20), "CornBarn$Land", rfl, by decide, (tb_in 619 (by decide +kernel) rfl), Or.inl rfl⟩
theorem pX0_45 : FP RX0 45 0 11 (.array .int) true := ⟨(RX0, TX0, 20), "CornBarn$Land", rfl, by decide, (tb_in 619 (by decide +kernel) rfl), Or.inl rfl, by decide +kernel, rfl, fun _ => rfl⟩
theorem fX2_36 : FS RX2 36 0 11 := ⟨(RX0, TX0, 20), "CornBarn$Land", rfl, by decide, (tb_in 620 (by decide +kernel) rfl), Or.inl rfl⟩
theorem fX0_48 : FS RX0 48 0 12 := ⟨(RX0, TX0, 20), "CornBarn$Land", rfl, by decide, (tb_in 621 (by decide +kernel) rfl), Or.inl rfl⟩
theorem pX0_48 : FP RX0 48 0 12 (.array .int) true := ⟨(RX0, TX0, 20), "CornBarn$Land", rfl, by decide, (tb_in 621 (by decide +kernel) rfl), Or.inl rfl, by decide +kernel, rfl, fun _ => rfl⟩
theorem fX0_77 : FS RX0 77 0 13 := ⟨(RX0, TX0, 20), "CornBarn$Land", rfl, by decide, (tb_in 622 (by decide +kernel) rfl), Or.inl rfl⟩
theorem pX0_77 : FP RX0 77 0 13 (.array (.object "CornBarn$Plan")) true := ⟨(RX0, TX0, 20), "CornBarn$Land", rfl, by decide, (tb_in 622 (by decide +kernel) rfl), Or.inl rfl, by decide +kernel, rfl, fun _ => rfl⟩
theorem fX0_81 : FS RX0 81 0 14 := ⟨(RX0, TX0, 20), "CornBarn$Land", rfl, by decide, (tb_in 623 (by decide +kernel) rfl), Or.inl rfl⟩
theorem pX0_81 : FP RX0 81 0 14 (.int) false := ⟨(RX0, TX0, 20), "CornBarn$Land", rfl, by decide, (tb_in 623 (by decide +kernel) rfl), Or.inl rfl, by decide +kernel, rfl, fun _ => rfl⟩
theorem fX10_134 : FS RX10 134 0 14 := ⟨(RX0, TX0, 20), "CornBarn$Land", rfl, by decide, (tb_in 624 (by decide +kernel) rfl), Or.inl rfl⟩
theorem pX10_134 : FP RX10 134 0 14 (.int) false := ⟨(RX0, TX0, 20), "CornBarn$Land", rfl, by decide, (tb_in 624 (by decide +kernel) rfl), Or.inl rfl, by decide +kernel, rfl, fun h => by cases h⟩
theorem fX0_84 : FS RX0 84 0 15 := ⟨(RX0, TX0, 20), "CornBarn$Land", rfl, by decide, (tb_in 625 (by decide +kernel) rfl), Or.inl rfl⟩
theorem pX0_84 : FP RX0 84 0 15 (.int) false := ⟨(RX0, TX0, 20), "CornBarn$Land", rfl, by decide, (tb_in 625 (by decide +kernel) rfl), Or.inl rfl, by decide +kernel, rfl, fun _ => rfl⟩
theorem fX10_137 : FS RX10 137 0 15 := ⟨(RX0, TX0, 20), "CornBarn$Land", rfl, by decide, (tb_in 626 (by decide +kernel) rfl), Or.inl rfl⟩
theorem pX10_137 : FP RX10 137 0 15 (.int) false := ⟨(RX0, TX0, 20), "CornBarn$Land", rfl, by decide, (tb_in 626 (by decide +kernel) rfl), Or.inl rfl, by decide +kernel, rfl, fun h => by cases h⟩
theorem fX10_173 : FS RX10 173 0 16 := ⟨(RX0, TX0, 20), "CornBarn$Land", rfl, by decide, (tb_in 627 (by decide +kernel) rfl), Or.inl rfl⟩
theorem pX10_173 : FP RX10 173 0 16 (.object "CornBarn$Rule") false := ⟨(RX0, TX0, 20), "CornBarn$Land", rfl, by decide, (tb_in 627 (by decide +kernel) rfl), Or.inl rfl, by decide +kernel, rfl, fun h => by cases h⟩
theorem fX2_151 : FS RX2 151 0 16 := ⟨(RX0, TX0, 20), "CornBarn$Land", rfl, by decide, (tb_in 628 (by decide +kernel) rfl), Or.inl rfl⟩
theorem pX2_151 : FP RX2 151 0 16 (.object "CornBarn$Rule") false := ⟨(RX0, TX0, 20), "CornBarn$Land", rfl, by decide, (tb_in 628 (by decide +kernel) rfl), Or.inl rfl, by decide +kernel, rfl, fun h => by cases h⟩
theorem fX9_74 : FS RX9 74 0 17 := ⟨(RX0, TX0, 20), "CornBarn$Land", rfl, by decide, (tb_in 629 (by decide +kernel) rfl), Or.inl rfl⟩
theorem pX9_74 : FP RX9 74 0 17 (.int) false := ⟨(RX0, TX0, 20), "CornBarn$Land", rfl, by decide, (tb_in 629 (by decide +kernel) rfl), Or.inl rfl, by decide +kernel, rfl, fun h => by cases h⟩
theorem fX10_265 : FS RX10 265 0 17 := ⟨(RX0, TX0, 20), "CornBarn$Land", rfl, by decide, (tb_in 630 (by decide +kernel) rfl), Or.inl rfl⟩
theorem pX10_265 : FP RX10 265 0 17 (.int) false := ⟨(RX0, TX0, 20), "CornBarn$Land", rfl, by decide, (tb_in 630 (by decide +kernel) rfl), Or.inl rfl, by decide +kernel, rfl, fun h => by cases h⟩
theorem fX9_77 : FS RX9 77 0 18 := ⟨(RX0, TX0, 20), "CornBarn$Land", rfl, by decide, (tb_in 631 (by decide +kernel) rfl), Or.inl rfl⟩
theorem pX9_77 : FP RX9 77 0 18 (.int) false := ⟨(RX0, TX0, 20), "CornBarn$Land", rfl, by decide, (tb_in 631 (by decide +kernel) rfl), Or.inl rfl, by decide +kernel, rfl, fun h => by cases h⟩
theorem fX10_268 : FS RX10 268 0 18 := ⟨(RX0, TX0, 20), "CornBarn$Land", rfl, by decide, (tb_in 632 (by decide +kernel) rfl), Or.inl rfl⟩
theorem pX10_268 : FP RX10 268 0 18 (.int) false := ⟨(RX0, TX0, 20), "CornBarn$Land", rfl, by decide, (tb_in 632 (by decide +kernel) rfl), Or.inl rfl, by decide +kernel, rfl, fun h => by cases h⟩
theorem fX9_67 : FS RX9 67 0 19 := ⟨(RX0, TX0, 20), "CornBarn$Land", rfl, by decide, (tb_in 633 (by decide +kernel) rfl), Or.inl rfl⟩
theorem pX9_67 : FP RX9 67 0 19 (.int) false := ⟨(RX0, TX0, 20), "CornBarn$Land", rfl, by decide, (tb_in 633 (by decide +kernel) rfl), Or.inl rfl, by decide +kernel, rfl, fun h => by cases h⟩
theorem fX10_271 : FS RX10 271 0 19 := ⟨(RX0, TX0, 20), "CornBarn$Land", rfl, by decide, (tb_in 634 (by decide +kernel) rfl), Or.inl rfl⟩
theorem pX10_271 : FP RX10 271 0 19 (.int) false := ⟨(RX0, TX0, 20), "CornBarn$Land", rfl, by decide, (tb_in 634 (by decide +kernel) rfl), Or.inl rfl, by decide +kernel, rfl, fun h => by cases h⟩
theorem fX4_9 : FS RX4 9 3 0 := ⟨(RX4, TX4, 4), "CornBarn$Rule", rfl, by decide, (tb_in 698 (by decide +kernel) rfl), Or.inl rfl⟩
theorem pX4_9 : FP RX4 9 3 0 (.array .int) true := ⟨(RX4, TX4, 4), "CornBarn$Rule", rfl, by decide, (tb_in 698 (by decide +kernel) rfl), Or.inl rfl, by decide +kernel, rfl, fun _ => rfl⟩
theorem fX4_15 : FS RX4 15 3 1 := ⟨(RX4, TX4, 4), "CornBarn$Rule", rfl, by decide, (tb_in 699 (by decide +kernel) rfl), Or.inl rfl⟩
theorem pX4_15 : FP RX4 15 3 1 (.array .int) true := ⟨(RX4, TX4, 4), "CornBarn$Rule", rfl, by decide, (tb_in 699 (by decide +kernel) rfl), Or.inl rfl, by decide +kernel, rfl, fun _ => rfl⟩
theorem fX4_18 : FS RX4 18 3 2 := ⟨(RX4, TX4, 4), "CornBarn$Rule", rfl, by decide, (tb_in 700 (by decide +kernel) rfl), Or.inl rfl⟩
theorem pX4_18 : FP RX4 18 3 2 (.array .int) true := ⟨(RX4, TX4, 4), "CornBarn$Rule", rfl, by decide, (tb_in 700 (by decide +kernel) rfl), Or.inl rfl, by decide +kernel, rfl, fun _ => rfl⟩
theorem fX4_21 : FS RX4 21 3 3 := ⟨(RX4, TX4, 4), "CornBarn$Rule", rfl, by decide, (tb_in 701 (by decide +kernel) rfl), Or.inl rfl⟩
theorem pX4_21 : FP RX4 21 3 3 (.int) false := ⟨(RX4, TX4, 4), "CornBarn$Rule", rfl, by decide, (tb_in 701 (by decide +kernel) rfl), Or.inl rfl, by decide +kernel, rfl, fun _ => rfl⟩
theorem fX2_9 : FS RX2 9 2 0 := ⟨(RX2, TX2, 10), "CornBarn$Plan", rfl, by decide, (tb_in 787 (by decide +kernel) rfl), Or.inl rfl⟩
theorem pX2_9 : FP RX2 9 2 0 (.object "CornBarn$Land") true := ⟨(RX2, TX2, 10), "CornBarn$Plan", rfl, by decide, (tb_in 787 (by decide +kernel) rfl), Or.inl rfl, by decide +kernel, rfl, fun _ => rfl⟩
theorem fX6_24 : FS RX6 24 2 0 := ⟨(RX2, TX2, 10), "CornBarn$Plan", rfl, by decide, (tb_in 788 (by decide +kernel) rfl), Or.inl rfl⟩
theorem fX9_41 : FS RX9 41 2 0 := ⟨(RX2, TX2, 10), "CornBarn$Plan", rfl, by decide, (tb_in 789 (by decide +kernel) rfl), Or.inl rfl⟩
theorem fX7_43 : FS RX7 43 2 0 := ⟨(RX2, TX2, 10), "CornBarn$Plan", rfl, by decide, (tb_in 790 (by decide +kernel) rfl), Or.inl rfl⟩
theorem fX10_240 : FS RX10 240 2 0 := ⟨(RX2, TX2, 10), "CornBarn$Plan", rfl, by decide, (tb_in 791 (by decide +kernel) rfl), Or.inl rfl⟩
theorem fX2_15 : FS RX2 15 2 1 := ⟨(RX2, TX2, 10), "CornBarn$Plan", rfl, by decide, (tb_in 792 (by decide +kernel) rfl), Or.inl rfl⟩
theorem pX2_15 : FP RX2 15 2 1 (.int) true := ⟨(RX2, TX2, 10), "CornBarn$Plan", rfl, by decide, (tb_in 792 (by decide +kernel) rfl), Or.inl rfl, by decide +kernel, rfl, fun _ => rfl⟩
theorem fX9_57 : FS RX9 57 2 1 := ⟨(RX2, TX2, 10), "CornBarn$Plan", rfl, by decide, (tb_in 793 (by decide +kernel) rfl), Or.inl rfl⟩
theorem fX2_24 : FS RX2 24 2 2 := ⟨(RX2, TX2, 10), "CornBarn$Plan", rfl, by decide, (tb_in 794 (by decide +kernel) rfl), Or.inl rfl⟩
theorem pX2_24 : FP RX2 24 2 2 (.int) false := ⟨(RX2, TX2, 10), "CornBarn$Plan", rfl, by decide, (tb_in 794 (by decide +kernel) rfl), Or.inl rfl, by decide +kernel, rfl, fun _ => rfl⟩
theorem fX2_28 : FS RX2 28 2 3 := ⟨(RX2, TX2, 10), "CornBarn$Plan", rfl, by decide, (tb_in 795 (by decide +kernel) rfl), Or.inl rfl⟩
theorem pX2_28 : FP RX2 28 2 3 (.array .int) true := ⟨(RX2, TX2, 10), "CornBarn$Plan", rfl, by decide, (tb_in 795 (by decide +kernel) rfl), Or.inl rfl, by decide +kernel, rfl, fun _ => rfl⟩
theorem fX2_32 : FS RX2 32 2 4 := ⟨(RX2, TX2, 10), "CornBarn$Plan", rfl, by decide, (tb_in 796 (by decide +kernel) rfl), Or.inl rfl⟩
theorem pX2_32 : FP RX2 32 2 4 (.array .long) true := ⟨(RX2, TX2, 10), "CornBarn$Plan", rfl, by decide, (tb_in 796 (by decide +kernel) rfl), Or.inl rfl, by decide +kernel, rfl, fun _ => rfl⟩
theorem fX2_99 : FS RX2 99 2 5 := ⟨(RX2, TX2, 10), "CornBarn$Plan", rfl, by decide, (tb_in 797 (by decide +kernel) rfl), Or.inl rfl⟩
theorem pX2_99 : FP RX2 99 2 5 (.array .long) false := ⟨(RX2, TX2, 10), "CornBarn$Plan", rfl, by decide, (tb_in 797 (by decide +kernel) rfl), Or.inl rfl, by decide +kernel, rfl, fun _ => rfl⟩
theorem fX2_42 : FS RX2 42 2 6 := ⟨(RX2, TX2, 10), "CornBarn$Plan", rfl, by decide, (tb_in 798 (by decide +kernel) rfl), Or.inl rfl⟩
theorem pX2_42 : FP RX2 42 2 6 (.array .int) true := ⟨(RX2, TX2, 10), "CornBarn$Plan", rfl, by decide, (tb_in 798 (by decide +kernel) rfl), Or.inl rfl, by decide +kernel, rfl, fun _ => rfl⟩
theorem fX2_45 : FS RX2 45 2 7 := ⟨(RX2, TX2, 10), "CornBarn$Plan", rfl, by decide, (tb_in 799 (by decide +kernel) rfl), Or.inl rfl⟩
theorem pX2_45 : FP RX2 45 2 7 (.array .int) true := ⟨(RX2, TX2, 10), "CornBarn$Plan", rfl, by decide, (tb_in 799 (by decide +kernel) rfl), Or.inl rfl, by decide +kernel, rfl, fun _ => rfl⟩
theorem fX2_48 : FS RX2 48 2 8 := ⟨(RX2, TX2, 10), "CornBarn$Plan", rfl, by decide, (tb_in 800 (by decide +kernel) rfl), Or.inl rfl⟩
theorem pX2_48 : FP RX2 48 2 8 (.array .int) true := ⟨(RX2, TX2, 10), "CornBarn$Plan", rfl, by decide, (tb_in 800 (by decide +kernel) rfl), Or.inl rfl, by decide +kernel, rfl, fun _ => rfl⟩
theorem fX2_51 : FS RX2 51 2 9 := ⟨(RX2, TX2, 10), "CornBarn$Plan", rfl, by decide, (tb_in 801 (by decide +kernel) rfl), Or.inl rfl⟩
theorem pX2_51 : FP RX2 51 2 9 (.array .long) true := ⟨(RX2, TX2, 10), "CornBarn$Plan", rfl, by decide, (tb_in 801 (by decide +kernel) rfl), Or.inl rfl, by decide +kernel, rfl, fun _ => rfl⟩
theorem fX11_114 : FS RX11 114 10 0 := ⟨(RX11, TX11, 49), "CornBarnModel", rfl, by decide, (tb_in 1235 (by decide +kernel) rfl), Or.inl rfl⟩
theorem pX11_114 : FP RX11 114 10 0 (.int) false := ⟨(RX11, TX11, 49), "CornBarnModel", rfl, by decide, (tb_in 1235 (by decide +kernel) rfl), Or.inl rfl, by decide +kernel, rfl, fun _ => rfl⟩
theorem fX11_9 : FS RX11 9 10 1 := ⟨(RX11, TX11, 49), "CornBarnModel", rfl, by decide, (tb_in 1236 (by decide +kernel) rfl), Or.inl rfl⟩
theorem pX11_9 : FP RX11 9 10 1 (.array .int) true := ⟨(RX11, TX11, 49), "CornBarnModel", rfl, by decide, (tb_in 1236 (by decide +kernel) rfl), Or.inl rfl, by decide +kernel, rfl, fun _ => rfl⟩
theorem fX11_122 : FS RX11 122 10 2 := ⟨(RX11, TX11, 49), "CornBarnModel", rfl, by decide, (tb_in 1237 (by decide +kernel) rfl), Or.inl rfl⟩
theorem pX11_122 : FP RX11 122 10 2 (.int) false := ⟨(RX11, TX11, 49), "CornBarnModel", rfl, by decide, (tb_in 1237 (by decide +kernel) rfl), Or.inl rfl, by decide +kernel, rfl, fun _ => rfl⟩
theorem fX11_125 : FS RX11 125 10 3 := ⟨(RX11, TX11, 49), "CornBarnModel", rfl, by decide, (tb_in 1238 (by decide +kernel) rfl), Or.inl rfl⟩
theorem pX11_125 : FP RX11 125 10 3 (.int) false := ⟨(RX11, TX11, 49), "CornBarnModel", rfl, by decide, (tb_in 1238 (by decide +kernel) rfl), Or.inl rfl, by decide +kernel, rfl, fun _ => rfl⟩
theorem fX11_132 : FS RX11 132 10 4 := ⟨(RX11, TX11, 49), "CornBarnModel", rfl, by decide, (tb_in 1239 (by decide +kernel) rfl), Or.inl rfl⟩
theorem pX11_132 : FP RX11 132 10 4 (.int) false := ⟨(RX11, TX11, 49), "CornBarnModel", rfl, by decide, (tb_in 1239 (by decide +kernel) rfl), Or.inl rfl, by decide +kernel, rfl, fun _ => rfl⟩
theorem fX11_180 : FS RX11 180 10 5 := ⟨(RX11, TX11, 49), "CornBarnModel", rfl, by decide, (tb_in 1240 (by decide +kernel) rfl), Or.inl rfl⟩
theorem pX11_180 : FP RX11 180 10 5 (.int) false := ⟨(RX11, TX11, 49), "CornBarnModel", rfl, by decide, (tb_in 1240 (by decide +kernel) rfl), Or.inl rfl, by decide +kernel, rfl, fun _ => rfl⟩
theorem fX11_13 : FS RX11 13 10 6 := ⟨(RX11, TX11, 49), "CornBarnModel", rfl, by decide, (tb_in 1241 (by decide +kernel) rfl), Or.inl rfl⟩
theorem pX11_13 : FP RX11 13 10 6 (.array .int) true := ⟨(RX11, TX11, 49), "CornBarnModel", rfl, by decide, (tb_in 1241 (by decide +kernel) rfl), Or.inl rfl, by decide +kernel, rfl, fun _ => rfl⟩
theorem fX11_16 : FS RX11 16 10 7 := ⟨(RX11, TX11, 49), "CornBarnModel", rfl, by decide, (tb_in 1242 (by decide +kernel) rfl), Or.inl rfl⟩
theorem pX11_16 : FP RX11 16 10 7 (.array .int) true := ⟨(RX11, TX11, 49), "CornBarnModel", rfl, by decide, (tb_in 1242 (by decide +kernel) rfl), Or.inl rfl, by decide +kernel, rfl, fun _ => rfl⟩
theorem fX11_19 : FS RX11 19 10 8 := ⟨(RX11, TX11, 49), "CornBarnModel", rfl, by decide, (tb_in 1243 (by decide +kernel) rfl), Or.inl rfl⟩
theorem pX11_19 : FP RX11 19 10 8 (.array .int) true := ⟨(RX11, TX11, 49), "CornBarnModel", rfl, by decide, (tb_in 1243 (by decide +kernel) rfl), Or.inl rfl, by decide +kernel, rfl, fun _ => rfl⟩
theorem fX11_22 : FS RX11 22 10 9 := ⟨(RX11, TX11, 49), "CornBarnModel", rfl, by decide, (tb_in 1244 (by decide +kernel) rfl), Or.inl rfl⟩
theorem pX11_22 : FP RX11 22 10 9 (.array .int) true := ⟨(RX11, TX11, 49), "CornBarnModel", rfl, by decide, (tb_in 1244 (by decide +kernel) rfl), Or.inl rfl, by decide +kernel, rfl, fun _ => rfl⟩
theorem fX11_25 : FS RX11 25 10 10 := ⟨(RX11, TX11, 49), "CornBarnModel", rfl, by decide, (tb_in 1245 (by decide +kernel) rfl), Or.inl rfl⟩
theorem pX11_25 : FP RX11 25 10 10 (.array .int) true := ⟨(RX11, TX11, 49), "CornBarnModel", rfl, by decide, (tb_in 1245 (by decide +kernel) rfl), Or.inl rfl, by decide +kernel, rfl, fun _ => rfl⟩
theorem fX11_28 : FS RX11 28 10 11 := ⟨(RX11, TX11, 49), "CornBarnModel", rfl, by decide, (tb_in 1246 (by decide +kernel) rfl), Or.inl rfl⟩
theorem pX11_28 : FP RX11 28 10 11 (.array .int) true := ⟨(RX11, TX11, 49), "CornBarnModel", rfl, by decide, (tb_in 1246 (by decide +kernel) rfl), Or.inl rfl, by decide +kernel, rfl, fun _ => rfl⟩
theorem fX11_31 : FS RX11 31 10 12 := ⟨(RX11, TX11, 49), "CornBarnModel", rfl, by decide, (tb_in 1247 (by decide +kernel) rfl), Or.inl rfl⟩
theorem pX11_31 : FP RX11 31 10 12 (.array .int) true := ⟨(RX11, TX11, 49), "CornBarnModel", rfl, by decide, (tb_in 1247 (by decide +kernel) rfl), Or.inl rfl, by decide +kernel, rfl, fun _ => rfl⟩
theorem fX11_34 : FS RX11 34 10 13 := ⟨(RX11, TX11, 49), "CornBarnModel", rfl, by decide, (tb_in 1248 (by decide +kernel) rfl), Or.inl rfl⟩
theorem pX11_34 : FP RX11 34 10 13 (.array .int) true := ⟨(RX11, TX11, 49), "CornBarnModel", rfl, by decide, (tb_in 1248 (by decide +kernel) rfl), Or.inl rfl, by decide +kernel, rfl, fun _ => rfl⟩
theorem fX11_37 : FS RX11 37 10 14 := ⟨(RX11, TX11, 49), "CornBarnModel", rfl, by decide, (tb_in 1249 (by decide +kernel) rfl), Or.inl rfl⟩
theorem pX11_37 : FP RX11 37 10 14 (.array .int) true := ⟨(RX11, TX11, 49), "CornBarnModel", rfl, by decide, (tb_in 1249 (by decide +kernel) rfl), Or.inl rfl, by decide +kernel, rfl, fun _ => rfl⟩
theorem fX11_40 : FS RX11 40 10 15 := ⟨(RX11, TX11, 49), "CornBarnModel", rfl, by decide, (tb_in 1250 (by decide +kernel) rfl), Or.inl rfl⟩
theorem pX11_40 : FP RX11 40 10 15 (.array .int) true := ⟨(RX11, TX11, 49), "CornBarnModel", rfl, by decide, (tb_in 1250 (by decide +kernel) rfl), Or.inl rfl, by decide +kernel, rfl, fun _ => rfl⟩
theorem fX11_43 : FS RX11 43 10 16 := ⟨(RX11, TX11, 49), "CornBarnModel", rfl, by decide, (tb_in 1251 (by decide +kernel) rfl), Or.inl rfl⟩
theorem pX11_43 : FP RX11 43 10 16 (.array .int) true := ⟨(RX11, TX11, 49), "CornBarnModel", rfl, by decide, (tb_in 1251 (by decide +kernel) rfl), Or.inl rfl, by decide +kernel, rfl, fun _ => rfl⟩
theorem fX11_46 : FS RX11 46 10 17 := ⟨(RX11, TX11, 49), "CornBarnModel", rfl, by decide, (tb_in 1252 (by decide +kernel) rfl), Or.inl rfl⟩
theorem pX11_46 : FP RX11 46 10 17 (.array .int) true := ⟨(RX11, TX11, 49), "CornBarnModel", rfl, by decide, (tb_in 1252 (by decide +kernel) rfl), Or.inl rfl, by decide +kernel, rfl, fun _ => rfl⟩
theorem fX11_49 : FS RX11 49 10 18 := ⟨(RX11, TX11, 49), "CornBarnModel", rfl, by decide, (tb_in 1253 (by decide +kernel) rfl), Or.inl rfl⟩
theorem pX11_49 : FP RX11 49 10 18 (.array .int) true := ⟨(RX11, TX11, 49), "CornBarnModel", rfl, by decide, (tb_in 1253 (by decide +kernel) rfl), Or.inl rfl, by decide +kernel, rfl, fun _ => rfl⟩
theorem fX11_52 : FS RX11 52 10 19 := ⟨(RX11, TX11, 49), "CornBarnModel", rfl, by decide, (tb_in 1254 (by decide +kernel) rfl), Or.inl rfl⟩
theorem pX11_52 : FP RX11 52 10 19 (.array .int) true := ⟨(RX11, TX11, 49), "CornBarnModel", rfl, by decide, (tb_in 1254 (by decide +kernel) rfl), Or.inl rfl, by decide +kernel, rfl, fun _ => rfl⟩
theorem fX11_55 : FS RX11 55 10 20 := ⟨(RX11, TX11, 49), "CornBarnModel", rfl, by decide, (tb_in 1255 (by decide +kernel) rfl), Or.inl rfl⟩
theorem pX11_55 : FP RX11 55 10 20 (.array .int) true := ⟨(RX11, TX11, 49), "CornBarnModel", rfl, by decide, (tb_in 1255 (by decide +kernel) rfl), Or.inl rfl, by decide +kernel, rfl, fun _ => rfl⟩
theorem fX11_58 : FS RX11 58 10 21 := ⟨(RX11, TX11, 49), "CornBarnModel", rfl, by decide, (tb_in 1256 (by decide +kernel) rfl), Or.inl rfl⟩
theorem pX11_58 : FP RX11 58 10 21 (.array .int) true := ⟨(RX11, TX11, 49), "CornBarnModel", rfl, by decide, (tb_in 1256 (by decide +kernel) rfl), Or.inl rfl, by decide +kernel, rfl, fun _ => rfl⟩
theorem fX11_224 : FS RX11 224 10 22 := ⟨(RX11, TX11, 49), "CornBarnModel", rfl, by decide, (tb_in 1257 (by decide +kernel) rfl), Or.inl rfl⟩
theorem pX11_224 : FP RX11 224 10 22 (.int) false := ⟨(RX11, TX11, 49), "CornBarnModel", rfl, by decide, (tb_in 1257 (by decide +kernel) rfl), Or.inl rfl, by decide +kernel, rfl, fun _ => rfl⟩
theorem fX11_61 : FS RX11 61 10 23 := ⟨(RX11, TX11, 49), "CornBarnModel", rfl, by decide, (tb_in 1258 (by decide +kernel) rfl), Or.inl rfl⟩
theorem pX11_61 : FP RX11 61 10 23 (.array .int) true := ⟨(RX11, TX11, 49), "CornBarnModel", rfl, by decide, (tb_in 1258 (by decide +kernel) rfl), Or.inl rfl, by decide +kernel, rfl, fun _ => rfl⟩
theorem fX11_64 : FS RX11 64 10 24 := ⟨(RX11, TX11, 49), "CornBarnModel", rfl, by decide, (tb_in 1259 (by decide +kernel) rfl), Or.inl rfl⟩
theorem pX11_64 : FP RX11 64 10 24 (.array .int) true := ⟨(RX11, TX11, 49), "CornBarnModel", rfl, by decide, (tb_in 1259 (by decide +kernel) rfl), Or.inl rfl, by decide +kernel, rfl, fun _ => rfl⟩
theorem fX11_67 : FS RX11 67 10 25 := ⟨(RX11, TX11, 49), "CornBarnModel", rfl, by decide, (tb_in 1260 (by decide +kernel) rfl), Or.inl rfl⟩
theorem pX11_67 : FP RX11 67 10 25 (.array .int) true := ⟨(RX11, TX11, 49), "CornBarnModel", rfl, by decide, (tb_in 1260 (by decide +kernel) rfl), Or.inl rfl, by decide +kernel, rfl, fun _ => rfl⟩
theorem fX11_70 : FS RX11 70 10 26 := ⟨(RX11, TX11, 49), "CornBarnModel", rfl, by decide, (tb_in 1261 (by decide +kernel) rfl), Or.inl rfl⟩
theorem pX11_70 : FP RX11 70 10 26 (.array .int) true := ⟨(RX11, TX11, 49), "CornBarnModel", rfl, by decide, (tb_in 1261 (by decide +kernel) rfl), Or.inl rfl, by decide +kernel, rfl, fun _ => rfl⟩
theorem fX11_227 : FS RX11 227 10 27 := ⟨(RX11, TX11, 49), "CornBarnModel", rfl, by decide, (tb_in 1262 (by decide +kernel) rfl), Or.inl rfl⟩
theorem pX11_227 : FP RX11 227 10 27 (.int) false := ⟨(RX11, TX11, 49), "CornBarnModel", rfl, by decide, (tb_in 1262 (by decide +kernel) rfl), Or.inl rfl, by decide +kernel, rfl, fun _ => rfl⟩
theorem fX11_174 : FS RX11 174 10 28 := ⟨(RX11, TX11, 49), "CornBarnModel", rfl, by decide, (tb_in 1263 (by decide +kernel) rfl), Or.inl rfl⟩
theorem pX11_174 : FP RX11 174 10 28 (.int) false := ⟨(RX11, TX11, 49), "CornBarnModel", rfl, by decide, (tb_in 1263 (by decide +kernel) rfl), Or.inl rfl, by decide +kernel, rfl, fun _ => rfl⟩
theorem fX11_177 : FS RX11 177 10 29 := ⟨(RX11, TX11, 49), "CornBarnModel", rfl, by decide, (tb_in 1264 (by decide +kernel) rfl), Or.inl rfl⟩
theorem pX11_177 : FP RX11 177 10 29 (.int) false := ⟨(RX11, TX11, 49), "CornBarnModel", rfl, by decide, (tb_in 1264 (by decide +kernel) rfl), Or.inl rfl, by decide +kernel, rfl, fun _ => rfl⟩
theorem fX11_73 : FS RX11 73 10 30 := ⟨(RX11, TX11, 49), "CornBarnModel", rfl, by decide, (tb_in 1265 (by decide +kernel) rfl), Or.inl rfl⟩
theorem pX11_73 : FP RX11 73 10 30 (.array .long) true := ⟨(RX11, TX11, 49), "CornBarnModel", rfl, by decide, (tb_in 1265 (by decide +kernel) rfl), Or.inl rfl, by decide +kernel, rfl, fun _ => rfl⟩
theorem fX11_77 : FS RX11 77 10 31 := ⟨(RX11, TX11, 49), "CornBarnModel", rfl, by decide, (tb_in 1266 (by decide +kernel) rfl), Or.inl rfl⟩
theorem pX11_77 : FP RX11 77 10 31 (.array .boolean) true := ⟨(RX11, TX11, 49), "CornBarnModel", rfl, by decide, (tb_in 1266 (by decide +kernel) rfl), Or.inl rfl, by decide +kernel, rfl, fun _ => rfl⟩
theorem fX11_81 : FS RX11 81 10 32 := ⟨(RX11, TX11, 49), "CornBarnModel", rfl, by decide, (tb_in 1267 (by decide +kernel) rfl), Or.inl rfl⟩
theorem pX11_81 : FP RX11 81 10 32 (.array .int) true := ⟨(RX11, TX11, 49), "CornBarnModel", rfl, by decide, (tb_in 1267 (by decide +kernel) rfl), Or.inl rfl, by decide +kernel, rfl, fun _ => rfl⟩
theorem fX11_84 : FS RX11 84 10 33 := ⟨(RX11, TX11, 49), "CornBarnModel", rfl, by decide, (tb_in 1268 (by decide +kernel) rfl), Or.inl rfl⟩
theorem pX11_84 : FP RX11 84 10 33 (.array .int) true := ⟨(RX11, TX11, 49), "CornBarnModel", rfl, by decide, (tb_in 1268 (by decide +kernel) rfl), Or.inl rfl, by decide +kernel, rfl, fun _ => rfl⟩
theorem fX11_87 : FS RX11 87 10 34 := ⟨(RX11, TX11, 49), "CornBarnModel", rfl, by decide, (tb_in 1269 (by decide +kernel) rfl), Or.inl rfl⟩
theorem pX11_87 : FP RX11 87 10 34 (.array .long) true := ⟨(RX11, TX11, 49), "CornBarnModel", rfl, by decide, (tb_in 1269 (by decide +kernel) rfl), Or.inl rfl, by decide +kernel, rfl, fun _ => rfl⟩
theorem fX11_90 : FS RX11 90 10 35 := ⟨(RX11, TX11, 49), "CornBarnModel", rfl, by decide, (tb_in 1270 (by decide +kernel) rfl), Or.inl rfl⟩
theorem pX11_90 : FP RX11 90 10 35 (.array .boolean) true := ⟨(RX11, TX11, 49), "CornBarnModel", rfl, by decide, (tb_in 1270 (by decide +kernel) rfl), Or.inl rfl, by decide +kernel, rfl, fun _ => rfl⟩
theorem fX11_93 : FS RX11 93 10 36 := ⟨(RX11, TX11, 49), "CornBarnModel", rfl, by decide, (tb_in 1271 (by decide +kernel) rfl), Or.inl rfl⟩
theorem pX11_93 : FP RX11 93 10 36 (.array .long) true := ⟨(RX11, TX11, 49), "CornBarnModel", rfl, by decide, (tb_in 1271 (by decide +kernel) rfl), Or.inl rfl, by decide +kernel, rfl, fun _ => rfl⟩
theorem fX11_278 : FS RX11 278 10 37 := ⟨(RX11, TX11, 49), "CornBarnModel", rfl, by decide, (tb_in 1272 (by decide +kernel) rfl), Or.inl rfl⟩
theorem pX11_278 : FP RX11 278 10 37 (.int) false := ⟨(RX11, TX11, 49), "CornBarnModel", rfl, by decide, (tb_in 1272 (by decide +kernel) rfl), Or.inl rfl, by decide +kernel, rfl, fun _ => rfl⟩
theorem fX11_281 : FS RX11 281 10 38 := ⟨(RX11, TX11, 49), "CornBarnModel", rfl, by decide, (tb_in 1273 (by decide +kernel) rfl), Or.inl rfl⟩
theorem pX11_281 : FP RX11 281 10 38 (.int) false := ⟨(RX11, TX11, 49), "CornBarnModel", rfl, by decide, (tb_in 1273 (by decide +kernel) rfl), Or.inl rfl, by decide +kernel, rfl, fun _ => rfl⟩
theorem fX11_96 : FS RX11 96 10 39 := ⟨(RX11, TX11, 49), "CornBarnModel", rfl, by decide, (tb_in 1274 (by decide +kernel) rfl), Or.inl rfl⟩
theorem pX11_96 : FP RX11 96 10 39 (.array .long) true := ⟨(RX11, TX11, 49), "CornBarnModel", rfl, by decide, (tb_in 1274 (by decide +kernel) rfl), Or.inl rfl, by decide +kernel, rfl, fun _ => rfl⟩
theorem fX11_99 : FS RX11 99 10 40 := ⟨(RX11, TX11, 49), "CornBarnModel", rfl, by decide, (tb_in 1275 (by decide +kernel) rfl), Or.inl rfl⟩
theorem pX11_99 : FP RX11 99 10 40 (.array .long) true := ⟨(RX11, TX11, 49), "CornBarnModel", rfl, by decide, (tb_in 1275 (by decide +kernel) rfl), Or.inl rfl, by decide +kernel, rfl, fun _ => rfl⟩
theorem fX11_102 : FS RX11 102 10 41 := ⟨(RX11, TX11, 49), "CornBarnModel", rfl, by decide, (tb_in 1276 (by decide +kernel) rfl), Or.inl rfl⟩
theorem pX11_102 : FP RX11 102 10 41 (.array .int) true := ⟨(RX11, TX11, 49), "CornBarnModel", rfl, by decide, (tb_in 1276 (by decide +kernel) rfl), Or.inl rfl, by decide +kernel, rfl, fun _ => rfl⟩
theorem fX11_105 : FS RX11 105 10 42 := ⟨(RX11, TX11, 49), "CornBarnModel", rfl, by decide, (tb_in 1277 (by decide +kernel) rfl), Or.inl rfl⟩
theorem pX11_105 : FP RX11 105 10 42 (.array .int) true := ⟨(RX11, TX11, 49), "CornBarnModel", rfl, by decide, (tb_in 1277 (by decide +kernel) rfl), Or.inl rfl, by decide +kernel, rfl, fun _ => rfl⟩
theorem fX11_108 : FS RX11 108 10 43 := ⟨(RX11, TX11, 49), "CornBarnModel", rfl, by decide, (tb_in 1278 (by decide +kernel) rfl), Or.inl rfl⟩
theorem pX11_108 : FP RX11 108 10 43 (.array .int) true := ⟨(RX11, TX11, 49), "CornBarnModel", rfl, by decide, (tb_in 1278 (by decide +kernel) rfl), Or.inl rfl, by decide +kernel, rfl, fun _ => rfl⟩
theorem fX11_383 : FS RX11 383 10 44 := ⟨(RX11, TX11, 49), "CornBarnModel", rfl, by decide, (tb_in 1279 (by decide +kernel) rfl), Or.inl rfl⟩
theorem pX11_383 : FP RX11 383 10 44 (.int) false := ⟨(RX11, TX11, 49), "CornBarnModel", rfl, by decide, (tb_in 1279 (by decide +kernel) rfl), Or.inl rfl, by decide +kernel, rfl, fun _ => rfl⟩
theorem fX11_386 : FS RX11 386 10 45 := ⟨(RX11, TX11, 49), "CornBarnModel", rfl, by decide, (tb_in 1280 (by decide +kernel) rfl), Or.inl rfl⟩
theorem pX11_386 : FP RX11 386 10 45 (.int) false := ⟨(RX11, TX11, 49), "CornBarnModel", rfl, by decide, (tb_in 1280 (by decide +kernel) rfl), Or.inl rfl, by decide +kernel, rfl, fun _ => rfl⟩
theorem fX11_389 : FS RX11 389 10 46 := ⟨(RX11, TX11, 49), "CornBarnModel", rfl, by decide, (tb_in 1281 (by decide +kernel) rfl), Or.inl rfl⟩
theorem pX11_389 : FP RX11 389 10 46 (.int) false := ⟨(RX11, TX11, 49), "CornBarnModel", rfl, by decide, (tb_in 1281 (by decide +kernel) rfl), Or.inl rfl, by decide +kernel, rfl, fun _ => rfl⟩
theorem fX11_111 : FS RX11 111 10 47 := ⟨(RX11, TX11, 49), "CornBarnModel", rfl, by decide, (tb_in 1282 (by decide +kernel) rfl), Or.inl rfl⟩
theorem pX11_111 : FP RX11 111 10 47 (.array .int) true := ⟨(RX11, TX11, 49), "CornBarnModel", rfl, by decide, (tb_in 1282 (by decide +kernel) rfl), Or.inl rfl, by decide +kernel, rfl, fun _ => rfl⟩
theorem fX11_367 : FS RX11 367 10 48 := ⟨(RX11, TX11, 49), "CornBarnModel", rfl, by decide, (tb_in 1283 (by decide +kernel) rfl), Or.inl rfl⟩
theorem pX11_367 : FP RX11 367 10 48 (.int) false := ⟨(RX11, TX11, 49), "CornBarnModel", rfl, by decide, (tb_in 1283 (by decide +kernel) rfl), Or.inl rfl, by decide +kernel, rfl, fun _ => rfl⟩
