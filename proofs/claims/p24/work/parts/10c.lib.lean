theorem fq_RX5_9 : Fq RX5 9 5 0 (.array .char) true := ⟨RX5, TX5, 10, rfl, by decide, rfl, rfl, by decide +kernel, Or.inl (tzc_1 34 (by first | rfl | decide +kernel) rfl)⟩
theorem fq_RX5_33 : Fq RX5 33 5 1 .int false := ⟨RX5, TX5, 10, rfl, by decide, rfl, rfl, by decide +kernel, Or.inl (tzc_1 35 (by first | rfl | decide +kernel) rfl)⟩
theorem fq_RX9_105 : Fq RX9 105 5 1 .int false := ⟨RX5, TX5, 10, rfl, by decide, rfl, rfl, by decide +kernel, Or.inr ⟨"ColdBox", tzn_1 36 (by first | rfl | decide +kernel) rfl⟩⟩
theorem fq_RX5_53 : Fq RX5 53 5 2 .int false := ⟨RX5, TX5, 10, rfl, by decide, rfl, rfl, by decide +kernel, Or.inl (tzc_1 37 (by first | rfl | decide +kernel) rfl)⟩
theorem fq_RX9_113 : Fq RX9 113 5 3 .int false := ⟨RX5, TX5, 10, rfl, by decide, rfl, rfl, by decide +kernel, Or.inr ⟨"ColdBox", tzn_1 38 (by first | rfl | decide +kernel) rfl⟩⟩
theorem fq_RX5_50 : Fq RX5 50 5 3 .int false := ⟨RX5, TX5, 10, rfl, by decide, rfl, rfl, by decide +kernel, Or.inl (tzc_1 39 (by first | rfl | decide +kernel) rfl)⟩
theorem fq_RX5_15 : Fq RX5 15 5 4 .int false := ⟨RX5, TX5, 10, rfl, by decide, rfl, rfl, by decide +kernel, Or.inl (tzc_1 40 (by first | rfl | decide +kernel) rfl)⟩
theorem fq_RX9_142 : Fq RX9 142 5 4 .int false := ⟨RX5, TX5, 10, rfl, by decide, rfl, rfl, by decide +kernel, Or.inr ⟨"ColdBox", tzn_1 41 (by first | rfl | decide +kernel) rfl⟩⟩
theorem fq_RX9_127 : Fq RX9 127 5 5 .int false := ⟨RX5, TX5, 10, rfl, by decide, rfl, rfl, by decide +kernel, Or.inr ⟨"ColdBox", tzn_1 42 (by first | rfl | decide +kernel) rfl⟩⟩
theorem fq_RX5_69 : Fq RX5 69 5 5 .int false := ⟨RX5, TX5, 10, rfl, by decide, rfl, rfl, by decide +kernel, Or.inl (tzc_1 43 (by first | rfl | decide +kernel) rfl)⟩
theorem fq_RX5_19 : Fq RX5 19 5 6 (.array .boolean) true := ⟨RX5, TX5, 10, rfl, by decide, rfl, rfl, by decide +kernel, Or.inl (tzc_1 44 (by first | rfl | decide +kernel) rfl)⟩
theorem fq_RX5_23 : Fq RX5 23 5 7 (.array .int) true := ⟨RX5, TX5, 10, rfl, by decide, rfl, rfl, by decide +kernel, Or.inl (tzc_1 45 (by first | rfl | decide +kernel) rfl)⟩
theorem fq_RX9_116 : Fq RX9 116 5 7 (.array .int) true := ⟨RX5, TX5, 10, rfl, by decide, rfl, rfl, by decide +kernel, Or.inr ⟨"ColdBox", tzn_1 46 (by first | rfl | decide +kernel) rfl⟩⟩
theorem fq_RX5_27 : Fq RX5 27 5 8 (.array .int) true := ⟨RX5, TX5, 10, rfl, by decide, rfl, rfl, by decide +kernel, Or.inl (tzc_1 47 (by first | rfl | decide +kernel) rfl)⟩
theorem fq_RX9_133 : Fq RX9 133 5 8 (.array .int) true := ⟨RX5, TX5, 10, rfl, by decide, rfl, rfl, by decide +kernel, Or.inr ⟨"ColdBox", tzn_1 48 (by first | rfl | decide +kernel) rfl⟩⟩
theorem fq_RX5_30 : Fq RX5 30 5 9 (.array .int) true := ⟨RX5, TX5, 10, rfl, by decide, rfl, rfl, by decide +kernel, Or.inl (tzc_1 49 (by first | rfl | decide +kernel) rfl)⟩
theorem fq_RX9_136 : Fq RX9 136 5 9 (.array .int) true := ⟨RX5, TX5, 10, rfl, by decide, rfl, rfl, by decide +kernel, Or.inr ⟨"ColdBox", tzn_1 50 (by first | rfl | decide +kernel) rfl⟩⟩
theorem fq_RX0_9 : Fq RX0 9 0 0 (.array .int) true := ⟨RX0, TX0, 1, rfl, by decide, rfl, rfl, by decide +kernel, Or.inl (tzc_1 86 (by first | rfl | decide +kernel) rfl)⟩
theorem fq_RX7_60 : Fq RX7 60 0 0 (.array .int) true := ⟨RX0, TX0, 1, rfl, by decide, rfl, rfl, by decide +kernel, Or.inr ⟨"ColdBox", tzn_1 87 (by first | rfl | decide +kernel) rfl⟩⟩
theorem fq_RX9_145 : Fq RX9 145 0 0 (.array .int) true := ⟨RX0, TX0, 1, rfl, by decide, rfl, rfl, by decide +kernel, Or.inr ⟨"ColdBox", tzn_1 88 (by first | rfl | decide +kernel) rfl⟩⟩
theorem fq_RX1_73 : Fq RX1 73 0 0 (.array .int) true := ⟨RX0, TX0, 1, rfl, by decide, rfl, rfl, by decide +kernel, Or.inr ⟨"ColdBox", tzn_1 89 (by first | rfl | decide +kernel) rfl⟩⟩
theorem fq_RX8_124 : Fq RX8 124 0 0 (.array .int) true := ⟨RX0, TX0, 1, rfl, by decide, rfl, rfl, by decide +kernel, Or.inr ⟨"ColdBox", tzn_1 90 (by first | rfl | decide +kernel) rfl⟩⟩
theorem fq_RX3_22 : Fq RX3 22 3 0 .int false := ⟨RX3, TX3, 4, rfl, by decide, rfl, rfl, by decide +kernel, Or.inl (tzc_1 100 (by first | rfl | decide +kernel) rfl)⟩
theorem fq_RX9_146 : Fq RX9 146 3 0 .int false := ⟨RX3, TX3, 4, rfl, by decide, rfl, rfl, by decide +kernel, Or.inr ⟨"ColdBox", tzn_1 101 (by first | rfl | decide +kernel) rfl⟩⟩
theorem fq_RX3_9 : Fq RX3 9 3 1 (.array .int) true := ⟨RX3, TX3, 4, rfl, by decide, rfl, rfl, by decide +kernel, Or.inl (tzc_1 102 (by first | rfl | decide +kernel) rfl)⟩
theorem fq_RX9_149 : Fq RX9 149 3 1 (.array .int) true := ⟨RX3, TX3, 4, rfl, by decide, rfl, rfl, by decide +kernel, Or.inr ⟨"ColdBox", tzn_1 103 (by first | rfl | decide +kernel) rfl⟩⟩
theorem fq_RX3_15 : Fq RX3 15 3 2 (.array .int) true := ⟨RX3, TX3, 4, rfl, by decide, rfl, rfl, by decide +kernel, Or.inl (tzc_1 104 (by first | rfl | decide +kernel) rfl)⟩
theorem fq_RX9_150 : Fq RX9 150 3 2 (.array .int) true := ⟨RX3, TX3, 4, rfl, by decide, rfl, rfl, by decide +kernel, Or.inr ⟨"ColdBox", tzn_1 105 (by first | rfl | decide +kernel) rfl⟩⟩
theorem fq_RX3_18 : Fq RX3 18 3 3 (.array .boolean) true := ⟨RX3, TX3, 4, rfl, by decide, rfl, rfl, by decide +kernel, Or.inl (tzc_1 106 (by first | rfl | decide +kernel) rfl)⟩
theorem fq_RX7_19 : Fq RX7 19 7 0 (.object "ColdBox$Build") true := ⟨RX7, TX7, 4, rfl, by decide, rfl, rfl, by decide +kernel, Or.inl (tzc_1 122 (by first | rfl | decide +kernel) rfl)⟩
theorem fq_RX1_67 : Fq RX1 67 7 0 (.object "ColdBox$Build") true := ⟨RX7, TX7, 4, rfl, by decide, rfl, rfl, by decide +kernel, Or.inr ⟨"ColdBox", tzn_1 123 (by first | rfl | decide +kernel) rfl⟩⟩
theorem fq_RX8_120 : Fq RX8 120 7 0 (.object "ColdBox$Build") true := ⟨RX7, TX7, 4, rfl, by decide, rfl, rfl, by decide +kernel, Or.inr ⟨"ColdBox", tzn_1 124 (by first | rfl | decide +kernel) rfl⟩⟩
theorem fq_RX7_23 : Fq RX7 23 7 1 (.object "ColdBox$Openings") true := ⟨RX7, TX7, 4, rfl, by decide, rfl, rfl, by decide +kernel, Or.inl (tzc_1 125 (by first | rfl | decide +kernel) rfl)⟩
theorem fq_RX8_102 : Fq RX8 102 7 1 (.object "ColdBox$Openings") true := ⟨RX7, TX7, 4, rfl, by decide, rfl, rfl, by decide +kernel, Or.inr ⟨"ColdBox", tzn_1 126 (by first | rfl | decide +kernel) rfl⟩⟩
theorem fq_RX7_9 : Fq RX7 9 7 2 (.array .int) true := ⟨RX7, TX7, 4, rfl, by decide, rfl, rfl, by decide +kernel, Or.inl (tzc_1 127 (by first | rfl | decide +kernel) rfl)⟩
theorem fq_RX7_15 : Fq RX7 15 7 3 (.array .long) true := ⟨RX7, TX7, 4, rfl, by decide, rfl, rfl, by decide +kernel, Or.inl (tzc_1 128 (by first | rfl | decide +kernel) rfl)⟩
theorem fq_RX6_9 : Fq RX6 9 6 0 (.array .long) true := ⟨RX6, TX6, 14, rfl, by decide, rfl, rfl, by decide +kernel, Or.inl (tzc_1 145 (by first | rfl | decide +kernel) rfl)⟩
theorem fq_RX7_125 : Fq RX7 125 6 0 (.array .long) true := ⟨RX6, TX6, 14, rfl, by decide, rfl, rfl, by decide +kernel, Or.inr ⟨"ColdBox", tzn_1 146 (by first | rfl | decide +kernel) rfl⟩⟩
theorem fq_RX6_15 : Fq RX6 15 6 1 (.array .int) true := ⟨RX6, TX6, 14, rfl, by decide, rfl, rfl, by decide +kernel, Or.inl (tzc_1 147 (by first | rfl | decide +kernel) rfl)⟩
theorem fq_RX9_205 : Fq RX9 205 6 1 (.array .int) true := ⟨RX6, TX6, 14, rfl, by decide, rfl, rfl, by decide +kernel, Or.inr ⟨"ColdBox", tzn_1 148 (by first | rfl | decide +kernel) rfl⟩⟩
theorem fq_RX6_19 : Fq RX6 19 6 2 (.array .boolean) true := ⟨RX6, TX6, 14, rfl, by decide, rfl, rfl, by decide +kernel, Or.inl (tzc_1 149 (by first | rfl | decide +kernel) rfl)⟩
theorem fq_RX8_68 : Fq RX8 68 6 2 (.array .boolean) true := ⟨RX6, TX6, 14, rfl, by decide, rfl, rfl, by decide +kernel, Or.inr ⟨"ColdBox", tzn_1 150 (by first | rfl | decide +kernel) rfl⟩⟩
theorem fq_RX7_118 : Fq RX7 118 6 2 (.array .boolean) true := ⟨RX6, TX6, 14, rfl, by decide, rfl, rfl, by decide +kernel, Or.inr ⟨"ColdBox", tzn_1 151 (by first | rfl | decide +kernel) rfl⟩⟩
theorem fq_RX6_23 : Fq RX6 23 6 3 (.array .int) true := ⟨RX6, TX6, 14, rfl, by decide, rfl, rfl, by decide +kernel, Or.inl (tzc_1 152 (by first | rfl | decide +kernel) rfl)⟩
theorem fq_RX8_50 : Fq RX8 50 6 3 (.array .int) true := ⟨RX6, TX6, 14, rfl, by decide, rfl, rfl, by decide +kernel, Or.inr ⟨"ColdBox", tzn_1 153 (by first | rfl | decide +kernel) rfl⟩⟩
theorem fq_RX7_122 : Fq RX7 122 6 3 (.array .int) true := ⟨RX6, TX6, 14, rfl, by decide, rfl, rfl, by decide +kernel, Or.inr ⟨"ColdBox", tzn_1 154 (by first | rfl | decide +kernel) rfl⟩⟩
theorem fq_RX9_202 : Fq RX9 202 6 3 (.array .int) true := ⟨RX6, TX6, 14, rfl, by decide, rfl, rfl, by decide +kernel, Or.inr ⟨"ColdBox", tzn_1 155 (by first | rfl | decide +kernel) rfl⟩⟩
theorem fq_RX6_26 : Fq RX6 26 6 4 (.array .int) true := ⟨RX6, TX6, 14, rfl, by decide, rfl, rfl, by decide +kernel, Or.inl (tzc_1 156 (by first | rfl | decide +kernel) rfl)⟩
theorem fq_RX9_181 : Fq RX9 181 6 4 (.array .int) true := ⟨RX6, TX6, 14, rfl, by decide, rfl, rfl, by decide +kernel, Or.inr ⟨"ColdBox", tzn_1 157 (by first | rfl | decide +kernel) rfl⟩⟩
theorem fq_RX6_29 : Fq RX6 29 6 5 (.array .int) true := ⟨RX6, TX6, 14, rfl, by decide, rfl, rfl, by decide +kernel, Or.inl (tzc_1 158 (by first | rfl | decide +kernel) rfl)⟩
theorem fq_RX9_184 : Fq RX9 184 6 5 (.array .int) true := ⟨RX6, TX6, 14, rfl, by decide, rfl, rfl, by decide +kernel, Or.inr ⟨"ColdBox", tzn_1 159 (by first | rfl | decide +kernel) rfl⟩⟩
theorem fq_RX6_32 : Fq RX6 32 6 6 (.array .long) true := ⟨RX6, TX6, 14, rfl, by decide, rfl, rfl, by decide +kernel, Or.inl (tzc_1 160 (by first | rfl | decide +kernel) rfl)⟩
theorem fq_RX7_111 : Fq RX7 111 6 6 (.array .long) true := ⟨RX6, TX6, 14, rfl, by decide, rfl, rfl, by decide +kernel, Or.inr ⟨"ColdBox", tzn_1 161 (by first | rfl | decide +kernel) rfl⟩⟩
theorem fq_RX9_231 : Fq RX9 231 6 6 (.array .long) true := ⟨RX6, TX6, 14, rfl, by decide, rfl, rfl, by decide +kernel, Or.inr ⟨"ColdBox", tzn_1 162 (by first | rfl | decide +kernel) rfl⟩⟩
theorem fq_RX6_35 : Fq RX6 35 6 7 (.array .int) true := ⟨RX6, TX6, 14, rfl, by decide, rfl, rfl, by decide +kernel, Or.inl (tzc_1 163 (by first | rfl | decide +kernel) rfl)⟩
theorem fq_RX7_89 : Fq RX7 89 6 7 (.array .int) true := ⟨RX6, TX6, 14, rfl, by decide, rfl, rfl, by decide +kernel, Or.inr ⟨"ColdBox", tzn_1 164 (by first | rfl | decide +kernel) rfl⟩⟩
theorem fq_RX1_64 : Fq RX1 64 6 7 (.array .int) true := ⟨RX6, TX6, 14, rfl, by decide, rfl, rfl, by decide +kernel, Or.inr ⟨"ColdBox", tzn_1 165 (by first | rfl | decide +kernel) rfl⟩⟩
theorem fq_RX9_159 : Fq RX9 159 6 7 (.array .int) true := ⟨RX6, TX6, 14, rfl, by decide, rfl, rfl, by decide +kernel, Or.inr ⟨"ColdBox", tzn_1 166 (by first | rfl | decide +kernel) rfl⟩⟩
theorem fq_RX8_99 : Fq RX8 99 6 7 (.array .int) true := ⟨RX6, TX6, 14, rfl, by decide, rfl, rfl, by decide +kernel, Or.inr ⟨"ColdBox", tzn_1 167 (by first | rfl | decide +kernel) rfl⟩⟩
theorem fq_RX6_72 : Fq RX6 72 6 8 .int false := ⟨RX6, TX6, 14, rfl, by decide, rfl, rfl, by decide +kernel, Or.inl (tzc_1 168 (by first | rfl | decide +kernel) rfl)⟩
theorem fq_RX9_156 : Fq RX9 156 6 8 .int false := ⟨RX6, TX6, 14, rfl, by decide, rfl, rfl, by decide +kernel, Or.inr ⟨"ColdBox", tzn_1 169 (by first | rfl | decide +kernel) rfl⟩⟩
theorem fq_RX1_90 : Fq RX1 90 6 8 .int false := ⟨RX6, TX6, 14, rfl, by decide, rfl, rfl, by decide +kernel, Or.inr ⟨"ColdBox", tzn_1 170 (by first | rfl | decide +kernel) rfl⟩⟩
theorem fq_RX6_55 : Fq RX6 55 6 9 .int false := ⟨RX6, TX6, 14, rfl, by decide, rfl, rfl, by decide +kernel, Or.inl (tzc_1 171 (by first | rfl | decide +kernel) rfl)⟩
theorem fq_RX7_99 : Fq RX7 99 6 9 .int false := ⟨RX6, TX6, 14, rfl, by decide, rfl, rfl, by decide +kernel, Or.inr ⟨"ColdBox", tzn_1 172 (by first | rfl | decide +kernel) rfl⟩⟩
theorem fq_RX9_235 : Fq RX9 235 6 9 .int false := ⟨RX6, TX6, 14, rfl, by decide, rfl, rfl, by decide +kernel, Or.inr ⟨"ColdBox", tzn_1 173 (by first | rfl | decide +kernel) rfl⟩⟩
theorem fq_RX6_59 : Fq RX6 59 6 10 .boolean false := ⟨RX6, TX6, 14, rfl, by decide, rfl, rfl, by decide +kernel, Or.inl (tzc_1 174 (by first | rfl | decide +kernel) rfl)⟩
theorem fq_RX7_76 : Fq RX7 76 6 10 .boolean false := ⟨RX6, TX6, 14, rfl, by decide, rfl, rfl, by decide +kernel, Or.inr ⟨"ColdBox", tzn_1 175 (by first | rfl | decide +kernel) rfl⟩⟩
theorem fq_RX9_238 : Fq RX9 238 6 10 .boolean false := ⟨RX6, TX6, 14, rfl, by decide, rfl, rfl, by decide +kernel, Or.inr ⟨"ColdBox", tzn_1 176 (by first | rfl | decide +kernel) rfl⟩⟩
theorem fq_RX6_63 : Fq RX6 63 6 11 .boolean false := ⟨RX6, TX6, 14, rfl, by decide, rfl, rfl, by decide +kernel, Or.inl (tzc_1 177 (by first | rfl | decide +kernel) rfl)⟩
theorem fq_RX7_96 : Fq RX7 96 6 11 .boolean false := ⟨RX6, TX6, 14, rfl, by decide, rfl, rfl, by decide +kernel, Or.inr ⟨"ColdBox", tzn_1 178 (by first | rfl | decide +kernel) rfl⟩⟩
theorem fq_RX9_168 : Fq RX9 168 6 11 .boolean false := ⟨RX6, TX6, 14, rfl, by decide, rfl, rfl, by decide +kernel, Or.inr ⟨"ColdBox", tzn_1 179 (by first | rfl | decide +kernel) rfl⟩⟩
theorem fq_RX9_93 : Fq RX9 93 6 12 .boolean false := ⟨RX6, TX6, 14, rfl, by decide, rfl, rfl, by decide +kernel, Or.inr ⟨"ColdBox", tzn_1 180 (by first | rfl | decide +kernel) rfl⟩⟩
theorem fq_RX7_66 : Fq RX7 66 6 12 .boolean false := ⟨RX6, TX6, 14, rfl, by decide, rfl, rfl, by decide +kernel, Or.inr ⟨"ColdBox", tzn_1 181 (by first | rfl | decide +kernel) rfl⟩⟩
theorem fq_RX6_75 : Fq RX6 75 6 12 .boolean false := ⟨RX6, TX6, 14, rfl, by decide, rfl, rfl, by decide +kernel, Or.inl (tzc_1 182 (by first | rfl | decide +kernel) rfl)⟩
theorem fq_RX8_81 : Fq RX8 81 6 12 .boolean false := ⟨RX6, TX6, 14, rfl, by decide, rfl, rfl, by decide +kernel, Or.inr ⟨"ColdBox", tzn_1 183 (by first | rfl | decide +kernel) rfl⟩⟩
theorem fq_RX1_94 : Fq RX1 94 6 12 .boolean false := ⟨RX6, TX6, 14, rfl, by decide, rfl, rfl, by decide +kernel, Or.inr ⟨"ColdBox", tzn_1 184 (by first | rfl | decide +kernel) rfl⟩⟩
theorem fq_RX6_78 : Fq RX6 78 6 13 .int false := ⟨RX6, TX6, 14, rfl, by decide, rfl, rfl, by decide +kernel, Or.inl (tzc_1 185 (by first | rfl | decide +kernel) rfl)⟩
theorem fq_RX9_376 : Fq RX9 376 6 13 .int false := ⟨RX6, TX6, 14, rfl, by decide, rfl, rfl, by decide +kernel, Or.inr ⟨"ColdBox", tzn_1 186 (by first | rfl | decide +kernel) rfl⟩⟩
theorem fq_RX1_25 : Fq RX1 25 1 0 (.object "ColdBox$Ticker") true := ⟨RX1, TX1, 4, rfl, by decide, rfl, rfl, by decide +kernel, Or.inl (tzc_1 224 (by first | rfl | decide +kernel) rfl)⟩
theorem fq_RX1_12 : Fq RX1 12 1 1 (.object "ColdBox$State") true := ⟨RX1, TX1, 4, rfl, by decide, rfl, rfl, by decide +kernel, Or.inl (tzc_1 225 (by first | rfl | decide +kernel) rfl)⟩
theorem fq_RX1_18 : Fq RX1 18 1 2 (.array .int) true := ⟨RX1, TX1, 4, rfl, by decide, rfl, rfl, by decide +kernel, Or.inl (tzc_1 226 (by first | rfl | decide +kernel) rfl)⟩
theorem fq_RX1_22 : Fq RX1 22 1 3 (.array .int) true := ⟨RX1, TX1, 4, rfl, by decide, rfl, rfl, by decide +kernel, Or.inl (tzc_1 227 (by first | rfl | decide +kernel) rfl)⟩
theorem fq_RX2_38 : Fq RX2 38 2 0 (.object "ColdBox$FreshRuns") true := ⟨RX2, TX2, 8, rfl, by decide, rfl, rfl, by decide +kernel, Or.inl (tzc_2 8 (by first | rfl | decide +kernel) rfl)⟩
theorem fq_RX2_9 : Fq RX2 9 2 1 (.array .boolean) true := ⟨RX2, TX2, 8, rfl, by decide, rfl, rfl, by decide +kernel, Or.inl (tzc_2 9 (by first | rfl | decide +kernel) rfl)⟩
theorem fq_RX9_263 : Fq RX9 263 2 1 (.array .boolean) true := ⟨RX2, TX2, 8, rfl, by decide, rfl, rfl, by decide +kernel, Or.inr ⟨"ColdBox", tzn_2 10 (by first | rfl | decide +kernel) rfl⟩⟩
theorem fq_RX2_15 : Fq RX2 15 2 2 (.array .int) true := ⟨RX2, TX2, 8, rfl, by decide, rfl, rfl, by decide +kernel, Or.inl (tzc_2 11 (by first | rfl | decide +kernel) rfl)⟩
theorem fq_RX9_266 : Fq RX9 266 2 2 (.array .int) true := ⟨RX2, TX2, 8, rfl, by decide, rfl, rfl, by decide +kernel, Or.inr ⟨"ColdBox", tzn_2 12 (by first | rfl | decide +kernel) rfl⟩⟩
theorem fq_RX2_19 : Fq RX2 19 2 3 (.array .int) true := ⟨RX2, TX2, 8, rfl, by decide, rfl, rfl, by decide +kernel, Or.inl (tzc_2 13 (by first | rfl | decide +kernel) rfl)⟩
theorem fq_RX9_269 : Fq RX9 269 2 3 (.array .int) true := ⟨RX2, TX2, 8, rfl, by decide, rfl, rfl, by decide +kernel, Or.inr ⟨"ColdBox", tzn_2 14 (by first | rfl | decide +kernel) rfl⟩⟩
theorem fq_RX2_22 : Fq RX2 22 2 4 (.array .int) true := ⟨RX2, TX2, 8, rfl, by decide, rfl, rfl, by decide +kernel, Or.inl (tzc_2 15 (by first | rfl | decide +kernel) rfl)⟩
theorem fq_RX9_278 : Fq RX9 278 2 4 (.array .int) true := ⟨RX2, TX2, 8, rfl, by decide, rfl, rfl, by decide +kernel, Or.inr ⟨"ColdBox", tzn_2 16 (by first | rfl | decide +kernel) rfl⟩⟩
theorem fq_RX2_25 : Fq RX2 25 2 5 (.array .int) true := ⟨RX2, TX2, 8, rfl, by decide, rfl, rfl, by decide +kernel, Or.inl (tzc_2 17 (by first | rfl | decide +kernel) rfl)⟩
theorem fq_RX9_281 : Fq RX9 281 2 5 (.array .int) true := ⟨RX2, TX2, 8, rfl, by decide, rfl, rfl, by decide +kernel, Or.inr ⟨"ColdBox", tzn_2 18 (by first | rfl | decide +kernel) rfl⟩⟩
theorem fq_RX2_31 : Fq RX2 31 2 6 (.array .long) true := ⟨RX2, TX2, 8, rfl, by decide, rfl, rfl, by decide +kernel, Or.inl (tzc_2 19 (by first | rfl | decide +kernel) rfl)⟩
theorem fq_RX2_35 : Fq RX2 35 2 7 (.array .int) true := ⟨RX2, TX2, 8, rfl, by decide, rfl, rfl, by decide +kernel, Or.inl (tzc_2 20 (by first | rfl | decide +kernel) rfl)⟩
theorem fq_RX4_19 : Fq RX4 19 4 0 (.object "ColdBox$FreshRuns") true := ⟨RX4, TX4, 3, rfl, by decide, rfl, rfl, by decide +kernel, Or.inl (tzc_2 45 (by first | rfl | decide +kernel) rfl)⟩
theorem fq_RX4_9 : Fq RX4 9 4 1 (.array .int) true := ⟨RX4, TX4, 3, rfl, by decide, rfl, rfl, by decide +kernel, Or.inl (tzc_2 46 (by first | rfl | decide +kernel) rfl)⟩
theorem fq_RX9_308 : Fq RX9 308 4 1 (.array .int) true := ⟨RX4, TX4, 3, rfl, by decide, rfl, rfl, by decide +kernel, Or.inr ⟨"ColdBox", tzn_2 47 (by first | rfl | decide +kernel) rfl⟩⟩
theorem fq_RX4_15 : Fq RX4 15 4 2 .int false := ⟨RX4, TX4, 3, rfl, by decide, rfl, rfl, by decide +kernel, Or.inl (tzc_2 48 (by first | rfl | decide +kernel) rfl)⟩
theorem fq_RX9_314 : Fq RX9 314 4 2 .int false := ⟨RX4, TX4, 3, rfl, by decide, rfl, rfl, by decide +kernel, Or.inr ⟨"ColdBox", tzn_2 49 (by first | rfl | decide +kernel) rfl⟩⟩
theorem fq_RX8_29 : Fq RX8 29 8 0 (.object "ColdBox$Ticker") true := ⟨RX8, TX8, 9, rfl, by decide, rfl, rfl, by decide +kernel, Or.inl (tzc_2 65 (by first | rfl | decide +kernel) rfl)⟩
theorem fq_RX8_33 : Fq RX8 33 8 1 (.object "ColdBox$State") true := ⟨RX8, TX8, 9, rfl, by decide, rfl, rfl, by decide +kernel, Or.inl (tzc_2 66 (by first | rfl | decide +kernel) rfl)⟩
theorem fq_RX8_12 : Fq RX8 12 8 2 (.object "ColdBox$State") true := ⟨RX8, TX8, 9, rfl, by decide, rfl, rfl, by decide +kernel, Or.inl (tzc_2 67 (by first | rfl | decide +kernel) rfl)⟩
theorem fq_RX8_18 : Fq RX8 18 8 3 (.array .int) true := ⟨RX8, TX8, 9, rfl, by decide, rfl, rfl, by decide +kernel, Or.inl (tzc_2 68 (by first | rfl | decide +kernel) rfl)⟩
theorem fq_RX8_22 : Fq RX8 22 8 4 .int false := ⟨RX8, TX8, 9, rfl, by decide, rfl, rfl, by decide +kernel, Or.inl (tzc_2 69 (by first | rfl | decide +kernel) rfl)⟩
theorem fq_RX9_364 : Fq RX9 364 8 4 .int false := ⟨RX8, TX8, 9, rfl, by decide, rfl, rfl, by decide +kernel, Or.inr ⟨"ColdBox", tzn_2 70 (by first | rfl | decide +kernel) rfl⟩⟩
theorem fq_RX8_26 : Fq RX8 26 8 5 .int false := ⟨RX8, TX8, 9, rfl, by decide, rfl, rfl, by decide +kernel, Or.inl (tzc_2 71 (by first | rfl | decide +kernel) rfl)⟩
theorem fq_RX9_367 : Fq RX9 367 8 5 .int false := ⟨RX8, TX8, 9, rfl, by decide, rfl, rfl, by decide +kernel, Or.inr ⟨"ColdBox", tzn_2 72 (by first | rfl | decide +kernel) rfl⟩⟩
theorem fq_RX8_115 : Fq RX8 115 8 6 .int false := ⟨RX8, TX8, 9, rfl, by decide, rfl, rfl, by decide +kernel, Or.inl (tzc_2 73 (by first | rfl | decide +kernel) rfl)⟩
theorem fq_RX9_370 : Fq RX9 370 8 6 .int false := ⟨RX8, TX8, 9, rfl, by decide, rfl, rfl, by decide +kernel, Or.inr ⟨"ColdBox", tzn_2 74 (by first | rfl | decide +kernel) rfl⟩⟩
theorem fq_RX8_40 : Fq RX8 40 8 7 .int false := ⟨RX8, TX8, 9, rfl, by decide, rfl, rfl, by decide +kernel, Or.inl (tzc_2 75 (by first | rfl | decide +kernel) rfl)⟩
theorem fq_RX9_358 : Fq RX9 358 8 7 .int false := ⟨RX8, TX8, 9, rfl, by decide, rfl, rfl, by decide +kernel, Or.inr ⟨"ColdBox", tzn_2 76 (by first | rfl | decide +kernel) rfl⟩⟩
theorem fq_RX8_43 : Fq RX8 43 8 8 .int false := ⟨RX8, TX8, 9, rfl, by decide, rfl, rfl, by decide +kernel, Or.inl (tzc_2 77 (by first | rfl | decide +kernel) rfl)⟩
theorem fq_RX9_349 : Fq RX9 349 8 8 .int false := ⟨RX8, TX8, 9, rfl, by decide, rfl, rfl, by decide +kernel, Or.inr ⟨"ColdBox", tzn_2 78 (by first | rfl | decide +kernel) rfl⟩⟩
theorem fq_RX9_10 : Fq RX9 10 9 0 (.object "ColdBox$Reader") true := ⟨RX9, TX9, 13, rfl, by decide, rfl, rfl, by decide +kernel, Or.inl (tzc_2 112 (by first | rfl | decide +kernel) rfl)⟩
theorem fq_RX9_19 : Fq RX9 19 9 1 (.object "ColdBox$Build") true := ⟨RX9, TX9, 13, rfl, by decide, rfl, rfl, by decide +kernel, Or.inl (tzc_2 113 (by first | rfl | decide +kernel) rfl)⟩
theorem fq_RX9_26 : Fq RX9 26 9 2 (.object "ColdBox$Openings") true := ⟨RX9, TX9, 13, rfl, by decide, rfl, rfl, by decide +kernel, Or.inl (tzc_2 114 (by first | rfl | decide +kernel) rfl)⟩
theorem fq_RX9_35 : Fq RX9 35 9 3 (.object "ColdBox$Ticker") true := ⟨RX9, TX9, 13, rfl, by decide, rfl, rfl, by decide +kernel, Or.inl (tzc_2 115 (by first | rfl | decide +kernel) rfl)⟩
theorem fq_RX9_42 : Fq RX9 42 9 4 (.object "ColdBox$State") true := ⟨RX9, TX9, 13, rfl, by decide, rfl, rfl, by decide +kernel, Or.inl (tzc_2 116 (by first | rfl | decide +kernel) rfl)⟩
theorem fq_RX9_46 : Fq RX9 46 9 5 (.object "ColdBox$State") true := ⟨RX9, TX9, 13, rfl, by decide, rfl, rfl, by decide +kernel, Or.inl (tzc_2 117 (by first | rfl | decide +kernel) rfl)⟩
theorem fq_RX9_49 : Fq RX9 49 9 6 (.object "ColdBox$State") true := ⟨RX9, TX9, 13, rfl, by decide, rfl, rfl, by decide +kernel, Or.inl (tzc_2 118 (by first | rfl | decide +kernel) rfl)⟩
theorem fq_RX9_52 : Fq RX9 52 9 7 (.array .boolean) true := ⟨RX9, TX9, 13, rfl, by decide, rfl, rfl, by decide +kernel, Or.inl (tzc_2 119 (by first | rfl | decide +kernel) rfl)⟩
theorem fq_RX9_56 : Fq RX9 56 9 8 (.array .boolean) true := ⟨RX9, TX9, 13, rfl, by decide, rfl, rfl, by decide +kernel, Or.inl (tzc_2 120 (by first | rfl | decide +kernel) rfl)⟩
theorem fq_RX9_64 : Fq RX9 64 9 9 (.object "ColdBox$FreshRuns") true := ⟨RX9, TX9, 13, rfl, by decide, rfl, rfl, by decide +kernel, Or.inl (tzc_2 121 (by first | rfl | decide +kernel) rfl)⟩
theorem fq_RX9_73 : Fq RX9 73 9 10 (.object "ColdBox$Guess") true := ⟨RX9, TX9, 13, rfl, by decide, rfl, rfl, by decide +kernel, Or.inl (tzc_2 122 (by first | rfl | decide +kernel) rfl)⟩
theorem fq_RX9_80 : Fq RX9 80 9 11 (.object "ColdBox$Purse") true := ⟨RX9, TX9, 13, rfl, by decide, rfl, rfl, by decide +kernel, Or.inl (tzc_2 123 (by first | rfl | decide +kernel) rfl)⟩
theorem fq_RX9_89 : Fq RX9 89 9 12 (.object "ColdBox$Trials") true := ⟨RX9, TX9, 13, rfl, by decide, rfl, rfl, by decide +kernel, Or.inl (tzc_2 124 (by first | rfl | decide +kernel) rfl)⟩
theorem fq_RX10_7 : Fq RX10 7 10 0 (.array .long) true := ⟨RX10, TX10, 34, rfl, by decide, rfl, rfl, by decide +kernel, Or.inl (tzc_5 128 (by first | rfl | decide +kernel) rfl)⟩
theorem fq_RX10_13 : Fq RX10 13 10 1 (.array .boolean) true := ⟨RX10, TX10, 34, rfl, by decide, rfl, rfl, by decide +kernel, Or.inl (tzc_5 129 (by first | rfl | decide +kernel) rfl)⟩
theorem fq_RX10_76 : Fq RX10 76 10 2 .boolean false := ⟨RX10, TX10, 34, rfl, by decide, rfl, rfl, by decide +kernel, Or.inl (tzc_5 130 (by first | rfl | decide +kernel) rfl)⟩
theorem fq_RX10_17 : Fq RX10 17 10 3 (.array .int) true := ⟨RX10, TX10, 34, rfl, by decide, rfl, rfl, by decide +kernel, Or.inl (tzc_5 131 (by first | rfl | decide +kernel) rfl)⟩
theorem fq_RX10_21 : Fq RX10 21 10 4 (.array .int) true := ⟨RX10, TX10, 34, rfl, by decide, rfl, rfl, by decide +kernel, Or.inl (tzc_5 132 (by first | rfl | decide +kernel) rfl)⟩
theorem fq_RX10_175 : Fq RX10 175 10 5 .int false := ⟨RX10, TX10, 34, rfl, by decide, rfl, rfl, by decide +kernel, Or.inl (tzc_5 133 (by first | rfl | decide +kernel) rfl)⟩
theorem fq_RX10_24 : Fq RX10 24 10 6 (.array .int) true := ⟨RX10, TX10, 34, rfl, by decide, rfl, rfl, by decide +kernel, Or.inl (tzc_5 134 (by first | rfl | decide +kernel) rfl)⟩
theorem fq_RX10_27 : Fq RX10 27 10 7 (.array .int) true := ⟨RX10, TX10, 34, rfl, by decide, rfl, rfl, by decide +kernel, Or.inl (tzc_5 135 (by first | rfl | decide +kernel) rfl)⟩
theorem fq_RX10_30 : Fq RX10 30 10 8 (.array .int) true := ⟨RX10, TX10, 34, rfl, by decide, rfl, rfl, by decide +kernel, Or.inl (tzc_5 136 (by first | rfl | decide +kernel) rfl)⟩
theorem fq_RX10_33 : Fq RX10 33 10 9 (.array .int) true := ⟨RX10, TX10, 34, rfl, by decide, rfl, rfl, by decide +kernel, Or.inl (tzc_5 137 (by first | rfl | decide +kernel) rfl)⟩
theorem fq_RX10_36 : Fq RX10 36 10 10 (.array .int) true := ⟨RX10, TX10, 34, rfl, by decide, rfl, rfl, by decide +kernel, Or.inl (tzc_5 138 (by first | rfl | decide +kernel) rfl)⟩
theorem fq_RX10_101 : Fq RX10 101 10 11 .int false := ⟨RX10, TX10, 34, rfl, by decide, rfl, rfl, by decide +kernel, Or.inl (tzc_5 139 (by first | rfl | decide +kernel) rfl)⟩
theorem fq_RX10_107 : Fq RX10 107 10 12 .int false := ⟨RX10, TX10, 34, rfl, by decide, rfl, rfl, by decide +kernel, Or.inl (tzc_5 140 (by first | rfl | decide +kernel) rfl)⟩
theorem fq_RX10_117 : Fq RX10 117 10 13 .int false := ⟨RX10, TX10, 34, rfl, by decide, rfl, rfl, by decide +kernel, Or.inl (tzc_5 141 (by first | rfl | decide +kernel) rfl)⟩
theorem fq_RX10_124 : Fq RX10 124 10 14 .int false := ⟨RX10, TX10, 34, rfl, by decide, rfl, rfl, by decide +kernel, Or.inl (tzc_5 142 (by first | rfl | decide +kernel) rfl)⟩
theorem fq_RX10_110 : Fq RX10 110 10 15 .int false := ⟨RX10, TX10, 34, rfl, by decide, rfl, rfl, by decide +kernel, Or.inl (tzc_5 143 (by first | rfl | decide +kernel) rfl)⟩
theorem fq_RX10_39 : Fq RX10 39 10 16 .int false := ⟨RX10, TX10, 34, rfl, by decide, rfl, rfl, by decide +kernel, Or.inl (tzc_5 144 (by first | rfl | decide +kernel) rfl)⟩
theorem fq_RX10_146 : Fq RX10 146 10 17 .int false := ⟨RX10, TX10, 34, rfl, by decide, rfl, rfl, by decide +kernel, Or.inl (tzc_5 145 (by first | rfl | decide +kernel) rfl)⟩
theorem fq_RX10_43 : Fq RX10 43 10 18 (.array .long) true := ⟨RX10, TX10, 34, rfl, by decide, rfl, rfl, by decide +kernel, Or.inl (tzc_5 146 (by first | rfl | decide +kernel) rfl)⟩
theorem fq_RX10_46 : Fq RX10 46 10 19 (.array .boolean) true := ⟨RX10, TX10, 34, rfl, by decide, rfl, rfl, by decide +kernel, Or.inl (tzc_5 147 (by first | rfl | decide +kernel) rfl)⟩
theorem fq_RX10_49 : Fq RX10 49 10 20 (.array .int) true := ⟨RX10, TX10, 34, rfl, by decide, rfl, rfl, by decide +kernel, Or.inl (tzc_5 148 (by first | rfl | decide +kernel) rfl)⟩
theorem fq_RX10_52 : Fq RX10 52 10 21 (.array .boolean) true := ⟨RX10, TX10, 34, rfl, by decide, rfl, rfl, by decide +kernel, Or.inl (tzc_5 149 (by first | rfl | decide +kernel) rfl)⟩
theorem fq_RX10_55 : Fq RX10 55 10 22 (.array .int) true := ⟨RX10, TX10, 34, rfl, by decide, rfl, rfl, by decide +kernel, Or.inl (tzc_5 150 (by first | rfl | decide +kernel) rfl)⟩
theorem fq_RX10_58 : Fq RX10 58 10 23 (.array .int) true := ⟨RX10, TX10, 34, rfl, by decide, rfl, rfl, by decide +kernel, Or.inl (tzc_5 151 (by first | rfl | decide +kernel) rfl)⟩
theorem fq_RX10_61 : Fq RX10 61 10 24 (.array .int) true := ⟨RX10, TX10, 34, rfl, by decide, rfl, rfl, by decide +kernel, Or.inl (tzc_5 152 (by first | rfl | decide +kernel) rfl)⟩
theorem fq_RX10_64 : Fq RX10 64 10 25 (.array .int) true := ⟨RX10, TX10, 34, rfl, by decide, rfl, rfl, by decide +kernel, Or.inl (tzc_5 153 (by first | rfl | decide +kernel) rfl)⟩
theorem fq_RX10_67 : Fq RX10 67 10 26 (.array .long) true := ⟨RX10, TX10, 34, rfl, by decide, rfl, rfl, by decide +kernel, Or.inl (tzc_5 154 (by first | rfl | decide +kernel) rfl)⟩
theorem fq_RX10_70 : Fq RX10 70 10 27 (.array .int) true := ⟨RX10, TX10, 34, rfl, by decide, rfl, rfl, by decide +kernel, Or.inl (tzc_5 155 (by first | rfl | decide +kernel) rfl)⟩
theorem fq_RX10_349 : Fq RX10 349 10 28 .long false := ⟨RX10, TX10, 34, rfl, by decide, rfl, rfl, by decide +kernel, Or.inl (tzc_5 156 (by first | rfl | decide +kernel) rfl)⟩
theorem fq_RX10_73 : Fq RX10 73 10 29 (.array .int) true := ⟨RX10, TX10, 34, rfl, by decide, rfl, rfl, by decide +kernel, Or.inl (tzc_5 157 (by first | rfl | decide +kernel) rfl)⟩
theorem fq_RX10_88 : Fq RX10 88 10 30 .int false := ⟨RX10, TX10, 34, rfl, by decide, rfl, rfl, by decide +kernel, Or.inl (tzc_5 158 (by first | rfl | decide +kernel) rfl)⟩
theorem fq_RX10_91 : Fq RX10 91 10 31 .int false := ⟨RX10, TX10, 34, rfl, by decide, rfl, rfl, by decide +kernel, Or.inl (tzc_5 159 (by first | rfl | decide +kernel) rfl)⟩
theorem fq_RX10_397 : Fq RX10 397 10 32 .int false := ⟨RX10, TX10, 34, rfl, by decide, rfl, rfl, by decide +kernel, Or.inl (tzc_5 160 (by first | rfl | decide +kernel) rfl)⟩
theorem fq_RX10_400 : Fq RX10 400 10 33 .int false := ⟨RX10, TX10, 34, rfl, by decide, rfl, rfl, by decide +kernel, Or.inl (tzc_5 161 (by first | rfl | decide +kernel) rfl)⟩
theorem tw_0 : (Cond.initialized "ColdBoxLaw") ∈ TB := tzc_1 0 (by first | rfl | decide +kernel) rfl
theorem tw_4 : (Cond.initialized "java/lang/System") ∈ TB := tzc_1 4 (by first | rfl | decide +kernel) rfl
theorem tw_17 : (Cond.initialized "java/lang/StringUTF16") ∈ TB := tzc_1 17 (by first | rfl | decide +kernel) rfl
theorem tw_18 : (Cond.initialized "java/lang/Math") ∈ TB := tzc_1 18 (by first | rfl | decide +kernel) rfl
theorem tw_20 : (Cond.classLink "ColdBoxLaw" (7 : Nat) "ColdBox") ∈ TB := tzc_1 20 (by first | rfl | decide +kernel) rfl
theorem tw_21 : (Cond.instantiable "ColdBox" (13 : Nat)) ∈ TB := tzc_1 21 (by first | rfl | decide +kernel) rfl
theorem tw_26 : (Cond.instanceMethod ({ cls := "java/lang/Object", name := "<init>", desc := "()V" } : MethodName)) ∈ TB := tzc_1 26 (by first | rfl | decide +kernel) rfl
theorem tw_27 : (Cond.code ({ cls := "java/lang/Object", name := "<init>", desc := "()V" } : MethodName) object_method_1_code (1 : Nat) (Option.none : Option ClassFile.FieldType)) ∈ TB := tzc_1 27 (by first | rfl | decide +kernel) rfl
theorem tw_28 : (Cond.classLink "ColdBox" (7 : Nat) "ColdBox$Reader") ∈ TB := tzc_1 28 (by first | rfl | decide +kernel) rfl
theorem tw_29 : (Cond.instantiable "ColdBox$Reader" (10 : Nat)) ∈ TB := tzc_1 29 (by first | rfl | decide +kernel) rfl
theorem tw_72 : (Cond.arrayClass ClassFile.FieldType.char) ∈ TB := tzc_1 72 (by first | rfl | decide +kernel) rfl
theorem tw_73 : (Cond.arrayClass ClassFile.FieldType.boolean) ∈ TB := tzc_1 73 (by first | rfl | decide +kernel) rfl
theorem tw_74 : (Cond.arrayClass ClassFile.FieldType.int) ∈ TB := tzc_1 74 (by first | rfl | decide +kernel) rfl
theorem tw_75 : (Cond.classLink "ColdBox" (16 : Nat) "ColdBox$Build") ∈ TB := tzc_1 75 (by first | rfl | decide +kernel) rfl
theorem tw_76 : (Cond.instantiable "ColdBox$Build" (1 : Nat)) ∈ TB := tzc_1 76 (by first | rfl | decide +kernel) rfl
theorem tw_84 : (Cond.static ({ cls := "java/lang/System", name := "arraycopy", desc := "(Ljava/lang/Object;ILjava/lang/Object;II)V" } : MethodName)) ∈ TB := tzc_1 84 (by first | rfl | decide +kernel) rfl
theorem tw_85 : (Cond.native ({ cls := "java/lang/System", name := "arraycopy", desc := "(Ljava/lang/Object;ILjava/lang/Object;II)V" } : MethodName)) ∈ TB := tzc_1 85 (by first | rfl | decide +kernel) rfl
theorem tw_94 : (Cond.classLink "ColdBox" (23 : Nat) "ColdBox$Openings") ∈ TB := tzc_1 94 (by first | rfl | decide +kernel) rfl
theorem tw_95 : (Cond.instantiable "ColdBox$Openings" (4 : Nat)) ∈ TB := tzc_1 95 (by first | rfl | decide +kernel) rfl
theorem tw_116 : (Cond.classLink "ColdBox" (30 : Nat) "ColdBox$Ticker") ∈ TB := tzc_1 116 (by first | rfl | decide +kernel) rfl
theorem tw_117 : (Cond.instantiable "ColdBox$Ticker" (4 : Nat)) ∈ TB := tzc_1 117 (by first | rfl | decide +kernel) rfl
theorem tw_138 : (Cond.arrayClass ClassFile.FieldType.long) ∈ TB := tzc_1 138 (by first | rfl | decide +kernel) rfl
theorem tw_139 : (Cond.classLink "ColdBox" (39 : Nat) "ColdBox$State") ∈ TB := tzc_1 139 (by first | rfl | decide +kernel) rfl
theorem tw_140 : (Cond.instantiable "ColdBox$State" (14 : Nat)) ∈ TB := tzc_1 140 (by first | rfl | decide +kernel) rfl
theorem tw_216 : (Cond.classLink "ColdBox" (59 : Nat) "ColdBox$FreshRuns") ∈ TB := tzc_1 216 (by first | rfl | decide +kernel) rfl
theorem tw_217 : (Cond.instantiable "ColdBox$FreshRuns" (4 : Nat)) ∈ TB := tzc_1 217 (by first | rfl | decide +kernel) rfl
theorem tw_222 : (Cond.classLink "ColdBox$FreshRuns" (9 : Nat) "ColdBox$State") ∈ TB := tzc_1 222 (by first | rfl | decide +kernel) rfl
theorem tw_237 : (Cond.classLink "ColdBox" (68 : Nat) "ColdBox$Guess") ∈ TB := tzc_1 237 (by first | rfl | decide +kernel) rfl
theorem tw_238 : (Cond.instantiable "ColdBox$Guess" (8 : Nat)) ∈ TB := tzc_1 238 (by first | rfl | decide +kernel) rfl
theorem tw_246 : (Cond.static ({ cls := "java/util/Arrays", name := "fill", desc := "([II)V" } : MethodName)) ∈ TB := tzc_2 6 (by first | rfl | decide +kernel) rfl
theorem tw_278 : (Cond.classLink "ColdBox" (77 : Nat) "ColdBox$Purse") ∈ TB := tzc_2 38 (by first | rfl | decide +kernel) rfl
theorem tw_279 : (Cond.instantiable "ColdBox$Purse" (3 : Nat)) ∈ TB := tzc_2 39 (by first | rfl | decide +kernel) rfl
theorem tw_297 : (Cond.classLink "ColdBox" (84 : Nat) "ColdBox$Trials") ∈ TB := tzc_2 57 (by first | rfl | decide +kernel) rfl
theorem tw_298 : (Cond.instantiable "ColdBox$Trials" (9 : Nat)) ∈ TB := tzc_2 58 (by first | rfl | decide +kernel) rfl
theorem tw_303 : (Cond.classLink "ColdBox$Trials" (9 : Nat) "ColdBox$State") ∈ TB := tzc_2 63 (by first | rfl | decide +kernel) rfl
theorem tw_342 : (Cond.constantLong "ColdBox$State" (38 : Nat) (10000 : Int64)) ∈ TB := tzc_2 102 (by first | rfl | decide +kernel) rfl
theorem tw_343 : (Cond.constantLong "ColdBox$State" (40 : Nat) (-40000 : Int64)) ∈ TB := tzc_2 103 (by first | rfl | decide +kernel) rfl
theorem tw_345 : (Cond.static ({ cls := "java/util/Arrays", name := "fill", desc := "([JJ)V" } : MethodName)) ∈ TB := tzc_2 105 (by first | rfl | decide +kernel) rfl
theorem tw_396 : (Cond.constant "ColdBox" (100 : Nat) (-1000000002 : Int32)) ∈ TB := tzc_2 156 (by first | rfl | decide +kernel) rfl
theorem tw_401 : (Cond.constantLong "ColdBox$Reader" (36 : Nat) (255 : Int64)) ∈ TB := tzc_2 161 (by first | rfl | decide +kernel) rfl
theorem tw_402 : (Cond.constant "ColdBox" (109 : Nat) (-1000000004 : Int32)) ∈ TB := tzc_2 162 (by first | rfl | decide +kernel) rfl
theorem tw_430 : (Cond.static ({ cls := "ColdBox$Reader", name := "isLetter", desc := "(C)Z" } : MethodName)) ∈ TB := tzc_2 190 (by first | rfl | decide +kernel) rfl
theorem tw_437 : (Cond.static ({ cls := "ColdBox$Reader", name := "wordOf", desc := "(I)Ljava/lang/String;" } : MethodName)) ∈ TB := tzc_2 197 (by first | rfl | decide +kernel) rfl
theorem tw_475 : (Cond.static ({ cls := "java/lang/StringLatin1", name := "charAt", desc := "([BI)C" } : MethodName)) ∈ TB := tzc_2 235 (by first | rfl | decide +kernel) rfl
theorem tw_478 : (Cond.static ({ cls := "java/lang/String", name := "checkIndex", desc := "(II)V" } : MethodName)) ∈ TB := tzc_2 238 (by first | rfl | decide +kernel) rfl
theorem tw_483 : (Cond.static ({ cls := "jdk/internal/util/Preconditions", name := "checkIndex", desc := "(IILjava/util/function/BiFunction;)I" } : MethodName)) ∈ TB := tzc_3 3 (by first | rfl | decide +kernel) rfl
theorem tw_486 : (Cond.static ({ cls := "java/lang/StringUTF16", name := "charAt", desc := "([BI)C" } : MethodName)) ∈ TB := tzc_3 6 (by first | rfl | decide +kernel) rfl
theorem tw_489 : (Cond.static ({ cls := "java/lang/StringUTF16", name := "checkIndex", desc := "(I[B)V" } : MethodName)) ∈ TB := tzc_3 9 (by first | rfl | decide +kernel) rfl
theorem tw_492 : (Cond.static ({ cls := "java/lang/StringUTF16", name := "length", desc := "([B)I" } : MethodName)) ∈ TB := tzc_3 12 (by first | rfl | decide +kernel) rfl
theorem tw_496 : (Cond.static ({ cls := "java/lang/StringUTF16", name := "getChar", desc := "([BI)C" } : MethodName)) ∈ TB := tzc_3 16 (by first | rfl | decide +kernel) rfl
theorem tw_521 : (Cond.static ({ cls := "ColdBox$Reader", name := "isFigure", desc := "(C)Z" } : MethodName)) ∈ TB := tzc_3 41 (by first | rfl | decide +kernel) rfl
theorem tw_536 : (Cond.arrayClass ClassFile.FieldType.byte) ∈ TB := tzc_3 56 (by first | rfl | decide +kernel) rfl
theorem tw_555 : (Cond.static ({ cls := "java/lang/Math", name := "max", desc := "(II)I" } : MethodName)) ∈ TB := tzc_3 75 (by first | rfl | decide +kernel) rfl
theorem tw_556 : (Cond.code ({ cls := "java/lang/Math", name := "max", desc := "(II)I" } : MethodName) prog_14_method_65_code (2 : Nat) (Option.some ClassFile.FieldType.int)) ∈ TB := tzc_3 76 (by first | rfl | decide +kernel) rfl
theorem tw_574 : (Cond.static ({ cls := "ColdBox", name := "isSet", desc := "(I)Z" } : MethodName)) ∈ TB := tzc_3 94 (by first | rfl | decide +kernel) rfl
theorem tw_576 : (Cond.constant "ColdBox" (155 : Nat) (-1000000001 : Int32)) ∈ TB := tzc_3 96 (by first | rfl | decide +kernel) rfl
theorem tw_595 : (Cond.static ({ cls := "ColdBox", name := "isShelf", desc := "(I)Z" } : MethodName)) ∈ TB := tzc_3 115 (by first | rfl | decide +kernel) rfl
theorem tw_598 : (Cond.static ({ cls := "ColdBox", name := "canBeWarmth", desc := "(I)Z" } : MethodName)) ∈ TB := tzc_3 118 (by first | rfl | decide +kernel) rfl
theorem tw_682 : (Cond.constantLong "ColdBox$Ticker" (109 : Nat) (100 : Int64)) ∈ TB := tzc_3 202 (by first | rfl | decide +kernel) rfl
theorem tw_687 : (Cond.constantLong "ColdBox$Ticker" (128 : Nat) (1000 : Int64)) ∈ TB := tzc_3 207 (by first | rfl | decide +kernel) rfl
theorem tw_692 : (Cond.constantLong "ColdBox$Ticker" (130 : Nat) (5 : Int64)) ∈ TB := tzc_3 212 (by first | rfl | decide +kernel) rfl
theorem tw_707 : (Cond.static ({ cls := "java/lang/Math", name := "min", desc := "(II)I" } : MethodName)) ∈ TB := tzc_3 227 (by first | rfl | decide +kernel) rfl
theorem tw_708 : (Cond.code ({ cls := "java/lang/Math", name := "min", desc := "(II)I" } : MethodName) prog_14_method_69_code (2 : Nat) (Option.some ClassFile.FieldType.int)) ∈ TB := tzc_3 228 (by first | rfl | decide +kernel) rfl
theorem tw_722 : (Cond.constantLong "ColdBox$State" (90 : Nat) (1103515245 : Int64)) ∈ TB := tzc_4 2 (by first | rfl | decide +kernel) rfl
theorem tw_723 : (Cond.constantLong "ColdBox$State" (92 : Nat) (12345 : Int64)) ∈ TB := tzc_4 3 (by first | rfl | decide +kernel) rfl
theorem tw_724 : (Cond.constantLong "ColdBox$State" (94 : Nat) (2147483647 : Int64)) ∈ TB := tzc_4 4 (by first | rfl | decide +kernel) rfl
theorem tw_725 : (Cond.constant "ColdBox$State" (96 : Nat) (65536 : Int32)) ∈ TB := tzc_4 5 (by first | rfl | decide +kernel) rfl
theorem tw_735 : (Cond.constantLong "ColdBox" (225 : Nat) (-1000000002 : Int64)) ∈ TB := tzc_4 15 (by first | rfl | decide +kernel) rfl
theorem tw_756 : (Cond.constantLong "ColdBox$State" (88 : Nat) (1000 : Int64)) ∈ TB := tzc_4 36 (by first | rfl | decide +kernel) rfl
theorem tw_762 : (Cond.static ({ cls := "ColdBox", name := "isSign", desc := "(I)Z" } : MethodName)) ∈ TB := tzc_4 42 (by first | rfl | decide +kernel) rfl
theorem tw_765 : (Cond.static ({ cls := "ColdBox", name := "areSignDays", desc := "(I)Z" } : MethodName)) ∈ TB := tzc_4 45 (by first | rfl | decide +kernel) rfl
theorem tw_780 : (Cond.static ({ cls := "ColdBox$FreshRuns", name := "placeOf", desc := "(II)I" } : MethodName)) ∈ TB := tzc_4 60 (by first | rfl | decide +kernel) rfl
theorem tw_792 : (Cond.constant "ColdBox" (261 : Nat) (-99999 : Int32)) ∈ TB := tzc_4 72 (by first | rfl | decide +kernel) rfl
theorem tw_793 : (Cond.constant "ColdBox" (262 : Nat) (99999 : Int32)) ∈ TB := tzc_4 73 (by first | rfl | decide +kernel) rfl
theorem tw_807 : (Cond.static ({ cls := "ColdBox", name := "isTrouble", desc := "(I)Z" } : MethodName)) ∈ TB := tzc_4 87 (by first | rfl | decide +kernel) rfl
theorem tw_818 : (Cond.static ({ cls := "java/lang/Integer", name := "bitCount", desc := "(I)I" } : MethodName)) ∈ TB := tzc_4 98 (by first | rfl | decide +kernel) rfl
theorem tw_820 : (Cond.constant "java/lang/Integer" (265 : Nat) (1431655765 : Int32)) ∈ TB := tzc_4 100 (by first | rfl | decide +kernel) rfl
theorem tw_821 : (Cond.constant "java/lang/Integer" (266 : Nat) (858993459 : Int32)) ∈ TB := tzc_4 101 (by first | rfl | decide +kernel) rfl
theorem tw_822 : (Cond.constant "java/lang/Integer" (267 : Nat) (252645135 : Int32)) ∈ TB := tzc_4 102 (by first | rfl | decide +kernel) rfl
theorem tw_841 : (Cond.constantLong "ColdBox$Guess" (60 : Nat) (1000000 : Int64)) ∈ TB := tzc_4 121 (by first | rfl | decide +kernel) rfl
theorem tw_842 : (Cond.constantLong "ColdBox$Guess" (66 : Nat) (1000 : Int64)) ∈ TB := tzc_4 122 (by first | rfl | decide +kernel) rfl
theorem tw_849 : (Cond.static ({ cls := "java/lang/Math", name := "abs", desc := "(I)I" } : MethodName)) ∈ TB := tzc_4 129 (by first | rfl | decide +kernel) rfl
theorem tw_850 : (Cond.code ({ cls := "java/lang/Math", name := "abs", desc := "(I)I" } : MethodName) prog_14_method_59_code (1 : Nat) (Option.some ClassFile.FieldType.int)) ∈ TB := tzc_4 130 (by first | rfl | decide +kernel) rfl
theorem tw_913 : (Cond.static ({ cls := "ColdBox", name := "isPrice", desc := "(I)Z" } : MethodName)) ∈ TB := tzc_4 193 (by first | rfl | decide +kernel) rfl
theorem tw_928 : (Cond.constantLong "ColdBox$Purse" (39 : Nat) (365 : Int64)) ∈ TB := tzc_4 208 (by first | rfl | decide +kernel) rfl
theorem tw_929 : (Cond.constantLong "ColdBox$Purse" (41 : Nat) (1000 : Int64)) ∈ TB := tzc_4 209 (by first | rfl | decide +kernel) rfl
theorem tw_935 : (Cond.static ({ cls := "ColdBox", name := "isPart", desc := "(II)Z" } : MethodName)) ∈ TB := tzc_4 215 (by first | rfl | decide +kernel) rfl
theorem tw_937 : (Cond.constant "ColdBox" (325 : Nat) (-1000000003 : Int32)) ∈ TB := tzc_4 217 (by first | rfl | decide +kernel) rfl
theorem tw_1064 : (Cond.constantLong "ColdBox$Trials" (118 : Nat) (1000 : Int64)) ∈ TB := tzc_5 104 (by first | rfl | decide +kernel) rfl
theorem tw_1082 : (Cond.classLink "ColdBoxLaw" (10 : Nat) "ColdBoxModel") ∈ TB := tzc_5 122 (by first | rfl | decide +kernel) rfl
theorem tw_1083 : (Cond.instantiable "ColdBoxModel" (34 : Nat)) ∈ TB := tzc_5 123 (by first | rfl | decide +kernel) rfl
theorem tw_1195 : (Cond.constantLong "ColdBoxModel" (94 : Nat) (8 : Int64)) ∈ TB := tzc_5 235 (by first | rfl | decide +kernel) rfl
theorem tw_1197 : (Cond.static ({ cls := "ColdBoxModel", name := "in", desc := "(JJJ)Z" } : MethodName)) ∈ TB := tzc_5 237 (by first | rfl | decide +kernel) rfl
theorem tw_1199 : (Cond.constant "ColdBoxModel" (100 : Nat) (-1000000002 : Int32)) ∈ TB := tzc_5 239 (by first | rfl | decide +kernel) rfl
theorem tw_1200 : (Cond.constant "ColdBoxModel" (104 : Nat) (-1000000004 : Int32)) ∈ TB := tzc_6 0 (by first | rfl | decide +kernel) rfl
theorem tw_1201 : (Cond.constantLong "ColdBoxModel" (105 : Nat) (255 : Int64)) ∈ TB := tzc_6 1 (by first | rfl | decide +kernel) rfl
theorem tw_1211 : (Cond.static ({ cls := "ColdBoxModel", name := "untold", desc := "(I)I" } : MethodName)) ∈ TB := tzc_6 11 (by first | rfl | decide +kernel) rfl
theorem tw_1217 : (Cond.constantLong "ColdBoxModel" (180 : Nat) (10000 : Int64)) ∈ TB := tzc_6 17 (by first | rfl | decide +kernel) rfl
theorem tw_1218 : (Cond.constantLong "ColdBoxModel" (182 : Nat) (-40000 : Int64)) ∈ TB := tzc_6 18 (by first | rfl | decide +kernel) rfl
theorem tw_1220 : (Cond.static ({ cls := "ColdBoxModel", name := "has", desc := "(JI)Z" } : MethodName)) ∈ TB := tzc_6 20 (by first | rfl | decide +kernel) rfl
theorem tw_1222 : (Cond.constantLong "ColdBoxModel" (184 : Nat) (600 : Int64)) ∈ TB := tzc_6 22 (by first | rfl | decide +kernel) rfl
theorem tw_1223 : (Cond.constantLong "ColdBoxModel" (186 : Nat) (500 : Int64)) ∈ TB := tzc_6 23 (by first | rfl | decide +kernel) rfl
theorem tw_1240 : (Cond.constantLong "ColdBoxModel" (120 : Nat) (97 : Int64)) ∈ TB := tzc_6 40 (by first | rfl | decide +kernel) rfl
theorem tw_1241 : (Cond.constantLong "ColdBoxModel" (122 : Nat) (122 : Int64)) ∈ TB := tzc_6 41 (by first | rfl | decide +kernel) rfl
theorem tw_1258 : (Cond.constantLong "ColdBoxModel" (127 : Nat) (48 : Int64)) ∈ TB := tzc_6 58 (by first | rfl | decide +kernel) rfl
theorem tw_1259 : (Cond.constantLong "ColdBoxModel" (129 : Nat) (57 : Int64)) ∈ TB := tzc_6 59 (by first | rfl | decide +kernel) rfl
theorem tw_1260 : (Cond.constant "ColdBoxModel" (135 : Nat) (99999 : Int32)) ∈ TB := tzc_6 60 (by first | rfl | decide +kernel) rfl
theorem tw_1262 : (Cond.static ({ cls := "ColdBoxModel", name := "leastOf", desc := "(I)I" } : MethodName)) ∈ TB := tzc_6 62 (by first | rfl | decide +kernel) rfl
theorem tw_1265 : (Cond.static ({ cls := "ColdBoxModel", name := "mostOf", desc := "(I)I" } : MethodName)) ∈ TB := tzc_6 65 (by first | rfl | decide +kernel) rfl
theorem tw_1283 : (Cond.constantLong "ColdBoxModel" (178 : Nat) (14 : Int64)) ∈ TB := tzc_6 83 (by first | rfl | decide +kernel) rfl
theorem tw_1293 : (Cond.static ({ cls := "ColdBoxModel", name := "isSet", desc := "(I)Z" } : MethodName)) ∈ TB := tzc_6 93 (by first | rfl | decide +kernel) rfl
theorem tw_1295 : (Cond.constantLong "ColdBoxModel" (255 : Nat) (127 : Int64)) ∈ TB := tzc_6 95 (by first | rfl | decide +kernel) rfl
theorem tw_1296 : (Cond.constant "ColdBoxModel" (263 : Nat) (-1000000001 : Int32)) ∈ TB := tzc_6 96 (by first | rfl | decide +kernel) rfl
theorem tw_1306 : (Cond.static ({ cls := "ColdBoxModel", name := "one", desc := "(Z)I" } : MethodName)) ∈ TB := tzc_6 106 (by first | rfl | decide +kernel) rfl
theorem tw_1317 : (Cond.static ({ cls := "ColdBoxModel", name := "isShelf", desc := "(I)Z" } : MethodName)) ∈ TB := tzc_6 117 (by first | rfl | decide +kernel) rfl
theorem tw_1319 : (Cond.constantLong "ColdBoxModel" (264 : Nat) (2 : Int64)) ∈ TB := tzc_6 119 (by first | rfl | decide +kernel) rfl
theorem tw_1321 : (Cond.static ({ cls := "ColdBoxModel", name := "isDegree", desc := "(I)Z" } : MethodName)) ∈ TB := tzc_6 121 (by first | rfl | decide +kernel) rfl
theorem tw_1323 : (Cond.constantLong "ColdBoxModel" (268 : Nat) (-3000 : Int64)) ∈ TB := tzc_6 123 (by first | rfl | decide +kernel) rfl
theorem tw_1324 : (Cond.constantLong "ColdBoxModel" (270 : Nat) (9000 : Int64)) ∈ TB := tzc_6 124 (by first | rfl | decide +kernel) rfl
theorem tw_1325 : (Cond.constantLong "ColdBoxModel" (278 : Nat) (200 : Int64)) ∈ TB := tzc_6 125 (by first | rfl | decide +kernel) rfl
theorem tw_1334 : (Cond.constantLong "ColdBoxModel" (266 : Nat) (7 : Int64)) ∈ TB := tzc_6 134 (by first | rfl | decide +kernel) rfl
theorem tw_1343 : (Cond.constantLong "ColdBoxModel" (188 : Nat) (20 : Int64)) ∈ TB := tzc_6 143 (by first | rfl | decide +kernel) rfl
theorem tw_1344 : (Cond.constantLong "ColdBoxModel" (190 : Nat) (40 : Int64)) ∈ TB := tzc_6 144 (by first | rfl | decide +kernel) rfl
theorem tw_1361 : (Cond.constantLong "ColdBoxModel" (287 : Nat) (2880 : Int64)) ∈ TB := tzc_6 161 (by first | rfl | decide +kernel) rfl
theorem tw_1370 : (Cond.constantLong "ColdBoxModel" (196 : Nat) (288 : Int64)) ∈ TB := tzc_6 170 (by first | rfl | decide +kernel) rfl
theorem tw_1375 : (Cond.constantLong "ColdBoxModel" (209 : Nat) (10 : Int64)) ∈ TB := tzc_6 175 (by first | rfl | decide +kernel) rfl
theorem tw_1377 : (Cond.static ({ cls := "ColdBoxModel", name := "isHour", desc := "(JII)Z" } : MethodName)) ∈ TB := tzc_6 177 (by first | rfl | decide +kernel) rfl
theorem tw_1379 : (Cond.constantLong "ColdBoxModel" (198 : Nat) (12 : Int64)) ∈ TB := tzc_6 179 (by first | rfl | decide +kernel) rfl
theorem tw_1380 : (Cond.constantLong "ColdBoxModel" (223 : Nat) (800 : Int64)) ∈ TB := tzc_6 180 (by first | rfl | decide +kernel) rfl
theorem tw_1385 : (Cond.constantLong "ColdBoxModel" (229 : Nat) (4 : Int64)) ∈ TB := tzc_6 185 (by first | rfl | decide +kernel) rfl
theorem tw_1386 : (Cond.constantLong "ColdBoxModel" (231 : Nat) (60 : Int64)) ∈ TB := tzc_6 186 (by first | rfl | decide +kernel) rfl
theorem tw_1391 : (Cond.constantLong "ColdBoxModel" (203 : Nat) (100 : Int64)) ∈ TB := tzc_6 191 (by first | rfl | decide +kernel) rfl
theorem tw_1392 : (Cond.constantLong "ColdBoxModel" (205 : Nat) (1000 : Int64)) ∈ TB := tzc_6 192 (by first | rfl | decide +kernel) rfl
theorem tw_1397 : (Cond.constantLong "ColdBoxModel" (215 : Nat) (50 : Int64)) ∈ TB := tzc_6 197 (by first | rfl | decide +kernel) rfl
theorem tw_1398 : (Cond.constantLong "ColdBoxModel" (217 : Nat) (45 : Int64)) ∈ TB := tzc_6 198 (by first | rfl | decide +kernel) rfl
theorem tw_1399 : (Cond.constantLong "ColdBoxModel" (241 : Nat) (5 : Int64)) ∈ TB := tzc_6 199 (by first | rfl | decide +kernel) rfl
theorem tw_1404 : (Cond.constantLong "ColdBoxModel" (207 : Nat) (9999 : Int64)) ∈ TB := tzc_6 204 (by first | rfl | decide +kernel) rfl
theorem tw_1417 : (Cond.constantLong "ColdBoxModel" (293 : Nat) (1103515245 : Int64)) ∈ TB := tzc_6 217 (by first | rfl | decide +kernel) rfl
theorem tw_1418 : (Cond.constantLong "ColdBoxModel" (295 : Nat) (12345 : Int64)) ∈ TB := tzc_6 218 (by first | rfl | decide +kernel) rfl
theorem tw_1419 : (Cond.constantLong "ColdBoxModel" (297 : Nat) (2147483648 : Int64)) ∈ TB := tzc_6 219 (by first | rfl | decide +kernel) rfl
theorem tw_1420 : (Cond.constantLong "ColdBoxModel" (299 : Nat) (65536 : Int64)) ∈ TB := tzc_6 220 (by first | rfl | decide +kernel) rfl
theorem tw_1425 : (Cond.constantLong "ColdBoxModel" (307 : Nat) (3 : Int64)) ∈ TB := tzc_6 225 (by first | rfl | decide +kernel) rfl
theorem tw_1430 : (Cond.constantLong "ColdBoxModel" (309 : Nat) (-1000000002 : Int64)) ∈ TB := tzc_6 230 (by first | rfl | decide +kernel) rfl
theorem tw_1452 : (Cond.static ({ cls := "ColdBoxModel", name := "isSign", desc := "(I)Z" } : MethodName)) ∈ TB := tzc_7 12 (by first | rfl | decide +kernel) rfl
theorem tw_1454 : (Cond.constantLong "ColdBoxModel" (257 : Nat) (6 : Int64)) ∈ TB := tzc_7 14 (by first | rfl | decide +kernel) rfl
theorem tw_1456 : (Cond.static ({ cls := "ColdBoxModel", name := "areDays", desc := "(I)Z" } : MethodName)) ∈ TB := tzc_7 16 (by first | rfl | decide +kernel) rfl
theorem tw_1474 : (Cond.constantLong "ColdBoxModel" (332 : Nat) (-99999 : Int64)) ∈ TB := tzc_7 34 (by first | rfl | decide +kernel) rfl
theorem tw_1475 : (Cond.constantLong "ColdBoxModel" (334 : Nat) (99999 : Int64)) ∈ TB := tzc_7 35 (by first | rfl | decide +kernel) rfl
theorem tw_1476 : (Cond.constantLong "ColdBoxModel" (336 : Nat) (999 : Int64)) ∈ TB := tzc_7 36 (by first | rfl | decide +kernel) rfl
theorem tw_1490 : (Cond.static ({ cls := "ColdBoxModel", name := "isTrouble", desc := "(I)Z" } : MethodName)) ∈ TB := tzc_7 50 (by first | rfl | decide +kernel) rfl
theorem tw_1501 : (Cond.static ({ cls := "ColdBoxModel", name := "couldBe", desc := "(I)Z" } : MethodName)) ∈ TB := tzc_7 61 (by first | rfl | decide +kernel) rfl
theorem tw_1504 : (Cond.static ({ cls := "ColdBoxModel", name := "ones", desc := "(I)I" } : MethodName)) ∈ TB := tzc_7 64 (by first | rfl | decide +kernel) rfl
theorem tw_1514 : (Cond.constantLong "ColdBoxModel" (347 : Nat) (1000000 : Int64)) ∈ TB := tzc_7 74 (by first | rfl | decide +kernel) rfl
theorem tw_1555 : (Cond.constantLong "ColdBoxModel" (369 : Nat) (365 : Int64)) ∈ TB := tzc_7 115 (by first | rfl | decide +kernel) rfl
theorem tw_1560 : (Cond.constant "ColdBoxModel" (374 : Nat) (-1000000003 : Int32)) ∈ TB := tzc_7 120 (by first | rfl | decide +kernel) rfl
theorem tw_1582 : (Cond.static ({ cls := "ColdBoxModel", name := "powerOf3", desc := "(I)I" } : MethodName)) ∈ TB := tzc_7 142 (by first | rfl | decide +kernel) rfl
theorem tw_1593 : (Cond.static ({ cls := "ColdBoxModel", name := "rowAt", desc := "(III)I" } : MethodName)) ∈ TB := tzc_7 153 (by first | rfl | decide +kernel) rfl
theorem tw_1611 : (Cond.constantLong "ColdBoxModel" (395 : Nat) (24 : Int64)) ∈ TB := tzc_7 171 (by first | rfl | decide +kernel) rfl
theorem tw_1616 : (Cond.constantLong "ColdBoxModel" (403 : Nat) (-1 : Int64)) ∈ TB := tzc_7 176 (by first | rfl | decide +kernel) rfl
theorem tw_1633 : (Cond.constantLong "ColdBoxLaw" (13 : Nat) (4294967295 : Int64)) ∈ TB := tzc_7 193 (by first | rfl | decide +kernel) rfl
theorem sl_RX0_15 : Cond.fieldLinkNest RX0 15 "ColdBox" "UNTOLD" "[I" "ColdBox" ∈ NB := tzn_1 81 (by first | rfl | decide +kernel) rfl
theorem sl_RX2_28 : Cond.fieldLinkNest RX2 28 "ColdBox" "COULD_BE" "[I" "ColdBox" ∈ NB := tzn_2 3 (by first | rfl | decide +kernel) rfl
theorem sl_RX5_41 : Cond.fieldLinkNest RX5 41 "ColdBox" "UNTOLD" "[I" "ColdBox" ∈ NB := tzn_2 179 (by first | rfl | decide +kernel) rfl
theorem sl_RX5_86 : Cond.fieldLinkNest RX5 86 "ColdBox" "LEAST" "[I" "ColdBox" ∈ NB := tzn_3 32 (by first | rfl | decide +kernel) rfl
theorem sl_RX5_89 : Cond.fieldLinkNest RX5 89 "ColdBox" "MOST" "[I" "ColdBox" ∈ NB := tzn_3 34 (by first | rfl | decide +kernel) rfl
theorem sl_RX1_49 : Cond.fieldLinkNest RX1 49 "ColdBox" "COULD_BE" "[I" "ColdBox" ∈ NB := tzn_4 107 (by first | rfl | decide +kernel) rfl
